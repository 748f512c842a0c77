/-! the reference's invariant, and its calls that make no action -/
theorem ruN_congr {S S' : MSt} {x : Int} (h1 : S'.1 12 = S.1 12) (h2 : S'.1 13 = S.1 13) (h3 : S'.1 15 = S.1 15) : ∀ n, ruN S' x n = ruN S x n
  | 0 => rfl
  | n + 1 => by rw [ruN, ruN, ruN_congr h1 h2 h3 n, h1, h2, h3]
theorem ruledI_u (S : MSt) (v x : Int) : ruledI (uG S 31 v) x = ruledI S x := ruN_congr (S' := uG S 31 v) (S := S) rfl rfl rfl _
theorem isGr_u (S : MSt) (v m x : Int) : isGrantedB (uG S 31 v) m x = isGrantedB S m x := isGrantedB_congr rfl rfl rfl
theorem WFp_u {S : MSt} {v : Int} (h : WFp S) : WFp (uG S 31 v) := h
theorem WFl_u {S : MSt} {v : Int} (h : WFl S) : WFl (uG S 31 v) := h
def HW (S : MSt) : Prop := 0 ≤ S.2 25 ∧ S.2 25 ≤ 8 ∧ S.1 20 0 = 0 ∧ S.1 20 (S.2 25) = S.2 24 ∧ ∀ k, 0 ≤ k → k < S.2 25 → S.1 20 k < S.1 20 (k + 1) ∧ S.1 20 (k + 1) ≤ S.1 20 k + 210
def RW (S : MSt) : Prop := 0 ≤ S.2 27 → S.2 27 < S.2 22 ∧ S.1 4 (S.2 27) < 10
def SW (S : MSt) (b : Int) : Prop := (∀ z, 0 ≤ z → z < 48 → -2 ≤ S.1 2 z ∧ S.1 2 z ≤ 5) ∧ 0 ≤ S.2 29 ∧ S.2 29 + S.2 24 ≤ b ∧ b ≤ 107520
def TW (S : MSt) : Prop := 0 ≤ S.2 30 ∧ S.2 30 ≤ 20 ∧ ∀ z, 0 ≤ z → z < 40 → 0 ≤ S.1 21 z ∧ S.1 21 z < 256
def MW (S : MSt) (b : Int) : Prop := WFp S ∧ WFl S ∧ HW S ∧ RW S ∧ SW S b ∧ TW S
theorem HW_le {S : MSt} (h : HW S) : ∀ n : Nat, (n : Int) ≤ S.2 25 → 0 ≤ S.1 20 n ∧ S.1 20 n ≤ 210 * n
  | 0, _ => by have := h.2.2.1; simp; omega
  | n + 1, hn => by
    have ih := HW_le h n (by omega)
    have := h.2.2.2.2 n (by omega) (by omega)
    rw [show ((n + 1 : Nat) : Int) = (n : Int) + 1 by omega]
    omega
theorem HW_log {S : MSt} (h : HW S) : S.2 24 ≤ 1680 := by
  have h1 := HW_le h (S.2 25).toNat (by have := h.1; omega)
  have h2 := h.1
  have h3 := h.2.1
  rw [show ((S.2 25).toNat : Int) = S.2 25 by omega, h.2.2.2.1] at h1
  omega
def lastN (S : MSt) (x : Int) : Nat → Int
  | 0 => S.1 2 x
  | n + 1 => if S.1 16 n = x then S.1 18 n else lastN S x n
def lastByX (S : MSt) (c r : Int) : Int × MSt := if isCellB c r = false then (0, uG S 31 1) else if lastN S (atI c r) (S.2 24).toNat = -2 then (0, uG S 31 2) else (lastN S (atI c r) (S.2 24).toNat, uG S 31 0)
def allN (S : MSt) (w : Int) : Nat → Int
  | 0 => S.1 3 (w + 1)
  | n + 1 => allN S w n + (if S.1 18 n = w then 1 else 0)
def allI (S : MSt) (w : Int) : Int := allN S w (S.2 24).toNat
theorem allN_congr {S S' : MSt} {w : Int} (h1 : S'.1 3 = S.1 3) (h2 : S'.1 18 = S.1 18) : ∀ n, allN S' w n = allN S w n
  | 0 => by rw [allN, allN, h1]
  | n + 1 => by rw [allN, allN, allN_congr h1 h2 n, h2]
theorem allI_u (S : MSt) (v w : Int) : allI (uG S 31 v) w = allI S w := allN_congr (S' := uG S 31 v) (S := S) rfl rfl _
def entriesOfX (S : MSt) (w : Int) : Int × MSt := if isInB w (-1) (S.2 22 - 1) = false then (0, uG S 31 1) else (allI S w, uG S 31 0)
def textAtX (S : MSt) (i : Int) : Int × MSt := if isInB i 0 (S.2 30 - 1) = false then (45, uG S 31 1) else (S.1 21 i, uG S 31 0)
/-- the undoing, j changes back -/
def unI (S : MSt) : Nat → MSt
  | 0 => S
  | j + 1 => uA (uG (unI S j) 24 ((unI S j).2 24 - 1)) 0 ((unI S j).1 16 ((unI S j).2 24 - 1)) ((unI S j).1 17 ((unI S j).2 24 - 1))
theorem unI_1 (S : MSt) (k : Nat) (h : k ≠ 0) : ∀ j, (unI S j).1 k = S.1 k
  | 0 => rfl
  | j + 1 => by
    rw [unI, uA_n _ h]
    exact unI_1 S k h j
theorem unI_2 (S : MSt) (k : Nat) (h : k ≠ 24) : ∀ j, (unI S j).2 k = S.2 k
  | 0 => rfl
  | j + 1 => by
    rw [unI, uA_2, uG_n _ h]
    exact unI_2 S k h j
theorem unI_24 (S : MSt) : ∀ j : Nat, (unI S j).2 24 = S.2 24 - j
  | 0 => by simp [unI]
  | j + 1 => by
    rw [unI, uA_2, uG_s, unI_24 S j]
    omega
def undoX (S : MSt) : Int × MSt := if S.2 25 = 0 then (0, uG S 31 1) else (S.2 24 - S.1 20 (S.2 25 - 1), unI (uG (uG S 31 0) 25 (S.2 25 - 1)) (S.2 24 - S.1 20 (S.2 25 - 1)).toNat)

theorem ydX8_thrown : yX8_thrown.cls = RX8 ∧ yX8_thrown.cls ≠ "java/lang/invoke/MethodHandle" ∧ yX8_thrown.cls ≠ "java/lang/invoke/VarHandle" ∧ (parseMethodDescriptor yX8_thrown.desc).map (fun d => d.parameters.length) = some 0 := by decide +kernel
theorem ydX8_isRange : yX8_isRange.cls ≠ "java/lang/invoke/MethodHandle" ∧ yX8_isRange.cls ≠ "java/lang/invoke/VarHandle" ∧ (parseMethodDescriptor yX8_isRange.desc).map (fun d => d.parameters.length) = some 4 := by decide +kernel
theorem ydX8_cell : yX8_cell.cls = RX8 ∧ yX8_cell.cls ≠ "java/lang/invoke/MethodHandle" ∧ yX8_cell.cls ≠ "java/lang/invoke/VarHandle" ∧ (parseMethodDescriptor yX8_cell.desc).map (fun d => d.parameters.length) = some 2 := by decide +kernel
theorem ydX8_cellByAudit : yX8_cellByAudit.cls = RX8 ∧ yX8_cellByAudit.cls ≠ "java/lang/invoke/MethodHandle" ∧ yX8_cellByAudit.cls ≠ "java/lang/invoke/VarHandle" ∧ (parseMethodDescriptor yX8_cellByAudit.desc).map (fun d => d.parameters.length) = some 2 := by decide +kernel
theorem ydX8_addMacro : yX8_addMacro.cls = RX8 ∧ yX8_addMacro.cls ≠ "java/lang/invoke/MethodHandle" ∧ yX8_addMacro.cls ≠ "java/lang/invoke/VarHandle" ∧ (parseMethodDescriptor yX8_addMacro.desc).map (fun d => d.parameters.length) = some 0 := by decide +kernel
theorem ydX8_record : yX8_record.cls = RX8 ∧ yX8_record.cls ≠ "java/lang/invoke/MethodHandle" ∧ yX8_record.cls ≠ "java/lang/invoke/VarHandle" ∧ (parseMethodDescriptor yX8_record.desc).map (fun d => d.parameters.length) = some 3 := by decide +kernel
theorem ydX8_stop : yX8_stop.cls = RX8 ∧ yX8_stop.cls ≠ "java/lang/invoke/MethodHandle" ∧ yX8_stop.cls ≠ "java/lang/invoke/VarHandle" ∧ (parseMethodDescriptor yX8_stop.desc).map (fun d => d.parameters.length) = some 0 := by decide +kernel
theorem ydX8_steps : yX8_steps.cls = RX8 ∧ yX8_steps.cls ≠ "java/lang/invoke/MethodHandle" ∧ yX8_steps.cls ≠ "java/lang/invoke/VarHandle" ∧ (parseMethodDescriptor yX8_steps.desc).map (fun d => d.parameters.length) = some 1 := by decide +kernel
theorem ydX8_grant : yX8_grant.cls = RX8 ∧ yX8_grant.cls ≠ "java/lang/invoke/MethodHandle" ∧ yX8_grant.cls ≠ "java/lang/invoke/VarHandle" ∧ (parseMethodDescriptor yX8_grant.desc).map (fun d => d.parameters.length) = some 5 := by decide +kernel
theorem ydX8_takeGrants : yX8_takeGrants.cls = RX8 ∧ yX8_takeGrants.cls ≠ "java/lang/invoke/MethodHandle" ∧ yX8_takeGrants.cls ≠ "java/lang/invoke/VarHandle" ∧ (parseMethodDescriptor yX8_takeGrants.desc).map (fun d => d.parameters.length) = some 1 := by decide +kernel
theorem ydX8_isNoRun : yX8_isNoRun.cls = RX8 ∧ yX8_isNoRun.cls ≠ "java/lang/invoke/MethodHandle" ∧ yX8_isNoRun.cls ≠ "java/lang/invoke/VarHandle" ∧ (parseMethodDescriptor yX8_isNoRun.desc).map (fun d => d.parameters.length) = some 3 := by decide +kernel
theorem ydX8_granted : yX8_granted.cls = RX8 ∧ yX8_granted.cls ≠ "java/lang/invoke/MethodHandle" ∧ yX8_granted.cls ≠ "java/lang/invoke/VarHandle" ∧ (parseMethodDescriptor yX8_granted.desc).map (fun d => d.parameters.length) = some 2 := by decide +kernel
theorem ydX8_reason : yX8_reason.cls = RX8 ∧ yX8_reason.cls ≠ "java/lang/invoke/MethodHandle" ∧ yX8_reason.cls ≠ "java/lang/invoke/VarHandle" ∧ (parseMethodDescriptor yX8_reason.desc).map (fun d => d.parameters.length) = some 3 := by decide +kernel
theorem ydX8_setRank : yX8_setRank.cls = RX8 ∧ yX8_setRank.cls ≠ "java/lang/invoke/MethodHandle" ∧ yX8_setRank.cls ≠ "java/lang/invoke/VarHandle" ∧ (parseMethodDescriptor yX8_setRank.desc).map (fun d => d.parameters.length) = some 2 := by decide +kernel
theorem ydX8_rule : yX8_rule.cls = RX8 ∧ yX8_rule.cls ≠ "java/lang/invoke/MethodHandle" ∧ yX8_rule.cls ≠ "java/lang/invoke/VarHandle" ∧ (parseMethodDescriptor yX8_rule.desc).map (fun d => d.parameters.length) = some 2 := by decide +kernel
theorem ydX8_all : yX8_all.cls = RX8 ∧ yX8_all.cls ≠ "java/lang/invoke/MethodHandle" ∧ yX8_all.cls ≠ "java/lang/invoke/VarHandle" ∧ (parseMethodDescriptor yX8_all.desc).map (fun d => d.parameters.length) = some 1 := by decide +kernel
theorem ydX8_entriesOf : yX8_entriesOf.cls = RX8 ∧ yX8_entriesOf.cls ≠ "java/lang/invoke/MethodHandle" ∧ yX8_entriesOf.cls ≠ "java/lang/invoke/VarHandle" ∧ (parseMethodDescriptor yX8_entriesOf.desc).map (fun d => d.parameters.length) = some 1 := by decide +kernel
theorem ydX8_skipped : yX8_skipped.cls = RX8 ∧ yX8_skipped.cls ≠ "java/lang/invoke/MethodHandle" ∧ yX8_skipped.cls ≠ "java/lang/invoke/VarHandle" ∧ (parseMethodDescriptor yX8_skipped.desc).map (fun d => d.parameters.length) = some 0 := by decide +kernel
theorem ydX8_entries : yX8_entries.cls = RX8 ∧ yX8_entries.cls ≠ "java/lang/invoke/MethodHandle" ∧ yX8_entries.cls ≠ "java/lang/invoke/VarHandle" ∧ (parseMethodDescriptor yX8_entries.desc).map (fun d => d.parameters.length) = some 0 := by decide +kernel
theorem ydX8_textAt : yX8_textAt.cls = RX8 ∧ yX8_textAt.cls ≠ "java/lang/invoke/MethodHandle" ∧ yX8_textAt.cls ≠ "java/lang/invoke/VarHandle" ∧ (parseMethodDescriptor yX8_textAt.desc).map (fun d => d.parameters.length) = some 1 := by decide +kernel
section
variable {l : Launch} {D : va_G} {cB cC cI cO cJ cD : ClassId} {ee mo : Nat} {Pm : Nat → Nat} {S : MSt} {b : Int}
set_option maxHeartbeats 4000000 in
set_option maxRecDepth 100000 in
theorem kX8_thrown : Mf l D cB cC cI cO cJ cD ee yX8_thrown wsX8_thrown ({ frames := 0, cells := 0, slots := 0, locals := 0 } : Room) mo Pm [] S (S.2 31, S) := by
  refine Ct_of (cc := cX8_thrown) (own := RX8) [some (.ref mo)] (by decide) rfl rfl (Nat.le_of_ble_eq_true rfl) (fun i9 v9 h9 => argL (.ref mo :: []) 0 rfl i9 v9 h9) ?_
  intro p e s m9 args below meth c9 h0 sz hI C hr hlk hinit
  have hin : ∀ w ∈ wsX80, w ∈ wsX8_thrown := by decide +kernel
  refine V_weak (I2 := MI cC cI h0 mo Pm S) (fun x hx => by subst hx; exact ⟨hI, Fr.refl⟩) ?_
  refine V_aload0 (pc' := 1) C dX8_thrown_0 rfl ?_
  refine mGetI (pc' := 4) 31 C hin (by decide) (by decide +kernel) dX8_thrown_1 rfl ?_
  exact mEnd C hr hlk ⟨Nat.le_refl _, Nat.le_refl _⟩ dX8_thrown_4 (rfl)
set_option maxHeartbeats 4000000 in
set_option maxRecDepth 100000 in
theorem kX8_isRange (c : Int) (r : Int) (lc : Int) (lr : Int) (h1 : rI c ∧ rI r ∧ rI lc ∧ rI lr) : Sf l D cB cC cI cO cJ cD ee yX8_isRange wsX8_isRange ({ frames := 0, cells := 0, slots := 0, locals := 0 } : Room) [.int (iI c), .int (iI r), .int (iI lc), .int (iI lr)] (bI (isRangeB c r lc lr)) := by
  refine Ct_of (cc := cX8_isRange) (own := RX8) [some (.int (iI c)), some (.int (iI r)), some (.int (iI lc)), some (.int (iI lr))] (by decide) rfl rfl (Nat.le_of_ble_eq_true rfl) (fun i9 v9 h9 => argL ([.int (iI c), .int (iI r), .int (iI lc), .int (iI lr)]) 0 rfl i9 v9 h9) ?_
  intro p e s m9 args below meth c9 h0 sz hI C hr hlk hinit
  refine V_iload0 (pc' := 1) C dX8_isRange_0 rfl ?_
  refine V_iload2 (pc' := 2) C dX8_isRange_1 rfl ?_
  refine V_icmpgt (tgt := 14) C (by omega) dX8_isRange_2 (by decide) rfl (fun c_2 => ?_) (fun c_2 => ?_)
  · refine V_iconst (pc' := 15) C dX8_isRange_14 rfl ?_
    exact sEndz (b := false) C hr hlk ⟨Nat.le_refl _, Nat.le_refl _⟩ dX8_isRange_15 (by simp [isRangeB, bI]; omega)
  · refine V_iload1 (pc' := 6) C dX8_isRange_5 rfl ?_
    refine V_iload3 (pc' := 7) C dX8_isRange_6 rfl ?_
    refine V_icmpgt (tgt := 14) C (by omega) dX8_isRange_7 (by decide) rfl (fun c_7 => ?_) (fun c_7 => ?_)
    · refine V_iconst (pc' := 15) C dX8_isRange_14 rfl ?_
      exact sEndz (b := false) C hr hlk ⟨Nat.le_refl _, Nat.le_refl _⟩ dX8_isRange_15 (by simp [isRangeB, bI]; omega)
    · refine V_iconst (pc' := 11) C dX8_isRange_10 rfl ?_
      refine V_goto (tgt := 15) C dX8_isRange_11 (by decide) ?_
      exact sEndz (b := true) C hr hlk ⟨Nat.le_refl _, Nat.le_refl _⟩ dX8_isRange_15 (by simp [isRangeB, bI]; omega)
set_option maxHeartbeats 4000000 in
set_option maxRecDepth 100000 in
theorem kX8_cell (c : Int) (r : Int) (hmw : MW S b) (r0 : rI c) (r1 : rI r) : Mf l D cB cC cI cO cJ cD ee yX8_cell wsX8_cell ({ frames := 3, cells := 0, slots := 0, locals := 65 } : Room) mo Pm [.int (iI c), .int (iI r)] S ((cellX S c r).1, (cellX S c r).2) := by
  refine Ct_of (cc := cX8_cell) (own := RX8) [some (.ref mo), some (.int (iI c)), some (.int (iI r))] (by decide) rfl rfl (Nat.le_of_ble_eq_true rfl) (fun i9 v9 h9 => argL (.ref mo :: [.int (iI c), .int (iI r)]) 0 rfl i9 v9 h9) ?_
  intro p e s m9 args below meth c9 h0 sz hI C hr hlk hinit
  have hin : ∀ w ∈ wsX80, w ∈ wsX8_cell := by decide +kernel
  refine V_weak (I2 := MI cC cI h0 mo Pm S) (fun x hx => by subst hx; exact ⟨hI, Fr.refl⟩) ?_
  obtain ⟨hwp, hwl, hwh, hwr, hws, hwt⟩ := id hmw
  obtain ⟨hw1, hw2, hw3, hw4, hw5, hw6⟩ := id hwp
  refine V_aload0 (pc' := 1) C dX8_cell_0 rfl ?_
  refine V_iload1 (pc' := 2) C dX8_cell_1 rfl ?_
  refine V_iload2 (pc' := 3) C dX8_cell_2 rfl ?_
  refine mCallF2 (pc' := 6) C (kX8_isNoCell _ _ (by omega) (by omega)) gX8_cell_X8_isNoCell rfl ydX8_isNoCell ⟨Nat.le_of_ble_eq_true rfl, Nat.le_of_ble_eq_true rfl⟩ ⟨rfl, rfl⟩ (Nat.le_of_ble_eq_true rfl) dX8_cell_3 ⟨Nat.zero_le _, Nat.zero_le _⟩ rfl ?_
  refine V_ifeqB (tgt := 13) C dX8_cell_6 (by decide) rfl (fun c_6 => ?_) (fun c_6 => ?_)
  · have hx := atI_in (c := c) (r := r) (by simpa using c_6)
    refine V_weak (I2 := MI cC cI h0 mo Pm (uG S 31 0)) (fun h q => by rw [c_6] at q; exact q) ?_
    refine V_aload0 (pc' := 14) C dX8_cell_13 rfl ?_
    refine mGetA (pc' := 17) 0 C hin (by decide) (by decide +kernel) dX8_cell_14 rfl ?_
    refine V_iload1 (pc' := 18) C dX8_cell_17 rfl ?_
    refine V_iload2 (pc' := 19) C dX8_cell_18 rfl ?_
    refine sCall2 (pc' := 22) C (kX8_at _ _ ) gX8_cell_X8_at rfl ydX8_at ⟨Nat.le_of_ble_eq_true rfl, Nat.le_of_ble_eq_true rfl⟩ ⟨rfl, rfl⟩ (Nat.le_of_ble_eq_true rfl) dX8_cell_19 ⟨Nat.zero_le _, Nat.zero_le _⟩ rfl ?_
    refine mLd (pc' := 23) (n := 48) 0 C (by decide) rfl (by first | omega | (simp [uA, uG, thS] <;> omega)) dX8_cell_22 rfl ?_
    exact mEnd C hr hlk ⟨Nat.le_refl _, Nat.le_refl _⟩ dX8_cell_23 (by simp_all [cellX, thS, uG_1])
  · refine V_iconst (pc' := 10) C dX8_cell_9 rfl ?_
    refine V_goto (tgt := 23) C dX8_cell_10 (by decide) ?_
    exact mEnd C hr hlk ⟨Nat.le_refl _, Nat.le_refl _⟩ dX8_cell_23 (by simp_all [cellX, thS, uG_1])
set_option maxHeartbeats 4000000 in
set_option maxRecDepth 100000 in
theorem kX8_cellByAudit (c : Int) (r : Int) (hmw : MW S b) (r0 : rI c) (r1 : rI r) : Mf l D cB cC cI cO cJ cD ee yX8_cellByAudit wsX8_cellByAudit ({ frames := 4, cells := 0, slots := 0, locals := 87 } : Room) mo Pm [.int (iI c), .int (iI r)] S ((cellX S c r).1, (cellX S c r).2) := by
  refine Ct_of (cc := cX8_cellByAudit) (own := RX8) [some (.ref mo), some (.int (iI c)), some (.int (iI r))] (by decide) rfl rfl (Nat.le_of_ble_eq_true rfl) (fun i9 v9 h9 => argL (.ref mo :: [.int (iI c), .int (iI r)]) 0 rfl i9 v9 h9) ?_
  intro p e s m9 args below meth c9 h0 sz hI C hr hlk hinit
  have hin : ∀ w ∈ wsX80, w ∈ wsX8_cellByAudit := by decide +kernel
  refine V_weak (I2 := MI cC cI h0 mo Pm S) (fun x hx => by subst hx; exact ⟨hI, Fr.refl⟩) ?_
  obtain ⟨hwp, hwl, hwh, hwr, hws, hwt⟩ := id hmw
  obtain ⟨hw1, hw2, hw3, hw4, hw5, hw6⟩ := id hwp
  refine V_aload0 (pc' := 1) C dX8_cellByAudit_0 rfl ?_
  refine V_iload1 (pc' := 2) C dX8_cellByAudit_1 rfl ?_
  refine V_iload2 (pc' := 3) C dX8_cellByAudit_2 rfl ?_
  refine mCallF2 (pc' := 6) C (kX8_cell _ _ hmw r0 r1) gX8_cellByAudit_X8_cell rfl ydX8_cell ⟨Nat.le_of_ble_eq_true rfl, Nat.le_of_ble_eq_true rfl⟩ ⟨rfl, rfl⟩ (Nat.le_of_ble_eq_true rfl) dX8_cellByAudit_3 ⟨Nat.zero_le _, Nat.zero_le _⟩ rfl ?_
  exact mEnd C hr hlk ⟨Nat.le_refl _, Nat.le_refl _⟩ dX8_cellByAudit_6 (rfl)
set_option maxHeartbeats 4000000 in
set_option maxRecDepth 100000 in
theorem kX8_addMacro (hmw : MW S b) : Mf l D cB cC cI cO cJ cD ee yX8_addMacro wsX8_addMacro ({ frames := 1, cells := 0, slots := 0, locals := 22 } : Room) mo Pm [] S ((addMacroX S).1, (addMacroX S).2) := by
  refine Ct_of (cc := cX8_addMacro) (own := RX8) [some (.ref mo)] (by decide) rfl rfl (Nat.le_of_ble_eq_true rfl) (fun i9 v9 h9 => argL (.ref mo :: []) 0 rfl i9 v9 h9) ?_
  intro p e s m9 args below meth c9 h0 sz hI C hr hlk hinit
  have hin : ∀ w ∈ wsX80, w ∈ wsX8_addMacro := by decide +kernel
  refine V_weak (I2 := MI cC cI h0 mo Pm S) (fun x hx => by subst hx; exact ⟨hI, Fr.refl⟩) ?_
  obtain ⟨hwp, hwl, hwh, hwr, hws, hwt⟩ := id hmw
  obtain ⟨hw1, hw2, hw3, hw4, hw5, hw6⟩ := id hwp
  refine V_aload0 (pc' := 1) C dX8_addMacro_0 rfl ?_
  refine V_aload0 (pc' := 2) C dX8_addMacro_1 rfl ?_
  refine mGetI (pc' := 5) 22 C hin (by decide) (by decide +kernel) dX8_addMacro_2 rfl ?_
  refine V_bipush (pc' := 7) C dX8_addMacro_5 rfl (by decide) ?_
  refine V_icmpne (tgt := 14) C (by first | omega | (simp [uA, uG, thS] <;> omega)) dX8_addMacro_7 (by decide) rfl (fun c_7 => ?_) (fun c_7 => ?_)
  · refine V_iconst (pc' := 15) C dX8_addMacro_14 rfl ?_
    refine V_iconst (pc' := 16) C dX8_addMacro_15 rfl ?_
    refine mCallF2 (pc' := 19) C (kX8_isThrown false _ ) gX8_addMacro_X8_isThrown rfl ydX8_isThrown ⟨Nat.le_of_ble_eq_true rfl, Nat.le_of_ble_eq_true rfl⟩ ⟨rfl, rfl⟩ (Nat.le_of_ble_eq_true rfl) dX8_addMacro_16 ⟨Nat.zero_le _, Nat.zero_le _⟩ rfl ?_
    refine V_ifeqB (tgt := 24) C dX8_addMacro_19 (by decide) rfl (fun c_19 => ?_) (fun c_19 => ?_)
    · refine V_weak (I2 := MI cC cI h0 mo Pm (uG S 31 0)) (fun h q => by simpa [thS, uG_uG] using q) ?_
      refine V_aload0 (pc' := 25) C dX8_addMacro_24 rfl ?_
      refine V_dup (pc' := 26) C rfl dX8_addMacro_25 rfl ?_
      refine mGetI (pc' := 29) 22 C hin (by decide) (by decide +kernel) dX8_addMacro_26 rfl ?_
      refine V_iconst (pc' := 30) C dX8_addMacro_29 rfl ?_
      refine V_iadd (pc' := 31) C dX8_addMacro_30 rfl ?_
      refine mPutI (pc' := 34) 22 C hin (by decide) (by decide +kernel) dX8_addMacro_31 rfl ?_
      refine V_aload0 (pc' := 35) C dX8_addMacro_34 rfl ?_
      refine mGetI (pc' := 38) 22 C hin (by decide) (by decide +kernel) dX8_addMacro_35 rfl ?_
      refine V_iconst (pc' := 39) C dX8_addMacro_38 rfl ?_
      refine V_isub (pc' := 40) C dX8_addMacro_39 rfl ?_
      exact mEnd C hr hlk ⟨Nat.le_refl _, Nat.le_refl _⟩ dX8_addMacro_40 (by simp_all [addMacroX, uG])
    · exact absurd c_19 (by decide)
  · refine V_iconst (pc' := 11) C dX8_addMacro_10 rfl ?_
    refine V_goto (tgt := 15) C dX8_addMacro_11 (by decide) ?_
    refine V_iconst (pc' := 16) C dX8_addMacro_15 rfl ?_
    refine mCallF2 (pc' := 19) C (kX8_isThrown true _ ) gX8_addMacro_X8_isThrown rfl ydX8_isThrown ⟨Nat.le_of_ble_eq_true rfl, Nat.le_of_ble_eq_true rfl⟩ ⟨rfl, rfl⟩ (Nat.le_of_ble_eq_true rfl) dX8_addMacro_16 ⟨Nat.zero_le _, Nat.zero_le _⟩ rfl ?_
    refine V_ifeqB (tgt := 24) C dX8_addMacro_19 (by decide) rfl (fun c_19 => ?_) (fun c_19 => ?_)
    · exact absurd c_19 (by decide)
    · refine V_iconst (pc' := 23) C dX8_addMacro_22 rfl ?_
      exact mEnd C hr hlk ⟨Nat.le_refl _, Nat.le_refl _⟩ dX8_addMacro_23 (by simp_all [addMacroX, thS])
set_option maxHeartbeats 4000000 in
set_option maxRecDepth 100000 in
theorem kX8_record (m : Int) (c : Int) (r : Int) (hmw : MW S b) (r0 : rI m) (r1 : rI c) (r2 : rI r) : Mf l D cB cC cI cO cJ cD ee yX8_record wsX8_record ({ frames := 2, cells := 0, slots := 0, locals := 43 } : Room) mo Pm [.int (iI m), .int (iI c), .int (iI r)] S ((recordX S m c r).1, (recordX S m c r).2) := by
  refine Ct_of (cc := cX8_record) (own := RX8) [some (.ref mo), some (.int (iI m)), some (.int (iI c)), some (.int (iI r)), none] (by decide) rfl rfl (Nat.le_of_ble_eq_true rfl) (fun i9 v9 h9 => argL (.ref mo :: [.int (iI m), .int (iI c), .int (iI r)]) 1 rfl i9 v9 h9) ?_
  intro p e s m9 args below meth c9 h0 sz hI C hr hlk hinit
  have hin : ∀ w ∈ wsX80, w ∈ wsX8_record := by decide +kernel
  refine V_weak (I2 := MI cC cI h0 mo Pm S) (fun x hx => by subst hx; exact ⟨hI, Fr.refl⟩) ?_
  obtain ⟨hwp, hwl, hwh, hwr, hws, hwt⟩ := id hmw
  obtain ⟨hw1, hw2, hw3, hw4, hw5, hw6⟩ := id hwp
  refine V_aload0 (pc' := 1) C dX8_record_0 rfl ?_
  refine V_iload1 (pc' := 2) C dX8_record_1 rfl ?_
  refine V_iconst (pc' := 3) C dX8_record_2 rfl ?_
  refine V_aload0 (pc' := 4) C dX8_record_3 rfl ?_
  refine mGetI (pc' := 7) 22 C hin (by decide) (by decide +kernel) dX8_record_4 rfl ?_
  refine V_iconst (pc' := 8) C dX8_record_7 rfl ?_
  refine V_isub (pc' := 9) C dX8_record_8 rfl ?_
  refine sCall3 (pc' := 12) C (kX8_isIn _ _ _ (by omega) (by omega) (by omega)) gX8_record_X8_isIn rfl ydX8_isIn ⟨Nat.le_of_ble_eq_true rfl, Nat.le_of_ble_eq_true rfl⟩ ⟨rfl, rfl⟩ (Nat.le_of_ble_eq_true rfl) dX8_record_9 ⟨Nat.zero_le _, Nat.zero_le _⟩ rfl ?_
  refine V_ifeqB (tgt := 23) C dX8_record_12 (by decide) rfl (fun c_12 => ?_) (fun c_12 => ?_)
  · refine V_iconst (pc' := 24) C dX8_record_23 rfl ?_
    refine V_goto (tgt := 28) C dX8_record_24 (by decide) ?_
    refine V_iconst (pc' := 29) C dX8_record_28 rfl ?_
    refine mCallF2 (pc' := 32) C (kX8_isThrown true _ ) gX8_record_X8_isThrown rfl ydX8_isThrown ⟨Nat.le_of_ble_eq_true rfl, Nat.le_of_ble_eq_true rfl⟩ ⟨rfl, rfl⟩ (Nat.le_of_ble_eq_true rfl) dX8_record_29 ⟨Nat.zero_le _, Nat.zero_le _⟩ rfl ?_
    refine V_ifneB (tgt := 55) C dX8_record_32 (by decide) rfl (fun c_32 => ?_) (fun c_32 => ?_)
    · refine V_iconst (pc' := 56) C dX8_record_55 rfl ?_
      exact mEnd C hr hlk ⟨Nat.le_refl _, Nat.le_refl _⟩ dX8_record_56 (by simp_all [recordX, isMacB, thS, uG_uG, uG_n])
    · exact absurd c_32 (by decide)
  · refine V_iload2 (pc' := 16) C dX8_record_15 rfl ?_
    refine V_iload3 (pc' := 17) C dX8_record_16 rfl ?_
    refine sCall2 (pc' := 20) C (kX8_isCell _ _ (by omega) (by omega)) gX8_record_X8_isCell rfl ydX8_isCell ⟨Nat.le_of_ble_eq_true rfl, Nat.le_of_ble_eq_true rfl⟩ ⟨rfl, rfl⟩ (Nat.le_of_ble_eq_true rfl) dX8_record_17 ⟨Nat.zero_le _, Nat.zero_le _⟩ rfl ?_
    refine V_ifneB (tgt := 27) C dX8_record_20 (by decide) rfl (fun c_20 => ?_) (fun c_20 => ?_)
    · refine V_iconst (pc' := 28) C dX8_record_27 rfl ?_
      refine V_iconst (pc' := 29) C dX8_record_28 rfl ?_
      refine mCallF2 (pc' := 32) C (kX8_isThrown false _ ) gX8_record_X8_isThrown rfl ydX8_isThrown ⟨Nat.le_of_ble_eq_true rfl, Nat.le_of_ble_eq_true rfl⟩ ⟨rfl, rfl⟩ (Nat.le_of_ble_eq_true rfl) dX8_record_29 ⟨Nat.zero_le _, Nat.zero_le _⟩ rfl ?_
      refine V_ifneB (tgt := 55) C dX8_record_32 (by decide) rfl (fun c_32 => ?_) (fun c_32 => ?_)
      · exact absurd c_32 (by decide)
      · refine V_weak (I2 := MI cC cI h0 mo Pm (uG S 31 0)) (fun h q => by simpa [thS, uG_uG] using q) ?_
        refine V_aload0 (pc' := 36) C dX8_record_35 rfl ?_
        refine V_aload0 (pc' := 37) C dX8_record_36 rfl ?_
        refine mGetI (pc' := 40) 27 C hin (by decide) (by decide +kernel) dX8_record_37 rfl ?_
        refine V_iflt (tgt := 47) C (by first | omega | (simp [uA, uG, thS] <;> omega)) dX8_record_40 (by decide) rfl (fun c_40 => ?_) (fun c_40 => ?_)
        · refine V_iconst (pc' := 48) C dX8_record_47 rfl ?_
          refine V_iconst (pc' := 49) C dX8_record_48 rfl ?_
          refine mCallF2 (pc' := 52) C (kX8_isThrown false _ ) gX8_record_X8_isThrown rfl ydX8_isThrown ⟨Nat.le_of_ble_eq_true rfl, Nat.le_of_ble_eq_true rfl⟩ ⟨rfl, rfl⟩ (Nat.le_of_ble_eq_true rfl) dX8_record_49 ⟨Nat.zero_le _, Nat.zero_le _⟩ rfl ?_
          refine V_ifeqB (tgt := 57) C dX8_record_52 (by decide) rfl (fun c_52 => ?_) (fun c_52 => ?_)
          · have hx := atI_in (c := c) (r := r) (by simpa using c_20)
            have hmm := isMac_in (S := S) (m := m) (by simpa [isMacB] using c_12) (by omega)
            refine V_weak (I2 := MI cC cI h0 mo Pm (uG S 31 0)) (fun h q => by simpa [thS, uG_uG] using q) ?_
            refine V_aload0 (pc' := 58) C dX8_record_57 rfl ?_
            refine mGetA (pc' := 61) 4 C hin (by decide) (by decide +kernel) dX8_record_58 rfl ?_
            refine V_iload1 (pc' := 62) C dX8_record_61 rfl ?_
            refine mLd (pc' := 63) (n := 6) 4 C (by decide) rfl (by first | omega | (simp [uA, uG, thS] <;> omega)) dX8_record_62 rfl ?_
            refine V_istore4 (pc' := 65) C dX8_record_63 rfl (by decide) rfl ?_
            refine V_aload0 (pc' := 66) C dX8_record_65 rfl ?_
            refine mGetA (pc' := 69) 4 C hin (by decide) (by decide +kernel) dX8_record_66 rfl ?_
            refine V_iload1 (pc' := 70) C dX8_record_69 rfl ?_
            refine V_iconst (pc' := 71) C dX8_record_70 rfl ?_
            refine mSt (pc' := 72) (n := 6) 4 C (by decide) rfl (by first | omega | (simp [uA, uG, thS] <;> omega)) dX8_record_71 rfl ?_
            refine V_aload0 (pc' := 73) C dX8_record_72 rfl ?_
            refine V_iload1 (pc' := 74) C dX8_record_73 rfl ?_
            refine mPutI (pc' := 77) 27 C hin (by decide) (by decide +kernel) dX8_record_74 rfl ?_
            refine V_aload0 (pc' := 78) C dX8_record_77 rfl ?_
            refine V_iload2 (pc' := 79) C dX8_record_78 rfl ?_
            refine V_iload3 (pc' := 80) C dX8_record_79 rfl ?_
            refine sCall2 (pc' := 83) C (kX8_at _ _ ) gX8_record_X8_at rfl ydX8_at ⟨Nat.le_of_ble_eq_true rfl, Nat.le_of_ble_eq_true rfl⟩ ⟨rfl, rfl⟩ (Nat.le_of_ble_eq_true rfl) dX8_record_80 ⟨Nat.zero_le _, Nat.zero_le _⟩ rfl ?_
            refine mPutI (pc' := 86) 28 C hin (by decide) (by decide +kernel) dX8_record_83 rfl ?_
            refine V_iload4 (pc' := 88) C dX8_record_86 rfl ?_
            exact mEnd C hr hlk ⟨Nat.le_refl _, Nat.le_refl _⟩ dX8_record_88 (by have h9 : ¬ 0 ≤ S.2 27 := Int.not_le.mpr c_40; unfold recordX; rw [if_neg (by simp_all [isMacB]), if_neg h9]; rfl)
          · exact absurd c_52 (by decide)
        · refine V_iconst (pc' := 44) C dX8_record_43 rfl ?_
          refine V_goto (tgt := 48) C dX8_record_44 (by decide) ?_
          refine V_iconst (pc' := 49) C dX8_record_48 rfl ?_
          refine mCallF2 (pc' := 52) C (kX8_isThrown true _ ) gX8_record_X8_isThrown rfl ydX8_isThrown ⟨Nat.le_of_ble_eq_true rfl, Nat.le_of_ble_eq_true rfl⟩ ⟨rfl, rfl⟩ (Nat.le_of_ble_eq_true rfl) dX8_record_49 ⟨Nat.zero_le _, Nat.zero_le _⟩ rfl ?_
          refine V_ifeqB (tgt := 57) C dX8_record_52 (by decide) rfl (fun c_52 => ?_) (fun c_52 => ?_)
          · exact absurd c_52 (by decide)
          · refine V_iconst (pc' := 56) C dX8_record_55 rfl ?_
            exact mEnd C hr hlk ⟨Nat.le_refl _, Nat.le_refl _⟩ dX8_record_56 (by simp_all [recordX, isMacB, thS, uG_uG, uG_n])
    · refine V_iconst (pc' := 24) C dX8_record_23 rfl ?_
      refine V_goto (tgt := 28) C dX8_record_24 (by decide) ?_
      refine V_iconst (pc' := 29) C dX8_record_28 rfl ?_
      refine mCallF2 (pc' := 32) C (kX8_isThrown true _ ) gX8_record_X8_isThrown rfl ydX8_isThrown ⟨Nat.le_of_ble_eq_true rfl, Nat.le_of_ble_eq_true rfl⟩ ⟨rfl, rfl⟩ (Nat.le_of_ble_eq_true rfl) dX8_record_29 ⟨Nat.zero_le _, Nat.zero_le _⟩ rfl ?_
      refine V_ifneB (tgt := 55) C dX8_record_32 (by decide) rfl (fun c_32 => ?_) (fun c_32 => ?_)
      · refine V_iconst (pc' := 56) C dX8_record_55 rfl ?_
        exact mEnd C hr hlk ⟨Nat.le_refl _, Nat.le_refl _⟩ dX8_record_56 (by simp_all [recordX, isMacB, thS, uG_uG, uG_n])
      · exact absurd c_32 (by decide)
set_option maxHeartbeats 4000000 in
set_option maxRecDepth 100000 in
theorem kX8_stop (hmw : MW S b) : Mf l D cB cC cI cO cJ cD ee yX8_stop wsX8_stop ({ frames := 1, cells := 0, slots := 0, locals := 22 } : Room) mo Pm [] S ((stopX S).1, (stopX S).2) := by
  refine Ct_of (cc := cX8_stop) (own := RX8) [some (.ref mo), none] (by decide) rfl rfl (Nat.le_of_ble_eq_true rfl) (fun i9 v9 h9 => argL (.ref mo :: []) 1 rfl i9 v9 h9) ?_
  intro p e s m9 args below meth c9 h0 sz hI C hr hlk hinit
  have hin : ∀ w ∈ wsX80, w ∈ wsX8_stop := by decide +kernel
  refine V_weak (I2 := MI cC cI h0 mo Pm S) (fun x hx => by subst hx; exact ⟨hI, Fr.refl⟩) ?_
  obtain ⟨hwp, hwl, hwh, hwr, hws, hwt⟩ := id hmw
  obtain ⟨hw1, hw2, hw3, hw4, hw5, hw6⟩ := id hwp
  refine V_aload0 (pc' := 1) C dX8_stop_0 rfl ?_
  refine V_aload0 (pc' := 2) C dX8_stop_1 rfl ?_
  refine mGetI (pc' := 5) 27 C hin (by decide) (by decide +kernel) dX8_stop_2 rfl ?_
  refine V_ifge (tgt := 12) C (by first | omega | (simp [uA, uG, thS] <;> omega)) dX8_stop_5 (by decide) rfl (fun c_5 => ?_) (fun c_5 => ?_)
  · refine V_iconst (pc' := 13) C dX8_stop_12 rfl ?_
    refine V_iconst (pc' := 14) C dX8_stop_13 rfl ?_
    refine mCallF2 (pc' := 17) C (kX8_isThrown false _ ) gX8_stop_X8_isThrown rfl ydX8_isThrown ⟨Nat.le_of_ble_eq_true rfl, Nat.le_of_ble_eq_true rfl⟩ ⟨rfl, rfl⟩ (Nat.le_of_ble_eq_true rfl) dX8_stop_14 ⟨Nat.zero_le _, Nat.zero_le _⟩ rfl ?_
    refine V_ifeqB (tgt := 22) C dX8_stop_17 (by decide) rfl (fun c_17 => ?_) (fun c_17 => ?_)
    · refine V_weak (I2 := MI cC cI h0 mo Pm (uG S 31 0)) (fun h q => by simpa [thS, uG_uG] using q) ?_
      refine V_aload0 (pc' := 23) C dX8_stop_22 rfl ?_
      refine mGetA (pc' := 26) 4 C hin (by decide) (by decide +kernel) dX8_stop_23 rfl ?_
      refine V_aload0 (pc' := 27) C dX8_stop_26 rfl ?_
      refine mGetI (pc' := 30) 27 C hin (by decide) (by decide +kernel) dX8_stop_27 rfl ?_
      refine mLd (pc' := 31) (n := 6) 4 C (by decide) rfl (by first | omega | (simp [uA, uG, thS] <;> omega)) dX8_stop_30 rfl ?_
      refine V_istore1 (pc' := 32) C dX8_stop_31 rfl (by decide) rfl ?_
      refine V_aload0 (pc' := 33) C dX8_stop_32 rfl ?_
      refine V_iconst (pc' := 34) C dX8_stop_33 rfl ?_
      refine mPutI (pc' := 37) 27 C hin (by decide) (by decide +kernel) dX8_stop_34 rfl ?_
      refine V_iload1 (pc' := 38) C dX8_stop_37 rfl ?_
      exact mEnd C hr hlk ⟨Nat.le_refl _, Nat.le_refl _⟩ dX8_stop_38 (by have h9 : ¬ S.2 27 < 0 := Int.not_lt.mpr c_5; unfold stopX; rw [if_neg h9]; rfl)
    · exact absurd c_17 (by decide)
  · refine V_iconst (pc' := 9) C dX8_stop_8 rfl ?_
    refine V_goto (tgt := 13) C dX8_stop_9 (by decide) ?_
    refine V_iconst (pc' := 14) C dX8_stop_13 rfl ?_
    refine mCallF2 (pc' := 17) C (kX8_isThrown true _ ) gX8_stop_X8_isThrown rfl ydX8_isThrown ⟨Nat.le_of_ble_eq_true rfl, Nat.le_of_ble_eq_true rfl⟩ ⟨rfl, rfl⟩ (Nat.le_of_ble_eq_true rfl) dX8_stop_14 ⟨Nat.zero_le _, Nat.zero_le _⟩ rfl ?_
    refine V_ifeqB (tgt := 22) C dX8_stop_17 (by decide) rfl (fun c_17 => ?_) (fun c_17 => ?_)
    · exact absurd c_17 (by decide)
    · refine V_iconst (pc' := 21) C dX8_stop_20 rfl ?_
      exact mEnd C hr hlk ⟨Nat.le_refl _, Nat.le_refl _⟩ dX8_stop_21 (by simp_all [stopX, thS])
set_option maxHeartbeats 4000000 in
set_option maxRecDepth 100000 in
theorem kX8_steps (m : Int) (hmw : MW S b) (r0 : rI m) : Mf l D cB cC cI cO cJ cD ee yX8_steps wsX8_steps ({ frames := 2, cells := 0, slots := 0, locals := 43 } : Room) mo Pm [.int (iI m)] S ((stepsX S m).1, (stepsX S m).2) := by
  refine Ct_of (cc := cX8_steps) (own := RX8) [some (.ref mo), some (.int (iI m))] (by decide) rfl rfl (Nat.le_of_ble_eq_true rfl) (fun i9 v9 h9 => argL (.ref mo :: [.int (iI m)]) 0 rfl i9 v9 h9) ?_
  intro p e s m9 args below meth c9 h0 sz hI C hr hlk hinit
  have hin : ∀ w ∈ wsX80, w ∈ wsX8_steps := by decide +kernel
  refine V_weak (I2 := MI cC cI h0 mo Pm S) (fun x hx => by subst hx; exact ⟨hI, Fr.refl⟩) ?_
  obtain ⟨hwp, hwl, hwh, hwr, hws, hwt⟩ := id hmw
  obtain ⟨hw1, hw2, hw3, hw4, hw5, hw6⟩ := id hwp
  refine V_aload0 (pc' := 1) C dX8_steps_0 rfl ?_
  refine V_iload1 (pc' := 2) C dX8_steps_1 rfl ?_
  refine mCallF1 (pc' := 5) C (kX8_isNoMacro _ (by omega) (by omega)) gX8_steps_X8_isNoMacro rfl ydX8_isNoMacro ⟨Nat.le_of_ble_eq_true rfl, Nat.le_of_ble_eq_true rfl⟩ ⟨rfl, rfl⟩ (Nat.le_of_ble_eq_true rfl) dX8_steps_2 ⟨Nat.zero_le _, Nat.zero_le _⟩ rfl ?_
  refine V_ifeqB (tgt := 12) C dX8_steps_5 (by decide) rfl (fun c_5 => ?_) (fun c_5 => ?_)
  · have hmm := isMac_in (S := S) (m := m) (by simpa [isMacB] using c_5) (by omega)
    refine V_aload0 (pc' := 13) C dX8_steps_12 rfl ?_
    refine mGetA (pc' := 16) 4 C hin (by decide) (by decide +kernel) dX8_steps_13 rfl ?_
    refine V_iload1 (pc' := 17) C dX8_steps_16 rfl ?_
    refine mLd (pc' := 18) (n := 6) 4 C (by decide) rfl (by first | omega | (simp [uA, uG, thS] <;> omega)) dX8_steps_17 rfl ?_
    exact mEnd C hr hlk ⟨Nat.le_refl _, Nat.le_refl _⟩ dX8_steps_18 (by simp_all [stepsX, isMacB, thS, uG_1, uG_n])
  · refine V_iconst (pc' := 9) C dX8_steps_8 rfl ?_
    refine V_goto (tgt := 18) C dX8_steps_9 (by decide) ?_
    exact mEnd C hr hlk ⟨Nat.le_refl _, Nat.le_refl _⟩ dX8_steps_18 (by simp_all [stepsX, isMacB, thS, uG_1, uG_n])
set_option maxHeartbeats 4000000 in
set_option maxRecDepth 100000 in
theorem kX8_grant (m : Int) (c : Int) (r : Int) (lc : Int) (lr : Int) (hmw : MW S b) (r0 : rI m) (r1 : rI c) (r2 : rI r) (r3 : rI lc) (r4 : rI lr) : Mf l D cB cC cI cO cJ cD ee yX8_grant wsX8_grant ({ frames := 2, cells := 0, slots := 0, locals := 43 } : Room) mo Pm [.int (iI m), .int (iI c), .int (iI r), .int (iI lc), .int (iI lr)] S ((grantX S m c r lc lr).1, (grantX S m c r lc lr).2) := by
  refine Ct_of (cc := cX8_grant) (own := RX8) [some (.ref mo), some (.int (iI m)), some (.int (iI c)), some (.int (iI r)), some (.int (iI lc)), some (.int (iI lr))] (by decide) rfl rfl (Nat.le_of_ble_eq_true rfl) (fun i9 v9 h9 => argL (.ref mo :: [.int (iI m), .int (iI c), .int (iI r), .int (iI lc), .int (iI lr)]) 0 rfl i9 v9 h9) ?_
  intro p e s m9 args below meth c9 h0 sz hI C hr hlk hinit
  have hin : ∀ w ∈ wsX80, w ∈ wsX8_grant := by decide +kernel
  refine V_weak (I2 := MI cC cI h0 mo Pm S) (fun x hx => by subst hx; exact ⟨hI, Fr.refl⟩) ?_
  obtain ⟨hwp, hwl, hwh, hwr, hws, hwt⟩ := id hmw
  obtain ⟨hw1, hw2, hw3, hw4, hw5, hw6⟩ := id hwp
  refine V_aload0 (pc' := 1) C dX8_grant_0 rfl ?_
  refine V_iload1 (pc' := 2) C dX8_grant_1 rfl ?_
  refine V_iconst (pc' := 3) C dX8_grant_2 rfl ?_
  refine V_aload0 (pc' := 4) C dX8_grant_3 rfl ?_
  refine mGetI (pc' := 7) 22 C hin (by decide) (by decide +kernel) dX8_grant_4 rfl ?_
  refine V_iconst (pc' := 8) C dX8_grant_7 rfl ?_
  refine V_isub (pc' := 9) C dX8_grant_8 rfl ?_
  refine sCall3 (pc' := 12) C (kX8_isIn _ _ _ (by omega) (by omega) (by omega)) gX8_grant_X8_isIn rfl ydX8_isIn ⟨Nat.le_of_ble_eq_true rfl, Nat.le_of_ble_eq_true rfl⟩ ⟨rfl, rfl⟩ (Nat.le_of_ble_eq_true rfl) dX8_grant_9 ⟨Nat.zero_le _, Nat.zero_le _⟩ rfl ?_
  refine V_ifeqB (tgt := 33) C dX8_grant_12 (by decide) rfl (fun c_12 => ?_) (fun c_12 => ?_)
  · refine V_iconst (pc' := 34) C dX8_grant_33 rfl ?_
    refine V_goto (tgt := 38) C dX8_grant_34 (by decide) ?_
    refine V_iconst (pc' := 39) C dX8_grant_38 rfl ?_
    refine mCallF2 (pc' := 42) C (kX8_isThrown true _ ) gX8_grant_X8_isThrown rfl ydX8_isThrown ⟨Nat.le_of_ble_eq_true rfl, Nat.le_of_ble_eq_true rfl⟩ ⟨rfl, rfl⟩ (Nat.le_of_ble_eq_true rfl) dX8_grant_39 ⟨Nat.zero_le _, Nat.zero_le _⟩ rfl ?_
    refine V_ifneB (tgt := 93) C dX8_grant_42 (by decide) rfl (fun c_42 => ?_) (fun c_42 => ?_)
    · refine V_iconst (pc' := 94) C dX8_grant_93 rfl ?_
      exact mEnd C hr hlk ⟨Nat.le_refl _, Nat.le_refl _⟩ dX8_grant_94 (by simp_all [grantX, isMacB, thS, uG_uG, uG_n, uG_1])
    · exact absurd c_42 (by decide)
  · refine V_iload2 (pc' := 16) C dX8_grant_15 rfl ?_
    refine V_iload3 (pc' := 17) C dX8_grant_16 rfl ?_
    refine sCall2 (pc' := 20) C (kX8_isCell _ _ (by omega) (by omega)) gX8_grant_X8_isCell rfl ydX8_isCell ⟨Nat.le_of_ble_eq_true rfl, Nat.le_of_ble_eq_true rfl⟩ ⟨rfl, rfl⟩ (Nat.le_of_ble_eq_true rfl) dX8_grant_17 ⟨Nat.zero_le _, Nat.zero_le _⟩ rfl ?_
    refine V_ifeqB (tgt := 33) C dX8_grant_20 (by decide) rfl (fun c_20 => ?_) (fun c_20 => ?_)
    · refine V_iconst (pc' := 34) C dX8_grant_33 rfl ?_
      refine V_goto (tgt := 38) C dX8_grant_34 (by decide) ?_
      refine V_iconst (pc' := 39) C dX8_grant_38 rfl ?_
      refine mCallF2 (pc' := 42) C (kX8_isThrown true _ ) gX8_grant_X8_isThrown rfl ydX8_isThrown ⟨Nat.le_of_ble_eq_true rfl, Nat.le_of_ble_eq_true rfl⟩ ⟨rfl, rfl⟩ (Nat.le_of_ble_eq_true rfl) dX8_grant_39 ⟨Nat.zero_le _, Nat.zero_le _⟩ rfl ?_
      refine V_ifneB (tgt := 93) C dX8_grant_42 (by decide) rfl (fun c_42 => ?_) (fun c_42 => ?_)
      · refine V_iconst (pc' := 94) C dX8_grant_93 rfl ?_
        exact mEnd C hr hlk ⟨Nat.le_refl _, Nat.le_refl _⟩ dX8_grant_94 (by simp_all [grantX, isMacB, thS, uG_uG, uG_n, uG_1])
      · exact absurd c_42 (by decide)
    · refine V_iload4 (pc' := 25) C dX8_grant_23 rfl ?_
      refine V_iload5 (pc' := 27) C dX8_grant_25 rfl ?_
      refine sCall2 (pc' := 30) C (kX8_isCell _ _ (by omega) (by omega)) gX8_grant_X8_isCell rfl ydX8_isCell ⟨Nat.le_of_ble_eq_true rfl, Nat.le_of_ble_eq_true rfl⟩ ⟨rfl, rfl⟩ (Nat.le_of_ble_eq_true rfl) dX8_grant_27 ⟨Nat.zero_le _, Nat.zero_le _⟩ rfl ?_
      refine V_ifneB (tgt := 37) C dX8_grant_30 (by decide) rfl (fun c_30 => ?_) (fun c_30 => ?_)
      · refine V_iconst (pc' := 38) C dX8_grant_37 rfl ?_
        refine V_iconst (pc' := 39) C dX8_grant_38 rfl ?_
        refine mCallF2 (pc' := 42) C (kX8_isThrown false _ ) gX8_grant_X8_isThrown rfl ydX8_isThrown ⟨Nat.le_of_ble_eq_true rfl, Nat.le_of_ble_eq_true rfl⟩ ⟨rfl, rfl⟩ (Nat.le_of_ble_eq_true rfl) dX8_grant_39 ⟨Nat.zero_le _, Nat.zero_le _⟩ rfl ?_
        refine V_ifneB (tgt := 93) C dX8_grant_42 (by decide) rfl (fun c_42 => ?_) (fun c_42 => ?_)
        · exact absurd c_42 (by decide)
        · refine V_weak (I2 := MI cC cI h0 mo Pm (uG S 31 0)) (fun h q => by simpa [thS, uG_uG] using q) ?_
          refine V_aload0 (pc' := 46) C dX8_grant_45 rfl ?_
          refine V_iload2 (pc' := 47) C dX8_grant_46 rfl ?_
          refine V_iload3 (pc' := 48) C dX8_grant_47 rfl ?_
          refine V_iload4 (pc' := 50) C dX8_grant_48 rfl ?_
          refine V_iload5 (pc' := 52) C dX8_grant_50 rfl ?_
          refine sCall4 (pc' := 55) C (kX8_isRange _ _ _ _ (by omega)) gX8_grant_X8_isRange rfl ydX8_isRange ⟨Nat.le_of_ble_eq_true rfl, Nat.le_of_ble_eq_true rfl⟩ ⟨rfl, rfl⟩ (Nat.le_of_ble_eq_true rfl) dX8_grant_52 ⟨Nat.zero_le _, Nat.zero_le _⟩ rfl ?_
          refine V_ifneB (tgt := 62) C dX8_grant_55 (by decide) rfl (fun c_55 => ?_) (fun c_55 => ?_)
          · refine V_iconst (pc' := 63) C dX8_grant_62 rfl ?_
            refine V_iconst (pc' := 64) C dX8_grant_63 rfl ?_
            refine mCallF2 (pc' := 67) C (kX8_isThrown false _ ) gX8_grant_X8_isThrown rfl ydX8_isThrown ⟨Nat.le_of_ble_eq_true rfl, Nat.le_of_ble_eq_true rfl⟩ ⟨rfl, rfl⟩ (Nat.le_of_ble_eq_true rfl) dX8_grant_64 ⟨Nat.zero_le _, Nat.zero_le _⟩ rfl ?_
            refine V_ifneB (tgt := 93) C dX8_grant_67 (by decide) rfl (fun c_67 => ?_) (fun c_67 => ?_)
            · exact absurd c_67 (by decide)
            · have hmm := isMac_in (S := S) (m := m) (by simpa [isMacB] using c_12) (by omega)
              have hg9 := hw2 m hmm.1 hmm.2
              refine V_weak (I2 := MI cC cI h0 mo Pm (uG S 31 0)) (fun h q => by simpa [thS, uG_uG] using q) ?_
              refine V_aload0 (pc' := 71) C dX8_grant_70 rfl ?_
              refine V_aload0 (pc' := 72) C dX8_grant_71 rfl ?_
              refine mGetA (pc' := 75) 9 C hin (by decide) (by decide +kernel) dX8_grant_72 rfl ?_
              refine V_iload1 (pc' := 76) C dX8_grant_75 rfl ?_
              refine mLd (pc' := 77) (n := 6) 9 C (by decide) rfl (by first | omega | (simp [uA, uG, thS] <;> omega)) dX8_grant_76 rfl ?_
              refine V_iconst (pc' := 78) C dX8_grant_77 rfl ?_
              refine V_icmpne (tgt := 85) C (by first | omega | (simp [uA, uG, thS] <;> omega)) dX8_grant_78 (by decide) rfl (fun c_78 => ?_) (fun c_78 => ?_)
              · refine V_iconst (pc' := 86) C dX8_grant_85 rfl ?_
                refine V_iconst (pc' := 87) C dX8_grant_86 rfl ?_
                refine mCallF2 (pc' := 90) C (kX8_isThrown false _ ) gX8_grant_X8_isThrown rfl ydX8_isThrown ⟨Nat.le_of_ble_eq_true rfl, Nat.le_of_ble_eq_true rfl⟩ ⟨rfl, rfl⟩ (Nat.le_of_ble_eq_true rfl) dX8_grant_87 ⟨Nat.zero_le _, Nat.zero_le _⟩ rfl ?_
                refine V_ifeqB (tgt := 95) C dX8_grant_90 (by decide) rfl (fun c_90 => ?_) (fun c_90 => ?_)
                · have hc9 : ¬ S.1 9 m = 4 := c_78
                  have hx := atI_in (c := c) (r := r) (by simpa using c_20)
                  have hy := atI_in (c := lc) (r := lr) (by simpa using c_30)
                  refine V_weak (I2 := MI cC cI h0 mo Pm (uG S 31 0)) (fun h q => by simpa [thS, uG_uG] using q) ?_
                  refine V_aload0 (pc' := 96) C dX8_grant_95 rfl ?_
                  refine mGetA (pc' := 99) 10 C hin (by decide) (by decide +kernel) dX8_grant_96 rfl ?_
                  refine V_iconst (pc' := 100) C dX8_grant_99 rfl ?_
                  refine V_iload1 (pc' := 101) C dX8_grant_100 rfl ?_
                  refine V_imul (pc' := 102) C dX8_grant_101 rfl ?_
                  refine V_aload0 (pc' := 103) C dX8_grant_102 rfl ?_
                  refine mGetA (pc' := 106) 9 C hin (by decide) (by decide +kernel) dX8_grant_103 rfl ?_
                  refine V_iload1 (pc' := 107) C dX8_grant_106 rfl ?_
                  refine mLd (pc' := 108) (n := 6) 9 C (by decide) rfl (by first | omega | (simp [uA, uG, thS] <;> omega)) dX8_grant_107 rfl ?_
                  refine V_iadd (pc' := 109) C dX8_grant_108 rfl ?_
                  refine V_iload2 (pc' := 110) C dX8_grant_109 rfl ?_
                  refine V_iload3 (pc' := 111) C dX8_grant_110 rfl ?_
                  refine sCall2 (pc' := 114) C (kX8_at _ _ ) gX8_grant_X8_at rfl ydX8_at ⟨Nat.le_of_ble_eq_true rfl, Nat.le_of_ble_eq_true rfl⟩ ⟨rfl, rfl⟩ (Nat.le_of_ble_eq_true rfl) dX8_grant_111 ⟨Nat.zero_le _, Nat.zero_le _⟩ rfl ?_
                  refine mSt (pc' := 115) (n := 24) 10 C (by decide) rfl (by first | omega | (simp [uA, uG, thS] <;> omega)) dX8_grant_114 rfl ?_
                  refine V_aload0 (pc' := 116) C dX8_grant_115 rfl ?_
                  refine mGetA (pc' := 119) 11 C hin (by decide) (by decide +kernel) dX8_grant_116 rfl ?_
                  refine V_iconst (pc' := 120) C dX8_grant_119 rfl ?_
                  refine V_iload1 (pc' := 121) C dX8_grant_120 rfl ?_
                  refine V_imul (pc' := 122) C dX8_grant_121 rfl ?_
                  refine V_aload0 (pc' := 123) C dX8_grant_122 rfl ?_
                  refine mGetA (pc' := 126) 9 C hin (by decide) (by decide +kernel) dX8_grant_123 rfl ?_
                  refine V_iload1 (pc' := 127) C dX8_grant_126 rfl ?_
                  refine mLd (pc' := 128) (n := 6) 9 C (by decide) rfl (by first | omega | (simp [uA, uG, thS] <;> omega)) dX8_grant_127 rfl ?_
                  refine V_iadd (pc' := 129) C dX8_grant_128 rfl ?_
                  refine V_iload4 (pc' := 131) C dX8_grant_129 rfl ?_
                  refine V_iload5 (pc' := 133) C dX8_grant_131 rfl ?_
                  refine sCall2 (pc' := 136) C (kX8_at _ _ ) gX8_grant_X8_at rfl ydX8_at ⟨Nat.le_of_ble_eq_true rfl, Nat.le_of_ble_eq_true rfl⟩ ⟨rfl, rfl⟩ (Nat.le_of_ble_eq_true rfl) dX8_grant_133 ⟨Nat.zero_le _, Nat.zero_le _⟩ rfl ?_
                  refine mSt (pc' := 137) (n := 24) 11 C (by decide) rfl (by first | omega | (simp [uA, uG, thS] <;> omega)) dX8_grant_136 rfl ?_
                  refine V_aload0 (pc' := 138) C dX8_grant_137 rfl ?_
                  refine mGetA (pc' := 141) 9 C hin (by decide) (by decide +kernel) dX8_grant_138 rfl ?_
                  refine V_iload1 (pc' := 142) C dX8_grant_141 rfl ?_
                  refine V_dup2 (pc' := 143) C rfl rfl dX8_grant_142 rfl ?_
                  refine mLd (pc' := 144) (n := 6) 9 C (by decide) rfl (by first | omega | (simp [uA, uG, thS] <;> omega)) dX8_grant_143 rfl ?_
                  refine V_iconst (pc' := 145) C dX8_grant_144 rfl ?_
                  refine V_iadd (pc' := 146) C dX8_grant_145 rfl ?_
                  refine mSt (pc' := 147) (n := 6) 9 C (by decide) rfl (by first | omega | (simp [uA, uG, thS] <;> omega)) dX8_grant_146 rfl ?_
                  refine V_aload0 (pc' := 148) C dX8_grant_147 rfl ?_
                  refine mGetA (pc' := 151) 9 C hin (by decide) (by decide +kernel) dX8_grant_148 rfl ?_
                  refine V_iload1 (pc' := 152) C dX8_grant_151 rfl ?_
                  refine mLd (pc' := 153) (n := 6) 9 C (by decide) rfl (by first | omega | (simp [uA, uG, thS] <;> omega)) dX8_grant_152 rfl ?_
                  exact mEnd C hr hlk ⟨Nat.le_refl _, Nat.le_refl _⟩ dX8_grant_153 (by simp_all [grantX, isMacB, thS, uG_uG, uG_n, uG_1, uA_2, uA_n, uA_s, upZ_s])
                · exact absurd c_90 (by decide)
              · refine V_iconst (pc' := 82) C dX8_grant_81 rfl ?_
                refine V_goto (tgt := 86) C dX8_grant_82 (by decide) ?_
                refine V_iconst (pc' := 87) C dX8_grant_86 rfl ?_
                refine mCallF2 (pc' := 90) C (kX8_isThrown true _ ) gX8_grant_X8_isThrown rfl ydX8_isThrown ⟨Nat.le_of_ble_eq_true rfl, Nat.le_of_ble_eq_true rfl⟩ ⟨rfl, rfl⟩ (Nat.le_of_ble_eq_true rfl) dX8_grant_87 ⟨Nat.zero_le _, Nat.zero_le _⟩ rfl ?_
                refine V_ifeqB (tgt := 95) C dX8_grant_90 (by decide) rfl (fun c_90 => ?_) (fun c_90 => ?_)
                · exact absurd c_90 (by decide)
                · refine V_iconst (pc' := 94) C dX8_grant_93 rfl ?_
                  exact mEnd C hr hlk ⟨Nat.le_refl _, Nat.le_refl _⟩ dX8_grant_94 (by simp_all [grantX, isMacB, thS, uG_uG, uG_n, uG_1])
          · refine V_iconst (pc' := 59) C dX8_grant_58 rfl ?_
            refine V_goto (tgt := 63) C dX8_grant_59 (by decide) ?_
            refine V_iconst (pc' := 64) C dX8_grant_63 rfl ?_
            refine mCallF2 (pc' := 67) C (kX8_isThrown true _ ) gX8_grant_X8_isThrown rfl ydX8_isThrown ⟨Nat.le_of_ble_eq_true rfl, Nat.le_of_ble_eq_true rfl⟩ ⟨rfl, rfl⟩ (Nat.le_of_ble_eq_true rfl) dX8_grant_64 ⟨Nat.zero_le _, Nat.zero_le _⟩ rfl ?_
            refine V_ifneB (tgt := 93) C dX8_grant_67 (by decide) rfl (fun c_67 => ?_) (fun c_67 => ?_)
            · refine V_iconst (pc' := 94) C dX8_grant_93 rfl ?_
              exact mEnd C hr hlk ⟨Nat.le_refl _, Nat.le_refl _⟩ dX8_grant_94 (by simp_all [grantX, isMacB, thS, uG_uG, uG_n, uG_1])
            · exact absurd c_67 (by decide)
      · refine V_iconst (pc' := 34) C dX8_grant_33 rfl ?_
        refine V_goto (tgt := 38) C dX8_grant_34 (by decide) ?_
        refine V_iconst (pc' := 39) C dX8_grant_38 rfl ?_
        refine mCallF2 (pc' := 42) C (kX8_isThrown true _ ) gX8_grant_X8_isThrown rfl ydX8_isThrown ⟨Nat.le_of_ble_eq_true rfl, Nat.le_of_ble_eq_true rfl⟩ ⟨rfl, rfl⟩ (Nat.le_of_ble_eq_true rfl) dX8_grant_39 ⟨Nat.zero_le _, Nat.zero_le _⟩ rfl ?_
        refine V_ifneB (tgt := 93) C dX8_grant_42 (by decide) rfl (fun c_42 => ?_) (fun c_42 => ?_)
        · refine V_iconst (pc' := 94) C dX8_grant_93 rfl ?_
          exact mEnd C hr hlk ⟨Nat.le_refl _, Nat.le_refl _⟩ dX8_grant_94 (by simp_all [grantX, isMacB, thS, uG_uG, uG_n, uG_1])
        · exact absurd c_42 (by decide)
set_option maxHeartbeats 4000000 in
set_option maxRecDepth 100000 in
theorem kX8_takeGrants (m : Int) (hmw : MW S b) (r0 : rI m) : Mf l D cB cC cI cO cJ cD ee yX8_takeGrants wsX8_takeGrants ({ frames := 2, cells := 0, slots := 0, locals := 43 } : Room) mo Pm [.int (iI m)] S ((takeX S m).1, (takeX S m).2) := by
  refine Ct_of (cc := cX8_takeGrants) (own := RX8) [some (.ref mo), some (.int (iI m)), none] (by decide) rfl rfl (Nat.le_of_ble_eq_true rfl) (fun i9 v9 h9 => argL (.ref mo :: [.int (iI m)]) 1 rfl i9 v9 h9) ?_
  intro p e s m9 args below meth c9 h0 sz hI C hr hlk hinit
  have hin : ∀ w ∈ wsX80, w ∈ wsX8_takeGrants := by decide +kernel
  refine V_weak (I2 := MI cC cI h0 mo Pm S) (fun x hx => by subst hx; exact ⟨hI, Fr.refl⟩) ?_
  obtain ⟨hwp, hwl, hwh, hwr, hws, hwt⟩ := id hmw
  obtain ⟨hw1, hw2, hw3, hw4, hw5, hw6⟩ := id hwp
  refine V_aload0 (pc' := 1) C dX8_takeGrants_0 rfl ?_
  refine V_iload1 (pc' := 2) C dX8_takeGrants_1 rfl ?_
  refine mCallF1 (pc' := 5) C (kX8_isNoMacro _ (by omega) (by omega)) gX8_takeGrants_X8_isNoMacro rfl ydX8_isNoMacro ⟨Nat.le_of_ble_eq_true rfl, Nat.le_of_ble_eq_true rfl⟩ ⟨rfl, rfl⟩ (Nat.le_of_ble_eq_true rfl) dX8_takeGrants_2 ⟨Nat.zero_le _, Nat.zero_le _⟩ rfl ?_
  refine V_ifeqB (tgt := 10) C dX8_takeGrants_5 (by decide) rfl (fun c_5 => ?_) (fun c_5 => ?_)
  · have hmm := isMac_in (S := S) (m := m) (by simpa [isMacB] using c_5) (by omega)
    refine V_aload0 (pc' := 11) C dX8_takeGrants_10 rfl ?_
    refine mGetA (pc' := 14) 9 C hin (by decide) (by decide +kernel) dX8_takeGrants_11 rfl ?_
    refine V_iload1 (pc' := 15) C dX8_takeGrants_14 rfl ?_
    refine mLd (pc' := 16) (n := 6) 9 C (by decide) rfl (by first | omega | (simp [uA, uG, thS] <;> omega)) dX8_takeGrants_15 rfl ?_
    refine V_istore2 (pc' := 17) C dX8_takeGrants_16 rfl (by decide) rfl ?_
    refine V_aload0 (pc' := 18) C dX8_takeGrants_17 rfl ?_
    refine mGetA (pc' := 21) 9 C hin (by decide) (by decide +kernel) dX8_takeGrants_18 rfl ?_
    refine V_iload1 (pc' := 22) C dX8_takeGrants_21 rfl ?_
    refine V_iconst (pc' := 23) C dX8_takeGrants_22 rfl ?_
    refine mSt (pc' := 24) (n := 6) 9 C (by decide) rfl (by first | omega | (simp [uA, uG, thS] <;> omega)) dX8_takeGrants_23 rfl ?_
    refine V_iload2 (pc' := 25) C dX8_takeGrants_24 rfl ?_
    exact mEnd C hr hlk ⟨Nat.le_refl _, Nat.le_refl _⟩ dX8_takeGrants_25 (by simp_all [takeX, isMacB, thS, uG_1, uG_n])
  · refine V_iconst (pc' := 9) C dX8_takeGrants_8 rfl ?_
    exact mEnd C hr hlk ⟨Nat.le_refl _, Nat.le_refl _⟩ dX8_takeGrants_9 (by simp_all [takeX, isMacB, thS, uG_1, uG_n])
set_option maxHeartbeats 4000000 in
set_option maxRecDepth 100000 in
theorem kX8_isNoRun (m : Int) (c : Int) (r : Int) (hmw : MW S b) (r0 : rI m) (r1 : rI c) (r2 : rI r) : Mf l D cB cC cI cO cJ cD ee yX8_isNoRun wsX8_isNoRun ({ frames := 2, cells := 0, slots := 0, locals := 43 } : Room) mo Pm [.int (iI m), .int (iI c), .int (iI r)] S (((bI (!(isMacB S m && isCellB c r)), thS S (!(isMacB S m && isCellB c r)) 1)).1, ((bI (!(isMacB S m && isCellB c r)), thS S (!(isMacB S m && isCellB c r)) 1)).2) := by
  refine Ct_of (cc := cX8_isNoRun) (own := RX8) [some (.ref mo), some (.int (iI m)), some (.int (iI c)), some (.int (iI r))] (by decide) rfl rfl (Nat.le_of_ble_eq_true rfl) (fun i9 v9 h9 => argL (.ref mo :: [.int (iI m), .int (iI c), .int (iI r)]) 0 rfl i9 v9 h9) ?_
  intro p e s m9 args below meth c9 h0 sz hI C hr hlk hinit
  have hin : ∀ w ∈ wsX80, w ∈ wsX8_isNoRun := by decide +kernel
  refine V_weak (I2 := MI cC cI h0 mo Pm S) (fun x hx => by subst hx; exact ⟨hI, Fr.refl⟩) ?_
  obtain ⟨hwp, hwl, hwh, hwr, hws, hwt⟩ := id hmw
  obtain ⟨hw1, hw2, hw3, hw4, hw5, hw6⟩ := id hwp
  refine V_aload0 (pc' := 1) C dX8_isNoRun_0 rfl ?_
  refine V_iload1 (pc' := 2) C dX8_isNoRun_1 rfl ?_
  refine V_iconst (pc' := 3) C dX8_isNoRun_2 rfl ?_
  refine V_aload0 (pc' := 4) C dX8_isNoRun_3 rfl ?_
  refine mGetI (pc' := 7) 22 C hin (by decide) (by decide +kernel) dX8_isNoRun_4 rfl ?_
  refine V_iconst (pc' := 8) C dX8_isNoRun_7 rfl ?_
  refine V_isub (pc' := 9) C dX8_isNoRun_8 rfl ?_
  refine sCall3 (pc' := 12) C (kX8_isIn _ _ _ (by omega) (by omega) (by omega)) gX8_isNoRun_X8_isIn rfl ydX8_isIn ⟨Nat.le_of_ble_eq_true rfl, Nat.le_of_ble_eq_true rfl⟩ ⟨rfl, rfl⟩ (Nat.le_of_ble_eq_true rfl) dX8_isNoRun_9 ⟨Nat.zero_le _, Nat.zero_le _⟩ rfl ?_
  refine V_ifeqB (tgt := 23) C dX8_isNoRun_12 (by decide) rfl (fun c_12 => ?_) (fun c_12 => ?_)
  · refine V_iconst (pc' := 24) C dX8_isNoRun_23 rfl ?_
    refine V_goto (tgt := 28) C dX8_isNoRun_24 (by decide) ?_
    refine V_iconst (pc' := 29) C dX8_isNoRun_28 rfl ?_
    refine mCallF2 (pc' := 32) C (kX8_isThrown true _ ) gX8_isNoRun_X8_isThrown rfl ydX8_isThrown ⟨Nat.le_of_ble_eq_true rfl, Nat.le_of_ble_eq_true rfl⟩ ⟨rfl, rfl⟩ (Nat.le_of_ble_eq_true rfl) dX8_isNoRun_29 ⟨Nat.zero_le _, Nat.zero_le _⟩ rfl ?_
    exact mEndz (b := true) C hr hlk ⟨Nat.le_refl _, Nat.le_refl _⟩ dX8_isNoRun_32 (by simp_all [isMacB])
  · refine V_iload2 (pc' := 16) C dX8_isNoRun_15 rfl ?_
    refine V_iload3 (pc' := 17) C dX8_isNoRun_16 rfl ?_
    refine sCall2 (pc' := 20) C (kX8_isCell _ _ (by omega) (by omega)) gX8_isNoRun_X8_isCell rfl ydX8_isCell ⟨Nat.le_of_ble_eq_true rfl, Nat.le_of_ble_eq_true rfl⟩ ⟨rfl, rfl⟩ (Nat.le_of_ble_eq_true rfl) dX8_isNoRun_17 ⟨Nat.zero_le _, Nat.zero_le _⟩ rfl ?_
    refine V_ifneB (tgt := 27) C dX8_isNoRun_20 (by decide) rfl (fun c_20 => ?_) (fun c_20 => ?_)
    · refine V_iconst (pc' := 28) C dX8_isNoRun_27 rfl ?_
      refine V_iconst (pc' := 29) C dX8_isNoRun_28 rfl ?_
      refine mCallF2 (pc' := 32) C (kX8_isThrown false _ ) gX8_isNoRun_X8_isThrown rfl ydX8_isThrown ⟨Nat.le_of_ble_eq_true rfl, Nat.le_of_ble_eq_true rfl⟩ ⟨rfl, rfl⟩ (Nat.le_of_ble_eq_true rfl) dX8_isNoRun_29 ⟨Nat.zero_le _, Nat.zero_le _⟩ rfl ?_
      exact mEndz (b := false) C hr hlk ⟨Nat.le_refl _, Nat.le_refl _⟩ dX8_isNoRun_32 (by simp_all [isMacB])
    · refine V_iconst (pc' := 24) C dX8_isNoRun_23 rfl ?_
      refine V_goto (tgt := 28) C dX8_isNoRun_24 (by decide) ?_
      refine V_iconst (pc' := 29) C dX8_isNoRun_28 rfl ?_
      refine mCallF2 (pc' := 32) C (kX8_isThrown true _ ) gX8_isNoRun_X8_isThrown rfl ydX8_isThrown ⟨Nat.le_of_ble_eq_true rfl, Nat.le_of_ble_eq_true rfl⟩ ⟨rfl, rfl⟩ (Nat.le_of_ble_eq_true rfl) dX8_isNoRun_29 ⟨Nat.zero_le _, Nat.zero_le _⟩ rfl ?_
      exact mEndz (b := true) C hr hlk ⟨Nat.le_refl _, Nat.le_refl _⟩ dX8_isNoRun_32 (by simp_all [isMacB])
set_option maxHeartbeats 4000000 in
set_option maxRecDepth 100000 in
theorem kX8_granted (c : Int) (r : Int) (hmw : MW S b) (r0 : rI c) (r1 : rI r) : Mf l D cB cC cI cO cJ cD ee yX8_granted wsX8_granted ({ frames := 3, cells := 0, slots := 0, locals := 68 } : Room) mo Pm [.int (iI c), .int (iI r)] S ((grantedX S c r).1, (grantedX S c r).2) := by
  refine Ct_of (cc := cX8_granted) (own := RX8) [some (.ref mo), some (.int (iI c)), some (.int (iI r)), none, none] (by decide) rfl rfl (Nat.le_of_ble_eq_true rfl) (fun i9 v9 h9 => argL (.ref mo :: [.int (iI c), .int (iI r)]) 2 rfl i9 v9 h9) ?_
  intro p e s m9 args below meth c9 h0 sz hI C hr hlk hinit
  have hin : ∀ w ∈ wsX80, w ∈ wsX8_granted := by decide +kernel
  refine V_weak (I2 := MI cC cI h0 mo Pm S) (fun x hx => by subst hx; exact ⟨hI, Fr.refl⟩) ?_
  obtain ⟨hwp, hwl, hwh, hwr, hws, hwt⟩ := id hmw
  obtain ⟨hw1, hw2, hw3, hw4, hw5, hw6⟩ := id hwp
  refine V_aload0 (pc' := 1) C dX8_granted_0 rfl ?_
  refine V_iload1 (pc' := 2) C dX8_granted_1 rfl ?_
  refine V_iload2 (pc' := 3) C dX8_granted_2 rfl ?_
  refine mCallF2 (pc' := 6) C (kX8_isNoCell _ _ (by omega) (by omega)) gX8_granted_X8_isNoCell rfl ydX8_isNoCell ⟨Nat.le_of_ble_eq_true rfl, Nat.le_of_ble_eq_true rfl⟩ ⟨rfl, rfl⟩ (Nat.le_of_ble_eq_true rfl) dX8_granted_3 ⟨Nat.zero_le _, Nat.zero_le _⟩ rfl ?_
  refine V_ifeqB (tgt := 11) C dX8_granted_6 (by decide) rfl (fun c_6 => ?_) (fun c_6 => ?_)
  · have hx := atI_in (c := c) (r := r) (by simpa using c_6)
    refine V_weak (I2 := MI cC cI h0 mo Pm (uG S 31 0)) (fun h q => by rw [c_6] at q; exact q) ?_
    refine V_iconst (pc' := 12) C dX8_granted_11 rfl ?_
    refine V_istore3 (pc' := 13) C dX8_granted_12 rfl (by decide) rfl ?_
    refine V_iconst (pc' := 14) C dX8_granted_13 rfl ?_
    refine V_istore4 (pc' := 16) C dX8_granted_14 rfl (by decide) rfl ?_
    refine V_for0 (N := (S.2 22).toNat) (fun j => MI cC cI h0 mo Pm (uG S 31 0)) (fun j => [some (.ref mo), some (.int (iI c)), some (.int (iI r)), some (.int (iI (gcN S (atI c r) j))), some (.int (iI j))]) (fun _ => True) trivial (fun h q => q) rfl (fun j hj hv hk => ?_) (fun hv => ?_)
    · have hg9 := hw2 j (by omega) (by omega)
      refine V_iload4 (pc' := 18) C dX8_granted_16 rfl ?_
      refine V_aload0 (pc' := 19) C dX8_granted_18 rfl ?_
      refine mGetI (pc' := 22) 22 C hin (by decide) (by decide +kernel) dX8_granted_19 rfl ?_
      refine V_icmpge (tgt := 53) C (by first | omega | (simp [uA, uG, thS] <;> omega)) dX8_granted_22 (by decide) rfl (fun c_22 => ?_) (fun c_22 => ?_)
      · exact absurd c_22 (by simp [uG]; omega)
      · refine V_iload3 (pc' := 26) C dX8_granted_25 rfl ?_
        refine V_aload0 (pc' := 27) C dX8_granted_26 rfl ?_
        refine V_iload4 (pc' := 29) C dX8_granted_27 rfl ?_
        refine V_iload1 (pc' := 30) C dX8_granted_29 rfl ?_
        refine V_iload2 (pc' := 31) C dX8_granted_30 rfl ?_
        refine sCall2 (pc' := 34) C (kX8_at _ _ ) gX8_granted_X8_at rfl ydX8_at ⟨Nat.le_of_ble_eq_true rfl, Nat.le_of_ble_eq_true rfl⟩ ⟨rfl, rfl⟩ (Nat.le_of_ble_eq_true rfl) dX8_granted_31 ⟨Nat.zero_le _, Nat.zero_le _⟩ rfl ?_
        refine mCallF2 (pc' := 37) C (kX8_isGranted _ _ (by omega) (by omega) ⟨hg9.2.2.1, hg9.2.2.2⟩ hw3) gX8_granted_X8_isGranted rfl ydX8_isGranted ⟨Nat.le_of_ble_eq_true rfl, Nat.le_of_ble_eq_true rfl⟩ ⟨rfl, rfl⟩ (Nat.le_of_ble_eq_true rfl) dX8_granted_34 ⟨Nat.zero_le _, Nat.zero_le _⟩ rfl ?_
        refine V_ifeqB (tgt := 44) C dX8_granted_37 (by decide) rfl (fun c_37 => ?_) (fun c_37 => ?_)
        · refine V_iconst (pc' := 45) C dX8_granted_44 rfl ?_
          refine V_iadd (pc' := 46) C dX8_granted_45 rfl ?_
          refine V_istore3 (pc' := 47) C dX8_granted_46 rfl (by decide) rfl ?_
          refine V_iinc4 (pc' := 50) C dX8_granted_47 rfl (by decide) rfl ?_
          refine V_goto (tgt := 16) C dX8_granted_50 (by decide) ?_
          exact V_conv (fun h q => q) (by simp_all [gcN, isGr_u]) (hk trivial)
        · refine V_iconst (pc' := 41) C dX8_granted_40 rfl ?_
          refine V_goto (tgt := 45) C dX8_granted_41 (by decide) ?_
          refine V_iadd (pc' := 46) C dX8_granted_45 rfl ?_
          refine V_istore3 (pc' := 47) C dX8_granted_46 rfl (by decide) rfl ?_
          refine V_iinc4 (pc' := 50) C dX8_granted_47 rfl (by decide) rfl ?_
          refine V_goto (tgt := 16) C dX8_granted_50 (by decide) ?_
          exact V_conv (fun h q => q) (by simp_all [gcN, isGr_u]) (hk trivial)
    · refine V_iload4 (pc' := 18) C dX8_granted_16 rfl ?_
      refine V_aload0 (pc' := 19) C dX8_granted_18 rfl ?_
      refine mGetI (pc' := 22) 22 C hin (by decide) (by decide +kernel) dX8_granted_19 rfl ?_
      refine V_icmpge (tgt := 53) C (by first | omega | (simp [uA, uG, thS] <;> omega)) dX8_granted_22 (by decide) rfl (fun c_22 => ?_) (fun c_22 => ?_)
      · refine V_iload3 (pc' := 54) C dX8_granted_53 rfl ?_
        exact mEnd C hr hlk ⟨Nat.le_refl _, Nat.le_refl _⟩ dX8_granted_54 (by unfold grantedX; rw [if_neg (by simp_all)])
      · exact absurd c_22 (by simp [uG]; omega)
  · refine V_iconst (pc' := 10) C dX8_granted_9 rfl ?_
    exact mEnd C hr hlk ⟨Nat.le_refl _, Nat.le_refl _⟩ dX8_granted_10 (by simp_all [grantedX, thS])
set_option maxHeartbeats 4000000 in
set_option maxRecDepth 100000 in
theorem kX8_reason (m : Int) (c : Int) (r : Int) (hmw : MW S b) (r0 : rI m) (r1 : rI c) (r2 : rI r) : Mf l D cB cC cI cO cJ cD ee yX8_reason wsX8_reason ({ frames := 4, cells := 0, slots := 0, locals := 92 } : Room) mo Pm [.int (iI m), .int (iI c), .int (iI r)] S ((reasonX S m c r).1, (reasonX S m c r).2) := by
  refine Ct_of (cc := cX8_reason) (own := RX8) [some (.ref mo), some (.int (iI m)), some (.int (iI c)), some (.int (iI r))] (by decide) rfl rfl (Nat.le_of_ble_eq_true rfl) (fun i9 v9 h9 => argL (.ref mo :: [.int (iI m), .int (iI c), .int (iI r)]) 0 rfl i9 v9 h9) ?_
  intro p e s m9 args below meth c9 h0 sz hI C hr hlk hinit
  have hin : ∀ w ∈ wsX80, w ∈ wsX8_reason := by decide +kernel
  refine V_weak (I2 := MI cC cI h0 mo Pm S) (fun x hx => by subst hx; exact ⟨hI, Fr.refl⟩) ?_
  obtain ⟨hwp, hwl, hwh, hwr, hws, hwt⟩ := id hmw
  obtain ⟨hw1, hw2, hw3, hw4, hw5, hw6⟩ := id hwp
  refine V_aload0 (pc' := 1) C dX8_reason_0 rfl ?_
  refine V_iload1 (pc' := 2) C dX8_reason_1 rfl ?_
  refine V_iload2 (pc' := 3) C dX8_reason_2 rfl ?_
  refine V_iload3 (pc' := 4) C dX8_reason_3 rfl ?_
  refine mCallF3 (pc' := 7) C (kX8_isNoRun _ _ _ (by omega) (by omega) (by omega) (by omega)) gX8_reason_X8_isNoRun rfl ydX8_isNoRun ⟨Nat.le_of_ble_eq_true rfl, Nat.le_of_ble_eq_true rfl⟩ ⟨rfl, rfl⟩ (Nat.le_of_ble_eq_true rfl) dX8_reason_4 ⟨Nat.zero_le _, Nat.zero_le _⟩ rfl ?_
  refine V_ifeqB (tgt := 15) C dX8_reason_7 (by decide) rfl (fun c_7 => ?_) (fun c_7 => ?_)
  · have hk9 : isMacB S m = true ∧ isCellB c r = true := by simpa using c_7
    have hx := atI_in hk9.2
    have hmm := isMac_in hk9.1 (by omega)
    refine V_weak (I2 := MI cC cI h0 mo Pm (uG S 31 0)) (fun h q => by rw [c_7] at q; exact q) ?_
    have ry := whyS_ans (uG S 31 0) m (atI c r)
    refine V_aload0 (pc' := 16) C dX8_reason_15 rfl ?_
    refine V_iload1 (pc' := 17) C dX8_reason_16 rfl ?_
    refine V_iload2 (pc' := 18) C dX8_reason_17 rfl ?_
    refine V_iload3 (pc' := 19) C dX8_reason_18 rfl ?_
    refine sCall2 (pc' := 22) C (kX8_at _ _ ) gX8_reason_X8_at rfl ydX8_at ⟨Nat.le_of_ble_eq_true rfl, Nat.le_of_ble_eq_true rfl⟩ ⟨rfl, rfl⟩ (Nat.le_of_ble_eq_true rfl) dX8_reason_19 ⟨Nat.zero_le _, Nat.zero_le _⟩ rfl ?_
    refine mCallF2 (pc' := 25) C (kX8_why _ _ (by omega) (by omega) (WFp_u hwp)) gX8_reason_X8_why rfl ydX8_why ⟨Nat.le_of_ble_eq_true rfl, Nat.le_of_ble_eq_true rfl⟩ ⟨rfl, rfl⟩ (Nat.le_of_ble_eq_true rfl) dX8_reason_22 ⟨Nat.zero_le _, Nat.zero_le _⟩ rfl ?_
    exact mEndc C hr hlk ⟨Nat.le_refl _, Nat.le_refl _⟩ dX8_reason_25 (by omega) (by first | (unfold reasonX; rw [if_neg (by simp_all)]; done) | (unfold reasonX; rw [if_pos (by cases h1 : isMacB S m <;> cases h2 : isCellB c r <;> simp_all)]; simp_all [thS]))
  · refine V_bipush (pc' := 12) C dX8_reason_10 rfl (by decide) ?_
    refine V_goto (tgt := 25) C dX8_reason_12 (by decide) ?_
    exact mEndc C hr hlk ⟨Nat.le_refl _, Nat.le_refl _⟩ dX8_reason_25 (by omega) (by first | (unfold reasonX; rw [if_neg (by simp_all)]; done) | (unfold reasonX; rw [if_pos (by cases h1 : isMacB S m <;> cases h2 : isCellB c r <;> simp_all)]; simp_all [thS]))
set_option maxHeartbeats 4000000 in
set_option maxRecDepth 100000 in
theorem kX8_setRank (q : Int) (k : Int) (hmw : MW S b) (r0 : rI q) (r1 : rI k) : Mf l D cB cC cI cO cJ cD ee yX8_setRank wsX8_setRank ({ frames := 1, cells := 0, slots := 0, locals := 22 } : Room) mo Pm [.int (iI q), .int (iI k)] S ((setRankX S q k).1, (setRankX S q k).2) := by
  refine Ct_of (cc := cX8_setRank) (own := RX8) [some (.ref mo), some (.int (iI q)), some (.int (iI k)), none] (by decide) rfl rfl (Nat.le_of_ble_eq_true rfl) (fun i9 v9 h9 => argL (.ref mo :: [.int (iI q), .int (iI k)]) 1 rfl i9 v9 h9) ?_
  intro p e s m9 args below meth c9 h0 sz hI C hr hlk hinit
  have hin : ∀ w ∈ wsX80, w ∈ wsX8_setRank := by decide +kernel
  refine V_weak (I2 := MI cC cI h0 mo Pm S) (fun x hx => by subst hx; exact ⟨hI, Fr.refl⟩) ?_
  obtain ⟨hwp, hwl, hwh, hwr, hws, hwt⟩ := id hmw
  obtain ⟨hw1, hw2, hw3, hw4, hw5, hw6⟩ := id hwp
  refine V_aload0 (pc' := 1) C dX8_setRank_0 rfl ?_
  refine V_iload1 (pc' := 2) C dX8_setRank_1 rfl ?_
  refine V_iconst (pc' := 3) C dX8_setRank_2 rfl ?_
  refine V_aload0 (pc' := 4) C dX8_setRank_3 rfl ?_
  refine mGetI (pc' := 7) 23 C hin (by decide) (by decide +kernel) dX8_setRank_4 rfl ?_
  refine V_iconst (pc' := 8) C dX8_setRank_7 rfl ?_
  refine V_isub (pc' := 9) C dX8_setRank_8 rfl ?_
  refine sCall3 (pc' := 12) C (kX8_isIn _ _ _ (by omega) (by omega) (by omega)) gX8_setRank_X8_isIn rfl ydX8_isIn ⟨Nat.le_of_ble_eq_true rfl, Nat.le_of_ble_eq_true rfl⟩ ⟨rfl, rfl⟩ (Nat.le_of_ble_eq_true rfl) dX8_setRank_9 ⟨Nat.zero_le _, Nat.zero_le _⟩ rfl ?_
  refine V_ifneB (tgt := 19) C dX8_setRank_12 (by decide) rfl (fun c_12 => ?_) (fun c_12 => ?_)
  · refine V_iconst (pc' := 20) C dX8_setRank_19 rfl ?_
    refine V_iconst (pc' := 21) C dX8_setRank_20 rfl ?_
    refine mCallF2 (pc' := 24) C (kX8_isThrown false _ ) gX8_setRank_X8_isThrown rfl ydX8_isThrown ⟨Nat.le_of_ble_eq_true rfl, Nat.le_of_ble_eq_true rfl⟩ ⟨rfl, rfl⟩ (Nat.le_of_ble_eq_true rfl) dX8_setRank_21 ⟨Nat.zero_le _, Nat.zero_le _⟩ rfl ?_
    refine V_ifneB (tgt := 50) C dX8_setRank_24 (by decide) rfl (fun c_24 => ?_) (fun c_24 => ?_)
    · exact absurd c_24 (by decide)
    · refine V_weak (I2 := MI cC cI h0 mo Pm (uG S 31 0)) (fun h q => by simpa [thS, uG_uG] using q) ?_
      refine V_aload0 (pc' := 28) C dX8_setRank_27 rfl ?_
      refine V_iload2 (pc' := 29) C dX8_setRank_28 rfl ?_
      refine V_iconst (pc' := 30) C dX8_setRank_29 rfl ?_
      refine V_bipush (pc' := 32) C dX8_setRank_30 rfl (by decide) ?_
      refine sCall3 (pc' := 35) C (kX8_isIn _ _ _ (by omega) (by omega) (by omega)) gX8_setRank_X8_isIn rfl ydX8_isIn ⟨Nat.le_of_ble_eq_true rfl, Nat.le_of_ble_eq_true rfl⟩ ⟨rfl, rfl⟩ (Nat.le_of_ble_eq_true rfl) dX8_setRank_32 ⟨Nat.zero_le _, Nat.zero_le _⟩ rfl ?_
      refine V_ifneB (tgt := 42) C dX8_setRank_35 (by decide) rfl (fun c_35 => ?_) (fun c_35 => ?_)
      · refine V_iconst (pc' := 43) C dX8_setRank_42 rfl ?_
        refine V_iconst (pc' := 44) C dX8_setRank_43 rfl ?_
        refine mCallF2 (pc' := 47) C (kX8_isThrown false _ ) gX8_setRank_X8_isThrown rfl ydX8_isThrown ⟨Nat.le_of_ble_eq_true rfl, Nat.le_of_ble_eq_true rfl⟩ ⟨rfl, rfl⟩ (Nat.le_of_ble_eq_true rfl) dX8_setRank_44 ⟨Nat.zero_le _, Nat.zero_le _⟩ rfl ?_
        refine V_ifeqB (tgt := 52) C dX8_setRank_47 (by decide) rfl (fun c_47 => ?_) (fun c_47 => ?_)
        · have hq9 : 0 ≤ q ∧ q ≤ S.2 23 - 1 := by simpa [isInB] using c_12
          refine V_weak (I2 := MI cC cI h0 mo Pm (uG S 31 0)) (fun h q => by simpa [thS, uG_uG] using q) ?_
          refine V_aload0 (pc' := 53) C dX8_setRank_52 rfl ?_
          refine mGetA (pc' := 56) 15 C hin (by decide) (by decide +kernel) dX8_setRank_53 rfl ?_
          refine V_iload1 (pc' := 57) C dX8_setRank_56 rfl ?_
          refine mLd (pc' := 58) (n := 6) 15 C (by decide) rfl (by first | omega | (simp [uA, uG, thS] <;> omega)) dX8_setRank_57 rfl ?_
          refine V_istore3 (pc' := 59) C dX8_setRank_58 rfl (by decide) rfl ?_
          refine V_aload0 (pc' := 60) C dX8_setRank_59 rfl ?_
          refine mGetA (pc' := 63) 15 C hin (by decide) (by decide +kernel) dX8_setRank_60 rfl ?_
          refine V_iload1 (pc' := 64) C dX8_setRank_63 rfl ?_
          refine V_iload2 (pc' := 65) C dX8_setRank_64 rfl ?_
          refine mSt (pc' := 66) (n := 6) 15 C (by decide) rfl (by first | omega | (simp [uA, uG, thS] <;> omega)) dX8_setRank_65 rfl ?_
          refine V_iload3 (pc' := 67) C dX8_setRank_66 rfl ?_
          exact mEnd C hr hlk ⟨Nat.le_refl _, Nat.le_refl _⟩ dX8_setRank_67 (by unfold setRankX; rw [if_neg (by simp_all), if_neg (by simp_all)]; rfl)
        · exact absurd c_47 (by decide)
      · refine V_iconst (pc' := 39) C dX8_setRank_38 rfl ?_
        refine V_goto (tgt := 43) C dX8_setRank_39 (by decide) ?_
        refine V_iconst (pc' := 44) C dX8_setRank_43 rfl ?_
        refine mCallF2 (pc' := 47) C (kX8_isThrown true _ ) gX8_setRank_X8_isThrown rfl ydX8_isThrown ⟨Nat.le_of_ble_eq_true rfl, Nat.le_of_ble_eq_true rfl⟩ ⟨rfl, rfl⟩ (Nat.le_of_ble_eq_true rfl) dX8_setRank_44 ⟨Nat.zero_le _, Nat.zero_le _⟩ rfl ?_
        refine V_ifeqB (tgt := 52) C dX8_setRank_47 (by decide) rfl (fun c_47 => ?_) (fun c_47 => ?_)
        · exact absurd c_47 (by decide)
        · refine V_iconst (pc' := 51) C dX8_setRank_50 rfl ?_
          exact mEnd C hr hlk ⟨Nat.le_refl _, Nat.le_refl _⟩ dX8_setRank_51 (by simp_all [setRankX, thS, uG_uG])
  · refine V_iconst (pc' := 16) C dX8_setRank_15 rfl ?_
    refine V_goto (tgt := 20) C dX8_setRank_16 (by decide) ?_
    refine V_iconst (pc' := 21) C dX8_setRank_20 rfl ?_
    refine mCallF2 (pc' := 24) C (kX8_isThrown true _ ) gX8_setRank_X8_isThrown rfl ydX8_isThrown ⟨Nat.le_of_ble_eq_true rfl, Nat.le_of_ble_eq_true rfl⟩ ⟨rfl, rfl⟩ (Nat.le_of_ble_eq_true rfl) dX8_setRank_21 ⟨Nat.zero_le _, Nat.zero_le _⟩ rfl ?_
    refine V_ifneB (tgt := 50) C dX8_setRank_24 (by decide) rfl (fun c_24 => ?_) (fun c_24 => ?_)
    · refine V_iconst (pc' := 51) C dX8_setRank_50 rfl ?_
      exact mEnd C hr hlk ⟨Nat.le_refl _, Nat.le_refl _⟩ dX8_setRank_51 (by simp_all [setRankX, thS, uG_uG])
    · exact absurd c_24 (by decide)
set_option maxHeartbeats 4000000 in
set_option maxRecDepth 100000 in
theorem kX8_rule (c : Int) (r : Int) (hmw : MW S b) (r0 : rI c) (r1 : rI r) : Mf l D cB cC cI cO cJ cD ee yX8_rule wsX8_rule ({ frames := 3, cells := 0, slots := 0, locals := 67 } : Room) mo Pm [.int (iI c), .int (iI r)] S ((ruleX S c r).1, (ruleX S c r).2) := by
  refine Ct_of (cc := cX8_rule) (own := RX8) [some (.ref mo), some (.int (iI c)), some (.int (iI r)), none] (by decide) rfl rfl (Nat.le_of_ble_eq_true rfl) (fun i9 v9 h9 => argL (.ref mo :: [.int (iI c), .int (iI r)]) 1 rfl i9 v9 h9) ?_
  intro p e s m9 args below meth c9 h0 sz hI C hr hlk hinit
  have hin : ∀ w ∈ wsX80, w ∈ wsX8_rule := by decide +kernel
  refine V_weak (I2 := MI cC cI h0 mo Pm S) (fun x hx => by subst hx; exact ⟨hI, Fr.refl⟩) ?_
  obtain ⟨hwp, hwl, hwh, hwr, hws, hwt⟩ := id hmw
  obtain ⟨hw1, hw2, hw3, hw4, hw5, hw6⟩ := id hwp
  refine V_aload0 (pc' := 1) C dX8_rule_0 rfl ?_
  refine V_iload1 (pc' := 2) C dX8_rule_1 rfl ?_
  refine V_iload2 (pc' := 3) C dX8_rule_2 rfl ?_
  refine mCallF2 (pc' := 6) C (kX8_isNoCell _ _ (by omega) (by omega)) gX8_rule_X8_isNoCell rfl ydX8_isNoCell ⟨Nat.le_of_ble_eq_true rfl, Nat.le_of_ble_eq_true rfl⟩ ⟨rfl, rfl⟩ (Nat.le_of_ble_eq_true rfl) dX8_rule_3 ⟨Nat.zero_le _, Nat.zero_le _⟩ rfl ?_
  refine V_ifeqB (tgt := 11) C dX8_rule_6 (by decide) rfl (fun c_6 => ?_) (fun c_6 => ?_)
  · have hx := atI_in (c := c) (r := r) (by simpa using c_6)
    refine V_weak (I2 := MI cC cI h0 mo Pm (uG S 31 0)) (fun h q => by rw [c_6] at q; exact q) ?_
    have rq := ruledI_in (S := S) (x := atI c r) ⟨by omega, by omega⟩
    refine V_aload0 (pc' := 12) C dX8_rule_11 rfl ?_
    refine V_iload1 (pc' := 13) C dX8_rule_12 rfl ?_
    refine V_iload2 (pc' := 14) C dX8_rule_13 rfl ?_
    refine sCall2 (pc' := 17) C (kX8_at _ _ ) gX8_rule_X8_at rfl ydX8_at ⟨Nat.le_of_ble_eq_true rfl, Nat.le_of_ble_eq_true rfl⟩ ⟨rfl, rfl⟩ (Nat.le_of_ble_eq_true rfl) dX8_rule_14 ⟨Nat.zero_le _, Nat.zero_le _⟩ rfl ?_
    refine mCallF1 (pc' := 20) C (kX8_ruled _ (by omega) ⟨hw5.2.2.1, hw5.2.2.2.1⟩ (fun g h9 h10 => by have := hw4 g h9 h10; show 0 ≤ S.1 12 g ∧ S.1 12 g < 48 ∧ 0 ≤ S.1 13 g ∧ S.1 13 g < 48 ∧ 0 ≤ S.1 15 g ∧ S.1 15 g ≤ 9; omega)) gX8_rule_X8_ruled rfl ydX8_ruled ⟨Nat.le_of_ble_eq_true rfl, Nat.le_of_ble_eq_true rfl⟩ ⟨rfl, rfl⟩ (Nat.le_of_ble_eq_true rfl) dX8_rule_17 ⟨Nat.zero_le _, Nat.zero_le _⟩ rfl ?_
    refine V_eq (st2 := [Value.int (iI (ruledI S (atI c r)))]) (by rw [ruledI_u]) ?_
    refine V_istore3 (pc' := 21) C dX8_rule_20 rfl (by decide) rfl ?_
    refine V_aload0 (pc' := 22) C dX8_rule_21 rfl ?_
    refine V_iload3 (pc' := 23) C dX8_rule_22 rfl ?_
    refine V_ifge (tgt := 30) C (by first | omega | (simp [uA, uG, thS] <;> omega)) dX8_rule_23 (by decide) rfl (fun c_23 => ?_) (fun c_23 => ?_)
    · refine V_iconst (pc' := 31) C dX8_rule_30 rfl ?_
      refine V_iconst (pc' := 32) C dX8_rule_31 rfl ?_
      refine mCallF2 (pc' := 35) C (kX8_isThrown false _ ) gX8_rule_X8_isThrown rfl ydX8_isThrown ⟨Nat.le_of_ble_eq_true rfl, Nat.le_of_ble_eq_true rfl⟩ ⟨rfl, rfl⟩ (Nat.le_of_ble_eq_true rfl) dX8_rule_32 ⟨Nat.zero_le _, Nat.zero_le _⟩ rfl ?_
      refine V_ifeqB (tgt := 42) C dX8_rule_35 (by decide) rfl (fun c_35 => ?_) (fun c_35 => ?_)
      · refine V_iload3 (pc' := 43) C dX8_rule_42 rfl ?_
        exact mEnd C hr hlk ⟨Nat.le_refl _, Nat.le_refl _⟩ dX8_rule_43 (by first | (have h9 : ruledI S (atI c r) < 0 := (by omega); unfold ruleX; rw [if_neg (by simp_all), if_pos h9]; simp [thS, uG_uG]; done) | (have h9 : ¬ ruledI S (atI c r) < 0 := (by omega); unfold ruleX; rw [if_neg (by simp_all), if_neg h9]; simp [thS, uG_uG]; done))
      · exact absurd c_35 (by decide)
    · refine V_iconst (pc' := 27) C dX8_rule_26 rfl ?_
      refine V_goto (tgt := 31) C dX8_rule_27 (by decide) ?_
      refine V_iconst (pc' := 32) C dX8_rule_31 rfl ?_
      refine mCallF2 (pc' := 35) C (kX8_isThrown true _ ) gX8_rule_X8_isThrown rfl ydX8_isThrown ⟨Nat.le_of_ble_eq_true rfl, Nat.le_of_ble_eq_true rfl⟩ ⟨rfl, rfl⟩ (Nat.le_of_ble_eq_true rfl) dX8_rule_32 ⟨Nat.zero_le _, Nat.zero_le _⟩ rfl ?_
      refine V_ifeqB (tgt := 42) C dX8_rule_35 (by decide) rfl (fun c_35 => ?_) (fun c_35 => ?_)
      · exact absurd c_35 (by decide)
      · refine V_iconst (pc' := 39) C dX8_rule_38 rfl ?_
        refine V_goto (tgt := 43) C dX8_rule_39 (by decide) ?_
        exact mEnd C hr hlk ⟨Nat.le_refl _, Nat.le_refl _⟩ dX8_rule_43 (by first | (have h9 : ruledI S (atI c r) < 0 := (by omega); unfold ruleX; rw [if_neg (by simp_all), if_pos h9]; simp [thS, uG_uG]; done) | (have h9 : ¬ ruledI S (atI c r) < 0 := (by omega); unfold ruleX; rw [if_neg (by simp_all), if_neg h9]; simp [thS, uG_uG]; done))
  · refine V_iconst (pc' := 10) C dX8_rule_9 rfl ?_
    exact mEnd C hr hlk ⟨Nat.le_refl _, Nat.le_refl _⟩ dX8_rule_10 (by simp_all [ruleX, thS])
set_option maxHeartbeats 4000000 in
set_option maxRecDepth 100000 in
theorem kX8_all (w : Int) (hmw : MW S b) (r0 : rI w) (h1 : -1 ≤ w ∧ w < 6) : Mf l D cB cC cI cO cJ cD ee yX8_all wsX8_all ({ frames := 0, cells := 0, slots := 0, locals := 0 } : Room) mo Pm [.int (iI w)] S (allI S w, S) := by
  refine Ct_of (cc := cX8_all) (own := RX8) [some (.ref mo), some (.int (iI w)), none, none] (by decide) rfl rfl (Nat.le_of_ble_eq_true rfl) (fun i9 v9 h9 => argL (.ref mo :: [.int (iI w)]) 2 rfl i9 v9 h9) ?_
  intro p e s m9 args below meth c9 h0 sz hI C hr hlk hinit
  have hin : ∀ w ∈ wsX80, w ∈ wsX8_all := by decide +kernel
  refine V_weak (I2 := MI cC cI h0 mo Pm S) (fun x hx => by subst hx; exact ⟨hI, Fr.refl⟩) ?_
  obtain ⟨hwp, hwl, hwh, hwr, hws, hwt⟩ := id hmw
  obtain ⟨hw1, hw2, hw3, hw4, hw5, hw6⟩ := id hwp
  refine V_aload0 (pc' := 1) C dX8_all_0 rfl ?_
  refine mGetA (pc' := 4) 3 C hin (by decide) (by decide +kernel) dX8_all_1 rfl ?_
  refine V_iload1 (pc' := 5) C dX8_all_4 rfl ?_
  refine V_iconst (pc' := 6) C dX8_all_5 rfl ?_
  refine V_iadd (pc' := 7) C dX8_all_6 rfl ?_
  refine mLd (pc' := 8) (n := 7) 3 C (by decide) rfl (by first | omega | (simp [uA, uG, thS] <;> omega)) dX8_all_7 rfl ?_
  refine V_istore2 (pc' := 9) C dX8_all_8 rfl (by decide) rfl ?_
  refine V_iconst (pc' := 10) C dX8_all_9 rfl ?_
  refine V_istore3 (pc' := 11) C dX8_all_10 rfl (by decide) rfl ?_
  refine V_for0 (N := (S.2 24).toNat) (fun j => MI cC cI h0 mo Pm (S)) (fun j => [some (.ref mo), some (.int (iI w)), some (.int (iI (allN S w j))), some (.int (iI j))]) (fun _ => True) trivial (fun h q => q) rfl (fun j hj hv hk => ?_) (fun hv => ?_)
  · have lk := hwl.2 j (by omega) (by omega)
    have hl9 := HW_log hwh
    have hl8 := hwl.1
    refine V_iload3 (pc' := 12) C dX8_all_11 rfl ?_
    refine V_aload0 (pc' := 13) C dX8_all_12 rfl ?_
    refine mGetI (pc' := 16) 24 C hin (by decide) (by decide +kernel) dX8_all_13 rfl ?_
    refine V_icmpge (tgt := 43) C (by first | omega | (simp [uA, uG, thS] <;> omega)) dX8_all_16 (by decide) rfl (fun c_16 => ?_) (fun c_16 => ?_)
    · exact absurd c_16 (by omega)
    · refine V_iload2 (pc' := 20) C dX8_all_19 rfl ?_
      refine V_aload0 (pc' := 21) C dX8_all_20 rfl ?_
      refine mGetA (pc' := 24) 18 C hin (by decide) (by decide +kernel) dX8_all_21 rfl ?_
      refine V_iload3 (pc' := 25) C dX8_all_24 rfl ?_
      refine mLd (pc' := 26) (n := 2100) 18 C (by decide) rfl (by first | omega | (simp [uA, uG, thS] <;> omega)) dX8_all_25 rfl ?_
      refine V_iload1 (pc' := 27) C dX8_all_26 rfl ?_
      refine V_icmpne (tgt := 34) C (by first | omega | (simp [uA, uG, thS] <;> omega)) dX8_all_27 (by decide) rfl (fun c_27 => ?_) (fun c_27 => ?_)
      · refine V_iconst (pc' := 35) C dX8_all_34 rfl ?_
        refine V_iadd (pc' := 36) C dX8_all_35 rfl ?_
        refine V_istore2 (pc' := 37) C dX8_all_36 rfl (by decide) rfl ?_
        refine V_iinc3 (pc' := 40) C dX8_all_37 rfl (by decide) rfl ?_
        refine V_goto (tgt := 11) C dX8_all_40 (by decide) ?_
        exact V_conv (fun h q => q) (by simp_all [allN]) (hk trivial)
      · refine V_iconst (pc' := 31) C dX8_all_30 rfl ?_
        refine V_goto (tgt := 35) C dX8_all_31 (by decide) ?_
        refine V_iadd (pc' := 36) C dX8_all_35 rfl ?_
        refine V_istore2 (pc' := 37) C dX8_all_36 rfl (by decide) rfl ?_
        refine V_iinc3 (pc' := 40) C dX8_all_37 rfl (by decide) rfl ?_
        refine V_goto (tgt := 11) C dX8_all_40 (by decide) ?_
        exact V_conv (fun h q => q) (by simp_all [allN]) (hk trivial)
  · have hl9 := HW_log hwh
    have hl8 := hwl.1
    refine V_iload3 (pc' := 12) C dX8_all_11 rfl ?_
    refine V_aload0 (pc' := 13) C dX8_all_12 rfl ?_
    refine mGetI (pc' := 16) 24 C hin (by decide) (by decide +kernel) dX8_all_13 rfl ?_
    refine V_icmpge (tgt := 43) C (by first | omega | (simp [uA, uG, thS] <;> omega)) dX8_all_16 (by decide) rfl (fun c_16 => ?_) (fun c_16 => ?_)
    · refine V_iload2 (pc' := 44) C dX8_all_43 rfl ?_
      exact mEnd C hr hlk ⟨Nat.le_refl _, Nat.le_refl _⟩ dX8_all_44 (rfl)
    · exact absurd c_16 (by omega)
set_option maxHeartbeats 4000000 in
set_option maxRecDepth 100000 in
theorem kX8_entriesOf (w : Int) (hmw : MW S b) (r0 : rI w) : Mf l D cB cC cI cO cJ cD ee yX8_entriesOf wsX8_entriesOf ({ frames := 1, cells := 0, slots := 0, locals := 23 } : Room) mo Pm [.int (iI w)] S ((entriesOfX S w).1, (entriesOfX S w).2) := by
  refine Ct_of (cc := cX8_entriesOf) (own := RX8) [some (.ref mo), some (.int (iI w))] (by decide) rfl rfl (Nat.le_of_ble_eq_true rfl) (fun i9 v9 h9 => argL (.ref mo :: [.int (iI w)]) 0 rfl i9 v9 h9) ?_
  intro p e s m9 args below meth c9 h0 sz hI C hr hlk hinit
  have hin : ∀ w ∈ wsX80, w ∈ wsX8_entriesOf := by decide +kernel
  refine V_weak (I2 := MI cC cI h0 mo Pm S) (fun x hx => by subst hx; exact ⟨hI, Fr.refl⟩) ?_
  obtain ⟨hwp, hwl, hwh, hwr, hws, hwt⟩ := id hmw
  obtain ⟨hw1, hw2, hw3, hw4, hw5, hw6⟩ := id hwp
  refine V_aload0 (pc' := 1) C dX8_entriesOf_0 rfl ?_
  refine V_iload1 (pc' := 2) C dX8_entriesOf_1 rfl ?_
  refine V_iconst (pc' := 3) C dX8_entriesOf_2 rfl ?_
  refine V_aload0 (pc' := 4) C dX8_entriesOf_3 rfl ?_
  refine mGetI (pc' := 7) 22 C hin (by decide) (by decide +kernel) dX8_entriesOf_4 rfl ?_
  refine V_iconst (pc' := 8) C dX8_entriesOf_7 rfl ?_
  refine V_isub (pc' := 9) C dX8_entriesOf_8 rfl ?_
  refine sCall3 (pc' := 12) C (kX8_isIn _ _ _ (by omega) (by omega) (by omega)) gX8_entriesOf_X8_isIn rfl ydX8_isIn ⟨Nat.le_of_ble_eq_true rfl, Nat.le_of_ble_eq_true rfl⟩ ⟨rfl, rfl⟩ (Nat.le_of_ble_eq_true rfl) dX8_entriesOf_9 ⟨Nat.zero_le _, Nat.zero_le _⟩ rfl ?_
  refine V_ifneB (tgt := 19) C dX8_entriesOf_12 (by decide) rfl (fun c_12 => ?_) (fun c_12 => ?_)
  · refine V_iconst (pc' := 20) C dX8_entriesOf_19 rfl ?_
    refine V_iconst (pc' := 21) C dX8_entriesOf_20 rfl ?_
    refine mCallF2 (pc' := 24) C (kX8_isThrown false _ ) gX8_entriesOf_X8_isThrown rfl ydX8_isThrown ⟨Nat.le_of_ble_eq_true rfl, Nat.le_of_ble_eq_true rfl⟩ ⟨rfl, rfl⟩ (Nat.le_of_ble_eq_true rfl) dX8_entriesOf_21 ⟨Nat.zero_le _, Nat.zero_le _⟩ rfl ?_
    refine V_ifeqB (tgt := 31) C dX8_entriesOf_24 (by decide) rfl (fun c_24 => ?_) (fun c_24 => ?_)
    · have hk9 : -1 ≤ w ∧ w ≤ S.2 22 - 1 := by simpa [isInB] using c_12
      refine V_weak (I2 := MI cC cI h0 mo Pm (uG S 31 0)) (fun h q => by simpa [thS, uG_uG] using q) ?_
      refine V_aload0 (pc' := 32) C dX8_entriesOf_31 rfl ?_
      refine V_iload1 (pc' := 33) C dX8_entriesOf_32 rfl ?_
      refine mCallF1 (pc' := 36) C (kX8_all (b := b) _ hmw r0 (by omega)) gX8_entriesOf_X8_all rfl ydX8_all ⟨Nat.le_of_ble_eq_true rfl, Nat.le_of_ble_eq_true rfl⟩ ⟨rfl, rfl⟩ (Nat.le_of_ble_eq_true rfl) dX8_entriesOf_33 ⟨Nat.zero_le _, Nat.zero_le _⟩ rfl ?_
      exact mEnd C hr hlk ⟨Nat.le_refl _, Nat.le_refl _⟩ dX8_entriesOf_36 (by simp_all [entriesOfX, thS, allI_u])
    · exact absurd c_24 (by decide)
  · refine V_iconst (pc' := 16) C dX8_entriesOf_15 rfl ?_
    refine V_goto (tgt := 20) C dX8_entriesOf_16 (by decide) ?_
    refine V_iconst (pc' := 21) C dX8_entriesOf_20 rfl ?_
    refine mCallF2 (pc' := 24) C (kX8_isThrown true _ ) gX8_entriesOf_X8_isThrown rfl ydX8_isThrown ⟨Nat.le_of_ble_eq_true rfl, Nat.le_of_ble_eq_true rfl⟩ ⟨rfl, rfl⟩ (Nat.le_of_ble_eq_true rfl) dX8_entriesOf_21 ⟨Nat.zero_le _, Nat.zero_le _⟩ rfl ?_
    refine V_ifeqB (tgt := 31) C dX8_entriesOf_24 (by decide) rfl (fun c_24 => ?_) (fun c_24 => ?_)
    · exact absurd c_24 (by decide)
    · refine V_iconst (pc' := 28) C dX8_entriesOf_27 rfl ?_
      refine V_goto (tgt := 36) C dX8_entriesOf_28 (by decide) ?_
      exact mEnd C hr hlk ⟨Nat.le_refl _, Nat.le_refl _⟩ dX8_entriesOf_36 (by simp_all [entriesOfX, thS, allI_u])
set_option maxHeartbeats 4000000 in
set_option maxRecDepth 100000 in
theorem kX8_skipped (hmw : MW S b) : Mf l D cB cC cI cO cJ cD ee yX8_skipped wsX8_skipped ({ frames := 0, cells := 0, slots := 0, locals := 0 } : Room) mo Pm [] S (S.2 26, uG S 31 0) := by
  refine Ct_of (cc := cX8_skipped) (own := RX8) [some (.ref mo)] (by decide) rfl rfl (Nat.le_of_ble_eq_true rfl) (fun i9 v9 h9 => argL (.ref mo :: []) 0 rfl i9 v9 h9) ?_
  intro p e s m9 args below meth c9 h0 sz hI C hr hlk hinit
  have hin : ∀ w ∈ wsX80, w ∈ wsX8_skipped := by decide +kernel
  refine V_weak (I2 := MI cC cI h0 mo Pm S) (fun x hx => by subst hx; exact ⟨hI, Fr.refl⟩) ?_
  obtain ⟨hwp, hwl, hwh, hwr, hws, hwt⟩ := id hmw
  obtain ⟨hw1, hw2, hw3, hw4, hw5, hw6⟩ := id hwp
  refine V_aload0 (pc' := 1) C dX8_skipped_0 rfl ?_
  refine V_iconst (pc' := 2) C dX8_skipped_1 rfl ?_
  refine mPutI (pc' := 5) 31 C hin (by decide) (by decide +kernel) dX8_skipped_2 rfl ?_
  refine V_aload0 (pc' := 6) C dX8_skipped_5 rfl ?_
  refine mGetI (pc' := 9) 26 C hin (by decide) (by decide +kernel) dX8_skipped_6 rfl ?_
  exact mEnd C hr hlk ⟨Nat.le_refl _, Nat.le_refl _⟩ dX8_skipped_9 (rfl)
set_option maxHeartbeats 4000000 in
set_option maxRecDepth 100000 in
theorem kX8_entries (hmw : MW S b) : Mf l D cB cC cI cO cJ cD ee yX8_entries wsX8_entries ({ frames := 0, cells := 0, slots := 0, locals := 0 } : Room) mo Pm [] S (S.2 29 + S.2 24, uG S 31 0) := by
  refine Ct_of (cc := cX8_entries) (own := RX8) [some (.ref mo)] (by decide) rfl rfl (Nat.le_of_ble_eq_true rfl) (fun i9 v9 h9 => argL (.ref mo :: []) 0 rfl i9 v9 h9) ?_
  intro p e s m9 args below meth c9 h0 sz hI C hr hlk hinit
  have hin : ∀ w ∈ wsX80, w ∈ wsX8_entries := by decide +kernel
  refine V_weak (I2 := MI cC cI h0 mo Pm S) (fun x hx => by subst hx; exact ⟨hI, Fr.refl⟩) ?_
  obtain ⟨hwp, hwl, hwh, hwr, hws, hwt⟩ := id hmw
  obtain ⟨hw1, hw2, hw3, hw4, hw5, hw6⟩ := id hwp
  refine V_aload0 (pc' := 1) C dX8_entries_0 rfl ?_
  refine V_iconst (pc' := 2) C dX8_entries_1 rfl ?_
  refine mPutI (pc' := 5) 31 C hin (by decide) (by decide +kernel) dX8_entries_2 rfl ?_
  refine V_aload0 (pc' := 6) C dX8_entries_5 rfl ?_
  refine mGetI (pc' := 9) 29 C hin (by decide) (by decide +kernel) dX8_entries_6 rfl ?_
  refine V_aload0 (pc' := 10) C dX8_entries_9 rfl ?_
  refine mGetI (pc' := 13) 24 C hin (by decide) (by decide +kernel) dX8_entries_10 rfl ?_
  refine V_iadd (pc' := 14) C dX8_entries_13 rfl ?_
  exact mEnd C hr hlk ⟨Nat.le_refl _, Nat.le_refl _⟩ dX8_entries_14 (rfl)
set_option maxHeartbeats 4000000 in
set_option maxRecDepth 100000 in
theorem kX8_textAt (i : Int) (hmw : MW S b) (r0 : rI i) : Mf l D cB cC cI cO cJ cD ee yX8_textAt wsX8_textAt ({ frames := 1, cells := 0, slots := 0, locals := 22 } : Room) mo Pm [.int (iI i)] S ((textAtX S i).1, (textAtX S i).2) := by
  refine Ct_of (cc := cX8_textAt) (own := RX8) [some (.ref mo), some (.int (iI i))] (by decide) rfl rfl (Nat.le_of_ble_eq_true rfl) (fun i9 v9 h9 => argL (.ref mo :: [.int (iI i)]) 0 rfl i9 v9 h9) ?_
  intro p e s m9 args below meth c9 h0 sz hI C hr hlk hinit
  have hin : ∀ w ∈ wsX80, w ∈ wsX8_textAt := by decide +kernel
  refine V_weak (I2 := MI cC cI h0 mo Pm S) (fun x hx => by subst hx; exact ⟨hI, Fr.refl⟩) ?_
  obtain ⟨hwp, hwl, hwh, hwr, hws, hwt⟩ := id hmw
  obtain ⟨hw1, hw2, hw3, hw4, hw5, hw6⟩ := id hwp
  have ht6 := hwt.1
  have ht7 := hwt.2.1
  refine V_aload0 (pc' := 1) C dX8_textAt_0 rfl ?_
  refine V_iload1 (pc' := 2) C dX8_textAt_1 rfl ?_
  refine V_iconst (pc' := 3) C dX8_textAt_2 rfl ?_
  refine V_aload0 (pc' := 4) C dX8_textAt_3 rfl ?_
  refine mGetI (pc' := 7) 30 C hin (by decide) (by decide +kernel) dX8_textAt_4 rfl ?_
  refine V_iconst (pc' := 8) C dX8_textAt_7 rfl ?_
  refine V_isub (pc' := 9) C dX8_textAt_8 rfl ?_
  refine sCall3 (pc' := 12) C (kX8_isIn _ _ _ (by omega) (by omega) (by omega)) gX8_textAt_X8_isIn rfl ydX8_isIn ⟨Nat.le_of_ble_eq_true rfl, Nat.le_of_ble_eq_true rfl⟩ ⟨rfl, rfl⟩ (Nat.le_of_ble_eq_true rfl) dX8_textAt_9 ⟨Nat.zero_le _, Nat.zero_le _⟩ rfl ?_
  refine V_ifneB (tgt := 19) C dX8_textAt_12 (by decide) rfl (fun c_12 => ?_) (fun c_12 => ?_)
  · refine V_iconst (pc' := 20) C dX8_textAt_19 rfl ?_
    refine V_iconst (pc' := 21) C dX8_textAt_20 rfl ?_
    refine mCallF2 (pc' := 24) C (kX8_isThrown false _ ) gX8_textAt_X8_isThrown rfl ydX8_isThrown ⟨Nat.le_of_ble_eq_true rfl, Nat.le_of_ble_eq_true rfl⟩ ⟨rfl, rfl⟩ (Nat.le_of_ble_eq_true rfl) dX8_textAt_21 ⟨Nat.zero_le _, Nat.zero_le _⟩ rfl ?_
    refine V_ifeqB (tgt := 32) C dX8_textAt_24 (by decide) rfl (fun c_24 => ?_) (fun c_24 => ?_)
    · have hk9 : 0 ≤ i ∧ i ≤ S.2 30 - 1 := by simpa [isInB] using c_12
      have ht9 := hwt.2.2 i (by omega) (by have := hwt.2.1; omega)
      have ht8 := hwt.2.1
      refine V_weak (I2 := MI cC cI h0 mo Pm (uG S 31 0)) (fun h q => by simpa [thS, uG_uG] using q) ?_
      refine V_aload0 (pc' := 33) C dX8_textAt_32 rfl ?_
      refine mGetA (pc' := 36) 21 C hin (by decide) (by decide +kernel) dX8_textAt_33 rfl ?_
      refine V_iload1 (pc' := 37) C dX8_textAt_36 rfl ?_
      refine mLdC (pc' := 38) C (by first | omega | (simp [uA, uG, thS] <;> omega)) dX8_textAt_37 rfl ?_
      exact mEndc C hr hlk ⟨Nat.le_refl _, Nat.le_refl _⟩ dX8_textAt_38 (by first | omega | (show 0 ≤ S.1 21 i ∧ S.1 21 i < 65536; omega)) (by first | (unfold textAtX; rw [if_neg (by simp_all)]; rfl) | (unfold textAtX; rw [if_pos (by simp_all)]; simp_all [thS]))
    · exact absurd c_24 (by decide)
  · refine V_iconst (pc' := 16) C dX8_textAt_15 rfl ?_
    refine V_goto (tgt := 20) C dX8_textAt_16 (by decide) ?_
    refine V_iconst (pc' := 21) C dX8_textAt_20 rfl ?_
    refine mCallF2 (pc' := 24) C (kX8_isThrown true _ ) gX8_textAt_X8_isThrown rfl ydX8_isThrown ⟨Nat.le_of_ble_eq_true rfl, Nat.le_of_ble_eq_true rfl⟩ ⟨rfl, rfl⟩ (Nat.le_of_ble_eq_true rfl) dX8_textAt_21 ⟨Nat.zero_le _, Nat.zero_le _⟩ rfl ?_
    refine V_ifeqB (tgt := 32) C dX8_textAt_24 (by decide) rfl (fun c_24 => ?_) (fun c_24 => ?_)
    · exact absurd c_24 (by decide)
    · refine V_bipush (pc' := 29) C dX8_textAt_27 rfl (by decide) ?_
      refine V_goto (tgt := 38) C dX8_textAt_29 (by decide) ?_
      exact mEndc C hr hlk ⟨Nat.le_refl _, Nat.le_refl _⟩ dX8_textAt_38 (by first | omega | (show 0 ≤ S.1 21 i ∧ S.1 21 i < 65536; omega)) (by first | (unfold textAtX; rw [if_neg (by simp_all)]; rfl) | (unfold textAtX; rw [if_pos (by simp_all)]; simp_all [thS]))
end

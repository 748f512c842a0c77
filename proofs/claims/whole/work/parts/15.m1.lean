/-! the reference's methods, as functions -/
def isInB (v lo hi : Int) : Bool := decide (lo ≤ v) && decide (v ≤ hi)
def isCellB (c r : Int) : Bool := isInB c 0 5 && isInB r 0 7
def isValueB (v : Int) : Bool := isInB v (-9999) 9999
def isWithinB (at_ fr to : Int) : Bool := isInB (at_ % 6) (fr % 6) (to % 6) && isInB (at_ / 6) (fr / 6) (to / 6)
def atI (c r : Int) : Int := 6 * r + c
def thS (S : MSt) (b : Bool) (as_ : Int) : MSt := uG S 31 (if b = true then as_ else 0)
/-- a change of a cell -/
def becS (S : MSt) (at_ v by_ deep : Int) : MSt := if S.1 0 at_ = v then S else uA (uG (uA (uA (uA (uA S 16 (S.2 24) at_) 17 (S.2 24) (S.1 0 at_)) 18 (S.2 24) by_) 19 (S.2 24) deep) 24 (S.2 24 + 1)) 0 at_ v
def goalI (S : MSt) (m k at_ : Int) : Int := atI (at_ % 6 + S.1 6 (10 * m + k)) (at_ / 6 + S.1 7 (10 * m + k))
def isOutB (S : MSt) (m k at_ : Int) : Bool := !isCellB (at_ % 6 + S.1 6 (10 * m + k)) (at_ / 6 + S.1 7 (10 * m + k))
def stepI (S : MSt) (m k at_ : Int) : Int := if S.1 5 (10 * m + k) = 115 then S.1 8 (10 * m + k) else if S.1 5 (10 * m + k) = 97 then S.1 1 (goalI S m k at_) + S.1 8 (10 * m + k) else S.1 1 at_
def grN (S : MSt) (m at_ : Int) : Nat → Bool
  | 0 => false
  | n + 1 => grN S m at_ n || isWithinB at_ (S.1 10 (4 * m + n)) (S.1 11 (4 * m + n))
def isGrantedB (S : MSt) (m at_ : Int) : Bool := grN S m at_ (S.1 9 m).toNat
def ruN (S : MSt) (at_ : Int) : Nat → Int
  | 0 => -1
  | n + 1 => if isWithinB at_ (S.1 12 n) (S.1 13 n) = true ∧ (ruN S at_ n < 0 ∨ S.1 15 (ruN S at_ n) < S.1 15 n) then (n : Int) else ruN S at_ n
def ruledI (S : MSt) (at_ : Int) : Int := ruN S at_ (S.2 23).toNat
theorem ruN_yes {S : MSt} {x : Int} {n : Nat} (h1 : isWithinB x (S.1 12 n) (S.1 13 n) = true) (h2 : ruN S x n < 0 ∨ S.1 15 (ruN S x n) < S.1 15 n) : ruN S x (n + 1) = n := by
  unfold ruN
  rw [if_pos ⟨h1, h2⟩]
theorem ruN_no {S : MSt} {x : Int} {n : Nat} (h : isWithinB x (S.1 12 n) (S.1 13 n) = true → ¬ (ruN S x n < 0 ∨ S.1 15 (ruN S x n) < S.1 15 n)) : ruN S x (n + 1) = ruN S x n := by
  conv => lhs; unfold ruN
  rw [if_neg (fun q => h q.1 q.2)]
theorem ruN_in (S : MSt) (at_ : Int) : ∀ n : Nat, -1 ≤ ruN S at_ n ∧ ruN S at_ n < n
  | 0 => by simp [ruN]
  | n + 1 => by
    have := ruN_in S at_ n
    unfold ruN
    split <;> omega

theorem ydX8_isIn : yX8_isIn.cls ≠ "java/lang/invoke/MethodHandle" ∧ yX8_isIn.cls ≠ "java/lang/invoke/VarHandle" ∧ (parseMethodDescriptor yX8_isIn.desc).map (fun d => d.parameters.length) = some 3 := by decide +kernel
theorem ydX8_isCell : yX8_isCell.cls ≠ "java/lang/invoke/MethodHandle" ∧ yX8_isCell.cls ≠ "java/lang/invoke/VarHandle" ∧ (parseMethodDescriptor yX8_isCell.desc).map (fun d => d.parameters.length) = some 2 := by decide +kernel
theorem ydX8_at : yX8_at.cls ≠ "java/lang/invoke/MethodHandle" ∧ yX8_at.cls ≠ "java/lang/invoke/VarHandle" ∧ (parseMethodDescriptor yX8_at.desc).map (fun d => d.parameters.length) = some 2 := by decide +kernel
theorem ydX8_isValue : yX8_isValue.cls ≠ "java/lang/invoke/MethodHandle" ∧ yX8_isValue.cls ≠ "java/lang/invoke/VarHandle" ∧ (parseMethodDescriptor yX8_isValue.desc).map (fun d => d.parameters.length) = some 1 := by decide +kernel
theorem ydX8_isWithin : yX8_isWithin.cls ≠ "java/lang/invoke/MethodHandle" ∧ yX8_isWithin.cls ≠ "java/lang/invoke/VarHandle" ∧ (parseMethodDescriptor yX8_isWithin.desc).map (fun d => d.parameters.length) = some 3 := by decide +kernel
theorem ydX8_isThrown : yX8_isThrown.cls = RX8 ∧ yX8_isThrown.cls ≠ "java/lang/invoke/MethodHandle" ∧ yX8_isThrown.cls ≠ "java/lang/invoke/VarHandle" ∧ (parseMethodDescriptor yX8_isThrown.desc).map (fun d => d.parameters.length) = some 2 := by decide +kernel
theorem ydX8_isNoCell : yX8_isNoCell.cls = RX8 ∧ yX8_isNoCell.cls ≠ "java/lang/invoke/MethodHandle" ∧ yX8_isNoCell.cls ≠ "java/lang/invoke/VarHandle" ∧ (parseMethodDescriptor yX8_isNoCell.desc).map (fun d => d.parameters.length) = some 2 := by decide +kernel
theorem ydX8_isNoMacro : yX8_isNoMacro.cls = RX8 ∧ yX8_isNoMacro.cls ≠ "java/lang/invoke/MethodHandle" ∧ yX8_isNoMacro.cls ≠ "java/lang/invoke/VarHandle" ∧ (parseMethodDescriptor yX8_isNoMacro.desc).map (fun d => d.parameters.length) = some 1 := by decide +kernel
theorem ydX8_becomes : yX8_becomes.cls = RX8 ∧ yX8_becomes.cls ≠ "java/lang/invoke/MethodHandle" ∧ yX8_becomes.cls ≠ "java/lang/invoke/VarHandle" ∧ (parseMethodDescriptor yX8_becomes.desc).map (fun d => d.parameters.length) = some 4 := by decide +kernel
theorem ydX8_goal : yX8_goal.cls = RX8 ∧ yX8_goal.cls ≠ "java/lang/invoke/MethodHandle" ∧ yX8_goal.cls ≠ "java/lang/invoke/VarHandle" ∧ (parseMethodDescriptor yX8_goal.desc).map (fun d => d.parameters.length) = some 3 := by decide +kernel
theorem ydX8_isOut : yX8_isOut.cls = RX8 ∧ yX8_isOut.cls ≠ "java/lang/invoke/MethodHandle" ∧ yX8_isOut.cls ≠ "java/lang/invoke/VarHandle" ∧ (parseMethodDescriptor yX8_isOut.desc).map (fun d => d.parameters.length) = some 3 := by decide +kernel
theorem ydX8_stepped : yX8_stepped.cls = RX8 ∧ yX8_stepped.cls ≠ "java/lang/invoke/MethodHandle" ∧ yX8_stepped.cls ≠ "java/lang/invoke/VarHandle" ∧ (parseMethodDescriptor yX8_stepped.desc).map (fun d => d.parameters.length) = some 3 := by decide +kernel
theorem ydX8_isGranted : yX8_isGranted.cls = RX8 ∧ yX8_isGranted.cls ≠ "java/lang/invoke/MethodHandle" ∧ yX8_isGranted.cls ≠ "java/lang/invoke/VarHandle" ∧ (parseMethodDescriptor yX8_isGranted.desc).map (fun d => d.parameters.length) = some 2 := by decide +kernel
theorem ydX8_ruled : yX8_ruled.cls = RX8 ∧ yX8_ruled.cls ≠ "java/lang/invoke/MethodHandle" ∧ yX8_ruled.cls ≠ "java/lang/invoke/VarHandle" ∧ (parseMethodDescriptor yX8_ruled.desc).map (fun d => d.parameters.length) = some 1 := by decide +kernel
section
variable {l : Launch} {D : va_G} {cB cC cI cO cJ cD : ClassId} {ee mo : Nat} {Pm : Nat → Nat} {S : MSt}
set_option maxHeartbeats 4000000 in
set_option maxRecDepth 100000 in
theorem kX8_isIn (v : Int) (lo : Int) (hi : Int) (h1 : rI v) (h2 : rI lo) (h3 : rI hi) : Sf l D cB cC cI cO cJ cD ee yX8_isIn wsX8_isIn ({ frames := 0, cells := 0, slots := 0, locals := 0 } : Room) [.int (iI v), .int (iI lo), .int (iI hi)] (bI (isInB v lo hi)) := by
  refine Ct_of (cc := cX8_isIn) (own := RX8) [some (.int (iI v)), some (.int (iI lo)), some (.int (iI hi))] (by decide) rfl rfl (Nat.le_of_ble_eq_true rfl) (fun i9 v9 h9 => argL ([.int (iI v), .int (iI lo), .int (iI hi)]) 0 rfl i9 v9 h9) ?_
  intro p e s m9 args below meth c9 h0 sz hI C hr hlk hinit
  refine V_iload0 (pc' := 1) C dX8_isIn_0 rfl ?_
  refine V_iload1 (pc' := 2) C dX8_isIn_1 rfl ?_
  refine V_icmplt (tgt := 14) C (by omega) dX8_isIn_2 (by decide) rfl (fun c_2 => ?_) (fun c_2 => ?_)
  · refine V_iconst (pc' := 15) C dX8_isIn_14 rfl ?_
    exact sEndz (b := false) C hr hlk ⟨Nat.le_refl _, Nat.le_refl _⟩ dX8_isIn_15 (by simp [isInB, bI]; omega)
  · refine V_iload0 (pc' := 6) C dX8_isIn_5 rfl ?_
    refine V_iload2 (pc' := 7) C dX8_isIn_6 rfl ?_
    refine V_icmpgt (tgt := 14) C (by omega) dX8_isIn_7 (by decide) rfl (fun c_7 => ?_) (fun c_7 => ?_)
    · refine V_iconst (pc' := 15) C dX8_isIn_14 rfl ?_
      exact sEndz (b := false) C hr hlk ⟨Nat.le_refl _, Nat.le_refl _⟩ dX8_isIn_15 (by simp [isInB, bI]; omega)
    · refine V_iconst (pc' := 11) C dX8_isIn_10 rfl ?_
      refine V_goto (tgt := 15) C dX8_isIn_11 (by decide) ?_
      exact sEndz (b := true) C hr hlk ⟨Nat.le_refl _, Nat.le_refl _⟩ dX8_isIn_15 (by simp [isInB, bI]; omega)
set_option maxHeartbeats 4000000 in
set_option maxRecDepth 100000 in
theorem kX8_isCell (c : Int) (r : Int) (h1 : rI c) (h2 : rI r) : Sf l D cB cC cI cO cJ cD ee yX8_isCell wsX8_isCell ({ frames := 1, cells := 0, slots := 0, locals := 22 } : Room) [.int (iI c), .int (iI r)] (bI (isCellB c r)) := by
  refine Ct_of (cc := cX8_isCell) (own := RX8) [some (.int (iI c)), some (.int (iI r))] (by decide) rfl rfl (Nat.le_of_ble_eq_true rfl) (fun i9 v9 h9 => argL ([.int (iI c), .int (iI r)]) 0 rfl i9 v9 h9) ?_
  intro p e s m9 args below meth c9 h0 sz hI C hr hlk hinit
  refine V_iload0 (pc' := 1) C dX8_isCell_0 rfl ?_
  refine V_iconst (pc' := 2) C dX8_isCell_1 rfl ?_
  refine V_iconst (pc' := 3) C dX8_isCell_2 rfl ?_
  refine sCall3 (pc' := 6) C (kX8_isIn _ _ _ (by omega) (by omega) (by omega)) gX8_isCell_X8_isIn rfl ydX8_isIn ⟨Nat.le_of_ble_eq_true rfl, Nat.le_of_ble_eq_true rfl⟩ ⟨rfl, rfl⟩ (Nat.le_of_ble_eq_true rfl) dX8_isCell_3 ⟨Nat.zero_le _, Nat.zero_le _⟩ rfl ?_
  refine V_ifeqB (tgt := 23) C dX8_isCell_6 (by decide) rfl (fun c_6 => ?_) (fun c_6 => ?_)
  · refine V_iconst (pc' := 24) C dX8_isCell_23 rfl ?_
    exact sEndz (b := false) C hr hlk ⟨Nat.le_refl _, Nat.le_refl _⟩ dX8_isCell_24 (by simp_all [isCellB, bI])
  · refine V_iload1 (pc' := 10) C dX8_isCell_9 rfl ?_
    refine V_iconst (pc' := 11) C dX8_isCell_10 rfl ?_
    refine V_bipush (pc' := 13) C dX8_isCell_11 rfl (by decide) ?_
    refine sCall3 (pc' := 16) C (kX8_isIn _ _ _ (by omega) (by omega) (by omega)) gX8_isCell_X8_isIn rfl ydX8_isIn ⟨Nat.le_of_ble_eq_true rfl, Nat.le_of_ble_eq_true rfl⟩ ⟨rfl, rfl⟩ (Nat.le_of_ble_eq_true rfl) dX8_isCell_13 ⟨Nat.zero_le _, Nat.zero_le _⟩ rfl ?_
    refine V_ifeqB (tgt := 23) C dX8_isCell_16 (by decide) rfl (fun c_16 => ?_) (fun c_16 => ?_)
    · refine V_iconst (pc' := 24) C dX8_isCell_23 rfl ?_
      exact sEndz (b := false) C hr hlk ⟨Nat.le_refl _, Nat.le_refl _⟩ dX8_isCell_24 (by simp_all [isCellB, bI])
    · refine V_iconst (pc' := 20) C dX8_isCell_19 rfl ?_
      refine V_goto (tgt := 24) C dX8_isCell_20 (by decide) ?_
      exact sEndz (b := true) C hr hlk ⟨Nat.le_refl _, Nat.le_refl _⟩ dX8_isCell_24 (by simp_all [isCellB, bI])
set_option maxHeartbeats 4000000 in
set_option maxRecDepth 100000 in
theorem kX8_at (c : Int) (r : Int) : Sf l D cB cC cI cO cJ cD ee yX8_at wsX8_at ({ frames := 0, cells := 0, slots := 0, locals := 0 } : Room) [.int (iI c), .int (iI r)] (atI c r) := by
  refine Ct_of (cc := cX8_at) (own := RX8) [some (.int (iI c)), some (.int (iI r))] (by decide) rfl rfl (Nat.le_of_ble_eq_true rfl) (fun i9 v9 h9 => argL ([.int (iI c), .int (iI r)]) 0 rfl i9 v9 h9) ?_
  intro p e s m9 args below meth c9 h0 sz hI C hr hlk hinit
  refine V_bipush (pc' := 2) C dX8_at_0 rfl (by decide) ?_
  refine V_iload1 (pc' := 3) C dX8_at_2 rfl ?_
  refine V_imul (pc' := 4) C dX8_at_3 rfl ?_
  refine V_iload0 (pc' := 5) C dX8_at_4 rfl ?_
  refine V_iadd (pc' := 6) C dX8_at_5 rfl ?_
  exact sEnd C hr hlk ⟨Nat.le_refl _, Nat.le_refl _⟩ dX8_at_6 (rfl)
set_option maxHeartbeats 4000000 in
set_option maxRecDepth 100000 in
theorem kX8_isValue (v : Int) (h1 : rI v) : Sf l D cB cC cI cO cJ cD ee yX8_isValue wsX8_isValue ({ frames := 1, cells := 0, slots := 0, locals := 22 } : Room) [.int (iI v)] (bI (isValueB v)) := by
  refine Ct_of (cc := cX8_isValue) (own := RX8) [some (.int (iI v))] (by decide) rfl rfl (Nat.le_of_ble_eq_true rfl) (fun i9 v9 h9 => argL ([.int (iI v)]) 0 rfl i9 v9 h9) ?_
  intro p e s m9 args below meth c9 h0 sz hI C hr hlk hinit
  refine V_iload0 (pc' := 1) C dX8_isValue_0 rfl ?_
  refine V_sipush (pc' := 4) C dX8_isValue_1 rfl (by decide) ?_
  refine V_sipush (pc' := 7) C dX8_isValue_4 rfl (by decide) ?_
  refine sCall3 (pc' := 10) C (kX8_isIn _ _ _ (by omega) (by omega) (by omega)) gX8_isValue_X8_isIn rfl ydX8_isIn ⟨Nat.le_of_ble_eq_true rfl, Nat.le_of_ble_eq_true rfl⟩ ⟨rfl, rfl⟩ (Nat.le_of_ble_eq_true rfl) dX8_isValue_7 ⟨Nat.zero_le _, Nat.zero_le _⟩ rfl ?_
  exact sEndz (b := (isInB v (-9999) 9999)) C hr hlk ⟨Nat.le_refl _, Nat.le_refl _⟩ dX8_isValue_10 (rfl)
set_option maxHeartbeats 4000000 in
set_option maxRecDepth 100000 in
theorem kX8_isWithin (x : Int) (fr : Int) (to : Int) (h1 : 0 ≤ x ∧ x < 48) (h2 : 0 ≤ fr ∧ fr < 48) (h3 : 0 ≤ to ∧ to < 48) : Sf l D cB cC cI cO cJ cD ee yX8_isWithin wsX8_isWithin ({ frames := 1, cells := 0, slots := 0, locals := 22 } : Room) [.int (iI x), .int (iI fr), .int (iI to)] (bI (isWithinB x fr to)) := by
  refine Ct_of (cc := cX8_isWithin) (own := RX8) [some (.int (iI x)), some (.int (iI fr)), some (.int (iI to))] (by decide) rfl rfl (Nat.le_of_ble_eq_true rfl) (fun i9 v9 h9 => argL ([.int (iI x), .int (iI fr), .int (iI to)]) 0 rfl i9 v9 h9) ?_
  intro p e s m9 args below meth c9 h0 sz hI C hr hlk hinit
  refine V_iload0 (pc' := 1) C dX8_isWithin_0 rfl ?_
  refine V_bipush (pc' := 3) C dX8_isWithin_1 rfl (by decide) ?_
  refine V_irem (pc' := 4) C (by omega) dX8_isWithin_3 rfl ?_
  refine V_iload1 (pc' := 5) C dX8_isWithin_4 rfl ?_
  refine V_bipush (pc' := 7) C dX8_isWithin_5 rfl (by decide) ?_
  refine V_irem (pc' := 8) C (by omega) dX8_isWithin_7 rfl ?_
  refine V_iload2 (pc' := 9) C dX8_isWithin_8 rfl ?_
  refine V_bipush (pc' := 11) C dX8_isWithin_9 rfl (by decide) ?_
  refine V_irem (pc' := 12) C (by omega) dX8_isWithin_11 rfl ?_
  refine sCall3 (pc' := 15) C (kX8_isIn _ _ _ (by omega) (by omega) (by omega)) gX8_isWithin_X8_isIn rfl ydX8_isIn ⟨Nat.le_of_ble_eq_true rfl, Nat.le_of_ble_eq_true rfl⟩ ⟨rfl, rfl⟩ (Nat.le_of_ble_eq_true rfl) dX8_isWithin_12 ⟨Nat.zero_le _, Nat.zero_le _⟩ rfl ?_
  refine V_ifeqB (tgt := 40) C dX8_isWithin_15 (by decide) rfl (fun c_15 => ?_) (fun c_15 => ?_)
  · refine V_iconst (pc' := 41) C dX8_isWithin_40 rfl ?_
    exact sEndz (b := false) C hr hlk ⟨Nat.le_refl _, Nat.le_refl _⟩ dX8_isWithin_41 (by simp_all [isWithinB, bI])
  · refine V_iload0 (pc' := 19) C dX8_isWithin_18 rfl ?_
    refine V_bipush (pc' := 21) C dX8_isWithin_19 rfl (by decide) ?_
    refine V_idiv (pc' := 22) C (by omega) dX8_isWithin_21 rfl ?_
    refine V_iload1 (pc' := 23) C dX8_isWithin_22 rfl ?_
    refine V_bipush (pc' := 25) C dX8_isWithin_23 rfl (by decide) ?_
    refine V_idiv (pc' := 26) C (by omega) dX8_isWithin_25 rfl ?_
    refine V_iload2 (pc' := 27) C dX8_isWithin_26 rfl ?_
    refine V_bipush (pc' := 29) C dX8_isWithin_27 rfl (by decide) ?_
    refine V_idiv (pc' := 30) C (by omega) dX8_isWithin_29 rfl ?_
    refine sCall3 (pc' := 33) C (kX8_isIn _ _ _ (by omega) (by omega) (by omega)) gX8_isWithin_X8_isIn rfl ydX8_isIn ⟨Nat.le_of_ble_eq_true rfl, Nat.le_of_ble_eq_true rfl⟩ ⟨rfl, rfl⟩ (Nat.le_of_ble_eq_true rfl) dX8_isWithin_30 ⟨Nat.zero_le _, Nat.zero_le _⟩ rfl ?_
    refine V_ifeqB (tgt := 40) C dX8_isWithin_33 (by decide) rfl (fun c_33 => ?_) (fun c_33 => ?_)
    · refine V_iconst (pc' := 41) C dX8_isWithin_40 rfl ?_
      exact sEndz (b := false) C hr hlk ⟨Nat.le_refl _, Nat.le_refl _⟩ dX8_isWithin_41 (by simp_all [isWithinB, bI])
    · refine V_iconst (pc' := 37) C dX8_isWithin_36 rfl ?_
      refine V_goto (tgt := 41) C dX8_isWithin_37 (by decide) ?_
      exact sEndz (b := true) C hr hlk ⟨Nat.le_refl _, Nat.le_refl _⟩ dX8_isWithin_41 (by simp_all [isWithinB, bI])
set_option maxHeartbeats 4000000 in
set_option maxRecDepth 100000 in
theorem kX8_isThrown (b : Bool) (a : Int) : Mf l D cB cC cI cO cJ cD ee yX8_isThrown wsX8_isThrown ({ frames := 0, cells := 0, slots := 0, locals := 0 } : Room) mo Pm [.int (iI (bI b)), .int (iI a)] S (bI b, thS S b a) := by
  refine Ct_of (cc := cX8_isThrown) (own := RX8) [some (.ref mo), some (.int (iI (bI b))), some (.int (iI a))] (by decide) rfl rfl (Nat.le_of_ble_eq_true rfl) (fun i9 v9 h9 => argL (.ref mo :: [.int (iI (bI b)), .int (iI a)]) 0 rfl i9 v9 h9) ?_
  intro p e s m9 args below meth c9 h0 sz hI C hr hlk hinit
  have hin : ∀ w ∈ wsX80, w ∈ wsX8_isThrown := by decide +kernel
  refine V_weak (I2 := MI cC cI h0 mo Pm S) (fun x hx => by subst hx; exact ⟨hI, Fr.refl⟩) ?_
  refine V_aload0 (pc' := 1) C dX8_isThrown_0 rfl ?_
  refine V_iload1 (pc' := 2) C dX8_isThrown_1 rfl ?_
  refine V_ifeqB (tgt := 9) C dX8_isThrown_2 (by decide) rfl (fun c_2 => ?_) (fun c_2 => ?_)
  · refine V_iconst (pc' := 10) C dX8_isThrown_9 rfl ?_
    refine mPutI (pc' := 13) 31 C hin (by decide) (by decide +kernel) dX8_isThrown_10 rfl ?_
    refine V_iload1 (pc' := 14) C dX8_isThrown_13 rfl ?_
    exact mEndz (b := b) C hr hlk ⟨Nat.le_refl _, Nat.le_refl _⟩ dX8_isThrown_14 (by simp [thS, *])
  · refine V_iload2 (pc' := 6) C dX8_isThrown_5 rfl ?_
    refine V_goto (tgt := 10) C dX8_isThrown_6 (by decide) ?_
    refine mPutI (pc' := 13) 31 C hin (by decide) (by decide +kernel) dX8_isThrown_10 rfl ?_
    refine V_iload1 (pc' := 14) C dX8_isThrown_13 rfl ?_
    exact mEndz (b := b) C hr hlk ⟨Nat.le_refl _, Nat.le_refl _⟩ dX8_isThrown_14 (by simp [thS, *])
set_option maxHeartbeats 4000000 in
set_option maxRecDepth 100000 in
theorem kX8_isNoCell (c : Int) (r : Int) (h1 : rI c) (h2 : rI r) : Mf l D cB cC cI cO cJ cD ee yX8_isNoCell wsX8_isNoCell ({ frames := 2, cells := 0, slots := 0, locals := 43 } : Room) mo Pm [.int (iI c), .int (iI r)] S (bI (!isCellB c r), thS S (!isCellB c r) 1) := by
  refine Ct_of (cc := cX8_isNoCell) (own := RX8) [some (.ref mo), some (.int (iI c)), some (.int (iI r))] (by decide) rfl rfl (Nat.le_of_ble_eq_true rfl) (fun i9 v9 h9 => argL (.ref mo :: [.int (iI c), .int (iI r)]) 0 rfl i9 v9 h9) ?_
  intro p e s m9 args below meth c9 h0 sz hI C hr hlk hinit
  have hin : ∀ w ∈ wsX80, w ∈ wsX8_isNoCell := by decide +kernel
  refine V_weak (I2 := MI cC cI h0 mo Pm S) (fun x hx => by subst hx; exact ⟨hI, Fr.refl⟩) ?_
  refine V_aload0 (pc' := 1) C dX8_isNoCell_0 rfl ?_
  refine V_iload1 (pc' := 2) C dX8_isNoCell_1 rfl ?_
  refine V_iload2 (pc' := 3) C dX8_isNoCell_2 rfl ?_
  refine sCall2 (pc' := 6) C (kX8_isCell _ _ (by omega) (by omega)) gX8_isNoCell_X8_isCell rfl ydX8_isCell ⟨Nat.le_of_ble_eq_true rfl, Nat.le_of_ble_eq_true rfl⟩ ⟨rfl, rfl⟩ (Nat.le_of_ble_eq_true rfl) dX8_isNoCell_3 ⟨Nat.zero_le _, Nat.zero_le _⟩ rfl ?_
  refine V_ifneB (tgt := 13) C dX8_isNoCell_6 (by decide) rfl (fun c_6 => ?_) (fun c_6 => ?_)
  · refine V_iconst (pc' := 14) C dX8_isNoCell_13 rfl ?_
    refine V_iconst (pc' := 15) C dX8_isNoCell_14 rfl ?_
    refine mCallF2 (pc' := 18) C (kX8_isThrown false _ ) gX8_isNoCell_X8_isThrown rfl ydX8_isThrown ⟨Nat.le_of_ble_eq_true rfl, Nat.le_of_ble_eq_true rfl⟩ ⟨rfl, rfl⟩ (Nat.le_of_ble_eq_true rfl) dX8_isNoCell_15 ⟨Nat.zero_le _, Nat.zero_le _⟩ rfl ?_
    exact mEndz (b := false) C hr hlk ⟨Nat.le_refl _, Nat.le_refl _⟩ dX8_isNoCell_18 (by simp [*])
  · refine V_iconst (pc' := 10) C dX8_isNoCell_9 rfl ?_
    refine V_goto (tgt := 14) C dX8_isNoCell_10 (by decide) ?_
    refine V_iconst (pc' := 15) C dX8_isNoCell_14 rfl ?_
    refine mCallF2 (pc' := 18) C (kX8_isThrown true _ ) gX8_isNoCell_X8_isThrown rfl ydX8_isThrown ⟨Nat.le_of_ble_eq_true rfl, Nat.le_of_ble_eq_true rfl⟩ ⟨rfl, rfl⟩ (Nat.le_of_ble_eq_true rfl) dX8_isNoCell_15 ⟨Nat.zero_le _, Nat.zero_le _⟩ rfl ?_
    exact mEndz (b := true) C hr hlk ⟨Nat.le_refl _, Nat.le_refl _⟩ dX8_isNoCell_18 (by simp [*])
set_option maxHeartbeats 4000000 in
set_option maxRecDepth 100000 in
theorem kX8_isNoMacro (m : Int) (h1 : rI m) (h2 : 0 ≤ S.2 22 ∧ S.2 22 ≤ 6) : Mf l D cB cC cI cO cJ cD ee yX8_isNoMacro wsX8_isNoMacro ({ frames := 1, cells := 0, slots := 0, locals := 22 } : Room) mo Pm [.int (iI m)] S (bI (!isInB m 0 (S.2 22 - 1)), thS S (!isInB m 0 (S.2 22 - 1)) 1) := by
  refine Ct_of (cc := cX8_isNoMacro) (own := RX8) [some (.ref mo), some (.int (iI m))] (by decide) rfl rfl (Nat.le_of_ble_eq_true rfl) (fun i9 v9 h9 => argL (.ref mo :: [.int (iI m)]) 0 rfl i9 v9 h9) ?_
  intro p e s m9 args below meth c9 h0 sz hI C hr hlk hinit
  have hin : ∀ w ∈ wsX80, w ∈ wsX8_isNoMacro := by decide +kernel
  refine V_weak (I2 := MI cC cI h0 mo Pm S) (fun x hx => by subst hx; exact ⟨hI, Fr.refl⟩) ?_
  refine V_aload0 (pc' := 1) C dX8_isNoMacro_0 rfl ?_
  refine V_iload1 (pc' := 2) C dX8_isNoMacro_1 rfl ?_
  refine V_iconst (pc' := 3) C dX8_isNoMacro_2 rfl ?_
  refine V_aload0 (pc' := 4) C dX8_isNoMacro_3 rfl ?_
  refine mGetI (pc' := 7) 22 C hin (by decide) (by decide +kernel) dX8_isNoMacro_4 rfl ?_
  refine V_iconst (pc' := 8) C dX8_isNoMacro_7 rfl ?_
  refine V_isub (pc' := 9) C dX8_isNoMacro_8 rfl ?_
  refine sCall3 (pc' := 12) C (kX8_isIn _ _ _ (by omega) (by omega) (by omega)) gX8_isNoMacro_X8_isIn rfl ydX8_isIn ⟨Nat.le_of_ble_eq_true rfl, Nat.le_of_ble_eq_true rfl⟩ ⟨rfl, rfl⟩ (Nat.le_of_ble_eq_true rfl) dX8_isNoMacro_9 ⟨Nat.zero_le _, Nat.zero_le _⟩ rfl ?_
  refine V_ifneB (tgt := 19) C dX8_isNoMacro_12 (by decide) rfl (fun c_12 => ?_) (fun c_12 => ?_)
  · refine V_iconst (pc' := 20) C dX8_isNoMacro_19 rfl ?_
    refine V_iconst (pc' := 21) C dX8_isNoMacro_20 rfl ?_
    refine mCallF2 (pc' := 24) C (kX8_isThrown false _ ) gX8_isNoMacro_X8_isThrown rfl ydX8_isThrown ⟨Nat.le_of_ble_eq_true rfl, Nat.le_of_ble_eq_true rfl⟩ ⟨rfl, rfl⟩ (Nat.le_of_ble_eq_true rfl) dX8_isNoMacro_21 ⟨Nat.zero_le _, Nat.zero_le _⟩ rfl ?_
    exact mEndz (b := false) C hr hlk ⟨Nat.le_refl _, Nat.le_refl _⟩ dX8_isNoMacro_24 (by simp [*])
  · refine V_iconst (pc' := 16) C dX8_isNoMacro_15 rfl ?_
    refine V_goto (tgt := 20) C dX8_isNoMacro_16 (by decide) ?_
    refine V_iconst (pc' := 21) C dX8_isNoMacro_20 rfl ?_
    refine mCallF2 (pc' := 24) C (kX8_isThrown true _ ) gX8_isNoMacro_X8_isThrown rfl ydX8_isThrown ⟨Nat.le_of_ble_eq_true rfl, Nat.le_of_ble_eq_true rfl⟩ ⟨rfl, rfl⟩ (Nat.le_of_ble_eq_true rfl) dX8_isNoMacro_21 ⟨Nat.zero_le _, Nat.zero_le _⟩ rfl ?_
    exact mEndz (b := true) C hr hlk ⟨Nat.le_refl _, Nat.le_refl _⟩ dX8_isNoMacro_24 (by simp [*])
set_option maxHeartbeats 4000000 in
set_option maxRecDepth 100000 in
theorem kX8_becomes (x : Int) (v : Int) (w : Int) (dp : Int) (h1 : 0 ≤ x ∧ x < 48) (h2 : 0 ≤ S.2 24 ∧ S.2 24 < 2100) (h3 : rI (S.1 0 x)) (h4 : rI v) : Mv l D cB cC cI cO cJ cD ee yX8_becomes wsX8_becomes ({ frames := 0, cells := 0, slots := 0, locals := 0 } : Room) mo Pm [.int (iI x), .int (iI v), .int (iI w), .int (iI dp)] S (becS S x v w dp) := by
  refine Ct_of (cc := cX8_becomes) (own := RX8) [some (.ref mo), some (.int (iI x)), some (.int (iI v)), some (.int (iI w)), some (.int (iI dp))] (by decide) rfl rfl (Nat.le_of_ble_eq_true rfl) (fun i9 v9 h9 => argL (.ref mo :: [.int (iI x), .int (iI v), .int (iI w), .int (iI dp)]) 0 rfl i9 v9 h9) ?_
  intro p e s m9 args below meth c9 h0 sz hI C hr hlk hinit
  have hin : ∀ w ∈ wsX80, w ∈ wsX8_becomes := by decide +kernel
  refine V_weak (I2 := MI cC cI h0 mo Pm S) (fun x hx => by subst hx; exact ⟨hI, Fr.refl⟩) ?_
  refine V_aload0 (pc' := 1) C dX8_becomes_0 rfl ?_
  refine mGetA (pc' := 4) 0 C hin (by decide) (by decide +kernel) dX8_becomes_1 rfl ?_
  refine V_iload1 (pc' := 5) C dX8_becomes_4 rfl ?_
  refine mLd (pc' := 6) (n := 48) 0 C (by decide) rfl (by first | omega | (simp [uA, uG] <;> omega)) dX8_becomes_5 rfl ?_
  refine V_iload2 (pc' := 7) C dX8_becomes_6 rfl ?_
  refine V_icmpeq (tgt := 73) C (by first | omega | (simp [uA, uG] <;> omega)) dX8_becomes_7 (by decide) rfl (fun c_7 => ?_) (fun c_7 => ?_)
  · exact mEndv C hr hlk ⟨Nat.le_refl _, Nat.le_refl _⟩ dX8_becomes_73 (by first | (rw [becS, if_neg (by assumption)]; rfl) | (rw [becS, if_pos (by omega)]))
  · refine V_aload0 (pc' := 11) C dX8_becomes_10 rfl ?_
    refine mGetA (pc' := 14) 16 C hin (by decide) (by decide +kernel) dX8_becomes_11 rfl ?_
    refine V_aload0 (pc' := 15) C dX8_becomes_14 rfl ?_
    refine mGetI (pc' := 18) 24 C hin (by decide) (by decide +kernel) dX8_becomes_15 rfl ?_
    refine V_iload1 (pc' := 19) C dX8_becomes_18 rfl ?_
    refine mSt (pc' := 20) (n := 2100) 16 C (by decide) rfl (by first | omega | (simp [uA, uG] <;> omega)) dX8_becomes_19 rfl ?_
    refine V_aload0 (pc' := 21) C dX8_becomes_20 rfl ?_
    refine mGetA (pc' := 24) 17 C hin (by decide) (by decide +kernel) dX8_becomes_21 rfl ?_
    refine V_aload0 (pc' := 25) C dX8_becomes_24 rfl ?_
    refine mGetI (pc' := 28) 24 C hin (by decide) (by decide +kernel) dX8_becomes_25 rfl ?_
    refine V_aload0 (pc' := 29) C dX8_becomes_28 rfl ?_
    refine mGetA (pc' := 32) 0 C hin (by decide) (by decide +kernel) dX8_becomes_29 rfl ?_
    refine V_iload1 (pc' := 33) C dX8_becomes_32 rfl ?_
    refine mLd (pc' := 34) (n := 48) 0 C (by decide) rfl (by first | omega | (simp [uA, uG] <;> omega)) dX8_becomes_33 rfl ?_
    refine mSt (pc' := 35) (n := 2100) 17 C (by decide) rfl (by first | omega | (simp [uA, uG] <;> omega)) dX8_becomes_34 rfl ?_
    refine V_aload0 (pc' := 36) C dX8_becomes_35 rfl ?_
    refine mGetA (pc' := 39) 18 C hin (by decide) (by decide +kernel) dX8_becomes_36 rfl ?_
    refine V_aload0 (pc' := 40) C dX8_becomes_39 rfl ?_
    refine mGetI (pc' := 43) 24 C hin (by decide) (by decide +kernel) dX8_becomes_40 rfl ?_
    refine V_iload3 (pc' := 44) C dX8_becomes_43 rfl ?_
    refine mSt (pc' := 45) (n := 2100) 18 C (by decide) rfl (by first | omega | (simp [uA, uG] <;> omega)) dX8_becomes_44 rfl ?_
    refine V_aload0 (pc' := 46) C dX8_becomes_45 rfl ?_
    refine mGetA (pc' := 49) 19 C hin (by decide) (by decide +kernel) dX8_becomes_46 rfl ?_
    refine V_aload0 (pc' := 50) C dX8_becomes_49 rfl ?_
    refine mGetI (pc' := 53) 24 C hin (by decide) (by decide +kernel) dX8_becomes_50 rfl ?_
    refine V_iload4 (pc' := 55) C dX8_becomes_53 rfl ?_
    refine mSt (pc' := 56) (n := 2100) 19 C (by decide) rfl (by first | omega | (simp [uA, uG] <;> omega)) dX8_becomes_55 rfl ?_
    refine V_aload0 (pc' := 57) C dX8_becomes_56 rfl ?_
    refine V_dup (pc' := 58) C rfl dX8_becomes_57 rfl ?_
    refine mGetI (pc' := 61) 24 C hin (by decide) (by decide +kernel) dX8_becomes_58 rfl ?_
    refine V_iconst (pc' := 62) C dX8_becomes_61 rfl ?_
    refine V_iadd (pc' := 63) C dX8_becomes_62 rfl ?_
    refine mPutI (pc' := 66) 24 C hin (by decide) (by decide +kernel) dX8_becomes_63 rfl ?_
    refine V_aload0 (pc' := 67) C dX8_becomes_66 rfl ?_
    refine mGetA (pc' := 70) 0 C hin (by decide) (by decide +kernel) dX8_becomes_67 rfl ?_
    refine V_iload1 (pc' := 71) C dX8_becomes_70 rfl ?_
    refine V_iload2 (pc' := 72) C dX8_becomes_71 rfl ?_
    refine mSt (pc' := 73) (n := 48) 0 C (by decide) rfl (by first | omega | (simp [uA, uG] <;> omega)) dX8_becomes_72 rfl ?_
    exact mEndv C hr hlk ⟨Nat.le_refl _, Nat.le_refl _⟩ dX8_becomes_73 (by first | (rw [becS, if_neg (by assumption)]; rfl) | (rw [becS, if_pos (by omega)]))
set_option maxHeartbeats 4000000 in
set_option maxRecDepth 100000 in
theorem kX8_goal (m : Int) (k : Int) (x : Int) (h1 : 0 ≤ m ∧ m < 6) (h2 : 0 ≤ k ∧ k < 10) (h3 : 0 ≤ x ∧ x < 48) : Mf l D cB cC cI cO cJ cD ee yX8_goal wsX8_goal ({ frames := 1, cells := 0, slots := 0, locals := 21 } : Room) mo Pm [.int (iI m), .int (iI k), .int (iI x)] S (goalI S m k x, S) := by
  refine Ct_of (cc := cX8_goal) (own := RX8) [some (.ref mo), some (.int (iI m)), some (.int (iI k)), some (.int (iI x))] (by decide) rfl rfl (Nat.le_of_ble_eq_true rfl) (fun i9 v9 h9 => argL (.ref mo :: [.int (iI m), .int (iI k), .int (iI x)]) 0 rfl i9 v9 h9) ?_
  intro p e s m9 args below meth c9 h0 sz hI C hr hlk hinit
  have hin : ∀ w ∈ wsX80, w ∈ wsX8_goal := by decide +kernel
  refine V_weak (I2 := MI cC cI h0 mo Pm S) (fun x hx => by subst hx; exact ⟨hI, Fr.refl⟩) ?_
  refine V_iload3 (pc' := 1) C dX8_goal_0 rfl ?_
  refine V_bipush (pc' := 3) C dX8_goal_1 rfl (by decide) ?_
  refine V_irem (pc' := 4) C (by omega) dX8_goal_3 rfl ?_
  refine V_aload0 (pc' := 5) C dX8_goal_4 rfl ?_
  refine mGetA (pc' := 8) 6 C hin (by decide) (by decide +kernel) dX8_goal_5 rfl ?_
  refine V_bipush (pc' := 10) C dX8_goal_8 rfl (by decide) ?_
  refine V_iload1 (pc' := 11) C dX8_goal_10 rfl ?_
  refine V_imul (pc' := 12) C dX8_goal_11 rfl ?_
  refine V_iload2 (pc' := 13) C dX8_goal_12 rfl ?_
  refine V_iadd (pc' := 14) C dX8_goal_13 rfl ?_
  refine mLd (pc' := 15) (n := 60) 6 C (by decide) rfl (by omega) dX8_goal_14 rfl ?_
  refine V_iadd (pc' := 16) C dX8_goal_15 rfl ?_
  refine V_iload3 (pc' := 17) C dX8_goal_16 rfl ?_
  refine V_bipush (pc' := 19) C dX8_goal_17 rfl (by decide) ?_
  refine V_idiv (pc' := 20) C (by omega) dX8_goal_19 rfl ?_
  refine V_aload0 (pc' := 21) C dX8_goal_20 rfl ?_
  refine mGetA (pc' := 24) 7 C hin (by decide) (by decide +kernel) dX8_goal_21 rfl ?_
  refine V_bipush (pc' := 26) C dX8_goal_24 rfl (by decide) ?_
  refine V_iload1 (pc' := 27) C dX8_goal_26 rfl ?_
  refine V_imul (pc' := 28) C dX8_goal_27 rfl ?_
  refine V_iload2 (pc' := 29) C dX8_goal_28 rfl ?_
  refine V_iadd (pc' := 30) C dX8_goal_29 rfl ?_
  refine mLd (pc' := 31) (n := 60) 7 C (by decide) rfl (by omega) dX8_goal_30 rfl ?_
  refine V_iadd (pc' := 32) C dX8_goal_31 rfl ?_
  refine sCall2 (pc' := 35) C (kX8_at _ _ ) gX8_goal_X8_at rfl ydX8_at ⟨Nat.le_of_ble_eq_true rfl, Nat.le_of_ble_eq_true rfl⟩ ⟨rfl, rfl⟩ (Nat.le_of_ble_eq_true rfl) dX8_goal_32 ⟨Nat.zero_le _, Nat.zero_le _⟩ rfl ?_
  exact mEnd C hr hlk ⟨Nat.le_refl _, Nat.le_refl _⟩ dX8_goal_35 (rfl)
set_option maxHeartbeats 4000000 in
set_option maxRecDepth 100000 in
theorem kX8_isOut (m : Int) (k : Int) (x : Int) (h1 : 0 ≤ m ∧ m < 6) (h2 : 0 ≤ k ∧ k < 10) (h3 : 0 ≤ x ∧ x < 48) (h4 : -5 ≤ S.1 6 (10 * m + k) ∧ S.1 6 (10 * m + k) ≤ 5) (h5 : -7 ≤ S.1 7 (10 * m + k) ∧ S.1 7 (10 * m + k) ≤ 7) : Mf l D cB cC cI cO cJ cD ee yX8_isOut wsX8_isOut ({ frames := 2, cells := 0, slots := 0, locals := 43 } : Room) mo Pm [.int (iI m), .int (iI k), .int (iI x)] S (bI (isOutB S m k x), S) := by
  refine Ct_of (cc := cX8_isOut) (own := RX8) [some (.ref mo), some (.int (iI m)), some (.int (iI k)), some (.int (iI x))] (by decide) rfl rfl (Nat.le_of_ble_eq_true rfl) (fun i9 v9 h9 => argL (.ref mo :: [.int (iI m), .int (iI k), .int (iI x)]) 0 rfl i9 v9 h9) ?_
  intro p e s m9 args below meth c9 h0 sz hI C hr hlk hinit
  have hin : ∀ w ∈ wsX80, w ∈ wsX8_isOut := by decide +kernel
  refine V_weak (I2 := MI cC cI h0 mo Pm S) (fun x hx => by subst hx; exact ⟨hI, Fr.refl⟩) ?_
  refine V_iload3 (pc' := 1) C dX8_isOut_0 rfl ?_
  refine V_bipush (pc' := 3) C dX8_isOut_1 rfl (by decide) ?_
  refine V_irem (pc' := 4) C (by omega) dX8_isOut_3 rfl ?_
  refine V_aload0 (pc' := 5) C dX8_isOut_4 rfl ?_
  refine mGetA (pc' := 8) 6 C hin (by decide) (by decide +kernel) dX8_isOut_5 rfl ?_
  refine V_bipush (pc' := 10) C dX8_isOut_8 rfl (by decide) ?_
  refine V_iload1 (pc' := 11) C dX8_isOut_10 rfl ?_
  refine V_imul (pc' := 12) C dX8_isOut_11 rfl ?_
  refine V_iload2 (pc' := 13) C dX8_isOut_12 rfl ?_
  refine V_iadd (pc' := 14) C dX8_isOut_13 rfl ?_
  refine mLd (pc' := 15) (n := 60) 6 C (by decide) rfl (by omega) dX8_isOut_14 rfl ?_
  refine V_iadd (pc' := 16) C dX8_isOut_15 rfl ?_
  refine V_iload3 (pc' := 17) C dX8_isOut_16 rfl ?_
  refine V_bipush (pc' := 19) C dX8_isOut_17 rfl (by decide) ?_
  refine V_idiv (pc' := 20) C (by omega) dX8_isOut_19 rfl ?_
  refine V_aload0 (pc' := 21) C dX8_isOut_20 rfl ?_
  refine mGetA (pc' := 24) 7 C hin (by decide) (by decide +kernel) dX8_isOut_21 rfl ?_
  refine V_bipush (pc' := 26) C dX8_isOut_24 rfl (by decide) ?_
  refine V_iload1 (pc' := 27) C dX8_isOut_26 rfl ?_
  refine V_imul (pc' := 28) C dX8_isOut_27 rfl ?_
  refine V_iload2 (pc' := 29) C dX8_isOut_28 rfl ?_
  refine V_iadd (pc' := 30) C dX8_isOut_29 rfl ?_
  refine mLd (pc' := 31) (n := 60) 7 C (by decide) rfl (by omega) dX8_isOut_30 rfl ?_
  refine V_iadd (pc' := 32) C dX8_isOut_31 rfl ?_
  refine sCall2 (pc' := 35) C (kX8_isCell _ _ (by omega) (by omega)) gX8_isOut_X8_isCell rfl ydX8_isCell ⟨Nat.le_of_ble_eq_true rfl, Nat.le_of_ble_eq_true rfl⟩ ⟨rfl, rfl⟩ (Nat.le_of_ble_eq_true rfl) dX8_isOut_32 ⟨Nat.zero_le _, Nat.zero_le _⟩ rfl ?_
  refine V_ifneB (tgt := 42) C dX8_isOut_35 (by decide) rfl (fun c_35 => ?_) (fun c_35 => ?_)
  · refine V_iconst (pc' := 43) C dX8_isOut_42 rfl ?_
    exact mEndz (b := false) C hr hlk ⟨Nat.le_refl _, Nat.le_refl _⟩ dX8_isOut_43 (by simp_all [isOutB, bI])
  · refine V_iconst (pc' := 39) C dX8_isOut_38 rfl ?_
    refine V_goto (tgt := 43) C dX8_isOut_39 (by decide) ?_
    exact mEndz (b := true) C hr hlk ⟨Nat.le_refl _, Nat.le_refl _⟩ dX8_isOut_43 (by simp_all [isOutB, bI])
set_option maxHeartbeats 4000000 in
set_option maxRecDepth 100000 in
theorem kX8_stepped (m : Int) (k : Int) (x : Int) (h1 : 0 ≤ m ∧ m < 6) (h2 : 0 ≤ k ∧ k < 10) (h3 : 0 ≤ x ∧ x < 48) (h4 : rI (S.1 5 (10 * m + k))) (h5 : 0 ≤ goalI S m k x ∧ goalI S m k x < 48) : Mf l D cB cC cI cO cJ cD ee yX8_stepped wsX8_stepped ({ frames := 2, cells := 0, slots := 0, locals := 44 } : Room) mo Pm [.int (iI m), .int (iI k), .int (iI x)] S (stepI S m k x, S) := by
  refine Ct_of (cc := cX8_stepped) (own := RX8) [some (.ref mo), some (.int (iI m)), some (.int (iI k)), some (.int (iI x))] (by decide) rfl rfl (Nat.le_of_ble_eq_true rfl) (fun i9 v9 h9 => argL (.ref mo :: [.int (iI m), .int (iI k), .int (iI x)]) 0 rfl i9 v9 h9) ?_
  intro p e s m9 args below meth c9 h0 sz hI C hr hlk hinit
  have hin : ∀ w ∈ wsX80, w ∈ wsX8_stepped := by decide +kernel
  refine V_weak (I2 := MI cC cI h0 mo Pm S) (fun x hx => by subst hx; exact ⟨hI, Fr.refl⟩) ?_
  refine V_aload0 (pc' := 1) C dX8_stepped_0 rfl ?_
  refine mGetA (pc' := 4) 5 C hin (by decide) (by decide +kernel) dX8_stepped_1 rfl ?_
  refine V_bipush (pc' := 6) C dX8_stepped_4 rfl (by decide) ?_
  refine V_iload1 (pc' := 7) C dX8_stepped_6 rfl ?_
  refine V_imul (pc' := 8) C dX8_stepped_7 rfl ?_
  refine V_iload2 (pc' := 9) C dX8_stepped_8 rfl ?_
  refine V_iadd (pc' := 10) C dX8_stepped_9 rfl ?_
  refine mLd (pc' := 11) (n := 60) 5 C (by decide) rfl (by omega) dX8_stepped_10 rfl ?_
  refine V_bipush (pc' := 13) C dX8_stepped_11 rfl (by decide) ?_
  refine V_icmpne (tgt := 30) C (by omega) dX8_stepped_13 (by decide) rfl (fun c_13 => ?_) (fun c_13 => ?_)
  · refine V_aload0 (pc' := 31) C dX8_stepped_30 rfl ?_
    refine mGetA (pc' := 34) 5 C hin (by decide) (by decide +kernel) dX8_stepped_31 rfl ?_
    refine V_bipush (pc' := 36) C dX8_stepped_34 rfl (by decide) ?_
    refine V_iload1 (pc' := 37) C dX8_stepped_36 rfl ?_
    refine V_imul (pc' := 38) C dX8_stepped_37 rfl ?_
    refine V_iload2 (pc' := 39) C dX8_stepped_38 rfl ?_
    refine V_iadd (pc' := 40) C dX8_stepped_39 rfl ?_
    refine mLd (pc' := 41) (n := 60) 5 C (by decide) rfl (by omega) dX8_stepped_40 rfl ?_
    refine V_bipush (pc' := 43) C dX8_stepped_41 rfl (by decide) ?_
    refine V_icmpne (tgt := 73) C (by omega) dX8_stepped_43 (by decide) rfl (fun c_43 => ?_) (fun c_43 => ?_)
    · refine V_aload0 (pc' := 74) C dX8_stepped_73 rfl ?_
      refine mGetA (pc' := 77) 1 C hin (by decide) (by decide +kernel) dX8_stepped_74 rfl ?_
      refine V_iload3 (pc' := 78) C dX8_stepped_77 rfl ?_
      refine mLd (pc' := 79) (n := 48) 1 C (by decide) rfl (by omega) dX8_stepped_78 rfl ?_
      exact mEnd C hr hlk ⟨Nat.le_refl _, Nat.le_refl _⟩ dX8_stepped_79 (by simp_all [stepI])
    · refine V_aload0 (pc' := 47) C dX8_stepped_46 rfl ?_
      refine mGetA (pc' := 50) 1 C hin (by decide) (by decide +kernel) dX8_stepped_47 rfl ?_
      refine V_aload0 (pc' := 51) C dX8_stepped_50 rfl ?_
      refine V_iload1 (pc' := 52) C dX8_stepped_51 rfl ?_
      refine V_iload2 (pc' := 53) C dX8_stepped_52 rfl ?_
      refine V_iload3 (pc' := 54) C dX8_stepped_53 rfl ?_
      refine mCallF3 (pc' := 57) C (kX8_goal _ _ _ (by omega) (by omega) (by omega)) gX8_stepped_X8_goal rfl ydX8_goal ⟨Nat.le_of_ble_eq_true rfl, Nat.le_of_ble_eq_true rfl⟩ ⟨rfl, rfl⟩ (Nat.le_of_ble_eq_true rfl) dX8_stepped_54 ⟨Nat.zero_le _, Nat.zero_le _⟩ rfl ?_
      refine mLd (pc' := 58) (n := 48) 1 C (by decide) rfl (by omega) dX8_stepped_57 rfl ?_
      refine V_aload0 (pc' := 59) C dX8_stepped_58 rfl ?_
      refine mGetA (pc' := 62) 8 C hin (by decide) (by decide +kernel) dX8_stepped_59 rfl ?_
      refine V_bipush (pc' := 64) C dX8_stepped_62 rfl (by decide) ?_
      refine V_iload1 (pc' := 65) C dX8_stepped_64 rfl ?_
      refine V_imul (pc' := 66) C dX8_stepped_65 rfl ?_
      refine V_iload2 (pc' := 67) C dX8_stepped_66 rfl ?_
      refine V_iadd (pc' := 68) C dX8_stepped_67 rfl ?_
      refine mLd (pc' := 69) (n := 60) 8 C (by decide) rfl (by omega) dX8_stepped_68 rfl ?_
      refine V_iadd (pc' := 70) C dX8_stepped_69 rfl ?_
      refine V_goto (tgt := 79) C dX8_stepped_70 (by decide) ?_
      exact mEnd C hr hlk ⟨Nat.le_refl _, Nat.le_refl _⟩ dX8_stepped_79 (by simp_all [stepI])
  · refine V_aload0 (pc' := 17) C dX8_stepped_16 rfl ?_
    refine mGetA (pc' := 20) 8 C hin (by decide) (by decide +kernel) dX8_stepped_17 rfl ?_
    refine V_bipush (pc' := 22) C dX8_stepped_20 rfl (by decide) ?_
    refine V_iload1 (pc' := 23) C dX8_stepped_22 rfl ?_
    refine V_imul (pc' := 24) C dX8_stepped_23 rfl ?_
    refine V_iload2 (pc' := 25) C dX8_stepped_24 rfl ?_
    refine V_iadd (pc' := 26) C dX8_stepped_25 rfl ?_
    refine mLd (pc' := 27) (n := 60) 8 C (by decide) rfl (by omega) dX8_stepped_26 rfl ?_
    refine V_goto (tgt := 79) C dX8_stepped_27 (by decide) ?_
    exact mEnd C hr hlk ⟨Nat.le_refl _, Nat.le_refl _⟩ dX8_stepped_79 (by simp_all [stepI])
set_option maxHeartbeats 4000000 in
set_option maxRecDepth 100000 in
theorem kX8_isGranted (m : Int) (x : Int) (h1 : 0 ≤ m ∧ m < 6) (h2 : 0 ≤ x ∧ x < 48) (h3 : 0 ≤ S.1 9 m ∧ S.1 9 m ≤ 4) (h4 : ∀ g, 0 ≤ g → g < 24 → 0 ≤ S.1 10 g ∧ S.1 10 g < 48 ∧ 0 ≤ S.1 11 g ∧ S.1 11 g < 48) : Mf l D cB cC cI cO cJ cD ee yX8_isGranted wsX8_isGranted ({ frames := 2, cells := 0, slots := 0, locals := 44 } : Room) mo Pm [.int (iI m), .int (iI x)] S (bI (isGrantedB S m x), S) := by
  refine Ct_of (cc := cX8_isGranted) (own := RX8) [some (.ref mo), some (.int (iI m)), some (.int (iI x)), none, none] (by decide) rfl rfl (Nat.le_of_ble_eq_true rfl) (fun i9 v9 h9 => argL (.ref mo :: [.int (iI m), .int (iI x)]) 2 rfl i9 v9 h9) ?_
  intro p e s m9 args below meth c9 h0 sz hI C hr hlk hinit
  have hin : ∀ w ∈ wsX80, w ∈ wsX8_isGranted := by decide +kernel
  refine V_weak (I2 := MI cC cI h0 mo Pm S) (fun x hx => by subst hx; exact ⟨hI, Fr.refl⟩) ?_
  refine V_iconst (pc' := 1) C dX8_isGranted_0 rfl ?_
  refine V_istore3 (pc' := 2) C dX8_isGranted_1 rfl (by decide) rfl ?_
  refine V_iconst (pc' := 3) C dX8_isGranted_2 rfl ?_
  refine V_iload1 (pc' := 4) C dX8_isGranted_3 rfl ?_
  refine V_imul (pc' := 5) C dX8_isGranted_4 rfl ?_
  refine V_istore4 (pc' := 7) C dX8_isGranted_5 rfl (by decide) rfl ?_
  refine V_for0 (N := (S.1 9 m).toNat) (fun j => MI cC cI h0 mo Pm (S)) (fun j => [some (.ref mo), some (.int (iI m)), some (.int (iI x)), some (.int (iI (bI (grN S m x j)))), some (.int (iI (4 * m + j)))]) (fun _ => True) trivial (fun h q => q) (by simp [grN, bI]) (fun j hj hv hk => ?_) (fun hv => ?_)
  · have hg := h4 (4 * m + j) (by omega) (by omega)
    refine V_iload4 (pc' := 9) C dX8_isGranted_7 rfl ?_
    refine V_iconst (pc' := 10) C dX8_isGranted_9 rfl ?_
    refine V_iload1 (pc' := 11) C dX8_isGranted_10 rfl ?_
    refine V_imul (pc' := 12) C dX8_isGranted_11 rfl ?_
    refine V_aload0 (pc' := 13) C dX8_isGranted_12 rfl ?_
    refine mGetA (pc' := 16) 9 C hin (by decide) (by decide +kernel) dX8_isGranted_13 rfl ?_
    refine V_iload1 (pc' := 17) C dX8_isGranted_16 rfl ?_
    refine mLd (pc' := 18) (n := 6) 9 C (by decide) rfl (by omega) dX8_isGranted_17 rfl ?_
    refine V_iadd (pc' := 19) C dX8_isGranted_18 rfl ?_
    refine V_icmpge (tgt := 49) C (by omega) dX8_isGranted_19 (by decide) rfl (fun c_19 => ?_) (fun c_19 => ?_)
    · exact absurd c_19 (by omega)
    · refine V_iload3 (pc' := 23) C dX8_isGranted_22 rfl ?_
      refine V_iload2 (pc' := 24) C dX8_isGranted_23 rfl ?_
      refine V_aload0 (pc' := 25) C dX8_isGranted_24 rfl ?_
      refine mGetA (pc' := 28) 10 C hin (by decide) (by decide +kernel) dX8_isGranted_25 rfl ?_
      refine V_iload4 (pc' := 30) C dX8_isGranted_28 rfl ?_
      refine mLd (pc' := 31) (n := 24) 10 C (by decide) rfl (by omega) dX8_isGranted_30 rfl ?_
      refine V_aload0 (pc' := 32) C dX8_isGranted_31 rfl ?_
      refine mGetA (pc' := 35) 11 C hin (by decide) (by decide +kernel) dX8_isGranted_32 rfl ?_
      refine V_iload4 (pc' := 37) C dX8_isGranted_35 rfl ?_
      refine mLd (pc' := 38) (n := 24) 11 C (by decide) rfl (by omega) dX8_isGranted_37 rfl ?_
      refine sCall3 (pc' := 41) C (kX8_isWithin _ _ _ (by omega) (by omega) (by omega)) gX8_isGranted_X8_isWithin rfl ydX8_isWithin ⟨Nat.le_of_ble_eq_true rfl, Nat.le_of_ble_eq_true rfl⟩ ⟨rfl, rfl⟩ (Nat.le_of_ble_eq_true rfl) dX8_isGranted_38 ⟨Nat.zero_le _, Nat.zero_le _⟩ rfl ?_
      refine V_ior (pc' := 42) C dX8_isGranted_41 rfl ?_
      refine V_istore3 (pc' := 43) C dX8_isGranted_42 rfl (by decide) rfl ?_
      refine V_iinc4 (pc' := 46) C dX8_isGranted_43 rfl (by decide) rfl ?_
      refine V_goto (tgt := 7) C dX8_isGranted_46 (by decide) ?_
      exact V_conv (fun h q => q) (by simp [grN, Int.add_assoc]) (hk trivial)
  · refine V_iload4 (pc' := 9) C dX8_isGranted_7 rfl ?_
    refine V_iconst (pc' := 10) C dX8_isGranted_9 rfl ?_
    refine V_iload1 (pc' := 11) C dX8_isGranted_10 rfl ?_
    refine V_imul (pc' := 12) C dX8_isGranted_11 rfl ?_
    refine V_aload0 (pc' := 13) C dX8_isGranted_12 rfl ?_
    refine mGetA (pc' := 16) 9 C hin (by decide) (by decide +kernel) dX8_isGranted_13 rfl ?_
    refine V_iload1 (pc' := 17) C dX8_isGranted_16 rfl ?_
    refine mLd (pc' := 18) (n := 6) 9 C (by decide) rfl (by omega) dX8_isGranted_17 rfl ?_
    refine V_iadd (pc' := 19) C dX8_isGranted_18 rfl ?_
    refine V_icmpge (tgt := 49) C (by omega) dX8_isGranted_19 (by decide) rfl (fun c_19 => ?_) (fun c_19 => ?_)
    · refine V_iload3 (pc' := 50) C dX8_isGranted_49 rfl ?_
      exact mEndz (b := (grN S m x (S.1 9 m).toNat)) C hr hlk ⟨Nat.le_refl _, Nat.le_refl _⟩ dX8_isGranted_50 (rfl)
    · exact absurd c_19 (by omega)
set_option maxHeartbeats 4000000 in
set_option maxRecDepth 100000 in
theorem kX8_ruled (x : Int) (h2 : 0 ≤ x ∧ x < 48) (h3 : 0 ≤ S.2 23 ∧ S.2 23 ≤ 6) (h4 : ∀ g, 0 ≤ g → g < 6 → 0 ≤ S.1 12 g ∧ S.1 12 g < 48 ∧ 0 ≤ S.1 13 g ∧ S.1 13 g < 48 ∧ 0 ≤ S.1 15 g ∧ S.1 15 g ≤ 9) : Mf l D cB cC cI cO cJ cD ee yX8_ruled wsX8_ruled ({ frames := 2, cells := 0, slots := 0, locals := 44 } : Room) mo Pm [.int (iI x)] S (ruledI S x, S) := by
  refine Ct_of (cc := cX8_ruled) (own := RX8) [some (.ref mo), some (.int (iI x)), none, none] (by decide) rfl rfl (Nat.le_of_ble_eq_true rfl) (fun i9 v9 h9 => argL (.ref mo :: [.int (iI x)]) 2 rfl i9 v9 h9) ?_
  intro p e s m9 args below meth c9 h0 sz hI C hr hlk hinit
  have hin : ∀ w ∈ wsX80, w ∈ wsX8_ruled := by decide +kernel
  refine V_weak (I2 := MI cC cI h0 mo Pm S) (fun x hx => by subst hx; exact ⟨hI, Fr.refl⟩) ?_
  refine V_iconst (pc' := 1) C dX8_ruled_0 rfl ?_
  refine V_istore2 (pc' := 2) C dX8_ruled_1 rfl (by decide) rfl ?_
  refine V_iconst (pc' := 3) C dX8_ruled_2 rfl ?_
  refine V_istore3 (pc' := 4) C dX8_ruled_3 rfl (by decide) rfl ?_
  refine V_for0 (N := (S.2 23).toNat) (fun j => MI cC cI h0 mo Pm (S)) (fun j => [some (.ref mo), some (.int (iI x)), some (.int (iI (ruN S x j))), some (.int (iI j))]) (fun _ => True) trivial (fun h q => q) (by simp [ruN]) (fun j hj hv hk => ?_) (fun hv => ?_)
  · have hg := h4 j (by omega) (by omega)
    have hr9 := ruN_in S x j
    have hg2 := h4 (ruN S x j)
    refine V_iload3 (pc' := 5) C dX8_ruled_4 rfl ?_
    refine V_aload0 (pc' := 6) C dX8_ruled_5 rfl ?_
    refine mGetI (pc' := 9) 23 C hin (by decide) (by decide +kernel) dX8_ruled_6 rfl ?_
    refine V_icmpge (tgt := 62) C (by omega) dX8_ruled_9 (by decide) rfl (fun c_9 => ?_) (fun c_9 => ?_)
    · exact absurd c_9 (by omega)
    · refine V_iload1 (pc' := 13) C dX8_ruled_12 rfl ?_
      refine V_aload0 (pc' := 14) C dX8_ruled_13 rfl ?_
      refine mGetA (pc' := 17) 12 C hin (by decide) (by decide +kernel) dX8_ruled_14 rfl ?_
      refine V_iload3 (pc' := 18) C dX8_ruled_17 rfl ?_
      refine mLd (pc' := 19) (n := 6) 12 C (by decide) rfl (by omega) dX8_ruled_18 rfl ?_
      refine V_aload0 (pc' := 20) C dX8_ruled_19 rfl ?_
      refine mGetA (pc' := 23) 13 C hin (by decide) (by decide +kernel) dX8_ruled_20 rfl ?_
      refine V_iload3 (pc' := 24) C dX8_ruled_23 rfl ?_
      refine mLd (pc' := 25) (n := 6) 13 C (by decide) rfl (by omega) dX8_ruled_24 rfl ?_
      refine sCall3 (pc' := 28) C (kX8_isWithin _ _ _ (by omega) (by omega) (by omega)) gX8_ruled_X8_isWithin rfl ydX8_isWithin ⟨Nat.le_of_ble_eq_true rfl, Nat.le_of_ble_eq_true rfl⟩ ⟨rfl, rfl⟩ (Nat.le_of_ble_eq_true rfl) dX8_ruled_25 ⟨Nat.zero_le _, Nat.zero_le _⟩ rfl ?_
      refine V_ifeqB (tgt := 54) C dX8_ruled_28 (by decide) rfl (fun c_28 => ?_) (fun c_28 => ?_)
      · refine V_iload2 (pc' := 55) C dX8_ruled_54 rfl ?_
        refine V_istore2 (pc' := 56) C dX8_ruled_55 rfl (by decide) rfl ?_
        refine V_iinc3 (pc' := 59) C dX8_ruled_56 rfl (by decide) rfl ?_
        refine V_goto (tgt := 4) C dX8_ruled_59 (by decide) ?_
        exact V_conv (fun h q => q) (by first | (have e9 := ruN_yes (S := S) (x := x) (n := j) (by assumption) (Or.inl (by assumption)); simp [e9]; done) | (have e9 := ruN_yes (S := S) (x := x) (n := j) (by assumption) (Or.inr (by omega)); simp [e9]; done) | (have e9 := ruN_no (S := S) (x := x) (n := j) (fun _ => by omega); simp [e9]; done) | (have e9 := ruN_no (S := S) (x := x) (n := j) (fun q => absurd q (by simp [*])); simp [e9]; done)) (hk trivial)
      · refine V_iload2 (pc' := 32) C dX8_ruled_31 rfl ?_
        refine V_iflt (tgt := 50) C (by omega) dX8_ruled_32 (by decide) rfl (fun c_32 => ?_) (fun c_32 => ?_)
        · refine V_iload3 (pc' := 51) C dX8_ruled_50 rfl ?_
          refine V_goto (tgt := 55) C dX8_ruled_51 (by decide) ?_
          refine V_istore2 (pc' := 56) C dX8_ruled_55 rfl (by decide) rfl ?_
          refine V_iinc3 (pc' := 59) C dX8_ruled_56 rfl (by decide) rfl ?_
          refine V_goto (tgt := 4) C dX8_ruled_59 (by decide) ?_
          exact V_conv (fun h q => q) (by first | (have e9 := ruN_yes (S := S) (x := x) (n := j) (by assumption) (Or.inl (by assumption)); simp [e9]; done) | (have e9 := ruN_yes (S := S) (x := x) (n := j) (by assumption) (Or.inr (by omega)); simp [e9]; done) | (have e9 := ruN_no (S := S) (x := x) (n := j) (fun _ => by omega); simp [e9]; done) | (have e9 := ruN_no (S := S) (x := x) (n := j) (fun q => absurd q (by simp [*])); simp [e9]; done)) (hk trivial)
        · refine V_aload0 (pc' := 36) C dX8_ruled_35 rfl ?_
          refine mGetA (pc' := 39) 15 C hin (by decide) (by decide +kernel) dX8_ruled_36 rfl ?_
          refine V_iload3 (pc' := 40) C dX8_ruled_39 rfl ?_
          refine mLd (pc' := 41) (n := 6) 15 C (by decide) rfl (by omega) dX8_ruled_40 rfl ?_
          refine V_aload0 (pc' := 42) C dX8_ruled_41 rfl ?_
          refine mGetA (pc' := 45) 15 C hin (by decide) (by decide +kernel) dX8_ruled_42 rfl ?_
          refine V_iload2 (pc' := 46) C dX8_ruled_45 rfl ?_
          refine mLd (pc' := 47) (n := 6) 15 C (by decide) rfl (by omega) dX8_ruled_46 rfl ?_
          refine V_icmple (tgt := 54) C (by omega) dX8_ruled_47 (by decide) rfl (fun c_47 => ?_) (fun c_47 => ?_)
          · refine V_iload2 (pc' := 55) C dX8_ruled_54 rfl ?_
            refine V_istore2 (pc' := 56) C dX8_ruled_55 rfl (by decide) rfl ?_
            refine V_iinc3 (pc' := 59) C dX8_ruled_56 rfl (by decide) rfl ?_
            refine V_goto (tgt := 4) C dX8_ruled_59 (by decide) ?_
            exact V_conv (fun h q => q) (by first | (have e9 := ruN_yes (S := S) (x := x) (n := j) (by assumption) (Or.inl (by assumption)); simp [e9]; done) | (have e9 := ruN_yes (S := S) (x := x) (n := j) (by assumption) (Or.inr (by omega)); simp [e9]; done) | (have e9 := ruN_no (S := S) (x := x) (n := j) (fun _ => by omega); simp [e9]; done) | (have e9 := ruN_no (S := S) (x := x) (n := j) (fun q => absurd q (by simp [*])); simp [e9]; done)) (hk trivial)
          · refine V_iload3 (pc' := 51) C dX8_ruled_50 rfl ?_
            refine V_goto (tgt := 55) C dX8_ruled_51 (by decide) ?_
            refine V_istore2 (pc' := 56) C dX8_ruled_55 rfl (by decide) rfl ?_
            refine V_iinc3 (pc' := 59) C dX8_ruled_56 rfl (by decide) rfl ?_
            refine V_goto (tgt := 4) C dX8_ruled_59 (by decide) ?_
            exact V_conv (fun h q => q) (by first | (have e9 := ruN_yes (S := S) (x := x) (n := j) (by assumption) (Or.inl (by assumption)); simp [e9]; done) | (have e9 := ruN_yes (S := S) (x := x) (n := j) (by assumption) (Or.inr (by omega)); simp [e9]; done) | (have e9 := ruN_no (S := S) (x := x) (n := j) (fun _ => by omega); simp [e9]; done) | (have e9 := ruN_no (S := S) (x := x) (n := j) (fun q => absurd q (by simp [*])); simp [e9]; done)) (hk trivial)
  · refine V_iload3 (pc' := 5) C dX8_ruled_4 rfl ?_
    refine V_aload0 (pc' := 6) C dX8_ruled_5 rfl ?_
    refine mGetI (pc' := 9) 23 C hin (by decide) (by decide +kernel) dX8_ruled_6 rfl ?_
    refine V_icmpge (tgt := 62) C (by omega) dX8_ruled_9 (by decide) rfl (fun c_9 => ?_) (fun c_9 => ?_)
    · refine V_iload2 (pc' := 63) C dX8_ruled_62 rfl ?_
      exact mEnd C hr hlk ⟨Nat.le_refl _, Nat.le_refl _⟩ dX8_ruled_63 (rfl)
    · exact absurd c_9 (by omega)
end

/-! the class: set, add, copyBase -/
theorem ydX7_set : yX7_set.cls = RX7 ∧ yX7_set.cls ≠ "java/lang/invoke/MethodHandle" ∧ yX7_set.cls ≠ "java/lang/invoke/VarHandle" ∧ (parseMethodDescriptor yX7_set.desc).map (fun d => d.parameters.length) = some 3 := by decide +kernel
theorem ydX7_add : yX7_add.cls = RX7 ∧ yX7_add.cls ≠ "java/lang/invoke/MethodHandle" ∧ yX7_add.cls ≠ "java/lang/invoke/VarHandle" ∧ (parseMethodDescriptor yX7_add.desc).map (fun d => d.parameters.length) = some 3 := by decide +kernel
theorem ydX7_copyBase : yX7_copyBase.cls = RX7 ∧ yX7_copyBase.cls ≠ "java/lang/invoke/MethodHandle" ∧ yX7_copyBase.cls ≠ "java/lang/invoke/VarHandle" ∧ (parseMethodDescriptor yX7_copyBase.desc).map (fun d => d.parameters.length) = some 2 := by decide +kernel
section
variable {l : Launch} {D : va_G} {cB cC cI cO cJ cD : ClassId} {ee : Nat × Nat} {Tx9 : (Nat → Nat) → MSt → Hp → Prop} {P : Nat → Nat} {S X : MSt}
theorem kX7_byHand {a c r n v b : Int} (hIv : Iv S X b) (hb : b + 210 ≤ 107520) (h9 : T9ok Tx9) (hp9 : T9p Tx9) (hcl : isCellB c r = true) (hr2 : rI c ∧ rI r) (hka : a = 115 ∨ a = 97 ∨ a = 99) (hn : -9999 ≤ n ∧ n ≤ 9999) (hv : vbI a n (S.1 0 (atI c r)) (S.1 0 (S.2 28)) = v) (hvv : isValueB v = true) : Ct l yX7_changeByHand wsX7_changeByHand ({ frames := 12, cells := 2 + growC (X.2 25) (X.2 26).toNat, slots := 14 + growS (X.2 25) (X.2 26).toNat, locals := 310 } : Room) D (tyL cB cC cI cO cJ cD) ee [.ref (P 1), .int (iI a), .int (iI c), .int (iI r), .int (iI n)] (CW cI cO ee Tx9 P S X) (Ji fun h z9 h' => z9 = (byHandS S a (atI c r) v n).1 ∧ (∃ P' X4 S3, CW cI cO ee Tx9 P' (byHandS S a (atI c r) v n).2 (endX S3 X4 (S.2 24)) h' ∧ P' 1 = P 1 ∧ S3 = chX (handS S a (atI c r) v n) (S.2 24) ∧ EW S3 X4 (S.2 24) ∧ X4.2 26 = (lenG (X.2 25) (X.2 26).toNat : Int)) ∧ Fr T7 h h') (2 + growC (X.2 25) (X.2 26).toNat) (14 + growS (X.2 25) (X.2 26).toNat) := by
  by_cases hz0 : S.2 27 < 0
  · exact kX7_changeByHand_n hIv hb h9 hp9 hcl hr2 hka hn hv hvv hz0
  · exact kX7_changeByHand_r hIv hb h9 hp9 hcl hr2 hka hn hv hvv (m := (S.2 27).toNat) (by omega)
set_option maxHeartbeats 4000000 in
set_option maxRecDepth 100000 in
theorem kX7_set {c r v : Int} (hr2 : rI c ∧ rI r) (hc2 : isCellB c r = true) {b : Int} (hIv : Iv S X b) (hb : b + 210 ≤ 107520) (h9 : T9ok Tx9) (hp9 : T9p Tx9) (hvv : isValueB v = true) : Ct l yX7_set wsX7_set ({ frames := 14, cells := 2 + growC (X.2 25) (X.2 26).toNat, slots := 14 + growS (X.2 25) (X.2 26).toNat, locals := 350 } : Room) D (tyL cB cC cI cO cJ cD) ee [.ref (P 1), .int (iI c), .int (iI r), .int (iI v)] (CW cI cO ee Tx9 P S X) (Ji fun h z9 h' => z9 = (byHandS S 115 (atI c r) v v).1 ∧ (∃ P' X4 S3, CW cI cO ee Tx9 P' (byHandS S 115 (atI c r) v v).2 (endX S3 X4 (S.2 24)) h' ∧ P' 1 = P 1 ∧ S3 = chX (handS S 115 (atI c r) v v) (S.2 24) ∧ EW S3 X4 (S.2 24) ∧ X4.2 26 = (lenG (X.2 25) (X.2 26).toNat : Int)) ∧ Fr T7 h h') (2 + growC (X.2 25) (X.2 26).toNat) (14 + growS (X.2 25) (X.2 26).toNat) := by
  refine Ct_of (cc := cX7_set) (own := RX7) [some (.ref (P 1)), some (.int (iI c)), some (.int (iI r)), some (.int (iI v))] (by decide) rfl rfl (Nat.le_of_ble_eq_true rfl) (fun i9 v9 h9 => argL [.ref (P 1), .int (iI c), .int (iI r), .int (iI v)] 0 rfl i9 v9 h9) ?_
  intro p e s m9 args below meth c9 h0 sz hI C hr hlk hinit
  have hin : ∀ w ∈ wsX70, w ∈ wsX7_set := by decide +kernel
  have hwp := hIv.1.1
  refine V_weak (I2 := fun x9 => CW cI cO ee Tx9 P S X x9 ∧ x9 = h0) (fun x9 hx9 => by subst hx9; exact ⟨hI, rfl⟩) ?_
  refine V_iload1 (pc' := 1) C dX7_set_0 rfl ?_
  refine V_iload2 (pc' := 2) C dX7_set_1 rfl ?_
  refine V_callS (n := 2) [.int (iI c), .int (iI r)] C (kX7_needCell hr2 hc2) gX7_set_X7_needCell rfl ydX7_needCell ⟨Nat.le_of_ble_eq_true rfl, Nat.le_of_ble_eq_true rfl⟩ ⟨rfl, rfl⟩ rfl (fun h hh => trivial) rfl (Nat.le_of_ble_eq_true rfl) dX7_set_2 ⟨Nat.le_of_ble_eq_true rfl, Nat.le_of_ble_eq_true rfl⟩ (fun h v h' hh hj9 => ?_)
  obtain ⟨rfl, rfl⟩ := hj9
  refine V_weak (I2 := fun x9 => CW cI cO ee Tx9 P S X x9 ∧ x9 = h0) (fun x9 hx9 => by rw [hx9]; exact hh) ?_
  refine V_iload3 (pc' := 6) C dX7_set_5 rfl ?_
  refine sCall1 (pc' := 9) C (kX7_isValue (x := v) (by have := isValue_of.mp hvv; omega)) gX7_set_X7_isValue rfl ydX7_isValue ⟨Nat.le_of_ble_eq_true rfl, Nat.le_of_ble_eq_true rfl⟩ ⟨rfl, rfl⟩ (Nat.le_of_ble_eq_true rfl) dX7_set_6 ⟨Nat.zero_le _, Nat.zero_le _⟩ rfl ?_
  refine V_ifneB (tgt := 22) C dX7_set_9 (by decide) rfl (fun c_9 => ?_) (fun c_9 => ?_)
  · refine V_aload0 (pc' := 23) C dX7_set_22 rfl ?_
    refine V_bipush (pc' := 25) C dX7_set_23 rfl (by decide) ?_
    refine V_iload1 (pc' := 26) C dX7_set_25 rfl ?_
    refine V_iload2 (pc' := 27) C dX7_set_26 rfl ?_
    refine V_iload3 (pc' := 28) C dX7_set_27 rfl ?_
    refine V_callV (ci := 12) (n := 4) [.int (iI 115), .int (iI c), .int (iI r), .int (iI v)] C (kX7_byHand (a := 115) (c := c) (r := r) (n := v) (v := v) hIv hb h9 hp9 hc2 hr2 (Or.inl rfl) (isValue_of.mp hvv) (by unfold vbI; rw [if_neg (by decide), if_neg (by decide)]) hvv) gX7_set_X7_changeByHand rfl ydX7_changeByHand ⟨Nat.le_of_ble_eq_true rfl, Nat.le_of_ble_eq_true rfl⟩ ⟨rfl, rfl⟩ rfl rfl (fun h hh => ⟨1, _, hh.1.1⟩) (fun h hh => hh.1) rfl (Nat.le_of_ble_eq_true rfl) dX7_set_28 ⟨by dsimp only; omega, by dsimp only; omega⟩ (fun h v h' hh hj9 => ?_)
    obtain ⟨r9, rfl, hj8, hj1, hj2⟩ := hj9
    rw [hj8]
    refine V_weak (I2 := fun x9 => (∃ P' X4 S3, CW cI cO ee Tx9 P' (byHandS S 115 (atI c r) v v).2 (endX S3 X4 (S.2 24)) x9 ∧ P' 1 = P 1 ∧ S3 = chX (handS S 115 (atI c r) v v) (S.2 24) ∧ EW S3 X4 (S.2 24) ∧ X4.2 26 = (lenG (X.2 25) (X.2 26).toNat : Int)) ∧ Fr T7 h0 x9) (fun x9 hx9 => by rw [hx9]; exact ⟨hj1, by rw [← hh.2]; exact hj2⟩) ?_
    exact V_end C hr hlk (fun h' hh => ⟨_, rfl, rfl, hh.1, hh.2⟩) ⟨by omega, by omega⟩ dX7_set_31
  · exact absurd c_9 (by simp_all)
set_option maxHeartbeats 4000000 in
set_option maxRecDepth 100000 in
theorem xX7_set_1 {c r v : Int} (hr2 : rI c ∧ rI r) (hc2 : isCellB c r = false) (hst : l.stackTraces = false) : Tx l yX7_set wsX7_set ({ frames := 8, cells := 1, slots := 6, locals := 170 } : Room) D (tyL cB cC cI cO cJ cD) ee [.ref (P 1), .int (iI c), .int (iI r), .int (iI v)] (CW cI cO ee Tx9 P S X) "java/lang/IndexOutOfBoundsException" (fun h h' => h' = h) (1) (6) := by
  refine Tx_of (cc := cX7_set) (own := RX7) [some (.ref (P 1)), some (.int (iI c)), some (.int (iI r)), some (.int (iI v))] (by decide) rfl rfl (Nat.le_of_ble_eq_true rfl) (fun i9 v9 h9 => argL [.ref (P 1), .int (iI c), .int (iI r), .int (iI v)] 0 rfl i9 v9 h9) ?_
  intro p e s m9 args below meth c9 h0 sz hI C hlk hxt
  refine V_weak (I2 := fun x9 => CW cI cO ee Tx9 P S X x9 ∧ x9 = h0) (fun x9 hx9 => by subst hx9; exact ⟨hI, rfl⟩) ?_
  refine V_iload1 (pc' := 1) C dX7_set_0 rfl ?_
  refine V_iload2 (pc' := 2) C dX7_set_1 rfl ?_
  exact V_outS (n := 2) [.int (iI c), .int (iI r)] C (xX7_needCell hr2 hc2 hst) gX7_set_X7_needCell rfl ydX7_needCell ⟨Nat.le_of_ble_eq_true rfl, Nat.le_of_ble_eq_true rfl⟩ ⟨rfl, rfl⟩ rfl (fun h hh => trivial) rfl (Nat.le_of_ble_eq_true rfl) dX7_set_2 ⟨Nat.le_of_ble_eq_true rfl, Nat.le_of_ble_eq_true rfl⟩ hxt hlk (fun h h' hh hj => by rw [hj]; exact hh.2) ⟨Nat.le_of_ble_eq_true rfl, Nat.le_of_ble_eq_true rfl⟩
set_option maxHeartbeats 4000000 in
set_option maxRecDepth 100000 in
theorem xX7_set_2 {c r v : Int} (hr2 : rI c ∧ rI r) (hc2 : isCellB c r = true) (hv0 : rI v) (hvv : isValueB v = false) (hst : l.stackTraces = false) : Tx l yX7_set wsX7_set ({ frames := 8, cells := 1, slots := 6, locals := 170 } : Room) D (tyL cB cC cI cO cJ cD) ee [.ref (P 1), .int (iI c), .int (iI r), .int (iI v)] (CW cI cO ee Tx9 P S X) "java/lang/IllegalArgumentException" (fun h h' => h' = h) (1) (6) := by
  refine Tx_of (cc := cX7_set) (own := RX7) [some (.ref (P 1)), some (.int (iI c)), some (.int (iI r)), some (.int (iI v))] (by decide) rfl rfl (Nat.le_of_ble_eq_true rfl) (fun i9 v9 h9 => argL [.ref (P 1), .int (iI c), .int (iI r), .int (iI v)] 0 rfl i9 v9 h9) ?_
  intro p e s m9 args below meth c9 h0 sz hI C hlk hxt
  refine V_weak (I2 := fun x9 => CW cI cO ee Tx9 P S X x9 ∧ x9 = h0) (fun x9 hx9 => by subst hx9; exact ⟨hI, rfl⟩) ?_
  refine V_iload1 (pc' := 1) C dX7_set_0 rfl ?_
  refine V_iload2 (pc' := 2) C dX7_set_1 rfl ?_
  refine V_callS (n := 2) [.int (iI c), .int (iI r)] C (kX7_needCell hr2 hc2) gX7_set_X7_needCell rfl ydX7_needCell ⟨Nat.le_of_ble_eq_true rfl, Nat.le_of_ble_eq_true rfl⟩ ⟨rfl, rfl⟩ rfl (fun h hh => trivial) rfl (Nat.le_of_ble_eq_true rfl) dX7_set_2 ⟨Nat.le_of_ble_eq_true rfl, Nat.le_of_ble_eq_true rfl⟩ (fun h v h' hh hj9 => ?_)
  obtain ⟨rfl, rfl⟩ := hj9
  refine V_weak (I2 := fun x9 => CW cI cO ee Tx9 P S X x9 ∧ x9 = h0) (fun x9 hx9 => by rw [hx9]; exact hh) ?_
  refine V_iload3 (pc' := 6) C dX7_set_5 rfl ?_
  refine sCall1 (pc' := 9) C (kX7_isValue (x := v) hv0) gX7_set_X7_isValue rfl ydX7_isValue ⟨Nat.le_of_ble_eq_true rfl, Nat.le_of_ble_eq_true rfl⟩ ⟨rfl, rfl⟩ (Nat.le_of_ble_eq_true rfl) dX7_set_6 ⟨Nat.zero_le _, Nat.zero_le _⟩ rfl ?_
  refine V_ifneB (tgt := 22) C dX7_set_9 (by decide) rfl (fun c_9 => ?_) (fun c_9 => ?_)
  · exact absurd c_9 (by simp_all)
  · exact V_throwS (text := "the number is out of range") (names := ["java/lang/RuntimeException", "java/lang/Exception"]) C hst (by decide +kernel) (by decide +kernel) (by decide +kernel) (by decide +kernel) (by decide +kernel) (by decide +kernel) (by decide +kernel) (by decide +kernel) dX7_set_12 dX7_set_15 dX7_set_16 dX7_set_18 dX7_set_21 hxt (Nat.le_of_ble_eq_true rfl) (Nat.le_of_ble_eq_true rfl) ⟨Nat.le_of_ble_eq_true rfl, Nat.le_of_ble_eq_true rfl⟩ hlk (fun h' hh => hh.2) rfl ⟨Nat.le_of_ble_eq_true rfl, Nat.le_of_ble_eq_true rfl⟩
set_option maxHeartbeats 4000000 in
set_option maxRecDepth 100000 in
theorem kX7_add {c r n : Int} (hr2 : rI c ∧ rI r) (hc2 : isCellB c r = true) {b : Int} (hIv : Iv S X b) (hb : b + 210 ≤ 107520) (h9 : T9ok Tx9) (hp9 : T9p Tx9) (hnn : isValueB n = true) (hvv : isValueB (S.1 0 (atI c r) + n) = true) : Ct l yX7_add wsX7_add ({ frames := 14, cells := 2 + growC (X.2 25) (X.2 26).toNat, slots := 14 + growS (X.2 25) (X.2 26).toNat, locals := 350 } : Room) D (tyL cB cC cI cO cJ cD) ee [.ref (P 1), .int (iI c), .int (iI r), .int (iI n)] (CW cI cO ee Tx9 P S X) (Ji fun h z9 h' => z9 = (byHandS S 97 (atI c r) (S.1 0 (atI c r) + n) n).1 ∧ (∃ P' X4 S3, CW cI cO ee Tx9 P' (byHandS S 97 (atI c r) (S.1 0 (atI c r) + n) n).2 (endX S3 X4 (S.2 24)) h' ∧ P' 1 = P 1 ∧ S3 = chX (handS S 97 (atI c r) (S.1 0 (atI c r) + n) n) (S.2 24) ∧ EW S3 X4 (S.2 24) ∧ X4.2 26 = (lenG (X.2 25) (X.2 26).toNat : Int)) ∧ Fr T7 h h') (2 + growC (X.2 25) (X.2 26).toNat) (14 + growS (X.2 25) (X.2 26).toNat) := by
  refine Ct_of (cc := cX7_add) (own := RX7) [some (.ref (P 1)), some (.int (iI c)), some (.int (iI r)), some (.int (iI n))] (by decide) rfl rfl (Nat.le_of_ble_eq_true rfl) (fun i9 v9 h9 => argL [.ref (P 1), .int (iI c), .int (iI r), .int (iI n)] 0 rfl i9 v9 h9) ?_
  intro p e s m9 args below meth c9 h0 sz hI C hr hlk hinit
  have hin : ∀ w ∈ wsX70, w ∈ wsX7_add := by decide +kernel
  have hwp := hIv.1.1
  refine V_weak (I2 := fun x9 => CW cI cO ee Tx9 P S X x9 ∧ x9 = h0) (fun x9 hx9 => by subst hx9; exact ⟨hI, rfl⟩) ?_
  have hx := atI_in (c := c) (r := r) hc2
  have hn0 : rI n := (by have := isValue_of.mp hnn; omega)
  refine V_iload1 (pc' := 1) C dX7_add_0 rfl ?_
  refine V_iload2 (pc' := 2) C dX7_add_1 rfl ?_
  refine V_callS (n := 2) [.int (iI c), .int (iI r)] C (kX7_needCell hr2 hc2) gX7_add_X7_needCell rfl ydX7_needCell ⟨Nat.le_of_ble_eq_true rfl, Nat.le_of_ble_eq_true rfl⟩ ⟨rfl, rfl⟩ rfl (fun h hh => trivial) rfl (Nat.le_of_ble_eq_true rfl) dX7_add_2 ⟨Nat.le_of_ble_eq_true rfl, Nat.le_of_ble_eq_true rfl⟩ (fun h v h' hh hj9 => ?_)
  obtain ⟨rfl, rfl⟩ := hj9
  refine V_weak (I2 := fun x9 => CW cI cO ee Tx9 P S X x9 ∧ x9 = h0) (fun x9 hx9 => by rw [hx9]; exact hh) ?_
  refine V_iload3 (pc' := 6) C dX7_add_5 rfl ?_
  refine sCall1 (pc' := 9) C (kX7_isValue (x := n) hn0) gX7_add_X7_isValue rfl ydX7_isValue ⟨Nat.le_of_ble_eq_true rfl, Nat.le_of_ble_eq_true rfl⟩ ⟨rfl, rfl⟩ (Nat.le_of_ble_eq_true rfl) dX7_add_6 ⟨Nat.zero_le _, Nat.zero_le _⟩ rfl ?_
  refine V_ifeqB (tgt := 32) C dX7_add_9 (by decide) rfl (fun c_9 => ?_) (fun c_9 => ?_)
  · exact absurd c_9 (by simp_all)
  · refine V_aload0 (pc' := 13) C dX7_add_12 rfl ?_
    refine V_getf (pc' := 16) (T := TX7) (N := 13) (ci := 12) C hin rfl 0 (by decide) (by decide +kernel) (fun h hh => ⟨1, _, hh.1.1, rfl⟩) dX7_add_13 rfl ?_
    refine V_iload1 (pc' := 17) C dX7_add_16 rfl ?_
    refine V_iload2 (pc' := 18) C dX7_add_17 rfl ?_
    refine sCall2 (pc' := 21) C (kX7_placeOf (c := c) (r := r)) gX7_add_X7_placeOf rfl ydX7_placeOf ⟨Nat.le_of_ble_eq_true rfl, Nat.le_of_ble_eq_true rfl⟩ ⟨rfl, rfl⟩ (Nat.le_of_ble_eq_true rfl) dX7_add_18 ⟨Nat.zero_le _, Nat.zero_le _⟩ rfl ?_
    refine V_callV (ci := 6) (n := 1) [.int (iI (atI c r))] C (kX1_valueAt (v := P 3) (g := S.1 0) (t := 2) (z := atI c r) (by omega)) gX7_add_X1_valueAt rfl ydX1_valueAt ⟨Nat.le_of_ble_eq_true rfl, Nat.le_of_ble_eq_true rfl⟩ ⟨rfl, rfl⟩ rfl rfl (fun h hh => ⟨2, _, hh.1.2.1.1⟩) (fun h hh => hh.1.2.1) rfl (Nat.le_of_ble_eq_true rfl) dX7_add_21 ⟨Nat.le_of_ble_eq_true rfl, Nat.le_of_ble_eq_true rfl⟩ (fun h v h' hh hj9 => ?_)
    obtain ⟨r9, rfl, hj8, rfl⟩ := hj9
    rw [hj8]
    refine V_weak (I2 := fun x9 => CW cI cO ee Tx9 P S X x9 ∧ x9 = h0) (fun x9 hx9 => by rw [hx9]; exact hh) ?_
    refine V_iload3 (pc' := 25) C dX7_add_24 rfl ?_
    refine V_iadd (pc' := 26) C dX7_add_25 rfl ?_
    refine sCall1 (pc' := 29) C (kX7_isValue (x := S.1 0 (atI c r) + n) (by have h1 := isValue_of.mp hnn; have h2 := hwp.2.2.2.2.2 (atI c r) hx.1 hx.2; omega)) gX7_add_X7_isValue rfl ydX7_isValue ⟨Nat.le_of_ble_eq_true rfl, Nat.le_of_ble_eq_true rfl⟩ ⟨rfl, rfl⟩ (Nat.le_of_ble_eq_true rfl) dX7_add_26 ⟨Nat.zero_le _, Nat.zero_le _⟩ rfl ?_
    refine V_ifneB (tgt := 42) C dX7_add_29 (by decide) rfl (fun c_29 => ?_) (fun c_29 => ?_)
    · refine V_aload0 (pc' := 43) C dX7_add_42 rfl ?_
      refine V_bipush (pc' := 45) C dX7_add_43 rfl (by decide) ?_
      refine V_iload1 (pc' := 46) C dX7_add_45 rfl ?_
      refine V_iload2 (pc' := 47) C dX7_add_46 rfl ?_
      refine V_iload3 (pc' := 48) C dX7_add_47 rfl ?_
      refine V_callV (ci := 12) (n := 4) [.int (iI 97), .int (iI c), .int (iI r), .int (iI n)] C (kX7_byHand (a := 97) (c := c) (r := r) (n := n) (v := S.1 0 (atI c r) + n) hIv hb h9 hp9 hc2 hr2 (Or.inr (Or.inl rfl)) (isValue_of.mp hnn) (by unfold vbI; rw [if_neg (by decide), if_pos rfl]) hvv) gX7_add_X7_changeByHand rfl ydX7_changeByHand ⟨Nat.le_of_ble_eq_true rfl, Nat.le_of_ble_eq_true rfl⟩ ⟨rfl, rfl⟩ rfl rfl (fun h hh => ⟨1, _, hh.1.1⟩) (fun h hh => hh.1) rfl (Nat.le_of_ble_eq_true rfl) dX7_add_48 ⟨by dsimp only; omega, by dsimp only; omega⟩ (fun h v h' hh hj9 => ?_)
      obtain ⟨r9, rfl, hj8, hj1, hj2⟩ := hj9
      rw [hj8]
      refine V_weak (I2 := fun x9 => (∃ P' X4 S3, CW cI cO ee Tx9 P' (byHandS S 97 (atI c r) (S.1 0 (atI c r) + n) n).2 (endX S3 X4 (S.2 24)) x9 ∧ P' 1 = P 1 ∧ S3 = chX (handS S 97 (atI c r) (S.1 0 (atI c r) + n) n) (S.2 24) ∧ EW S3 X4 (S.2 24) ∧ X4.2 26 = (lenG (X.2 25) (X.2 26).toNat : Int)) ∧ Fr T7 h0 x9) (fun x9 hx9 => by rw [hx9]; exact ⟨hj1, by rw [← hh.2]; exact hj2⟩) ?_
      exact V_end C hr hlk (fun h' hh => ⟨_, rfl, rfl, hh.1, hh.2⟩) ⟨by omega, by omega⟩ dX7_add_51
    · exact absurd c_29 (by simp_all)
set_option maxHeartbeats 4000000 in
set_option maxRecDepth 100000 in
theorem xX7_add_1 {c r n : Int} (hr2 : rI c ∧ rI r) (hc2 : isCellB c r = false) (hst : l.stackTraces = false) : Tx l yX7_add wsX7_add ({ frames := 8, cells := 1, slots := 6, locals := 170 } : Room) D (tyL cB cC cI cO cJ cD) ee [.ref (P 1), .int (iI c), .int (iI r), .int (iI n)] (CW cI cO ee Tx9 P S X) "java/lang/IndexOutOfBoundsException" (fun h h' => h' = h) (1) (6) := by
  refine Tx_of (cc := cX7_add) (own := RX7) [some (.ref (P 1)), some (.int (iI c)), some (.int (iI r)), some (.int (iI n))] (by decide) rfl rfl (Nat.le_of_ble_eq_true rfl) (fun i9 v9 h9 => argL [.ref (P 1), .int (iI c), .int (iI r), .int (iI n)] 0 rfl i9 v9 h9) ?_
  intro p e s m9 args below meth c9 h0 sz hI C hlk hxt
  refine V_weak (I2 := fun x9 => CW cI cO ee Tx9 P S X x9 ∧ x9 = h0) (fun x9 hx9 => by subst hx9; exact ⟨hI, rfl⟩) ?_
  refine V_iload1 (pc' := 1) C dX7_add_0 rfl ?_
  refine V_iload2 (pc' := 2) C dX7_add_1 rfl ?_
  exact V_outS (n := 2) [.int (iI c), .int (iI r)] C (xX7_needCell hr2 hc2 hst) gX7_add_X7_needCell rfl ydX7_needCell ⟨Nat.le_of_ble_eq_true rfl, Nat.le_of_ble_eq_true rfl⟩ ⟨rfl, rfl⟩ rfl (fun h hh => trivial) rfl (Nat.le_of_ble_eq_true rfl) dX7_add_2 ⟨Nat.le_of_ble_eq_true rfl, Nat.le_of_ble_eq_true rfl⟩ hxt hlk (fun h h' hh hj => by rw [hj]; exact hh.2) ⟨Nat.le_of_ble_eq_true rfl, Nat.le_of_ble_eq_true rfl⟩
set_option maxHeartbeats 4000000 in
set_option maxRecDepth 100000 in
theorem xX7_add_2 {c r n : Int} (hr2 : rI c ∧ rI r) (hc2 : isCellB c r = true) (hn0 : rI n) (hnn : isValueB n = false) (hst : l.stackTraces = false) : Tx l yX7_add wsX7_add ({ frames := 8, cells := 1, slots := 6, locals := 170 } : Room) D (tyL cB cC cI cO cJ cD) ee [.ref (P 1), .int (iI c), .int (iI r), .int (iI n)] (CW cI cO ee Tx9 P S X) "java/lang/IllegalArgumentException" (fun h h' => h' = h) (1) (6) := by
  refine Tx_of (cc := cX7_add) (own := RX7) [some (.ref (P 1)), some (.int (iI c)), some (.int (iI r)), some (.int (iI n))] (by decide) rfl rfl (Nat.le_of_ble_eq_true rfl) (fun i9 v9 h9 => argL [.ref (P 1), .int (iI c), .int (iI r), .int (iI n)] 0 rfl i9 v9 h9) ?_
  intro p e s m9 args below meth c9 h0 sz hI C hlk hxt
  refine V_weak (I2 := fun x9 => CW cI cO ee Tx9 P S X x9 ∧ x9 = h0) (fun x9 hx9 => by subst hx9; exact ⟨hI, rfl⟩) ?_
  refine V_iload1 (pc' := 1) C dX7_add_0 rfl ?_
  refine V_iload2 (pc' := 2) C dX7_add_1 rfl ?_
  refine V_callS (n := 2) [.int (iI c), .int (iI r)] C (kX7_needCell hr2 hc2) gX7_add_X7_needCell rfl ydX7_needCell ⟨Nat.le_of_ble_eq_true rfl, Nat.le_of_ble_eq_true rfl⟩ ⟨rfl, rfl⟩ rfl (fun h hh => trivial) rfl (Nat.le_of_ble_eq_true rfl) dX7_add_2 ⟨Nat.le_of_ble_eq_true rfl, Nat.le_of_ble_eq_true rfl⟩ (fun h v h' hh hj9 => ?_)
  obtain ⟨rfl, rfl⟩ := hj9
  refine V_weak (I2 := fun x9 => CW cI cO ee Tx9 P S X x9 ∧ x9 = h0) (fun x9 hx9 => by rw [hx9]; exact hh) ?_
  refine V_iload3 (pc' := 6) C dX7_add_5 rfl ?_
  refine sCall1 (pc' := 9) C (kX7_isValue (x := n) hn0) gX7_add_X7_isValue rfl ydX7_isValue ⟨Nat.le_of_ble_eq_true rfl, Nat.le_of_ble_eq_true rfl⟩ ⟨rfl, rfl⟩ (Nat.le_of_ble_eq_true rfl) dX7_add_6 ⟨Nat.zero_le _, Nat.zero_le _⟩ rfl ?_
  refine V_ifeqB (tgt := 32) C dX7_add_9 (by decide) rfl (fun c_9 => ?_) (fun c_9 => ?_)
  · exact V_throwS (text := "the number or the value is out of range") (names := ["java/lang/RuntimeException", "java/lang/Exception"]) C hst (by decide +kernel) (by decide +kernel) (by decide +kernel) (by decide +kernel) (by decide +kernel) (by decide +kernel) (by decide +kernel) (by decide +kernel) dX7_add_32 dX7_add_35 dX7_add_36 dX7_add_38 dX7_add_41 hxt (Nat.le_of_ble_eq_true rfl) (Nat.le_of_ble_eq_true rfl) ⟨Nat.le_of_ble_eq_true rfl, Nat.le_of_ble_eq_true rfl⟩ hlk (fun h' hh => hh.2) rfl ⟨Nat.le_of_ble_eq_true rfl, Nat.le_of_ble_eq_true rfl⟩
  · exact absurd c_9 (by simp_all)
set_option maxHeartbeats 4000000 in
set_option maxRecDepth 100000 in
theorem xX7_add_3 {c r n : Int} (hr2 : rI c ∧ rI r) (hc2 : isCellB c r = true) (hwp : WFp S) (hnn : isValueB n = true) (hvv : isValueB (S.1 0 (atI c r) + n) = false) (hst : l.stackTraces = false) : Tx l yX7_add wsX7_add ({ frames := 8, cells := 1, slots := 6, locals := 170 } : Room) D (tyL cB cC cI cO cJ cD) ee [.ref (P 1), .int (iI c), .int (iI r), .int (iI n)] (CW cI cO ee Tx9 P S X) "java/lang/IllegalArgumentException" (fun h h' => h' = h) (1) (6) := by
  refine Tx_of (cc := cX7_add) (own := RX7) [some (.ref (P 1)), some (.int (iI c)), some (.int (iI r)), some (.int (iI n))] (by decide) rfl rfl (Nat.le_of_ble_eq_true rfl) (fun i9 v9 h9 => argL [.ref (P 1), .int (iI c), .int (iI r), .int (iI n)] 0 rfl i9 v9 h9) ?_
  intro p e s m9 args below meth c9 h0 sz hI C hlk hxt
  have hin : ∀ w ∈ wsX70, w ∈ wsX7_add := by decide +kernel
  refine V_weak (I2 := fun x9 => CW cI cO ee Tx9 P S X x9 ∧ x9 = h0) (fun x9 hx9 => by subst hx9; exact ⟨hI, rfl⟩) ?_
  have hx := atI_in (c := c) (r := r) hc2
  have hn0 : rI n := (by have := isValue_of.mp hnn; omega)
  refine V_iload1 (pc' := 1) C dX7_add_0 rfl ?_
  refine V_iload2 (pc' := 2) C dX7_add_1 rfl ?_
  refine V_callS (n := 2) [.int (iI c), .int (iI r)] C (kX7_needCell hr2 hc2) gX7_add_X7_needCell rfl ydX7_needCell ⟨Nat.le_of_ble_eq_true rfl, Nat.le_of_ble_eq_true rfl⟩ ⟨rfl, rfl⟩ rfl (fun h hh => trivial) rfl (Nat.le_of_ble_eq_true rfl) dX7_add_2 ⟨Nat.le_of_ble_eq_true rfl, Nat.le_of_ble_eq_true rfl⟩ (fun h v h' hh hj9 => ?_)
  obtain ⟨rfl, rfl⟩ := hj9
  refine V_weak (I2 := fun x9 => CW cI cO ee Tx9 P S X x9 ∧ x9 = h0) (fun x9 hx9 => by rw [hx9]; exact hh) ?_
  refine V_iload3 (pc' := 6) C dX7_add_5 rfl ?_
  refine sCall1 (pc' := 9) C (kX7_isValue (x := n) hn0) gX7_add_X7_isValue rfl ydX7_isValue ⟨Nat.le_of_ble_eq_true rfl, Nat.le_of_ble_eq_true rfl⟩ ⟨rfl, rfl⟩ (Nat.le_of_ble_eq_true rfl) dX7_add_6 ⟨Nat.zero_le _, Nat.zero_le _⟩ rfl ?_
  refine V_ifeqB (tgt := 32) C dX7_add_9 (by decide) rfl (fun c_9 => ?_) (fun c_9 => ?_)
  · exact absurd c_9 (by simp_all)
  · refine V_aload0 (pc' := 13) C dX7_add_12 rfl ?_
    refine V_getf (pc' := 16) (T := TX7) (N := 13) (ci := 12) C hin rfl 0 (by decide) (by decide +kernel) (fun h hh => ⟨1, _, hh.1.1, rfl⟩) dX7_add_13 rfl ?_
    refine V_iload1 (pc' := 17) C dX7_add_16 rfl ?_
    refine V_iload2 (pc' := 18) C dX7_add_17 rfl ?_
    refine sCall2 (pc' := 21) C (kX7_placeOf (c := c) (r := r)) gX7_add_X7_placeOf rfl ydX7_placeOf ⟨Nat.le_of_ble_eq_true rfl, Nat.le_of_ble_eq_true rfl⟩ ⟨rfl, rfl⟩ (Nat.le_of_ble_eq_true rfl) dX7_add_18 ⟨Nat.zero_le _, Nat.zero_le _⟩ rfl ?_
    refine V_callV (ci := 6) (n := 1) [.int (iI (atI c r))] C (kX1_valueAt (v := P 3) (g := S.1 0) (t := 2) (z := atI c r) (by omega)) gX7_add_X1_valueAt rfl ydX1_valueAt ⟨Nat.le_of_ble_eq_true rfl, Nat.le_of_ble_eq_true rfl⟩ ⟨rfl, rfl⟩ rfl rfl (fun h hh => ⟨2, _, hh.1.2.1.1⟩) (fun h hh => hh.1.2.1) rfl (Nat.le_of_ble_eq_true rfl) dX7_add_21 ⟨Nat.le_of_ble_eq_true rfl, Nat.le_of_ble_eq_true rfl⟩ (fun h v h' hh hj9 => ?_)
    obtain ⟨r9, rfl, hj8, rfl⟩ := hj9
    rw [hj8]
    refine V_weak (I2 := fun x9 => CW cI cO ee Tx9 P S X x9 ∧ x9 = h0) (fun x9 hx9 => by rw [hx9]; exact hh) ?_
    refine V_iload3 (pc' := 25) C dX7_add_24 rfl ?_
    refine V_iadd (pc' := 26) C dX7_add_25 rfl ?_
    refine sCall1 (pc' := 29) C (kX7_isValue (x := S.1 0 (atI c r) + n) (by have h1 := isValue_of.mp hnn; have h2 := hwp.2.2.2.2.2 (atI c r) hx.1 hx.2; omega)) gX7_add_X7_isValue rfl ydX7_isValue ⟨Nat.le_of_ble_eq_true rfl, Nat.le_of_ble_eq_true rfl⟩ ⟨rfl, rfl⟩ (Nat.le_of_ble_eq_true rfl) dX7_add_26 ⟨Nat.zero_le _, Nat.zero_le _⟩ rfl ?_
    refine V_ifneB (tgt := 42) C dX7_add_29 (by decide) rfl (fun c_29 => ?_) (fun c_29 => ?_)
    · exact absurd c_29 (by simp_all)
    · exact V_throwS (text := "the number or the value is out of range") (names := ["java/lang/RuntimeException", "java/lang/Exception"]) C hst (by decide +kernel) (by decide +kernel) (by decide +kernel) (by decide +kernel) (by decide +kernel) (by decide +kernel) (by decide +kernel) (by decide +kernel) dX7_add_32 dX7_add_35 dX7_add_36 dX7_add_38 dX7_add_41 hxt (Nat.le_of_ble_eq_true rfl) (Nat.le_of_ble_eq_true rfl) ⟨Nat.le_of_ble_eq_true rfl, Nat.le_of_ble_eq_true rfl⟩ hlk (fun h' hh => hh.2) rfl ⟨Nat.le_of_ble_eq_true rfl, Nat.le_of_ble_eq_true rfl⟩
set_option maxHeartbeats 4000000 in
set_option maxRecDepth 100000 in
theorem kX7_copyBase {c r : Int} (hr2 : rI c ∧ rI r) (hc2 : isCellB c r = true) {b : Int} (hIv : Iv S X b) (hb : b + 210 ≤ 107520) (h9 : T9ok Tx9) (hp9 : T9p Tx9) (hz : S.2 27 ≠ -1) : Ct l yX7_copyBase wsX7_copyBase ({ frames := 14, cells := 2 + growC (X.2 25) (X.2 26).toNat, slots := 14 + growS (X.2 25) (X.2 26).toNat, locals := 350 } : Room) D (tyL cB cC cI cO cJ cD) ee [.ref (P 1), .int (iI c), .int (iI r)] (CW cI cO ee Tx9 P S X) (Ji fun h z9 h' => z9 = (byHandS S 99 (atI c r) (S.1 0 (S.2 28)) 0).1 ∧ (∃ P' X4 S3, CW cI cO ee Tx9 P' (byHandS S 99 (atI c r) (S.1 0 (S.2 28)) 0).2 (endX S3 X4 (S.2 24)) h' ∧ P' 1 = P 1 ∧ S3 = chX (handS S 99 (atI c r) (S.1 0 (S.2 28)) 0) (S.2 24) ∧ EW S3 X4 (S.2 24) ∧ X4.2 26 = (lenG (X.2 25) (X.2 26).toNat : Int)) ∧ Fr T7 h h') (2 + growC (X.2 25) (X.2 26).toNat) (14 + growS (X.2 25) (X.2 26).toNat) := by
  refine Ct_of (cc := cX7_copyBase) (own := RX7) [some (.ref (P 1)), some (.int (iI c)), some (.int (iI r))] (by decide) rfl rfl (Nat.le_of_ble_eq_true rfl) (fun i9 v9 h9 => argL [.ref (P 1), .int (iI c), .int (iI r)] 0 rfl i9 v9 h9) ?_
  intro p e s m9 args below meth c9 h0 sz hI C hr hlk hinit
  have hin : ∀ w ∈ wsX70, w ∈ wsX7_copyBase := by decide +kernel
  have hwp := hIv.1.1
  obtain ⟨hw1, hw2, hw3, hw4, hw5, hw6⟩ := id hwp
  refine V_weak (I2 := fun x9 => CW cI cO ee Tx9 P S X x9 ∧ x9 = h0) (fun x9 hx9 => by subst hx9; exact ⟨hI, rfl⟩) ?_
  refine V_iload1 (pc' := 1) C dX7_copyBase_0 rfl ?_
  refine V_iload2 (pc' := 2) C dX7_copyBase_1 rfl ?_
  refine V_callS (n := 2) [.int (iI c), .int (iI r)] C (kX7_needCell hr2 hc2) gX7_copyBase_X7_needCell rfl ydX7_needCell ⟨Nat.le_of_ble_eq_true rfl, Nat.le_of_ble_eq_true rfl⟩ ⟨rfl, rfl⟩ rfl (fun h hh => trivial) rfl (Nat.le_of_ble_eq_true rfl) dX7_copyBase_2 ⟨Nat.le_of_ble_eq_true rfl, Nat.le_of_ble_eq_true rfl⟩ (fun h v h' hh hj9 => ?_)
  obtain ⟨rfl, rfl⟩ := hj9
  refine V_weak (I2 := fun x9 => CW cI cO ee Tx9 P S X x9 ∧ x9 = h0) (fun x9 hx9 => by rw [hx9]; exact hh) ?_
  refine V_aload0 (pc' := 6) C dX7_copyBase_5 rfl ?_
  refine V_getf (pc' := 9) (T := TX7) (N := 13) (ci := 12) C hin rfl 9 (by decide) (by decide +kernel) (fun h hh => ⟨1, _, hh.1.1, rfl⟩) dX7_copyBase_6 rfl ?_
  refine V_iconst (pc' := 10) C dX7_copyBase_9 rfl ?_
  refine V_icmpne (tgt := 23) C (by omega) dX7_copyBase_10 (by decide) rfl (fun c_10 => ?_) (fun c_10 => ?_)
  · refine V_aload0 (pc' := 24) C dX7_copyBase_23 rfl ?_
    refine V_bipush (pc' := 26) C dX7_copyBase_24 rfl (by decide) ?_
    refine V_iload1 (pc' := 27) C dX7_copyBase_26 rfl ?_
    refine V_iload2 (pc' := 28) C dX7_copyBase_27 rfl ?_
    refine V_iconst (pc' := 29) C dX7_copyBase_28 rfl ?_
    refine V_callV (ci := 12) (n := 4) [.int (iI 99), .int (iI c), .int (iI r), .int (iI 0)] C (kX7_byHand (a := 99) (c := c) (r := r) (n := 0) (v := S.1 0 (S.2 28)) hIv hb h9 hp9 hc2 hr2 (Or.inr (Or.inr rfl)) ⟨by decide, by decide⟩ (by unfold vbI; rw [if_pos rfl]) (isValue_of.mpr (hwp.2.2.2.2.2 _ (by omega) (by omega)))) gX7_copyBase_X7_changeByHand rfl ydX7_changeByHand ⟨Nat.le_of_ble_eq_true rfl, Nat.le_of_ble_eq_true rfl⟩ ⟨rfl, rfl⟩ rfl rfl (fun h hh => ⟨1, _, hh.1.1⟩) (fun h hh => hh.1) rfl (Nat.le_of_ble_eq_true rfl) dX7_copyBase_29 ⟨by dsimp only; omega, by dsimp only; omega⟩ (fun h v h' hh hj9 => ?_)
    obtain ⟨r9, rfl, hj8, hj1, hj2⟩ := hj9
    rw [hj8]
    refine V_weak (I2 := fun x9 => (∃ P' X4 S3, CW cI cO ee Tx9 P' (byHandS S 99 (atI c r) (S.1 0 (S.2 28)) 0).2 (endX S3 X4 (S.2 24)) x9 ∧ P' 1 = P 1 ∧ S3 = chX (handS S 99 (atI c r) (S.1 0 (S.2 28)) 0) (S.2 24) ∧ EW S3 X4 (S.2 24) ∧ X4.2 26 = (lenG (X.2 25) (X.2 26).toNat : Int)) ∧ Fr T7 h0 x9) (fun x9 hx9 => by rw [hx9]; exact ⟨hj1, by rw [← hh.2]; exact hj2⟩) ?_
    exact V_end C hr hlk (fun h' hh => ⟨_, rfl, rfl, hh.1, hh.2⟩) ⟨by omega, by omega⟩ dX7_copyBase_32
  · exact absurd c_10 (by omega)
set_option maxHeartbeats 4000000 in
set_option maxRecDepth 100000 in
theorem xX7_copyBase_1 {c r : Int} (hr2 : rI c ∧ rI r) (hc2 : isCellB c r = false) (hst : l.stackTraces = false) : Tx l yX7_copyBase wsX7_copyBase ({ frames := 8, cells := 1, slots := 6, locals := 170 } : Room) D (tyL cB cC cI cO cJ cD) ee [.ref (P 1), .int (iI c), .int (iI r)] (CW cI cO ee Tx9 P S X) "java/lang/IndexOutOfBoundsException" (fun h h' => h' = h) (1) (6) := by
  refine Tx_of (cc := cX7_copyBase) (own := RX7) [some (.ref (P 1)), some (.int (iI c)), some (.int (iI r))] (by decide) rfl rfl (Nat.le_of_ble_eq_true rfl) (fun i9 v9 h9 => argL [.ref (P 1), .int (iI c), .int (iI r)] 0 rfl i9 v9 h9) ?_
  intro p e s m9 args below meth c9 h0 sz hI C hlk hxt
  refine V_weak (I2 := fun x9 => CW cI cO ee Tx9 P S X x9 ∧ x9 = h0) (fun x9 hx9 => by subst hx9; exact ⟨hI, rfl⟩) ?_
  refine V_iload1 (pc' := 1) C dX7_copyBase_0 rfl ?_
  refine V_iload2 (pc' := 2) C dX7_copyBase_1 rfl ?_
  exact V_outS (n := 2) [.int (iI c), .int (iI r)] C (xX7_needCell hr2 hc2 hst) gX7_copyBase_X7_needCell rfl ydX7_needCell ⟨Nat.le_of_ble_eq_true rfl, Nat.le_of_ble_eq_true rfl⟩ ⟨rfl, rfl⟩ rfl (fun h hh => trivial) rfl (Nat.le_of_ble_eq_true rfl) dX7_copyBase_2 ⟨Nat.le_of_ble_eq_true rfl, Nat.le_of_ble_eq_true rfl⟩ hxt hlk (fun h h' hh hj => by rw [hj]; exact hh.2) ⟨Nat.le_of_ble_eq_true rfl, Nat.le_of_ble_eq_true rfl⟩
set_option maxHeartbeats 4000000 in
set_option maxRecDepth 100000 in
theorem xX7_copyBase_2 {c r : Int} (hr2 : rI c ∧ rI r) (hc2 : isCellB c r = true) (hz : S.2 27 = -1) (hst : l.stackTraces = false) : Tx l yX7_copyBase wsX7_copyBase ({ frames := 8, cells := 1, slots := 6, locals := 170 } : Room) D (tyL cB cC cI cO cJ cD) ee [.ref (P 1), .int (iI c), .int (iI r)] (CW cI cO ee Tx9 P S X) "java/lang/IllegalStateException" (fun h h' => h' = h) (1) (6) := by
  refine Tx_of (cc := cX7_copyBase) (own := RX7) [some (.ref (P 1)), some (.int (iI c)), some (.int (iI r))] (by decide) rfl rfl (Nat.le_of_ble_eq_true rfl) (fun i9 v9 h9 => argL [.ref (P 1), .int (iI c), .int (iI r)] 0 rfl i9 v9 h9) ?_
  intro p e s m9 args below meth c9 h0 sz hI C hlk hxt
  have hin : ∀ w ∈ wsX70, w ∈ wsX7_copyBase := by decide +kernel
  refine V_weak (I2 := fun x9 => CW cI cO ee Tx9 P S X x9 ∧ x9 = h0) (fun x9 hx9 => by subst hx9; exact ⟨hI, rfl⟩) ?_
  refine V_iload1 (pc' := 1) C dX7_copyBase_0 rfl ?_
  refine V_iload2 (pc' := 2) C dX7_copyBase_1 rfl ?_
  refine V_callS (n := 2) [.int (iI c), .int (iI r)] C (kX7_needCell hr2 hc2) gX7_copyBase_X7_needCell rfl ydX7_needCell ⟨Nat.le_of_ble_eq_true rfl, Nat.le_of_ble_eq_true rfl⟩ ⟨rfl, rfl⟩ rfl (fun h hh => trivial) rfl (Nat.le_of_ble_eq_true rfl) dX7_copyBase_2 ⟨Nat.le_of_ble_eq_true rfl, Nat.le_of_ble_eq_true rfl⟩ (fun h v h' hh hj9 => ?_)
  obtain ⟨rfl, rfl⟩ := hj9
  refine V_weak (I2 := fun x9 => CW cI cO ee Tx9 P S X x9 ∧ x9 = h0) (fun x9 hx9 => by rw [hx9]; exact hh) ?_
  refine V_aload0 (pc' := 6) C dX7_copyBase_5 rfl ?_
  refine V_getf (pc' := 9) (T := TX7) (N := 13) (ci := 12) C hin rfl 9 (by decide) (by decide +kernel) (fun h hh => ⟨1, _, hh.1.1, rfl⟩) dX7_copyBase_6 rfl ?_
  refine V_iconst (pc' := 10) C dX7_copyBase_9 rfl ?_
  refine V_icmpne (tgt := 23) C (by omega) dX7_copyBase_10 (by decide) rfl (fun c_10 => ?_) (fun c_10 => ?_)
  · exact absurd c_10 (by omega)
  · exact V_throwS (text := "no macro is recorded") (names := ["java/lang/RuntimeException", "java/lang/Exception"]) C hst (by decide +kernel) (by decide +kernel) (by decide +kernel) (by decide +kernel) (by decide +kernel) (by decide +kernel) (by decide +kernel) (by decide +kernel) dX7_copyBase_13 dX7_copyBase_16 dX7_copyBase_17 dX7_copyBase_19 dX7_copyBase_22 hxt (Nat.le_of_ble_eq_true rfl) (Nat.le_of_ble_eq_true rfl) ⟨Nat.le_of_ble_eq_true rfl, Nat.le_of_ble_eq_true rfl⟩ hlk (fun h' hh => hh.2) rfl ⟨Nat.le_of_ble_eq_true rfl, Nat.le_of_ble_eq_true rfl⟩
end

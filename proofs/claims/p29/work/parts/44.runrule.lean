/-! the rule of a change -/
theorem CW.skip {cI cO : ClassId} {ee : Nat × Nat} {Tx9 : (Nat → Nat) → MSt → Hp → Prop} {P : Nat → Nat} {S X : MSt} {h : Hp} {v : Int} (H : CW cI cO ee Tx9 P S X h) (hw : WFp S) (h9 : T9ok Tx9) : CW cI cO ee Tx9 P (uG S 26 v) X (hup h (P 1) (1, .inr (12, (mnF P S X).set 12 (iV v)))) := by
  obtain ⟨a1, a2, a3, a4, a5, a6, a7, a8⟩ := H
  have hF : Fr (fun u => u = 1) h (hup h (P 1) (1, .inr (12, (mnF P S X).set 12 (iV v)))) := Fr.refl.up a1 rfl
  exact ⟨hup_s, a2.fr hF (by decide) (by decide), a3.fr hF (by decide) (by decide), a4.fr hF (fun u _ _ => by omega), a5.fr hF (by decide) (by decide), a6.fr hF (by decide), h9 P S (uG S 26 v) h _ _ rfl rfl hF (by decide) (by decide) a7, MrH.fr (S := S) a8 hw hF (fun u _ _ => by omega)⟩
theorem ydX7_runRuleFor : yX7_runRuleFor.cls = RX7 ∧ yX7_runRuleFor.cls ≠ "java/lang/invoke/MethodHandle" ∧ yX7_runRuleFor.cls ≠ "java/lang/invoke/VarHandle" ∧ (parseMethodDescriptor yX7_runRuleFor.desc).map (fun d => d.parameters.length) = some 2 := by decide +kernel
section
variable {l : Launch} {D : va_G} {cB cC cI cO cJ cD : ClassId} {ee : Nat × Nat} {Tx9 : (Nat → Nat) → MSt → Hp → Prop} {P : Nat → Nat} {S X : MSt}
set_option maxHeartbeats 4000000 in
set_option maxRecDepth 100000 in
theorem kX7_runRuleFor_n1 (hwp : WFp S) {x dp : Int} (hx : 0 ≤ x ∧ x < 48) (hno : ruledI S x < 0) : Ct l yX7_runRuleFor wsX7_runRuleFor ({ frames := 8, cells := 0, slots := 0, locals := 190 } : Room) D (tyL cB cC cI cO cJ cD) ee [.ref (P 1), .int (iI x), .int (iI dp)] (CW cI cO ee Tx9 P S X) (Ji fun h z9 h' => z9 = bI false ∧ h' = h) (0) (0) := by
  refine Ct_of (cc := cX7_runRuleFor) (own := RX7) [some (.ref (P 1)), some (.int (iI x)), some (.int (iI dp)), none, none, none] (by decide) rfl rfl (Nat.le_of_ble_eq_true rfl) (fun i9 v9 h9 => argL [.ref (P 1), .int (iI x), .int (iI dp)] 3 rfl i9 v9 h9) ?_
  intro p e s m9 args below meth c9 h0 sz hI C hr hlk hinit
  have hin : ∀ w ∈ wsX70, w ∈ wsX7_runRuleFor := by decide +kernel
  have hin5 : ∀ w ∈ wsX50, w ∈ wsX7_runRuleFor := by decide +kernel
  have hin3 : ∀ w ∈ wsX30, w ∈ wsX7_runRuleFor := by decide +kernel
  refine V_weak (I2 := fun x => CW cI cO ee Tx9 P S X x ∧ x = h0) (fun x hx => by subst hx; exact ⟨hI, rfl⟩) ?_
  obtain ⟨md1, ar1, hl1⟩ := hI.2.2.2.2.2.2.2.1
  obtain ⟨md2, ar2, hl2⟩ := hI.2.2.2.2.2.2.2.2.2.1
  have hmc := hI.2.2.2.2.2.2.2.2.1
  have hru := hI.2.2.2.2.2.2.2.2.2.2
  obtain ⟨hw1, hw2, hw3, hw4, hw5, hw6⟩ := id hwp
  have hri := ruledI_in (S := S) (x := x) ⟨by omega, by omega⟩
  have hrl : ruledI S x < S.2 23 := by
    have h8 := (ruN_lt (S := S) (x := x) (S.2 23).toNat).2
    show ruN S x (S.2 23).toNat < S.2 23
    omega
  refine V_iload1 (pc' := 1) C dX7_runRuleFor_0 rfl ?_
  refine V_bipush (pc' := 3) C dX7_runRuleFor_1 rfl (by decide) ?_
  refine V_irem (pc' := 4) C (by omega) dX7_runRuleFor_3 rfl ?_
  refine V_istore3 (pc' := 5) C dX7_runRuleFor_4 rfl (by decide) rfl ?_
  refine V_iload1 (pc' := 6) C dX7_runRuleFor_5 rfl ?_
  refine V_bipush (pc' := 8) C dX7_runRuleFor_6 rfl (by decide) ?_
  refine V_idiv (pc' := 9) C (by omega) dX7_runRuleFor_8 rfl ?_
  refine V_istore4 (pc' := 11) C dX7_runRuleFor_9 rfl (by decide) rfl ?_
  refine V_aload0 (pc' := 12) C dX7_runRuleFor_11 rfl ?_
  refine V_aload0 (pc' := 13) C dX7_runRuleFor_12 rfl ?_
  refine V_iload3 (pc' := 14) C dX7_runRuleFor_13 rfl ?_
  refine V_iload4 (pc' := 16) C dX7_runRuleFor_14 rfl ?_
  refine V_callV (ci := 12) (n := 2) [.int (iI (x % 6)), .int (iI (x / 6))] C (kX7_ruleNumberFor (x := x) hwp hx) gX7_runRuleFor_X7_ruleNumberFor rfl ydX7_ruleNumberFor ⟨Nat.le_of_ble_eq_true rfl, Nat.le_of_ble_eq_true rfl⟩ ⟨rfl, rfl⟩ rfl rfl (fun h hh => ⟨1, _, hh.1.1⟩) (fun h hh => hh.1) rfl (Nat.le_of_ble_eq_true rfl) dX7_runRuleFor_16 ⟨Nat.le_of_ble_eq_true rfl, Nat.le_of_ble_eq_true rfl⟩ (fun h v h' hh hj9 => ?_)
  obtain ⟨r9, rfl, hj8, rfl⟩ := hj9
  rw [hj8]
  refine V_weak (I2 := fun x9 => CW cI cO ee Tx9 P S X x9 ∧ x9 = h0) (fun x9 hx9 => by rw [hx9]; exact hh) ?_
  refine V_callV (ci := 12) (n := 1) [.int (iI (ruledI S x))] C (kX7_ruleAt_n (z := ruledI S x) hwp (by omega) (by omega)) gX7_runRuleFor_X7_ruleAt rfl ydX7_ruleAt ⟨Nat.le_of_ble_eq_true rfl, Nat.le_of_ble_eq_true rfl⟩ ⟨rfl, rfl⟩ rfl rfl (fun h hh => ⟨1, _, hh.1.1⟩) (fun h hh => hh.1) rfl (Nat.le_of_ble_eq_true rfl) dX7_runRuleFor_19 ⟨Nat.le_of_ble_eq_true rfl, Nat.le_of_ble_eq_true rfl⟩ (fun h v h' hh hj9 => ?_)
  obtain ⟨rfl, rfl⟩ := hj9
  refine V_weak (I2 := fun x9 => CW cI cO ee Tx9 P S X x9 ∧ x9 = h0) (fun x9 hx9 => by rw [hx9]; exact hh) ?_
  refine V_astoreN5 (pc' := 24) C dX7_runRuleFor_22 rfl (by decide) rfl ?_
  refine V_aloadN5 (pc' := 26) C dX7_runRuleFor_24 rfl ?_
  refine V_ifnullN (tgt := 44) C dX7_runRuleFor_26 (by decide) ?_
  refine V_iconst (pc' := 45) C dX7_runRuleFor_44 rfl ?_
  exact V_endz (z := bI false) C hr hlk (nar_z false) (fun h' hh => ⟨_, rfl, rfl, hh.2⟩) ⟨Nat.le_refl _, Nat.le_refl _⟩ dX7_runRuleFor_45
set_option maxHeartbeats 4000000 in
set_option maxRecDepth 100000 in
theorem kX7_runRuleFor_n2 (hwp : WFp S) {x dp : Int} (hx : 0 ≤ x ∧ x < 48) (hno : 0 ≤ ruledI S x ∧ S.1 14 (ruledI S x) = S.2 27) (hnm : S.1 14 (ruledI S x) < S.2 22) : Ct l yX7_runRuleFor wsX7_runRuleFor ({ frames := 8, cells := 0, slots := 0, locals := 190 } : Room) D (tyL cB cC cI cO cJ cD) ee [.ref (P 1), .int (iI x), .int (iI dp)] (CW cI cO ee Tx9 P S X) (Ji fun h z9 h' => z9 = bI false ∧ h' = h) (0) (0) := by
  refine Ct_of (cc := cX7_runRuleFor) (own := RX7) [some (.ref (P 1)), some (.int (iI x)), some (.int (iI dp)), none, none, none] (by decide) rfl rfl (Nat.le_of_ble_eq_true rfl) (fun i9 v9 h9 => argL [.ref (P 1), .int (iI x), .int (iI dp)] 3 rfl i9 v9 h9) ?_
  intro p e s m9 args below meth c9 h0 sz hI C hr hlk hinit
  have hin : ∀ w ∈ wsX70, w ∈ wsX7_runRuleFor := by decide +kernel
  have hin5 : ∀ w ∈ wsX50, w ∈ wsX7_runRuleFor := by decide +kernel
  have hin3 : ∀ w ∈ wsX30, w ∈ wsX7_runRuleFor := by decide +kernel
  refine V_weak (I2 := fun x => CW cI cO ee Tx9 P S X x ∧ x = h0) (fun x hx => by subst hx; exact ⟨hI, rfl⟩) ?_
  obtain ⟨md1, ar1, hl1⟩ := hI.2.2.2.2.2.2.2.1
  obtain ⟨md2, ar2, hl2⟩ := hI.2.2.2.2.2.2.2.2.2.1
  have hmc := hI.2.2.2.2.2.2.2.2.1
  have hru := hI.2.2.2.2.2.2.2.2.2.2
  obtain ⟨hw1, hw2, hw3, hw4, hw5, hw6⟩ := id hwp
  have hri := ruledI_in (S := S) (x := x) ⟨by omega, by omega⟩
  have hrl : ruledI S x < S.2 23 := by
    have h8 := (ruN_lt (S := S) (x := x) (S.2 23).toNat).2
    show ruN S x (S.2 23).toNat < S.2 23
    omega
  have hno0 := hno.1
  have hq9 : ((ruledI S x).toNat : Int) = ruledI S x := by omega
  have h14 := hw4 (ruledI S x) (by omega) (by omega)
  rw [← hq9] at hno hnm h14
  refine V_iload1 (pc' := 1) C dX7_runRuleFor_0 rfl ?_
  refine V_bipush (pc' := 3) C dX7_runRuleFor_1 rfl (by decide) ?_
  refine V_irem (pc' := 4) C (by omega) dX7_runRuleFor_3 rfl ?_
  refine V_istore3 (pc' := 5) C dX7_runRuleFor_4 rfl (by decide) rfl ?_
  refine V_iload1 (pc' := 6) C dX7_runRuleFor_5 rfl ?_
  refine V_bipush (pc' := 8) C dX7_runRuleFor_6 rfl (by decide) ?_
  refine V_idiv (pc' := 9) C (by omega) dX7_runRuleFor_8 rfl ?_
  refine V_istore4 (pc' := 11) C dX7_runRuleFor_9 rfl (by decide) rfl ?_
  refine V_aload0 (pc' := 12) C dX7_runRuleFor_11 rfl ?_
  refine V_aload0 (pc' := 13) C dX7_runRuleFor_12 rfl ?_
  refine V_iload3 (pc' := 14) C dX7_runRuleFor_13 rfl ?_
  refine V_iload4 (pc' := 16) C dX7_runRuleFor_14 rfl ?_
  refine V_callV (ci := 12) (n := 2) [.int (iI (x % 6)), .int (iI (x / 6))] C (kX7_ruleNumberFor (x := x) hwp hx) gX7_runRuleFor_X7_ruleNumberFor rfl ydX7_ruleNumberFor ⟨Nat.le_of_ble_eq_true rfl, Nat.le_of_ble_eq_true rfl⟩ ⟨rfl, rfl⟩ rfl rfl (fun h hh => ⟨1, _, hh.1.1⟩) (fun h hh => hh.1) rfl (Nat.le_of_ble_eq_true rfl) dX7_runRuleFor_16 ⟨Nat.le_of_ble_eq_true rfl, Nat.le_of_ble_eq_true rfl⟩ (fun h v h' hh hj9 => ?_)
  obtain ⟨r9, rfl, hj8, rfl⟩ := hj9
  rw [hj8]
  refine V_weak (I2 := fun x9 => CW cI cO ee Tx9 P S X x9 ∧ x9 = h0) (fun x9 hx9 => by rw [hx9]; exact hh) ?_
  refine V_callV (ci := 12) (n := 1) [.int (iI (ruledI S x))] C (kX7_ruleAt_s (z := ruledI S x) hwp (by omega)) gX7_runRuleFor_X7_ruleAt rfl ydX7_ruleAt ⟨Nat.le_of_ble_eq_true rfl, Nat.le_of_ble_eq_true rfl⟩ ⟨rfl, rfl⟩ rfl rfl (fun h hh => ⟨1, _, hh.1.1⟩) (fun h hh => hh.1) rfl (Nat.le_of_ble_eq_true rfl) dX7_runRuleFor_19 ⟨Nat.le_of_ble_eq_true rfl, Nat.le_of_ble_eq_true rfl⟩ (fun h v h' hh hj9 => ?_)
  obtain ⟨rfl, rfl⟩ := hj9
  refine V_weak (I2 := fun x9 => CW cI cO ee Tx9 P S X x9 ∧ x9 = h0) (fun x9 hx9 => by rw [hx9]; exact hh) ?_
  refine V_astore5 (pc' := 24) C dX7_runRuleFor_22 rfl (by decide) rfl ?_
  refine V_aload5 (pc' := 26) C dX7_runRuleFor_24 rfl ?_
  refine V_ifnull (pc' := 29) C dX7_runRuleFor_26 rfl ?_
  refine V_aload5 (pc' := 31) C dX7_runRuleFor_29 rfl ?_
  refine V_getfN (pc' := 34) (T := TX5) (N := 3) (ci := 10) C hin5 rfl 1 (by decide) (by decide) (fun h hh => by obtain ⟨_, rfl⟩ := hh; exact ⟨400 + (ruledI S x).toNat, _, (hru (ruledI S x).toNat (by omega)).1, rfl⟩) dX7_runRuleFor_31 rfl ?_
  refine V_getfN (pc' := 37) (T := TX3) (N := 3) (ci := 8) C hin3 rfl 0 (by decide) (by decide) (fun h hh => by obtain ⟨_, rfl⟩ := hh; exact ⟨100 + (S.1 14 ((ruledI S x).toNat : Int)).toNat, _, (hmc _ (by omega)).1, rfl⟩) dX7_runRuleFor_34 rfl ?_
  refine V_aload0 (pc' := 38) C dX7_runRuleFor_37 rfl ?_
  refine V_getf (pc' := 41) (T := TX7) (N := 13) (ci := 12) C hin rfl 9 (by decide) (by decide +kernel) (fun h hh => ⟨1, _, hh.1.1, rfl⟩) dX7_runRuleFor_38 rfl ?_
  refine V_icmpne (tgt := 46) C (by omega) dX7_runRuleFor_41 (by decide) rfl (fun c_41 => ?_) (fun c_41 => ?_)
  · exact absurd c_41 (by omega)
  · refine V_iconst (pc' := 45) C dX7_runRuleFor_44 rfl ?_
    exact V_endz (z := bI false) C hr hlk (nar_z false) (fun h' hh => ⟨_, rfl, rfl, hh.2⟩) ⟨Nat.le_refl _, Nat.le_refl _⟩ dX7_runRuleFor_45
set_option maxHeartbeats 4000000 in
set_option maxRecDepth 100000 in
theorem kX7_runRuleFor_s (hwp : WFp S) (hkd : KD S) (h9 : T9ok Tx9) {m : Nat} (hm : (m : Int) < S.2 22) {x dp : Int} (hx : 0 ≤ x ∧ x < 48) (hno : 0 ≤ ruledI S x ∧ S.1 14 (ruledI S x) = (m : Int)) (hrc : ¬ (m : Int) = S.2 27) (hwy : ¬ (whyS S m x).1 = 45) : Ct l yX7_runRuleFor wsX7_runRuleFor ({ frames := 8, cells := 0, slots := 0, locals := 190 } : Room) D (tyL cB cC cI cO cJ cD) ee [.ref (P 1), .int (iI x), .int (iI dp)] (CW cI cO ee Tx9 P S X) (Ji fun h z9 h' => z9 = bI false ∧ (∃ f, CW cI cO ee Tx9 P (uG S 26 (S.2 26 + 1)) (Xtr X f) h') ∧ Fr (fun u => u = 1 ∨ tC 4 u) h h') (0) (0) := by
  refine Ct_of (cc := cX7_runRuleFor) (own := RX7) [some (.ref (P 1)), some (.int (iI x)), some (.int (iI dp)), none, none, none] (by decide) rfl rfl (Nat.le_of_ble_eq_true rfl) (fun i9 v9 h9 => argL [.ref (P 1), .int (iI x), .int (iI dp)] 3 rfl i9 v9 h9) ?_
  intro p e s m9 args below meth c9 h0 sz hI C hr hlk hinit
  have hin : ∀ w ∈ wsX70, w ∈ wsX7_runRuleFor := by decide +kernel
  have hin5 : ∀ w ∈ wsX50, w ∈ wsX7_runRuleFor := by decide +kernel
  have hin3 : ∀ w ∈ wsX30, w ∈ wsX7_runRuleFor := by decide +kernel
  refine V_weak (I2 := fun x => CW cI cO ee Tx9 P S X x ∧ x = h0) (fun x hx => by subst hx; exact ⟨hI, rfl⟩) ?_
  obtain ⟨md1, ar1, hl1⟩ := hI.2.2.2.2.2.2.2.1
  obtain ⟨md2, ar2, hl2⟩ := hI.2.2.2.2.2.2.2.2.2.1
  have hmc := hI.2.2.2.2.2.2.2.2.1
  have hru := hI.2.2.2.2.2.2.2.2.2.2
  obtain ⟨hw1, hw2, hw3, hw4, hw5, hw6⟩ := id hwp
  have hri := ruledI_in (S := S) (x := x) ⟨by omega, by omega⟩
  have hrl : ruledI S x < S.2 23 := by
    have h8 := (ruN_lt (S := S) (x := x) (S.2 23).toNat).2
    show ruN S x (S.2 23).toNat < S.2 23
    omega
  have hno0 := hno.1
  have hq9 : ((ruledI S x).toNat : Int) = ruledI S x := by omega
  have hr9 := hru (ruledI S x).toNat (by omega)
  unfold Rul1 at hr9
  rw [hq9, hno.2, Int.toNat_natCast] at hr9
  refine V_iload1 (pc' := 1) C dX7_runRuleFor_0 rfl ?_
  refine V_bipush (pc' := 3) C dX7_runRuleFor_1 rfl (by decide) ?_
  refine V_irem (pc' := 4) C (by omega) dX7_runRuleFor_3 rfl ?_
  refine V_istore3 (pc' := 5) C dX7_runRuleFor_4 rfl (by decide) rfl ?_
  refine V_iload1 (pc' := 6) C dX7_runRuleFor_5 rfl ?_
  refine V_bipush (pc' := 8) C dX7_runRuleFor_6 rfl (by decide) ?_
  refine V_idiv (pc' := 9) C (by omega) dX7_runRuleFor_8 rfl ?_
  refine V_istore4 (pc' := 11) C dX7_runRuleFor_9 rfl (by decide) rfl ?_
  refine V_aload0 (pc' := 12) C dX7_runRuleFor_11 rfl ?_
  refine V_aload0 (pc' := 13) C dX7_runRuleFor_12 rfl ?_
  refine V_iload3 (pc' := 14) C dX7_runRuleFor_13 rfl ?_
  refine V_iload4 (pc' := 16) C dX7_runRuleFor_14 rfl ?_
  refine V_callV (ci := 12) (n := 2) [.int (iI (x % 6)), .int (iI (x / 6))] C (kX7_ruleNumberFor (x := x) hwp hx) gX7_runRuleFor_X7_ruleNumberFor rfl ydX7_ruleNumberFor ⟨Nat.le_of_ble_eq_true rfl, Nat.le_of_ble_eq_true rfl⟩ ⟨rfl, rfl⟩ rfl rfl (fun h hh => ⟨1, _, hh.1.1⟩) (fun h hh => hh.1) rfl (Nat.le_of_ble_eq_true rfl) dX7_runRuleFor_16 ⟨Nat.le_of_ble_eq_true rfl, Nat.le_of_ble_eq_true rfl⟩ (fun h v h' hh hj9 => ?_)
  obtain ⟨r9, rfl, hj8, rfl⟩ := hj9
  rw [hj8]
  refine V_weak (I2 := fun x9 => CW cI cO ee Tx9 P S X x9 ∧ x9 = h0) (fun x9 hx9 => by rw [hx9]; exact hh) ?_
  refine V_callV (ci := 12) (n := 1) [.int (iI (ruledI S x))] C (kX7_ruleAt_s (z := ruledI S x) hwp (by omega)) gX7_runRuleFor_X7_ruleAt rfl ydX7_ruleAt ⟨Nat.le_of_ble_eq_true rfl, Nat.le_of_ble_eq_true rfl⟩ ⟨rfl, rfl⟩ rfl rfl (fun h hh => ⟨1, _, hh.1.1⟩) (fun h hh => hh.1) rfl (Nat.le_of_ble_eq_true rfl) dX7_runRuleFor_19 ⟨Nat.le_of_ble_eq_true rfl, Nat.le_of_ble_eq_true rfl⟩ (fun h v h' hh hj9 => ?_)
  obtain ⟨rfl, rfl⟩ := hj9
  refine V_weak (I2 := fun x9 => CW cI cO ee Tx9 P S X x9 ∧ x9 = h0) (fun x9 hx9 => by rw [hx9]; exact hh) ?_
  refine V_astore5 (pc' := 24) C dX7_runRuleFor_22 rfl (by decide) rfl ?_
  refine V_aload5 (pc' := 26) C dX7_runRuleFor_24 rfl ?_
  refine V_ifnull (pc' := 29) C dX7_runRuleFor_26 rfl ?_
  refine V_aload5 (pc' := 31) C dX7_runRuleFor_29 rfl ?_
  refine V_getfN (pc' := 34) (T := TX5) (N := 3) (ci := 10) C hin5 rfl 1 (by decide) (by decide) (fun h hh => by obtain ⟨_, rfl⟩ := hh; exact ⟨400 + (ruledI S x).toNat, _, hr9.1, rfl⟩) dX7_runRuleFor_31 rfl ?_
  refine V_getfN (pc' := 37) (T := TX3) (N := 3) (ci := 8) C hin3 rfl 0 (by decide) (by decide) (fun h hh => by obtain ⟨_, rfl⟩ := hh; exact ⟨100 + m, _, (hmc m hm).1, rfl⟩) dX7_runRuleFor_34 rfl ?_
  refine V_aload0 (pc' := 38) C dX7_runRuleFor_37 rfl ?_
  refine V_getf (pc' := 41) (T := TX7) (N := 13) (ci := 12) C hin rfl 9 (by decide) (by decide +kernel) (fun h hh => ⟨1, _, hh.1.1, rfl⟩) dX7_runRuleFor_38 rfl ?_
  refine V_icmpne (tgt := 46) C (by omega) dX7_runRuleFor_41 (by decide) rfl (fun c_41 => ?_) (fun c_41 => ?_)
  · refine V_aload0 (pc' := 47) C dX7_runRuleFor_46 rfl ?_
    refine V_aload5 (pc' := 49) C dX7_runRuleFor_47 rfl ?_
    refine V_getfN (pc' := 52) (T := TX5) (N := 3) (ci := 10) C hin5 rfl 1 (by decide) (by decide) (fun h hh => by obtain ⟨_, rfl⟩ := hh; exact ⟨400 + (ruledI S x).toNat, _, hr9.1, rfl⟩) dX7_runRuleFor_49 rfl ?_
    refine V_iload3 (pc' := 53) C dX7_runRuleFor_52 rfl ?_
    refine V_iload4 (pc' := 55) C dX7_runRuleFor_53 rfl ?_
    refine V_callV (ci := 12) (n := 3) [.ref (P (100 + m)), .int (iI (x % 6)), .int (iI (x / 6))] C (kX7_reasonAgainst hwp hkd (fun h h' a b => h9 P S S h h' (tC 4) rfl rfl b (by unfold tC; omega) (by unfold tC; omega) a) hm hx) gX7_runRuleFor_X7_reasonAgainst rfl ydX7_reasonAgainst ⟨Nat.le_of_ble_eq_true rfl, Nat.le_of_ble_eq_true rfl⟩ ⟨rfl, rfl⟩ rfl rfl (fun h hh => ⟨1, _, hh.1.1⟩) (fun h hh => hh.1) rfl (Nat.le_of_ble_eq_true rfl) dX7_runRuleFor_55 ⟨Nat.le_of_ble_eq_true rfl, Nat.le_of_ble_eq_true rfl⟩ (fun h v h' hh hj9 => ?_)
    obtain ⟨r9, rfl, hj8, ⟨f, hj1⟩, hj2⟩ := hj9
    rw [hj8]
    refine V_weak (I2 := fun x9 => CW cI cO ee Tx9 P S (Xtr X (f)) x9 ∧ Fr (tC 4) h0 x9) (fun x9 hx9 => by rw [hx9]; exact ⟨hj1, by rw [← hh.2]; exact hj2⟩) ?_
    have hwr := whyS_ans S m x
    refine V_bipush (pc' := 60) C dX7_runRuleFor_58 rfl (by decide) ?_
    refine V_icmpeq (tgt := 75) C (by omega) dX7_runRuleFor_60 (by decide) rfl (fun c_60 => ?_) (fun c_60 => ?_)
    · exact absurd c_60 (by omega)
    · refine V_aload0 (pc' := 64) C dX7_runRuleFor_63 rfl ?_
      refine V_dup (pc' := 65) C rfl dX7_runRuleFor_64 rfl ?_
      refine V_getf (pc' := 68) (T := TX7) (N := 13) (ci := 12) C hin rfl 12 (by decide) (by decide +kernel) (fun h hh => ⟨1, _, hh.1.1, rfl⟩) dX7_runRuleFor_65 rfl ?_
      refine V_iconst (pc' := 69) C dX7_runRuleFor_68 rfl ?_
      refine V_iadd (pc' := 70) C dX7_runRuleFor_69 rfl ?_
      refine V_putf (pc' := 73) (T := TX7) (N := 13) (ci := 12) (I2 := fun x9 => CW cI cO ee Tx9 P (uG S 26 (S.2 26 + 1)) (Xtr X f) x9 ∧ Fr (fun u => u = 1 ∨ tC 4 u) h0 x9) C hin tyX7_ok nmX7 rfl 12 (by decide) (by decide +kernel) rfl rfl rfl (fun h hh => ⟨1, _, hh.1.1, Nat.le_of_ble_eq_true rfl, hh.1.skip hwp h9, (hh.2.mono (fun u hu => Or.inr hu)).up hh.1.1 (Or.inl rfl)⟩) dX7_runRuleFor_70 rfl ?_
      refine V_iconst (pc' := 74) C dX7_runRuleFor_73 rfl ?_
      exact V_endz (z := bI false) C hr hlk (nar_z false) (fun h' hh => ⟨_, rfl, rfl, ⟨f, hh.1⟩, hh.2⟩) ⟨Nat.le_refl _, Nat.le_refl _⟩ dX7_runRuleFor_74
  · exact absurd c_41 (by omega)
set_option maxHeartbeats 4000000 in
set_option maxRecDepth 100000 in
theorem kX7_runRuleFor_r (hwp : WFp S) (hkd : KD S) (h9 : T9ok Tx9) {m : Nat} (hm : (m : Int) < S.2 22) {x dp : Int} (hx : 0 ≤ x ∧ x < 48) (hno : 0 ≤ ruledI S x ∧ S.1 14 (ruledI S x) = (m : Int)) (hrc : ¬ (m : Int) = S.2 27) (hwy : (whyS S m x).1 = 45) (hl9 : 0 ≤ S.2 24 ∧ S.2 24 ≤ 2090) (hc9 : 0 ≤ X.2 25 ∧ 0 ≤ X.2 20 ∧ X.2 20 ≤ X.2 25 ∧ X.2 25 - X.2 20 + 10 ≤ 210 ∧ X.2 25 + 10 ≤ X.2 26 ∧ X.2 26 ≤ 107520) : Ct l yX7_runRuleFor wsX7_runRuleFor ({ frames := 8, cells := 0, slots := 0, locals := 190 } : Room) D (tyL cB cC cI cO cJ cD) ee [.ref (P 1), .int (iI x), .int (iI dp)] (CW cI cO ee Tx9 P S X) (Ji fun h z9 h' => z9 = bI true ∧ (∃ f, CW cI cO ee Tx9 P (runS S m x dp) (rnX S (Xtr X f) m x dp (S.1 4 m).toNat) h') ∧ Fr (fun u => tC 4 u ∨ tC 2 u ∨ tU 6 u ∨ u = 13) h h') (0) (0) := by
  refine Ct_of (cc := cX7_runRuleFor) (own := RX7) [some (.ref (P 1)), some (.int (iI x)), some (.int (iI dp)), none, none, none] (by decide) rfl rfl (Nat.le_of_ble_eq_true rfl) (fun i9 v9 h9 => argL [.ref (P 1), .int (iI x), .int (iI dp)] 3 rfl i9 v9 h9) ?_
  intro p e s m9 args below meth c9 h0 sz hI C hr hlk hinit
  have hin : ∀ w ∈ wsX70, w ∈ wsX7_runRuleFor := by decide +kernel
  have hin5 : ∀ w ∈ wsX50, w ∈ wsX7_runRuleFor := by decide +kernel
  have hin3 : ∀ w ∈ wsX30, w ∈ wsX7_runRuleFor := by decide +kernel
  refine V_weak (I2 := fun x => CW cI cO ee Tx9 P S X x ∧ x = h0) (fun x hx => by subst hx; exact ⟨hI, rfl⟩) ?_
  obtain ⟨md1, ar1, hl1⟩ := hI.2.2.2.2.2.2.2.1
  obtain ⟨md2, ar2, hl2⟩ := hI.2.2.2.2.2.2.2.2.2.1
  have hmc := hI.2.2.2.2.2.2.2.2.1
  have hru := hI.2.2.2.2.2.2.2.2.2.2
  obtain ⟨hw1, hw2, hw3, hw4, hw5, hw6⟩ := id hwp
  have hri := ruledI_in (S := S) (x := x) ⟨by omega, by omega⟩
  have hrl : ruledI S x < S.2 23 := by
    have h8 := (ruN_lt (S := S) (x := x) (S.2 23).toNat).2
    show ruN S x (S.2 23).toNat < S.2 23
    omega
  have hno0 := hno.1
  have hq9 : ((ruledI S x).toNat : Int) = ruledI S x := by omega
  have hr9 := hru (ruledI S x).toNat (by omega)
  unfold Rul1 at hr9
  rw [hq9, hno.2, Int.toNat_natCast] at hr9
  have hok := run_ok (Y := S) (S := S) dp hwp ⟨fun k _ _ => rfl, rfl⟩ ⟨by omega, by omega⟩ hx hl9 hwy
  refine V_iload1 (pc' := 1) C dX7_runRuleFor_0 rfl ?_
  refine V_bipush (pc' := 3) C dX7_runRuleFor_1 rfl (by decide) ?_
  refine V_irem (pc' := 4) C (by omega) dX7_runRuleFor_3 rfl ?_
  refine V_istore3 (pc' := 5) C dX7_runRuleFor_4 rfl (by decide) rfl ?_
  refine V_iload1 (pc' := 6) C dX7_runRuleFor_5 rfl ?_
  refine V_bipush (pc' := 8) C dX7_runRuleFor_6 rfl (by decide) ?_
  refine V_idiv (pc' := 9) C (by omega) dX7_runRuleFor_8 rfl ?_
  refine V_istore4 (pc' := 11) C dX7_runRuleFor_9 rfl (by decide) rfl ?_
  refine V_aload0 (pc' := 12) C dX7_runRuleFor_11 rfl ?_
  refine V_aload0 (pc' := 13) C dX7_runRuleFor_12 rfl ?_
  refine V_iload3 (pc' := 14) C dX7_runRuleFor_13 rfl ?_
  refine V_iload4 (pc' := 16) C dX7_runRuleFor_14 rfl ?_
  refine V_callV (ci := 12) (n := 2) [.int (iI (x % 6)), .int (iI (x / 6))] C (kX7_ruleNumberFor (x := x) hwp hx) gX7_runRuleFor_X7_ruleNumberFor rfl ydX7_ruleNumberFor ⟨Nat.le_of_ble_eq_true rfl, Nat.le_of_ble_eq_true rfl⟩ ⟨rfl, rfl⟩ rfl rfl (fun h hh => ⟨1, _, hh.1.1⟩) (fun h hh => hh.1) rfl (Nat.le_of_ble_eq_true rfl) dX7_runRuleFor_16 ⟨Nat.le_of_ble_eq_true rfl, Nat.le_of_ble_eq_true rfl⟩ (fun h v h' hh hj9 => ?_)
  obtain ⟨r9, rfl, hj8, rfl⟩ := hj9
  rw [hj8]
  refine V_weak (I2 := fun x9 => CW cI cO ee Tx9 P S X x9 ∧ x9 = h0) (fun x9 hx9 => by rw [hx9]; exact hh) ?_
  refine V_callV (ci := 12) (n := 1) [.int (iI (ruledI S x))] C (kX7_ruleAt_s (z := ruledI S x) hwp (by omega)) gX7_runRuleFor_X7_ruleAt rfl ydX7_ruleAt ⟨Nat.le_of_ble_eq_true rfl, Nat.le_of_ble_eq_true rfl⟩ ⟨rfl, rfl⟩ rfl rfl (fun h hh => ⟨1, _, hh.1.1⟩) (fun h hh => hh.1) rfl (Nat.le_of_ble_eq_true rfl) dX7_runRuleFor_19 ⟨Nat.le_of_ble_eq_true rfl, Nat.le_of_ble_eq_true rfl⟩ (fun h v h' hh hj9 => ?_)
  obtain ⟨rfl, rfl⟩ := hj9
  refine V_weak (I2 := fun x9 => CW cI cO ee Tx9 P S X x9 ∧ x9 = h0) (fun x9 hx9 => by rw [hx9]; exact hh) ?_
  refine V_astore5 (pc' := 24) C dX7_runRuleFor_22 rfl (by decide) rfl ?_
  refine V_aload5 (pc' := 26) C dX7_runRuleFor_24 rfl ?_
  refine V_ifnull (pc' := 29) C dX7_runRuleFor_26 rfl ?_
  refine V_aload5 (pc' := 31) C dX7_runRuleFor_29 rfl ?_
  refine V_getfN (pc' := 34) (T := TX5) (N := 3) (ci := 10) C hin5 rfl 1 (by decide) (by decide) (fun h hh => by obtain ⟨_, rfl⟩ := hh; exact ⟨400 + (ruledI S x).toNat, _, hr9.1, rfl⟩) dX7_runRuleFor_31 rfl ?_
  refine V_getfN (pc' := 37) (T := TX3) (N := 3) (ci := 8) C hin3 rfl 0 (by decide) (by decide) (fun h hh => by obtain ⟨_, rfl⟩ := hh; exact ⟨100 + m, _, (hmc m hm).1, rfl⟩) dX7_runRuleFor_34 rfl ?_
  refine V_aload0 (pc' := 38) C dX7_runRuleFor_37 rfl ?_
  refine V_getf (pc' := 41) (T := TX7) (N := 13) (ci := 12) C hin rfl 9 (by decide) (by decide +kernel) (fun h hh => ⟨1, _, hh.1.1, rfl⟩) dX7_runRuleFor_38 rfl ?_
  refine V_icmpne (tgt := 46) C (by omega) dX7_runRuleFor_41 (by decide) rfl (fun c_41 => ?_) (fun c_41 => ?_)
  · refine V_aload0 (pc' := 47) C dX7_runRuleFor_46 rfl ?_
    refine V_aload5 (pc' := 49) C dX7_runRuleFor_47 rfl ?_
    refine V_getfN (pc' := 52) (T := TX5) (N := 3) (ci := 10) C hin5 rfl 1 (by decide) (by decide) (fun h hh => by obtain ⟨_, rfl⟩ := hh; exact ⟨400 + (ruledI S x).toNat, _, hr9.1, rfl⟩) dX7_runRuleFor_49 rfl ?_
    refine V_iload3 (pc' := 53) C dX7_runRuleFor_52 rfl ?_
    refine V_iload4 (pc' := 55) C dX7_runRuleFor_53 rfl ?_
    refine V_callV (ci := 12) (n := 3) [.ref (P (100 + m)), .int (iI (x % 6)), .int (iI (x / 6))] C (kX7_reasonAgainst hwp hkd (fun h h' a b => h9 P S S h h' (tC 4) rfl rfl b (by unfold tC; omega) (by unfold tC; omega) a) hm hx) gX7_runRuleFor_X7_reasonAgainst rfl ydX7_reasonAgainst ⟨Nat.le_of_ble_eq_true rfl, Nat.le_of_ble_eq_true rfl⟩ ⟨rfl, rfl⟩ rfl rfl (fun h hh => ⟨1, _, hh.1.1⟩) (fun h hh => hh.1) rfl (Nat.le_of_ble_eq_true rfl) dX7_runRuleFor_55 ⟨Nat.le_of_ble_eq_true rfl, Nat.le_of_ble_eq_true rfl⟩ (fun h v h' hh hj9 => ?_)
    obtain ⟨r9, rfl, hj8, ⟨f, hj1⟩, hj2⟩ := hj9
    rw [hj8]
    refine V_weak (I2 := fun x9 => CW cI cO ee Tx9 P S (Xtr X (f)) x9 ∧ Fr (tC 4) h0 x9) (fun x9 hx9 => by rw [hx9]; exact ⟨hj1, by rw [← hh.2]; exact hj2⟩) ?_
    have hwr := whyS_ans S m x
    refine V_bipush (pc' := 60) C dX7_runRuleFor_58 rfl (by decide) ?_
    refine V_icmpeq (tgt := 75) C (by omega) dX7_runRuleFor_60 (by decide) rfl (fun c_60 => ?_) (fun c_60 => ?_)
    · refine V_aload0 (pc' := 76) C dX7_runRuleFor_75 rfl ?_
      refine V_aload5 (pc' := 78) C dX7_runRuleFor_76 rfl ?_
      refine V_getfN (pc' := 81) (T := TX5) (N := 3) (ci := 10) C hin5 rfl 1 (by decide) (by decide) (fun h hh => ⟨400 + (ruledI S x).toNat, _, hh.2 _ _ _ hr9.1 (by unfold tC; omega), rfl⟩) dX7_runRuleFor_78 rfl ?_
      refine V_iload3 (pc' := 82) C dX7_runRuleFor_81 rfl ?_
      refine V_iload4 (pc' := 84) C dX7_runRuleFor_82 rfl ?_
      refine V_iload2 (pc' := 85) C dX7_runRuleFor_84 rfl ?_
      refine V_callV (ci := 12) (n := 4) [.ref (P (100 + m)), .int (iI (x % 6)), .int (iI (x / 6)), .int (iI dp)] C (kX7_makeSteps (X := Xtr X f) (dp := dp) hwp hkd h9 hm hx hok.1 hok.2.2 hc9) gX7_runRuleFor_X7_makeSteps rfl ydX7_makeSteps ⟨Nat.le_of_ble_eq_true rfl, Nat.le_of_ble_eq_true rfl⟩ ⟨rfl, rfl⟩ rfl rfl (fun h hh => ⟨1, _, hh.1.1⟩) (fun h hh => hh.1) rfl (Nat.le_of_ble_eq_true rfl) dX7_runRuleFor_85 ⟨Nat.le_of_ble_eq_true rfl, Nat.le_of_ble_eq_true rfl⟩ (fun h v h' hh hj9 => ?_)
      obtain ⟨rfl, hj1, hj2⟩ := hj9
      refine V_weak (I2 := fun x9 => CW cI cO ee Tx9 P (runS S m x dp) (rnX S (Xtr X f) m x dp (S.1 4 m).toNat) x9 ∧ Fr (fun u => tC 4 u ∨ tC 2 u ∨ tU 6 u ∨ u = 13) h0 x9) (fun x9 hx9 => by rw [hx9]; exact ⟨hj1, (hh.2.mono (fun u hu => Or.inl hu)).trans (hj2.mono (fun u hu => Or.inr hu))⟩) ?_
      refine V_iconst (pc' := 89) C dX7_runRuleFor_88 rfl ?_
      exact V_endz (z := bI true) C hr hlk (nar_z true) (fun h' hh => ⟨_, rfl, rfl, ⟨f, hh.1⟩, hh.2⟩) ⟨Nat.le_refl _, Nat.le_refl _⟩ dX7_runRuleFor_89
    · exact absurd c_60 (by omega)
  · exact absurd c_41 (by omega)
end

/-! the class: macroShare, meanValue, lastBy -/
theorem ydX7_meanValue : yX7_meanValue.cls = RX7 ∧ yX7_meanValue.cls ≠ "java/lang/invoke/MethodHandle" ∧ yX7_meanValue.cls ≠ "java/lang/invoke/VarHandle" ∧ (parseMethodDescriptor yX7_meanValue.desc).map (fun d => d.parameters.length) = some 0 := by decide +kernel
section
variable {l : Launch} {D : va_G} {cB cC cI cO cJ cD : ClassId} {ee : Nat × Nat} {Tx9 : (Nat → Nat) → MSt → Hp → Prop} {P : Nat → Nat} {S X : MSt}
set_option maxHeartbeats 4000000 in
set_option maxRecDepth 100000 in
theorem kX7_meanValue (hwp : WFp S) (hn : cnN S 48 ≠ 0) : Ct l yX7_meanValue wsX7_meanValue ({ frames := 6, cells := 0, slots := 0, locals := 130 } : Room) D (tyL cB cC cI cO cJ cD) ee [.ref (P 1)] (CW cI cO ee Tx9 P S X) (fun h v9 h' => v9 = some (.double (meanD (smN S 48) (cnN S 48))) ∧ h' = h) (0) (0) := by
  refine Ct_of (cc := cX7_meanValue) (own := RX7) [some (.ref (P 1)), none, none, none, none] (by decide) rfl rfl (Nat.le_of_ble_eq_true rfl) (fun i9 v9 h9 => argL [.ref (P 1)] 4 rfl i9 v9 h9) ?_
  intro p e s m9 args below meth c9 h0 sz hI C hr hlk hinit
  have hin : ∀ w ∈ wsX70, w ∈ wsX7_meanValue := by decide +kernel
  refine V_weak (I2 := fun x9 => CW cI cO ee Tx9 P S X x9 ∧ x9 = h0) (fun x9 hx9 => by subst hx9; exact ⟨hI, rfl⟩) ?_
  refine V_iconst (pc' := 1) C dX7_meanValue_0 rfl ?_
  refine V_istore1 (pc' := 2) C dX7_meanValue_1 rfl (by decide) rfl ?_
  refine V_iconst (pc' := 3) C dX7_meanValue_2 rfl ?_
  refine V_istore2 (pc' := 4) C dX7_meanValue_3 rfl (by decide) rfl ?_
  refine V_iconst (pc' := 5) C dX7_meanValue_4 rfl ?_
  refine V_istore3 (pc' := 6) C dX7_meanValue_5 rfl (by decide) rfl ?_
  refine V_for0 (N := 48) (fun j => fun x9 => CW cI cO ee Tx9 P S X x9 ∧ x9 = h0) (fun j => [some (.ref (P 1)), some (.int (iI (smN S j))), some (.int (iI (cnN S j))), some (.int (iI j)), none]) (fun _ => True) trivial (fun h hh => hh) rfl (fun j hj hv hk => ?_) (fun hv => ?_)
  · have hc9 := hwp.2.2.2.2.2 j (by omega) (by omega)
    refine V_iload3 (pc' := 7) C dX7_meanValue_6 rfl ?_
    refine V_bipush (pc' := 9) C dX7_meanValue_7 rfl (by decide) ?_
    refine V_icmpge (tgt := 41) C (by omega) dX7_meanValue_9 (by decide) rfl (fun c_9 => ?_) (fun c_9 => ?_)
    · exact absurd c_9 (by omega)
    · refine V_aload0 (pc' := 13) C dX7_meanValue_12 rfl ?_
      refine V_getf (pc' := 16) (T := TX7) (N := 13) (ci := 12) C hin rfl 0 (by decide) (by decide +kernel) (fun h hh => ⟨1, _, hh.1.1, rfl⟩) dX7_meanValue_13 rfl ?_
      refine V_iload3 (pc' := 17) C dX7_meanValue_16 rfl ?_
      refine V_callV (ci := 6) (n := 1) [.int (iI (j : Int))] C (kX1_valueAt (v := P 3) (g := S.1 0) (t := 2) (z := (j : Int)) (by omega)) gX7_meanValue_X1_valueAt rfl ydX1_valueAt ⟨Nat.le_of_ble_eq_true rfl, Nat.le_of_ble_eq_true rfl⟩ ⟨rfl, rfl⟩ rfl rfl (fun h hh => ⟨2, _, hh.1.2.1.1⟩) (fun h hh => hh.1.2.1) rfl (Nat.le_of_ble_eq_true rfl) dX7_meanValue_17 ⟨Nat.le_of_ble_eq_true rfl, Nat.le_of_ble_eq_true rfl⟩ (fun h v h' hh hj9 => ?_)
      obtain ⟨r9, rfl, hj8, rfl⟩ := hj9
      rw [hj8]
      refine V_weak (I2 := fun x9 => CW cI cO ee Tx9 P S X x9 ∧ x9 = h0) (fun x9 hx9 => by rw [hx9]; exact hh) ?_
      refine V_istore4 (pc' := 22) C dX7_meanValue_20 rfl (by decide) rfl ?_
      refine V_iload4 (pc' := 24) C dX7_meanValue_22 rfl ?_
      refine V_ifeq (tgt := 35) C (by omega) dX7_meanValue_24 (by decide) rfl (fun c_24 => ?_) (fun c_24 => ?_)
      · refine V_iinc3 (pc' := 38) C dX7_meanValue_35 rfl (by decide) rfl ?_
        refine V_goto (tgt := 6) C dX7_meanValue_38 (by decide) ?_
        refine V_forget4 ?_
        exact V_conv (fun h q => q) (by first | (have h8 : S.1 0 (j : Int) = 0 := (by omega); simp [smN, cnN, h8]; done) | (have h8 : ¬ S.1 0 (j : Int) = 0 := (by omega); simp [smN, cnN, h8]; done)) (hk trivial)
      · refine V_iload1 (pc' := 28) C dX7_meanValue_27 rfl ?_
        refine V_iload4 (pc' := 30) C dX7_meanValue_28 rfl ?_
        refine V_iadd (pc' := 31) C dX7_meanValue_30 rfl ?_
        refine V_istore1 (pc' := 32) C dX7_meanValue_31 rfl (by decide) rfl ?_
        refine V_iinc2 (pc' := 35) C dX7_meanValue_32 rfl (by decide) rfl ?_
        refine V_iinc3 (pc' := 38) C dX7_meanValue_35 rfl (by decide) rfl ?_
        refine V_goto (tgt := 6) C dX7_meanValue_38 (by decide) ?_
        refine V_forget4 ?_
        exact V_conv (fun h q => q) (by first | (have h8 : S.1 0 (j : Int) = 0 := (by omega); simp [smN, cnN, h8]; done) | (have h8 : ¬ S.1 0 (j : Int) = 0 := (by omega); simp [smN, cnN, h8]; done)) (hk trivial)
  · have sm9 := smN_in hwp 48 (by omega)
    have cn9 := cnN_in S 48
    refine V_iload3 (pc' := 7) C dX7_meanValue_6 rfl ?_
    refine V_bipush (pc' := 9) C dX7_meanValue_7 rfl (by decide) ?_
    refine V_icmpge (tgt := 41) C (by omega) dX7_meanValue_9 (by decide) rfl (fun c_9 => ?_) (fun c_9 => ?_)
    · refine V_iload2 (pc' := 42) C dX7_meanValue_41 rfl ?_
      refine V_ifne (tgt := 56) C (by omega) dX7_meanValue_42 (by decide) rfl (fun c_42 => ?_) (fun c_42 => ?_)
      · refine V_iload1 (pc' := 57) C dX7_meanValue_56 rfl ?_
        refine V_i2d (pc' := 58) C dX7_meanValue_57 rfl ?_
        refine V_iload2 (pc' := 59) C dX7_meanValue_58 rfl ?_
        refine V_i2d (pc' := 60) C dX7_meanValue_59 rfl ?_
        refine V_ddiv (pc' := 61) C ⟨by omega, by omega, hn⟩ dX7_meanValue_60 rfl ?_
        exact V_endd C hr hlk (fun h' hh => ⟨rfl, hh.2⟩) ⟨Nat.le_refl _, Nat.le_refl _⟩ dX7_meanValue_61
      · exact absurd c_42 (by omega)
    · exact absurd c_9 (by omega)
set_option maxHeartbeats 4000000 in
set_option maxRecDepth 100000 in
theorem xX7_meanValue (hwp : WFp S) (hn : cnN S 48 = 0) (hst : l.stackTraces = false) : Tx l yX7_meanValue wsX7_meanValue ({ frames := 8, cells := 1, slots := 6, locals := 170 } : Room) D (tyL cB cC cI cO cJ cD) ee [.ref (P 1)] (CW cI cO ee Tx9 P S X) "java/lang/ArithmeticException" (fun h h' => h' = h) (1) (6) := by
  refine Tx_of (cc := cX7_meanValue) (own := RX7) [some (.ref (P 1)), none, none, none, none] (by decide) rfl rfl (Nat.le_of_ble_eq_true rfl) (fun i9 v9 h9 => argL [.ref (P 1)] 4 rfl i9 v9 h9) ?_
  intro p e s m9 args below meth c9 h0 sz hI C hlk hxt
  have hin : ∀ w ∈ wsX70, w ∈ wsX7_meanValue := by decide +kernel
  refine V_weak (I2 := fun x9 => CW cI cO ee Tx9 P S X x9 ∧ x9 = h0) (fun x9 hx9 => by subst hx9; exact ⟨hI, rfl⟩) ?_
  refine V_iconst (pc' := 1) C dX7_meanValue_0 rfl ?_
  refine V_istore1 (pc' := 2) C dX7_meanValue_1 rfl (by decide) rfl ?_
  refine V_iconst (pc' := 3) C dX7_meanValue_2 rfl ?_
  refine V_istore2 (pc' := 4) C dX7_meanValue_3 rfl (by decide) rfl ?_
  refine V_iconst (pc' := 5) C dX7_meanValue_4 rfl ?_
  refine V_istore3 (pc' := 6) C dX7_meanValue_5 rfl (by decide) rfl ?_
  refine V_for0 (N := 48) (fun j => fun x9 => CW cI cO ee Tx9 P S X x9 ∧ x9 = h0) (fun j => [some (.ref (P 1)), some (.int (iI (smN S j))), some (.int (iI (cnN S j))), some (.int (iI j)), none]) (fun _ => True) trivial (fun h hh => hh) rfl (fun j hj hv hk => ?_) (fun hv => ?_)
  · have hc9 := hwp.2.2.2.2.2 j (by omega) (by omega)
    refine V_iload3 (pc' := 7) C dX7_meanValue_6 rfl ?_
    refine V_bipush (pc' := 9) C dX7_meanValue_7 rfl (by decide) ?_
    refine V_icmpge (tgt := 41) C (by omega) dX7_meanValue_9 (by decide) rfl (fun c_9 => ?_) (fun c_9 => ?_)
    · exact absurd c_9 (by omega)
    · refine V_aload0 (pc' := 13) C dX7_meanValue_12 rfl ?_
      refine V_getf (pc' := 16) (T := TX7) (N := 13) (ci := 12) C hin rfl 0 (by decide) (by decide +kernel) (fun h hh => ⟨1, _, hh.1.1, rfl⟩) dX7_meanValue_13 rfl ?_
      refine V_iload3 (pc' := 17) C dX7_meanValue_16 rfl ?_
      refine V_callV (ci := 6) (n := 1) [.int (iI (j : Int))] C (kX1_valueAt (v := P 3) (g := S.1 0) (t := 2) (z := (j : Int)) (by omega)) gX7_meanValue_X1_valueAt rfl ydX1_valueAt ⟨Nat.le_of_ble_eq_true rfl, Nat.le_of_ble_eq_true rfl⟩ ⟨rfl, rfl⟩ rfl rfl (fun h hh => ⟨2, _, hh.1.2.1.1⟩) (fun h hh => hh.1.2.1) rfl (Nat.le_of_ble_eq_true rfl) dX7_meanValue_17 ⟨Nat.le_of_ble_eq_true rfl, Nat.le_of_ble_eq_true rfl⟩ (fun h v h' hh hj9 => ?_)
      obtain ⟨r9, rfl, hj8, rfl⟩ := hj9
      rw [hj8]
      refine V_weak (I2 := fun x9 => CW cI cO ee Tx9 P S X x9 ∧ x9 = h0) (fun x9 hx9 => by rw [hx9]; exact hh) ?_
      refine V_istore4 (pc' := 22) C dX7_meanValue_20 rfl (by decide) rfl ?_
      refine V_iload4 (pc' := 24) C dX7_meanValue_22 rfl ?_
      refine V_ifeq (tgt := 35) C (by omega) dX7_meanValue_24 (by decide) rfl (fun c_24 => ?_) (fun c_24 => ?_)
      · refine V_iinc3 (pc' := 38) C dX7_meanValue_35 rfl (by decide) rfl ?_
        refine V_goto (tgt := 6) C dX7_meanValue_38 (by decide) ?_
        refine V_forget4 ?_
        exact V_conv (fun h q => q) (by first | (have h8 : S.1 0 (j : Int) = 0 := (by omega); simp [smN, cnN, h8]; done) | (have h8 : ¬ S.1 0 (j : Int) = 0 := (by omega); simp [smN, cnN, h8]; done)) (hk trivial)
      · refine V_iload1 (pc' := 28) C dX7_meanValue_27 rfl ?_
        refine V_iload4 (pc' := 30) C dX7_meanValue_28 rfl ?_
        refine V_iadd (pc' := 31) C dX7_meanValue_30 rfl ?_
        refine V_istore1 (pc' := 32) C dX7_meanValue_31 rfl (by decide) rfl ?_
        refine V_iinc2 (pc' := 35) C dX7_meanValue_32 rfl (by decide) rfl ?_
        refine V_iinc3 (pc' := 38) C dX7_meanValue_35 rfl (by decide) rfl ?_
        refine V_goto (tgt := 6) C dX7_meanValue_38 (by decide) ?_
        refine V_forget4 ?_
        exact V_conv (fun h q => q) (by first | (have h8 : S.1 0 (j : Int) = 0 := (by omega); simp [smN, cnN, h8]; done) | (have h8 : ¬ S.1 0 (j : Int) = 0 := (by omega); simp [smN, cnN, h8]; done)) (hk trivial)
  · have sm9 := smN_in hwp 48 (by omega)
    have cn9 := cnN_in S 48
    refine V_iload3 (pc' := 7) C dX7_meanValue_6 rfl ?_
    refine V_bipush (pc' := 9) C dX7_meanValue_7 rfl (by decide) ?_
    refine V_icmpge (tgt := 41) C (by omega) dX7_meanValue_9 (by decide) rfl (fun c_9 => ?_) (fun c_9 => ?_)
    · refine V_iload2 (pc' := 42) C dX7_meanValue_41 rfl ?_
      refine V_ifne (tgt := 56) C (by omega) dX7_meanValue_42 (by decide) rfl (fun c_42 => ?_) (fun c_42 => ?_)
      · exact absurd c_42 (by omega)
      · exact V_throwSW (text := "all cells are 0") (names := ["java/lang/RuntimeException", "java/lang/Exception"]) C hst (by decide +kernel) (by decide +kernel) (by decide +kernel) (by decide +kernel) (by decide +kernel) (by decide +kernel) (by decide +kernel) (by decide +kernel) dX7_meanValue_45 dX7_meanValue_48 dX7_meanValue_49 dX7_meanValue_52 dX7_meanValue_55 hxt (Nat.le_of_ble_eq_true rfl) (Nat.le_of_ble_eq_true rfl) ⟨Nat.le_of_ble_eq_true rfl, Nat.le_of_ble_eq_true rfl⟩ hlk (fun h' hh => hh.2) rfl ⟨Nat.le_of_ble_eq_true rfl, Nat.le_of_ble_eq_true rfl⟩
    · exact absurd c_9 (by omega)
end

/-! the class: run -/
def runZ (S : MSt) (m x : Int) : Int × MSt := endsS (chX (runS (uG (whyS S m x).2 31 0) m x 0) (S.2 24)) (S.2 24) ((chX (runS (uG (whyS S m x).2 31 0) m x 0) (S.2 24)).2 24 - S.2 24)
theorem E1_u31 {S S' : MSt} (E : E1 S S') (h : S.2 31 = 0) : E1 S (uG S' 31 0) := ⟨E.1, by
  rw [← E.2]
  funext j
  show (if j = 31 then 0 else S'.2 j) = S'.2 j
  by_cases q : j = 31
  · rw [if_pos q, q, E.2, h]
  · rw [if_neg q]⟩
theorem run_1 (S : MSt) (m x dp : Int) (k : Nat) (h : k ≠ 0 ∧ k ≠ 1 ∧ k ≠ 16 ∧ k ≠ 17 ∧ k ≠ 18 ∧ k ≠ 19) : (runS (uG (whyS S m x).2 31 0) m x dp).1 k = S.1 k := by
  unfold runS
  rw [rnI_1 _ _ _ _ k h, uG_1, whyS_1 S m x k h.2.1]
theorem run_2 (S : MSt) (m x dp : Int) (k : Nat) (h : k ≠ 24 ∧ k ≠ 31) : (runS (uG (whyS S m x).2 31 0) m x dp).2 k = S.2 k := by
  unfold runS
  rw [rnI_2 _ _ _ _ k h.1, uG_n _ h.2, whyS_2]
theorem cwE_ends (C : MSt) (fr n : Int) : cwE C (endsS C fr n).2 := by
  have e1 := endsS_1 C fr n
  have e2 := endsS_2 C fr n
  exact ⟨e1 0 (by decide), fun k k0 k1 => e1 k (by omega), e1 21 (by decide), e2 22 (by decide), e2 23 (by decide), e2 26 (by decide), e2 27 (by decide), e2 28 (by decide), e2 30 (by decide)⟩
theorem ydX7_run : yX7_run.cls = RX7 ∧ yX7_run.cls ≠ "java/lang/invoke/MethodHandle" ∧ yX7_run.cls ≠ "java/lang/invoke/VarHandle" ∧ (parseMethodDescriptor yX7_run.desc).map (fun d => d.parameters.length) = some 3 := by decide +kernel
section
variable {l : Launch} {D : va_G} {cB cC cI cO cJ cD : ClassId} {ee : Nat × Nat} {Tx9 : (Nat → Nat) → MSt → Hp → Prop} {P : Nat → Nat} {S X : MSt}
set_option maxHeartbeats 4000000 in
set_option maxRecDepth 100000 in
theorem kX7_run {m : Nat} {c r b : Int} (hIv : Iv S X b) (hb : b + 210 ≤ 107520) (h9 : T9ok Tx9) (hp9 : T9p Tx9) (hm1 : (m : Int) < S.2 22) (hr2 : rI c ∧ rI r) (hc2 : isCellB c r = true) (hrec : (m : Int) ≠ S.2 27) (hwy : (whyS S m (atI c r)).1 = 45) (h31 : S.2 31 = 0) : Ct l yX7_run wsX7_run ({ frames := 14, cells := growC (X.2 25) (X.2 26).toNat, slots := growS (X.2 25) (X.2 26).toNat, locals := 350 } : Room) D (tyL cB cC cI cO cJ cD) ee [.ref (P 1), .int (iI (m : Int)), .int (iI c), .int (iI r)] (CW cI cO ee Tx9 P S X) (Ji fun h z9 h' => z9 = (runZ S m (atI c r)).1 ∧ (∃ P' X4 S3, CW cI cO ee Tx9 P' (runZ S m (atI c r)).2 (endX S3 X4 (S.2 24)) h' ∧ P' 1 = P 1 ∧ S3 = chX (runS (uG (whyS S m (atI c r)).2 31 0) m (atI c r) 0) (S.2 24) ∧ EW S3 X4 (S.2 24) ∧ X4.2 26 = (lenG (X.2 25) (X.2 26).toNat : Int)) ∧ Fr T7 h h') (growC (X.2 25) (X.2 26).toNat) (growS (X.2 25) (X.2 26).toNat) := by
  refine Ct_of (cc := cX7_run) (own := RX7) [some (.ref (P 1)), some (.int (iI (m : Int))), some (.int (iI c)), some (.int (iI r)), none] (by decide) rfl rfl (Nat.le_of_ble_eq_true rfl) (fun i9 v9 h9 => argL [.ref (P 1), .int (iI (m : Int)), .int (iI c), .int (iI r)] 1 rfl i9 v9 h9) ?_
  intro p e s m9 args below meth c9 h0 sz hI C hr hlk hinit
  have hin : ∀ w ∈ wsX70, w ∈ wsX7_run := by decide +kernel
  have hwp := hIv.1.1
  have hrm := hIv.2.2.1
  obtain ⟨hw1, hw2, hw3, hw4, hw5, hw6⟩ := id hwp
  have hx := atI_in (c := c) (r := r) hc2
  have hcr : c = atI c r % 6 ∧ r = atI c r / 6 := by
    simp only [isCellB, isInB, Bool.and_eq_true, decide_eq_true_eq] at hc2
    unfold atI
    omega
  have hcX : 0 ≤ X.2 25 ∧ X.2 25 ≤ X.2 26 ∧ X.2 25 + 210 ≤ 107520 := by
    have h1 := hI.2.2.2.1.2.2
    have h2 := hIv.2.2.2.1.1
    obtain ⟨-, h3, h4, h5⟩ := hIv.1.2.2.2.2.1
    have h6 : 0 ≤ X.2 26 := by
      obtain ⟨e9, -, h7⟩ := hIv.2.2.2.2.2
      rw [h7]
      exact Int.natCast_nonneg _
    omega
  have hrn := hIv.2.2.2.1.1
  have hlog := HW_log hIv.1.2.2.1
  have hok := run_ok (Y := S) (S := S) (m := m) (x := atI c r) 0 hwp ⟨fun k _ _ => rfl, rfl⟩ ⟨by omega, by omega⟩ hx ⟨by omega, by omega⟩ hwy
  refine V_weak (I2 := fun x9 => (CW cI cO ee Tx9 P S X x9 ∧ True) ∧ Fr T7 h0 x9) (fun x9 hx9 => by subst hx9; exact ⟨⟨hI, trivial⟩, Fr.refl⟩) ?_
  refine V_aload0 (pc' := 1) C dX7_run_0 rfl ?_
  refine V_iload1 (pc' := 2) C dX7_run_1 rfl ?_
  refine V_callV (ci := 12) (n := 1) [.int (iI (m : Int))] C (kX7_neededMacro (z := (m : Int)) hwp ⟨by omega, by omega⟩) gX7_run_X7_neededMacro rfl ydX7_neededMacro ⟨Nat.le_of_ble_eq_true rfl, Nat.le_of_ble_eq_true rfl⟩ ⟨rfl, rfl⟩ rfl rfl (fun h hh => ⟨1, _, hh.1.1.1⟩) (fun h hh => hh.1.1) rfl (Nat.le_of_ble_eq_true rfl) dX7_run_2 ⟨by dsimp only; omega, by dsimp only; omega⟩ (fun h v h' hh hj9 => ?_)
  obtain ⟨rfl, rfl⟩ := hj9
  refine V_weak (I2 := fun x9 => (CW cI cO ee Tx9 P S X x9 ∧ True) ∧ Fr T7 h0 x9) (fun x9 hx9 => by rw [hx9]; exact hh) ?_
  refine V_eq (st2 := [.ref (P (100 + m))]) (by rw [Int.toNat_natCast]; rfl) ?_
  refine V_astore4 (pc' := 7) C dX7_run_5 rfl (by decide) rfl ?_
  refine V_iload2 (pc' := 8) C dX7_run_7 rfl ?_
  refine V_iload3 (pc' := 9) C dX7_run_8 rfl ?_
  refine V_callS (n := 2) [.int (iI c), .int (iI r)] C (kX7_needCell hr2 hc2) gX7_run_X7_needCell rfl ydX7_needCell ⟨Nat.le_of_ble_eq_true rfl, Nat.le_of_ble_eq_true rfl⟩ ⟨rfl, rfl⟩ rfl (fun h hh => trivial) rfl (Nat.le_of_ble_eq_true rfl) dX7_run_9 ⟨by dsimp only; omega, by dsimp only; omega⟩ (fun h v h' hh hj9 => ?_)
  obtain ⟨rfl, rfl⟩ := hj9
  refine V_weak (I2 := fun x9 => (CW cI cO ee Tx9 P S X x9 ∧ True) ∧ Fr T7 h0 x9) (fun x9 hx9 => by rw [hx9]; exact hh) ?_
  refine V_iload1 (pc' := 13) C dX7_run_12 rfl ?_
  refine V_aload0 (pc' := 14) C dX7_run_13 rfl ?_
  refine V_getf (pc' := 17) (T := TX7) (N := 13) (ci := 12) C hin rfl 9 (by decide) (by decide +kernel) (fun h hh => ⟨1, _, hh.1.1.1, rfl⟩) dX7_run_14 rfl ?_
  refine V_icmpne (tgt := 30) C (by omega) dX7_run_17 (by decide) rfl (fun c_17 => ?_) (fun c_17 => ?_)
  · refine V_aload0 (pc' := 31) C dX7_run_30 rfl ?_
    refine V_aload4 (pc' := 33) C dX7_run_31 rfl ?_
    refine V_iload2 (pc' := 34) C dX7_run_33 rfl ?_
    refine V_iload3 (pc' := 35) C dX7_run_34 rfl ?_
    refine V_eq (st2 := [.int (iI (atI c r / 6)), .int (iI (atI c r % 6)), .ref (P (100 + m)), .ref (P 1)]) (by rw [← hcr.1, ← hcr.2]; rfl) ?_
    refine V_callV (ci := 12) (n := 3) [.ref (P (100 + m)), .int (iI (atI c r % 6)), .int (iI (atI c r / 6))] C (kX7_reasonAgainst hwp hIv.2.1 (fun h h' a b => h9 P S S h h' (tC 4) rfl rfl b (by unfold tC; omega) (by unfold tC; omega) a) (m := m) (x := atI c r) hm1 ⟨by omega, by omega⟩) gX7_run_X7_reasonAgainst rfl ydX7_reasonAgainst ⟨Nat.le_of_ble_eq_true rfl, Nat.le_of_ble_eq_true rfl⟩ ⟨rfl, rfl⟩ rfl rfl (fun h hh => ⟨1, _, hh.1.1.1⟩) (fun h hh => hh.1.1) rfl (Nat.le_of_ble_eq_true rfl) dX7_run_35 ⟨by dsimp only; omega, by dsimp only; omega⟩ (fun h v h' hh hj9 => ?_)
    obtain ⟨r9, rfl, hj8, ⟨f, hj1⟩, hj2⟩ := hj9
    rw [hj8]
    refine V_weak (I2 := fun x9 => (CW cI cO ee Tx9 P S (Xtr X f) x9 ∧ True) ∧ Fr T7 h0 x9) (fun x9 hx9 => by rw [hx9]; exact ⟨⟨hj1, trivial⟩, hh.2.trans (hj2.mono (fun u hu => by unfold T7; first | (unfold tL at hu; omega) | (unfold TKB tU at hu; omega) | (unfold TKA tC tU at hu; omega) | (unfold tC tU at hu; omega) | (unfold tC at hu; omega) | omega))⟩) ?_
    refine V_bipush (pc' := 40) C dX7_run_38 rfl (by decide) ?_
    refine V_icmpeq (tgt := 53) C (by omega) dX7_run_40 (by decide) rfl (fun c_40 => ?_) (fun c_40 => ?_)
    · refine V_aload0 (pc' := 54) C dX7_run_53 rfl ?_
      refine V_callV (mc := growC (X.2 25) (X.2 26).toNat) (ms := growS (X.2 25) (X.2 26).toNat) (ci := 12) (n := 0) [] C (kX7_begin (P := P) (S := S) (X := Xtr X f) hwp hrm h9 hp9 hIv.2.2.2.2.2 hcX) gX7_run_X7_beginAction rfl ydX7_beginAction ⟨Nat.le_of_ble_eq_true rfl, Nat.le_of_ble_eq_true rfl⟩ ⟨rfl, rfl⟩ rfl rfl (fun h hh => ⟨1, _, hh.1.1.1⟩) (fun h hh => hh.1.1) rfl (Nat.le_of_ble_eq_true rfl) dX7_run_54 ⟨by dsimp only; omega, by dsimp only; omega⟩ (fun h v h' hh hj9 => ?_)
      obtain ⟨rfl, ⟨P2, X2, hc2, hx2, hp2⟩, hj2⟩ := hj9
      refine V_weak (I2 := fun x9 => (CW cI cO ee Tx9 P2 S X2 x9 ∧ True) ∧ Fr T7 h0 x9) (fun x9 hx9 => by rw [hx9]; exact ⟨⟨hc2, trivial⟩, hh.2.trans (hj2.mono (fun u hu => by unfold T7; first | (unfold tL at hu; omega) | (unfold TKB tU at hu; omega) | (unfold TKA tC tU at hu; omega) | (unfold tC tU at hu; omega) | (unfold tC at hu; omega) | omega))⟩) ?_
      rw [show P 1 = P2 1 from (hp2 1 (by omega)).symm, show P (100 + m) = P2 (100 + m) from (hp2 _ (by omega)).symm]
      have hRA := rel_beg (S := S) (S' := S) (X := Xtr X f) (X' := X2) (hIv.2.2.2.1.e rfl rfl rfl rfl rfl rfl rfl rfl rfl rfl rfl rfl rfl) hx2 rfl rfl rfl rfl rfl rfl rfl rfl
      have hlg := RelN_g hIv.2.2.2.2.2 ⟨hcX.1, hcX.2.1⟩ hcX.2.2
      have hb1 : X2.2 20 = X.2 25 := hx2.1
      have hb2 : X2.2 25 = X.2 25 := hx2.2.1
      have hb3 : X2.2 26 = (lenG (X.2 25) (X.2 26).toNat : Int) := hx2.2.2.2.2.2.1
      have hlg1 := hlg.2.2.1
      have hlg2 := hlg.2.2.2.1
      refine V_aload0 (pc' := 58) C dX7_run_57 rfl ?_
      refine V_aload4 (pc' := 60) C dX7_run_58 rfl ?_
      refine V_iload2 (pc' := 61) C dX7_run_60 rfl ?_
      refine V_iload3 (pc' := 62) C dX7_run_61 rfl ?_
      refine V_iconst (pc' := 63) C dX7_run_62 rfl ?_
      refine V_eq (st2 := [.int (iI 0), .int (iI (atI c r / 6)), .int (iI (atI c r % 6)), .ref (P2 (100 + m)), .ref (P2 1)]) (by rw [← hcr.1, ← hcr.2]; rfl) ?_
      refine V_callV (ci := 12) (n := 4) [.ref (P2 (100 + m)), .int (iI (atI c r % 6)), .int (iI (atI c r / 6)), .int (iI 0)] C (kX7_makeSteps (P := P2) (S := S) (X := X2) hwp hIv.2.1 h9 (m := m) hm1 (x := atI c r) (dp := 0) hx hok.1 hok.2.2 (by omega)) gX7_run_X7_makeSteps rfl ydX7_makeSteps ⟨Nat.le_of_ble_eq_true rfl, Nat.le_of_ble_eq_true rfl⟩ ⟨rfl, rfl⟩ rfl rfl (fun h hh => ⟨1, _, hh.1.1.1⟩) (fun h hh => hh.1.1) rfl (Nat.le_of_ble_eq_true rfl) dX7_run_63 ⟨by dsimp only; omega, by dsimp only; omega⟩ (fun h v h' hh hj9 => ?_)
      obtain ⟨rfl, hj1, hj2⟩ := hj9
      obtain ⟨S2, hS2⟩ : ∃ S2, S2 = runS (uG (whyS S m (atI c r)).2 31 0) m (atI c r) 0 := ⟨_, rfl⟩
      have haw := (run_pre3 (v := 0) hIv.1 ⟨by omega, by omega⟩ hx hwy).2.2.2
      rw [← hS2] at haw
      have hm4 := hw2 m (by omega) (by omega)
      have hE : E1 (runS S m (atI c r) 0) S2 := by
        have hE9 := E1.rn (dp := 0) (E1_u31 (E1_why S m (atI c r)) h31) hx (n := (S.1 4 m).toNat) (fun j hj => hok.1 j (by omega)) (S.1 4 m).toNat (Nat.le_refl _)
        rw [hS2]
        unfold runS
        rw [show (uG (whyS S m (atI c r)).2 31 0).1 4 m = S.1 4 m by rw [uG_1, whyS_1 S m _ 4 (by decide)]]
        exact hE9
      obtain ⟨X3, hX3⟩ : ∃ X3, X3 = rnX S X2 m (atI c r) 0 (S.1 4 m).toNat := ⟨_, rfl⟩
      have hRA2 : RelA S2 X3 (S.2 24) := by
        rw [hX3]
        exact (RelA.rn (dp := 0) hRA (Int.le_refl _) ⟨by omega, by omega⟩ (n := (S.1 4 m).toNat) (x := atI c r) (m := m) (fun j hj => hok.1 j (by omega)) (fun j hj => hok.2.2 j (by omega)) (S.1 4 m).toNat (Nat.le_refl _)).e1 hE
      have hxK2 : xK X2 X3 := by rw [hX3]; exact xK_rn _ _ _ _ _ _
      rw [← hX3] at hj1
      have hr1 := run_1 S m (atI c r) 0
      have hr2 := run_2 S m (atI c r) 0
      rw [← hS2] at hr1 hr2
      refine V_weak (I2 := fun x9 => (CW cI cO ee Tx9 P2 S2 X3 x9 ∧ True) ∧ Fr T7 h0 x9) (fun x9 hx9 => by rw [hx9]; exact ⟨⟨hj1.congr h9 hE.cw, trivial⟩, hh.2.trans (hj2.mono (fun u hu => by unfold T7; first | (unfold tL at hu; omega) | (unfold TKB tU at hu; omega) | (unfold TKA tC tU at hu; omega) | (unfold tC tU at hu; omega) | (unfold tC at hu; omega) | omega))⟩) ?_
      refine V_aload0 (pc' := 67) C dX7_run_66 rfl ?_
      refine V_callV (ci := 12) (n := 0) [] C (kX7_runRules (P := P2) (S := S2) (X := X3) haw.1 haw.2.1 (KD_of hIv.2.1 (fun k k0 k1 => hr1 k (by omega))) (RM_of hrm (hr1 14 (by decide)) (hr2 22 (by decide)) (hr2 23 (by decide))) h9 (fr := S.2 24) hRA2 ⟨haw.2.2.1, haw.2.2.2.1, haw.2.2.2.2.1, haw.2.2.2.2.2.1⟩ ⟨by rw [hr2 29 (by decide)]; have h6 := hxK2.1; omega, by have h6 := hxK2.1; omega⟩) gX7_run_X7_runRules rfl ydX7_runRules ⟨Nat.le_of_ble_eq_true rfl, Nat.le_of_ble_eq_true rfl⟩ ⟨rfl, rfl⟩ rfl rfl (fun h hh => ⟨1, _, hh.1.1.1⟩) (fun h hh => hh.1.1) rfl (Nat.le_of_ble_eq_true rfl) dX7_run_67 ⟨by dsimp only; omega, by dsimp only; omega⟩ (fun h v h' hh hj9 => ?_)
      obtain ⟨rfl, ⟨X4, hc4, hRA4, hxK4⟩, hj2⟩ := hj9
      have hew : EW (chX S2 (S.2 24)) X4 (S.2 24) := ew_chain haw (RelH_hand hIv.2.2.2.2.1 ⟨hxK2.2.1.trans hx2.2.2.1, hxK2.2.2.1.trans hx2.2.2.2.1⟩ (hr2 25 (by decide)) (hr2 29 (by decide)) (hr1 20 (by decide))) (HWo_hand (HW_o hIv.1.2.2.1) (hr2 25 (by decide)) (hr1 20 (by decide))) hRA4 hxK4
      have hwc := (AW_chX haw).1
      obtain ⟨S3, hS3⟩ : ∃ S3, S3 = chX S2 (S.2 24) := ⟨_, rfl⟩
      rw [← hS3] at hc4 hew hwc
      obtain ⟨hE5, hE6⟩ := hew.2.2.2.2
      have hE7 := hew.1.1.1.1
      have hE8 := hew.1.2.1
      have hX20 : X4.2 20 = X.2 25 := by rw [hxK4.2.2.2, hxK2.2.2.2]; exact hb1
      have hE1 : 0 ≤ X4.2 25 := by omega
      have hE2 : X4.2 25 ≤ 107520 := by omega
      have hE3 : 0 ≤ X4.2 20 := by omega
      have hE4 : X4.2 20 ≤ 107520 := by omega
      refine V_weak (I2 := fun x9 => (CW cI cO ee Tx9 P2 S3 X4 x9 ∧ True) ∧ Fr T7 h0 x9) (fun x9 hx9 => by rw [hx9]; exact ⟨⟨hc4, trivial⟩, hh.2.trans (hj2.mono (fun u hu => by unfold T7; first | (unfold tL at hu; omega) | (unfold TKB tU at hu; omega) | (unfold TKA tC tU at hu; omega) | (unfold tC tU at hu; omega) | (unfold tC at hu; omega) | omega))⟩) ?_
      refine V_aload0 (pc' := 71) C dX7_run_70 rfl ?_
      refine V_callV (ci := 12) (n := 0) [] C (kX7_end (P := P2) (S := S3) (X := X4) hwc h9 (fr := S.2 24) ⟨hE1, hE2, hE3, hE4⟩ (by have h5 := hew.1.1.1; have h6 := hew.1.2.1; omega) ⟨by have h5 := hew.2.1.1; have h6 := hew.2.2.1.1; omega, by have h5 := hew.2.1.1; have h6 := hew.2.2.1.2.1; omega⟩) gX7_run_X7_endAction rfl ydX7_endAction ⟨Nat.le_of_ble_eq_true rfl, Nat.le_of_ble_eq_true rfl⟩ ⟨rfl, rfl⟩ rfl rfl (fun h hh => ⟨1, _, hh.1.1.1⟩) (fun h hh => hh.1.1) rfl (Nat.le_of_ble_eq_true rfl) dX7_run_71 ⟨by dsimp only; omega, by dsimp only; omega⟩ (fun h v h' hh hj9 => ?_)
      obtain ⟨r9, rfl, hj8, hj1, hj2⟩ := hj9
      rw [hj8]
      refine V_weak (I2 := fun x9 => CW cI cO ee Tx9 P2 (runZ S m (atI c r)).2 (endX S3 X4 (S.2 24)) x9 ∧ Fr T7 h0 x9) (fun x9 hx9 => by rw [hx9]; exact ⟨CW.congr hj1 h9 (by unfold runZ; rw [← hS2, ← hS3]; exact cwE_ends _ _ _), hh.2.trans (hj2.mono (fun u hu => by unfold T7; first | (unfold tL at hu; omega) | (unfold TKB tU at hu; omega) | (unfold TKA tC tU at hu; omega) | (unfold tC tU at hu; omega) | (unfold tC at hu; omega) | omega))⟩) ?_
      exact V_end C hr hlk (fun h' hh => ⟨_, rfl, by unfold runZ; rw [endsS_fst, ← hS2, ← hS3], ⟨P2, X4, S3, hh.1, rfl, by rw [hS3, hS2], hew, by rw [hxK4.1, hxK2.1]; exact hx2.2.2.2.2.2.1⟩, hh.2⟩) ⟨by omega, by omega⟩ dX7_run_74
    · exact absurd c_40 (by omega)
  · exact absurd c_17 (by omega)
set_option maxHeartbeats 4000000 in
set_option maxRecDepth 100000 in
theorem xX7_run_m (hwp : WFp S) {z c r : Int} (hz : ¬ (0 ≤ z ∧ z < S.2 22)) (hr0 : rI z) (hst : l.stackTraces = false) : Tx l yX7_run wsX7_run ({ frames := 8, cells := 1, slots := 6, locals := 170 } : Room) D (tyL cB cC cI cO cJ cD) ee [.ref (P 1), .int (iI z), .int (iI c), .int (iI r)] (CW cI cO ee Tx9 P S X) "java/lang/IndexOutOfBoundsException" (fun h h' => h' = h) (1) (6) := by
  refine Tx_of (cc := cX7_run) (own := RX7) [some (.ref (P 1)), some (.int (iI z)), some (.int (iI c)), some (.int (iI r)), none] (by decide) rfl rfl (Nat.le_of_ble_eq_true rfl) (fun i9 v9 h9 => argL [.ref (P 1), .int (iI z), .int (iI c), .int (iI r)] 1 rfl i9 v9 h9) ?_
  intro p e s m9 args below meth c9 h0 sz hI C hlk hxt
  refine V_weak (I2 := fun x9 => CW cI cO ee Tx9 P S X x9 ∧ x9 = h0) (fun x9 hx9 => by subst hx9; exact ⟨hI, rfl⟩) ?_
  refine V_aload0 (pc' := 1) C dX7_run_0 rfl ?_
  refine V_iload1 (pc' := 2) C dX7_run_1 rfl ?_
  exact V_outV (ci := 12) (n := 1) [.int (iI z)] C (xX7_neededMacro (z := z) hwp hz hr0 hst) gX7_run_X7_neededMacro rfl ydX7_neededMacro ⟨Nat.le_of_ble_eq_true rfl, Nat.le_of_ble_eq_true rfl⟩ ⟨rfl, rfl⟩ rfl rfl (fun h hh => ⟨1, _, hh.1.1⟩) (fun h hh => hh.1) rfl (Nat.le_of_ble_eq_true rfl) dX7_run_2 ⟨Nat.le_of_ble_eq_true rfl, Nat.le_of_ble_eq_true rfl⟩ hxt hlk (fun h h' hh hj => by rw [hj]; exact hh.2) ⟨Nat.le_of_ble_eq_true rfl, Nat.le_of_ble_eq_true rfl⟩
set_option maxHeartbeats 4000000 in
set_option maxRecDepth 100000 in
theorem xX7_run_c (hwp : WFp S) {z : Int} (hz : 0 ≤ z ∧ z < S.2 22) {c r : Int} (hr2 : rI c ∧ rI r) (hc2 : isCellB c r = false) (hst : l.stackTraces = false) : Tx l yX7_run wsX7_run ({ frames := 8, cells := 1, slots := 6, locals := 170 } : Room) D (tyL cB cC cI cO cJ cD) ee [.ref (P 1), .int (iI z), .int (iI c), .int (iI r)] (CW cI cO ee Tx9 P S X) "java/lang/IndexOutOfBoundsException" (fun h h' => h' = h) (1) (6) := by
  refine Tx_of (cc := cX7_run) (own := RX7) [some (.ref (P 1)), some (.int (iI z)), some (.int (iI c)), some (.int (iI r)), none] (by decide) rfl rfl (Nat.le_of_ble_eq_true rfl) (fun i9 v9 h9 => argL [.ref (P 1), .int (iI z), .int (iI c), .int (iI r)] 1 rfl i9 v9 h9) ?_
  intro p e s m9 args below meth c9 h0 sz hI C hlk hxt
  refine V_weak (I2 := fun x9 => CW cI cO ee Tx9 P S X x9 ∧ x9 = h0) (fun x9 hx9 => by subst hx9; exact ⟨hI, rfl⟩) ?_
  refine V_aload0 (pc' := 1) C dX7_run_0 rfl ?_
  refine V_iload1 (pc' := 2) C dX7_run_1 rfl ?_
  refine V_callV (ci := 12) (n := 1) [.int (iI z)] C (kX7_neededMacro (z := z) hwp hz) gX7_run_X7_neededMacro rfl ydX7_neededMacro ⟨Nat.le_of_ble_eq_true rfl, Nat.le_of_ble_eq_true rfl⟩ ⟨rfl, rfl⟩ rfl rfl (fun h hh => ⟨1, _, hh.1.1⟩) (fun h hh => hh.1) rfl (Nat.le_of_ble_eq_true rfl) dX7_run_2 ⟨Nat.le_of_ble_eq_true rfl, Nat.le_of_ble_eq_true rfl⟩ (fun h v h' hh hj9 => ?_)
  obtain ⟨rfl, rfl⟩ := hj9
  refine V_weak (I2 := fun x9 => CW cI cO ee Tx9 P S X x9 ∧ x9 = h0) (fun x9 hx9 => by rw [hx9]; exact hh) ?_
  refine V_astore4 (pc' := 7) C dX7_run_5 rfl (by decide) rfl ?_
  refine V_iload2 (pc' := 8) C dX7_run_7 rfl ?_
  refine V_iload3 (pc' := 9) C dX7_run_8 rfl ?_
  exact V_outS (n := 2) [.int (iI c), .int (iI r)] C (xX7_needCell hr2 hc2 hst) gX7_run_X7_needCell rfl ydX7_needCell ⟨Nat.le_of_ble_eq_true rfl, Nat.le_of_ble_eq_true rfl⟩ ⟨rfl, rfl⟩ rfl (fun h hh => trivial) rfl (Nat.le_of_ble_eq_true rfl) dX7_run_9 ⟨Nat.le_of_ble_eq_true rfl, Nat.le_of_ble_eq_true rfl⟩ hxt hlk (fun h h' hh hj => by rw [hj]; exact hh.2) ⟨Nat.le_of_ble_eq_true rfl, Nat.le_of_ble_eq_true rfl⟩
set_option maxHeartbeats 4000000 in
set_option maxRecDepth 100000 in
theorem xX7_run_i (hwp : WFp S) {z : Int} (hz : 0 ≤ z ∧ z < S.2 22) {c r : Int} (hr2 : rI c ∧ rI r) (hc2 : isCellB c r = true) (hrec : z = S.2 27) (hst : l.stackTraces = false) : Tx l yX7_run wsX7_run ({ frames := 8, cells := 1, slots := 6, locals := 170 } : Room) D (tyL cB cC cI cO cJ cD) ee [.ref (P 1), .int (iI z), .int (iI c), .int (iI r)] (CW cI cO ee Tx9 P S X) "java/lang/IllegalStateException" (fun h h' => h' = h) (1) (6) := by
  refine Tx_of (cc := cX7_run) (own := RX7) [some (.ref (P 1)), some (.int (iI z)), some (.int (iI c)), some (.int (iI r)), none] (by decide) rfl rfl (Nat.le_of_ble_eq_true rfl) (fun i9 v9 h9 => argL [.ref (P 1), .int (iI z), .int (iI c), .int (iI r)] 1 rfl i9 v9 h9) ?_
  intro p e s m9 args below meth c9 h0 sz hI C hlk hxt
  have hin : ∀ w ∈ wsX70, w ∈ wsX7_run := by decide +kernel
  refine V_weak (I2 := fun x9 => CW cI cO ee Tx9 P S X x9 ∧ x9 = h0) (fun x9 hx9 => by subst hx9; exact ⟨hI, rfl⟩) ?_
  refine V_aload0 (pc' := 1) C dX7_run_0 rfl ?_
  refine V_iload1 (pc' := 2) C dX7_run_1 rfl ?_
  refine V_callV (ci := 12) (n := 1) [.int (iI z)] C (kX7_neededMacro (z := z) hwp hz) gX7_run_X7_neededMacro rfl ydX7_neededMacro ⟨Nat.le_of_ble_eq_true rfl, Nat.le_of_ble_eq_true rfl⟩ ⟨rfl, rfl⟩ rfl rfl (fun h hh => ⟨1, _, hh.1.1⟩) (fun h hh => hh.1) rfl (Nat.le_of_ble_eq_true rfl) dX7_run_2 ⟨Nat.le_of_ble_eq_true rfl, Nat.le_of_ble_eq_true rfl⟩ (fun h v h' hh hj9 => ?_)
  obtain ⟨rfl, rfl⟩ := hj9
  refine V_weak (I2 := fun x9 => CW cI cO ee Tx9 P S X x9 ∧ x9 = h0) (fun x9 hx9 => by rw [hx9]; exact hh) ?_
  refine V_astore4 (pc' := 7) C dX7_run_5 rfl (by decide) rfl ?_
  refine V_iload2 (pc' := 8) C dX7_run_7 rfl ?_
  refine V_iload3 (pc' := 9) C dX7_run_8 rfl ?_
  refine V_callS (n := 2) [.int (iI c), .int (iI r)] C (kX7_needCell hr2 hc2) gX7_run_X7_needCell rfl ydX7_needCell ⟨Nat.le_of_ble_eq_true rfl, Nat.le_of_ble_eq_true rfl⟩ ⟨rfl, rfl⟩ rfl (fun h hh => trivial) rfl (Nat.le_of_ble_eq_true rfl) dX7_run_9 ⟨Nat.le_of_ble_eq_true rfl, Nat.le_of_ble_eq_true rfl⟩ (fun h v h' hh hj9 => ?_)
  obtain ⟨rfl, rfl⟩ := hj9
  refine V_weak (I2 := fun x9 => CW cI cO ee Tx9 P S X x9 ∧ x9 = h0) (fun x9 hx9 => by rw [hx9]; exact hh) ?_
  refine V_iload1 (pc' := 13) C dX7_run_12 rfl ?_
  refine V_aload0 (pc' := 14) C dX7_run_13 rfl ?_
  refine V_getf (pc' := 17) (T := TX7) (N := 13) (ci := 12) C hin rfl 9 (by decide) (by decide +kernel) (fun h hh => ⟨1, _, hh.1.1, rfl⟩) dX7_run_14 rfl ?_
  refine V_icmpne (tgt := 30) C (by have := hwp.2.2.2.2.1; omega) dX7_run_17 (by decide) rfl (fun c_17 => ?_) (fun c_17 => ?_)
  · exact absurd c_17 (by omega)
  · exact V_throwS (text := "the macro is recorded") (names := ["java/lang/RuntimeException", "java/lang/Exception"]) C hst (by decide +kernel) (by decide +kernel) (by decide +kernel) (by decide +kernel) (by decide +kernel) (by decide +kernel) (by decide +kernel) (by decide +kernel) dX7_run_20 dX7_run_23 dX7_run_24 dX7_run_26 dX7_run_29 hxt (Nat.le_of_ble_eq_true rfl) (Nat.le_of_ble_eq_true rfl) ⟨Nat.le_of_ble_eq_true rfl, Nat.le_of_ble_eq_true rfl⟩ hlk (fun h' hh => hh.2) rfl ⟨Nat.le_of_ble_eq_true rfl, Nat.le_of_ble_eq_true rfl⟩
set_option maxHeartbeats 4000000 in
set_option maxRecDepth 100000 in
theorem xX7_run_u (hwp : WFp S) (hkd : KD S) (h9 : T9ok Tx9) {z : Int} (hz : 0 ≤ z ∧ z < S.2 22) {c r : Int} (hr2 : rI c ∧ rI r) (hc2 : isCellB c r = true) (hrec : z ≠ S.2 27) (hwy : (whyS S z (atI c r)).1 ≠ 45) (hst : l.stackTraces = false) : Tx l yX7_run wsX7_run ({ frames := 8, cells := 1, slots := 6, locals := 190 } : Room) D (tyL cB cC cI cO cJ cD) ee [.ref (P 1), .int (iI z), .int (iI c), .int (iI r)] (CW cI cO ee Tx9 P S X) "java/lang/UnsupportedOperationException" (fun h h' => (∃ f, CW cI cO ee Tx9 P S (Xtr X f) h') ∧ Fr (tC 4) h h') (1) (6) := by
  refine Tx_of (cc := cX7_run) (own := RX7) [some (.ref (P 1)), some (.int (iI z)), some (.int (iI c)), some (.int (iI r)), none] (by decide) rfl rfl (Nat.le_of_ble_eq_true rfl) (fun i9 v9 h9 => argL [.ref (P 1), .int (iI z), .int (iI c), .int (iI r)] 1 rfl i9 v9 h9) ?_
  intro p e s m9 args below meth c9 h0 sz hI C hlk hxt
  have hin : ∀ w ∈ wsX70, w ∈ wsX7_run := by decide +kernel
  refine V_weak (I2 := fun x9 => CW cI cO ee Tx9 P S X x9 ∧ x9 = h0) (fun x9 hx9 => by subst hx9; exact ⟨hI, rfl⟩) ?_
  have hx := atI_in (c := c) (r := r) hc2
  have hcr : c = atI c r % 6 ∧ r = atI c r / 6 := by
    simp only [isCellB, isInB, Bool.and_eq_true, decide_eq_true_eq] at hc2
    unfold atI
    omega
  refine V_aload0 (pc' := 1) C dX7_run_0 rfl ?_
  refine V_iload1 (pc' := 2) C dX7_run_1 rfl ?_
  refine V_callV (ci := 12) (n := 1) [.int (iI z)] C (kX7_neededMacro (z := z) hwp hz) gX7_run_X7_neededMacro rfl ydX7_neededMacro ⟨Nat.le_of_ble_eq_true rfl, Nat.le_of_ble_eq_true rfl⟩ ⟨rfl, rfl⟩ rfl rfl (fun h hh => ⟨1, _, hh.1.1⟩) (fun h hh => hh.1) rfl (Nat.le_of_ble_eq_true rfl) dX7_run_2 ⟨Nat.le_of_ble_eq_true rfl, Nat.le_of_ble_eq_true rfl⟩ (fun h v h' hh hj9 => ?_)
  obtain ⟨rfl, rfl⟩ := hj9
  refine V_weak (I2 := fun x9 => CW cI cO ee Tx9 P S X x9 ∧ x9 = h0) (fun x9 hx9 => by rw [hx9]; exact hh) ?_
  refine V_astore4 (pc' := 7) C dX7_run_5 rfl (by decide) rfl ?_
  refine V_iload2 (pc' := 8) C dX7_run_7 rfl ?_
  refine V_iload3 (pc' := 9) C dX7_run_8 rfl ?_
  refine V_callS (n := 2) [.int (iI c), .int (iI r)] C (kX7_needCell hr2 hc2) gX7_run_X7_needCell rfl ydX7_needCell ⟨Nat.le_of_ble_eq_true rfl, Nat.le_of_ble_eq_true rfl⟩ ⟨rfl, rfl⟩ rfl (fun h hh => trivial) rfl (Nat.le_of_ble_eq_true rfl) dX7_run_9 ⟨Nat.le_of_ble_eq_true rfl, Nat.le_of_ble_eq_true rfl⟩ (fun h v h' hh hj9 => ?_)
  obtain ⟨rfl, rfl⟩ := hj9
  refine V_weak (I2 := fun x9 => CW cI cO ee Tx9 P S X x9 ∧ x9 = h0) (fun x9 hx9 => by rw [hx9]; exact hh) ?_
  refine V_iload1 (pc' := 13) C dX7_run_12 rfl ?_
  refine V_aload0 (pc' := 14) C dX7_run_13 rfl ?_
  refine V_getf (pc' := 17) (T := TX7) (N := 13) (ci := 12) C hin rfl 9 (by decide) (by decide +kernel) (fun h hh => ⟨1, _, hh.1.1, rfl⟩) dX7_run_14 rfl ?_
  refine V_icmpne (tgt := 30) C (by have := hwp.2.2.2.2.1; omega) dX7_run_17 (by decide) rfl (fun c_17 => ?_) (fun c_17 => ?_)
  · refine V_aload0 (pc' := 31) C dX7_run_30 rfl ?_
    refine V_aload4 (pc' := 33) C dX7_run_31 rfl ?_
    refine V_iload2 (pc' := 34) C dX7_run_33 rfl ?_
    refine V_iload3 (pc' := 35) C dX7_run_34 rfl ?_
    refine V_eq (st2 := [.int (iI (atI c r / 6)), .int (iI (atI c r % 6)), .ref (P (100 + z.toNat)), .ref (P 1)]) (by rw [← hcr.1, ← hcr.2]; rfl) ?_
    refine V_callV (ci := 12) (n := 3) [.ref (P (100 + z.toNat)), .int (iI (atI c r % 6)), .int (iI (atI c r / 6))] C (kX7_reasonAgainst hwp hkd (fun h h' a b => h9 P S S h h' (tC 4) rfl rfl b (by unfold tC; omega) (by unfold tC; omega) a) (m := z.toNat) (x := atI c r) (by omega) ⟨by omega, by omega⟩) gX7_run_X7_reasonAgainst rfl ydX7_reasonAgainst ⟨Nat.le_of_ble_eq_true rfl, Nat.le_of_ble_eq_true rfl⟩ ⟨rfl, rfl⟩ rfl rfl (fun h hh => ⟨1, _, hh.1.1⟩) (fun h hh => hh.1) rfl (Nat.le_of_ble_eq_true rfl) dX7_run_35 ⟨Nat.le_of_ble_eq_true rfl, Nat.le_of_ble_eq_true rfl⟩ (fun h v h' hh hj9 => ?_)
    obtain ⟨r9, rfl, hj8, ⟨f, hj1⟩, hj2⟩ := hj9
    rw [hj8, show ((z.toNat : Nat) : Int) = z by omega]
    refine V_weak (I2 := fun x9 => CW cI cO ee Tx9 P S (Xtr X (f)) x9 ∧ Fr (tC 4) h0 x9) (fun x9 hx9 => by rw [hx9]; exact ⟨hj1, by rw [← hh.2]; exact hj2⟩) ?_
    have hwr := whyS_ans S z (atI c r)
    refine V_bipush (pc' := 40) C dX7_run_38 rfl (by decide) ?_
    refine V_icmpeq (tgt := 53) C (by omega) dX7_run_40 (by decide) rfl (fun c_40 => ?_) (fun c_40 => ?_)
    · exact absurd c_40 (by omega)
    · exact V_throwS (text := "the macro cannot run") (names := ["java/lang/RuntimeException", "java/lang/Exception"]) C hst (by decide +kernel) (by decide +kernel) (by decide +kernel) (by decide +kernel) (by decide +kernel) (by decide +kernel) (by decide +kernel) (by decide +kernel) dX7_run_43 dX7_run_46 dX7_run_47 dX7_run_49 dX7_run_52 hxt (Nat.le_of_ble_eq_true rfl) (Nat.le_of_ble_eq_true rfl) ⟨Nat.le_of_ble_eq_true rfl, Nat.le_of_ble_eq_true rfl⟩ hlk (fun h' hh => ⟨⟨f, hh.1⟩, hh.2⟩) rfl ⟨Nat.le_of_ble_eq_true rfl, Nat.le_of_ble_eq_true rfl⟩
  · exact absurd c_17 (by omega)
end

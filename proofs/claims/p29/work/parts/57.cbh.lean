/-! the class: a change by hand -/
theorem hand_1 (S : MSt) (a x v n : Int) (k : Nat) (h : k ≠ 0 ∧ k ≠ 4 ∧ k ≠ 5 ∧ k ≠ 6 ∧ k ≠ 7 ∧ k ≠ 8 ∧ k ≠ 16 ∧ k ≠ 17 ∧ k ≠ 18 ∧ k ≠ 19) : (handS S a x v n).1 k = S.1 k := by
  unfold handS
  rw [becS_1 _ _ _ _ _ k (by omega), recS_1 _ _ _ _ k (by omega)]
theorem hand_2 (S : MSt) (a x v n : Int) (k : Nat) (h : k ≠ 24) : (handS S a x v n).2 k = S.2 k := by
  unfold handS
  rw [becS_2 _ _ _ _ _ k h, recS_2]
theorem KD_rec {S : MSt} {a x n b : Int} (hm : MW S b) (h : KD S) (ha : a = 115 ∨ a = 97 ∨ a = 99) : KD (recS S a x n) := by
  by_cases hc : S.2 27 < 0
  · have e : recS S a x n = S := if_pos hc
    rw [e]
    exact h
  · have e : recS S a x n = uA (uA (uA (uA (uA S 5 (10 * S.2 27 + S.1 4 (S.2 27)) a) 6 (10 * S.2 27 + S.1 4 (S.2 27)) (x % 6 - S.2 28 % 6)) 7 (10 * S.2 27 + S.1 4 (S.2 27)) (x / 6 - S.2 28 / 6)) 8 (10 * S.2 27 + S.1 4 (S.2 27)) n) 4 (S.2 27) (S.1 4 (S.2 27) + 1) := if_neg hc
    rw [e]
    intro m k m0 m1 k0 k1
    have h4 := (hm.1.2.1 m m0 m1)
    have h5 := hm.2.2.2.1 (by omega)
    have h6 := hm.1.2.2.2.2.1
    have h7 := hm.1.2.1 (S.2 27) (by omega) (by omega)
    have k2 : k < upZ (S.1 4) (S.2 27) (S.1 4 (S.2 27) + 1) m := k1
    show upZ (S.1 5) (10 * S.2 27 + S.1 4 (S.2 27)) a (10 * m + k) = 115 ∨ upZ (S.1 5) (10 * S.2 27 + S.1 4 (S.2 27)) a (10 * m + k) = 97 ∨ upZ (S.1 5) (10 * S.2 27 + S.1 4 (S.2 27)) a (10 * m + k) = 99
    by_cases q : 10 * m + k = 10 * S.2 27 + S.1 4 (S.2 27)
    · rw [q, upZ_s]
      exact ha
    · rw [upZ_n q]
      refine h m k m0 m1 k0 ?_
      by_cases q2 : m = S.2 27
      · rw [q2, upZ_s] at k2
        rw [q2] at q ⊢
        omega
      · rw [upZ_n q2] at k2
        exact k2
theorem KD_hand {S : MSt} {a x v n b : Int} (hm : MW S b) (h : KD S) (ha : a = 115 ∨ a = 97 ∨ a = 99) : KD (handS S a x v n) := KD_of (KD_rec (x := x) (n := n) hm h ha) (fun k k0 k1 => by unfold handS; exact becS_1 _ _ _ _ _ k (by omega))
theorem RM_hand {S : MSt} {a x v n : Int} (h : RM S) : RM (handS S a x v n) := RM_of h (hand_1 S a x v n 14 (by decide)) (hand_2 S a x v n 22 (by decide)) (hand_2 S a x v n 23 (by decide))
theorem RelH_hand {S S' X X' : MSt} (h : RelH S X) (hx : X'.2 27 = X.2 27 ∧ X'.1 12 = X.1 12) (e25 : S'.2 25 = S.2 25) (e29 : S'.2 29 = S.2 29) (e20 : S'.1 20 = S.1 20) : RelH S' X' := ⟨by rw [hx.1, e25]; exact h.1, fun k k0 k1 => by rw [hx.2, e29, e20]; exact h.2 k k0 (by omega)⟩
theorem HWo_hand {S S' : MSt} {fr : Int} (h : HWo S fr) (e25 : S'.2 25 = S.2 25) (e20 : S'.1 20 = S.1 20) : HWo S' fr := by
  unfold HWo
  rw [e25, e20]
  exact h
theorem WFp_27 {S : MSt} (h : WFp S) : WFp (uG S 27 (-1)) := by
  obtain ⟨w1, w2, w3, w4, w5, w6⟩ := h
  exact ⟨w1, w2, w3, w4, ⟨w5.1, w5.2.1, w5.2.2.1, w5.2.2.2.1, (by decide : (-1 : Int) ≤ -1), (by decide : (-1 : Int) < 6), w5.2.2.2.2.2.2⟩, w6⟩
theorem cwE_hand {S S3 : MSt} {a x v n w : Int} (hS3 : S3 = chX (handS S a x v n) (S.2 24)) (hw : (if 0 ≤ S3.2 27 ∧ S3.1 4 (S3.2 27) = 10 then -1 else S3.2 27) = w) : cwE (uG S3 27 w) (byHandS S a x v n).2 := by
  have e : (byHandS S a x v n).2 = afterS (endsS S3 (S.2 24) (S3.2 24 - S.2 24)).2 := by rw [hS3]; rfl
  rw [e]
  have e1 := endsS_1 S3 (S.2 24) (S3.2 24 - S.2 24)
  have e2 := endsS_2 S3 (S.2 24) (S3.2 24 - S.2 24)
  refine ⟨e1 0 (by decide), fun k k0 k1 => e1 k (by omega), e1 21 (by decide), ?_, ?_, ?_, ?_, ?_, ?_⟩
  · exact e2 22 (by decide)
  · exact e2 23 (by decide)
  · exact e2 26 (by decide)
  · show (if 0 ≤ (endsS S3 (S.2 24) (S3.2 24 - S.2 24)).2.2 27 ∧ (endsS S3 (S.2 24) (S3.2 24 - S.2 24)).2.1 4 ((endsS S3 (S.2 24) (S3.2 24 - S.2 24)).2.2 27) = 10 then -1 else (endsS S3 (S.2 24) (S3.2 24 - S.2 24)).2.2 27) = w
    rw [e2 27 (by decide), e1 4 (by decide)]
    exact hw
  · exact e2 28 (by decide)
  · exact e2 30 (by decide)
theorem uG_id (S : MSt) (k : Nat) : uG S k (S.2 k) = S := Prod.ext rfl (funext fun j => by
  show (if j = k then S.2 k else S.2 j) = S.2 j
  by_cases q : j = k
  · rw [if_pos q, q]
  · rw [if_neg q])
theorem ydX7_changeByHand : yX7_changeByHand.cls = RX7 ∧ yX7_changeByHand.cls ≠ "java/lang/invoke/MethodHandle" ∧ yX7_changeByHand.cls ≠ "java/lang/invoke/VarHandle" ∧ (parseMethodDescriptor yX7_changeByHand.desc).map (fun d => d.parameters.length) = some 4 := by decide +kernel
section
variable {l : Launch} {D : va_G} {cB cC cI cO cJ cD : ClassId} {ee : Nat × Nat} {Tx9 : (Nat → Nat) → MSt → Hp → Prop} {P : Nat → Nat} {S X : MSt}
set_option maxHeartbeats 4000000 in
set_option maxRecDepth 100000 in
theorem kX7_changeByHand_n {a c r n v b : Int} (hIv : Iv S X b) (hb : b + 210 ≤ 107520) (h9 : T9ok Tx9) (hp9 : T9p Tx9) (hcl : isCellB c r = true) (hr2 : rI c ∧ rI r) (hka : a = 115 ∨ a = 97 ∨ a = 99) (hn : -9999 ≤ n ∧ n ≤ 9999) (hv : vbI a n (S.1 0 (atI c r)) (S.1 0 (S.2 28)) = v) (hvv : isValueB v = true) (hz0 : S.2 27 < 0) : Ct l yX7_changeByHand wsX7_changeByHand ({ frames := 12, cells := 2 + growC (X.2 25) (X.2 26).toNat, slots := 14 + growS (X.2 25) (X.2 26).toNat, locals := 310 } : Room) D (tyL cB cC cI cO cJ cD) ee [.ref (P 1), .int (iI a), .int (iI c), .int (iI r), .int (iI n)] (CW cI cO ee Tx9 P S X) (Ji fun h z9 h' => z9 = (byHandS S a (atI c r) v n).1 ∧ (∃ P' X4 S3, CW cI cO ee Tx9 P' (byHandS S a (atI c r) v n).2 (endX S3 X4 (S.2 24)) h' ∧ P' 1 = P 1 ∧ S3 = chX (handS S a (atI c r) v n) (S.2 24) ∧ EW S3 X4 (S.2 24) ∧ X4.2 26 = (lenG (X.2 25) (X.2 26).toNat : Int)) ∧ Fr T7 h h') (2 + growC (X.2 25) (X.2 26).toNat) (14 + growS (X.2 25) (X.2 26).toNat) := by
  refine Ct_of (cc := cX7_changeByHand) (own := RX7) [some (.ref (P 1)), some (.int (iI a)), some (.int (iI c)), some (.int (iI r)), some (.int (iI n)), none, none, none] (by decide) rfl rfl (Nat.le_of_ble_eq_true rfl) (fun i9 v9 h9 => argL [.ref (P 1), .int (iI a), .int (iI c), .int (iI r), .int (iI n)] 3 rfl i9 v9 h9) ?_
  intro p e s m9 args below meth c9 h0 sz hI C hr hlk hinit
  have hin : ∀ w ∈ wsX70, w ∈ wsX7_changeByHand := by decide +kernel
  have hwp := hIv.1.1
  have hrm := hIv.2.2.1
  obtain ⟨hw1, hw2, hw3, hw4, hw5, hw6⟩ := id hwp
  have hx9 := atI_in (c := c) (r := r) hcl
  have hca : 0 ≤ a ∧ a ≤ 200 := by omega
  have haw := hand_wf (x := atI c r) hIv.1 hca hx9 hn hvv
  have hcX : 0 ≤ X.2 25 ∧ X.2 25 ≤ X.2 26 ∧ X.2 25 + 210 ≤ 107520 := by
    have h1 := hI.2.2.2.1.2.2
    have h2 := hIv.2.2.2.1.1
    obtain ⟨-, h3, h4, h5⟩ := hIv.1.2.2.2.2.1
    have h6 : 0 ≤ X.2 26 := by
      obtain ⟨e9, -, h7⟩ := hIv.2.2.2.2.2
      rw [h7]
      exact Int.natCast_nonneg _
    omega
  have hrn := hIv.2.2.2.1.1
  have hcr : c = atI c r % 6 ∧ r = atI c r / 6 := by
    simp only [isCellB, isInB, Bool.and_eq_true, decide_eq_true_eq] at hcl
    unfold atI
    omega
  have hz : S.2 27 = -1 := by omega
  have hS1 : S = recS S a (atI c r) n := (show recS S a (atI c r) n = S from if_pos (by omega)).symm
  have hwS1 := hwp
  have hrS1 := hrm
  refine V_weak (I2 := fun x9 => (CW cI cO ee Tx9 P S X x9 ∧ True) ∧ Fr T7 h0 x9) (fun x9 hx9 => by subst hx9; exact ⟨⟨hI, trivial⟩, Fr.refl⟩) ?_
  refine V_new (pc' := 3) (T := TX6) (N := 4) (ty0 := tyX6) (ci := 11) (fs := [.int 0, .int 0, .int 0, .int 0]) 5000 C (by decide +kernel) tyX6_ok (by decide +kernel) (by decide +kernel) (by decide +kernel) rfl (by decide) (by dsimp only; omega) (by dsimp only; omega) dX7_changeByHand_0 rfl (fun q => ?_)
  refine V_weak (I2 := fun x9 => (CW cI cO ee Tx9 P S X x9 ∧ x9 q = some (5000, .inr (11, [.int 0, .int 0, .int 0, .int 0]))) ∧ Fr T7 h0 x9) (fun x9 hx9 => by obtain ⟨h, hh, hq, rfl⟩ := hx9; exact ⟨⟨hh.1.1.kp hwp hrm h9 (Fr.new (T := fun _ => False) Fr.refl hq) (fun _ _ z => z) (fun _ _ z => z), hup_s⟩, hh.2.new hq⟩) ?_
  refine V_dup (pc' := 4) C rfl dX7_changeByHand_3 rfl ?_
  refine V_iload1 (pc' := 5) C dX7_changeByHand_4 rfl ?_
  refine V_iload2 (pc' := 6) C dX7_changeByHand_5 rfl ?_
  refine V_aload0 (pc' := 7) C dX7_changeByHand_6 rfl ?_
  refine V_getf (pc' := 10) (T := TX7) (N := 13) (ci := 12) C hin rfl 10 (by decide) (by decide +kernel) (fun h hh => ⟨1, _, hh.1.1.1, rfl⟩) dX7_changeByHand_7 rfl ?_
  refine V_isub (pc' := 11) C dX7_changeByHand_10 rfl ?_
  refine V_iload3 (pc' := 12) C dX7_changeByHand_11 rfl ?_
  refine V_aload0 (pc' := 13) C dX7_changeByHand_12 rfl ?_
  refine V_getf (pc' := 16) (T := TX7) (N := 13) (ci := 12) C hin rfl 11 (by decide) (by decide +kernel) (fun h hh => ⟨1, _, hh.1.1.1, rfl⟩) dX7_changeByHand_13 rfl ?_
  refine V_isub (pc' := 17) C dX7_changeByHand_16 rfl ?_
  refine V_iload4 (pc' := 19) C dX7_changeByHand_17 rfl ?_
  refine V_callI (n := 4) [.int (iI a), .int (iI (c - S.2 28 % 6)), .int (iI (r - S.2 28 / 6)), .int (iI n)] C (kX6_init (t := 5000) (k := a) (c := c - S.2 28 % 6) (r := r - S.2 28 / 6) (n := n) (by omega)) gX7_changeByHand_X6_init (by decide +kernel) (by decide +kernel) (by decide +kernel) rfl ydX6_init ⟨Nat.le_of_ble_eq_true rfl, Nat.le_of_ble_eq_true rfl⟩ ⟨rfl, rfl⟩ rfl (fun h hh => hh.1.2) rfl (Nat.le_of_ble_eq_true rfl) dX7_changeByHand_19 ⟨by dsimp only; omega, by dsimp only; omega⟩ (fun h v h' hh hj9 => ?_)
  obtain ⟨rfl, hj1, hj2⟩ := hj9
  refine V_weak (I2 := fun x9 => (CW cI cO ee Tx9 P S X x9 ∧ x9 q = some (5000, .inr (11, [iV a, iV (c - S.2 28 % 6), iV (r - S.2 28 / 6), iV n]))) ∧ Fr T7 h0 x9) (fun x9 hx9 => by rw [hx9]; exact ⟨⟨hh.1.1.kp hwp hrm h9 hj2 (fun u hu z => by have z9 := usT_lo hwp hu; omega) (fun u hu z => by omega), hj1⟩, hh.2.trans (hj2.mono (fun u hu => by unfold T7; first | (unfold tL at hu; omega) | (unfold TKB tU at hu; omega) | (unfold TKA tC tU at hu; omega) | (unfold tC tU at hu; omega) | (unfold tC at hu; omega) | omega))⟩) ?_
  refine V_astore5 (pc' := 24) C dX7_changeByHand_22 rfl (by decide) rfl ?_
  refine V_aload0 (pc' := 25) C dX7_changeByHand_24 rfl ?_
  refine V_aload0 (pc' := 26) C dX7_changeByHand_25 rfl ?_
  refine V_getf (pc' := 29) (T := TX7) (N := 13) (ci := 12) C hin rfl 9 (by decide) (by decide +kernel) (fun h hh => ⟨1, _, hh.1.1.1, rfl⟩) dX7_changeByHand_26 rfl ?_
  refine V_callV (ci := 12) (n := 1) [.int (iI (S.2 27))] C (kX7_macroAt_n (z := S.2 27) hwp (by omega) (by omega)) gX7_changeByHand_X7_macroAt rfl ydX7_macroAt ⟨Nat.le_of_ble_eq_true rfl, Nat.le_of_ble_eq_true rfl⟩ ⟨rfl, rfl⟩ rfl rfl (fun h hh => ⟨1, _, hh.1.1.1⟩) (fun h hh => hh.1.1) rfl (Nat.le_of_ble_eq_true rfl) dX7_changeByHand_29 ⟨by dsimp only; omega, by dsimp only; omega⟩ (fun h v h' hh hj9 => ?_)
  obtain ⟨rfl, rfl⟩ := hj9
  refine V_weak (I2 := fun x9 => (CW cI cO ee Tx9 P S X x9 ∧ x9 q = some (5000, .inr (11, [iV a, iV (c - S.2 28 % 6), iV (r - S.2 28 / 6), iV n]))) ∧ Fr T7 h0 x9) (fun x9 hx9 => by rw [hx9]; exact hh) ?_
  refine V_astoreN6 (pc' := 34) C dX7_changeByHand_32 rfl (by decide) rfl ?_
  refine V_aloadN6 (pc' := 36) C dX7_changeByHand_34 rfl ?_
  refine V_ifnullN (tgt := 46) C dX7_changeByHand_36 (by decide) ?_
  refine V_aload0 (pc' := 47) C dX7_changeByHand_46 rfl ?_
  refine V_callV (ci := 12) (n := 0) [] C (kX7_begin (P := P) (S := S) (X := X) hwS1 hrS1 h9 hp9 hIv.2.2.2.2.2 hcX) gX7_changeByHand_X7_beginAction rfl ydX7_beginAction ⟨Nat.le_of_ble_eq_true rfl, Nat.le_of_ble_eq_true rfl⟩ ⟨rfl, rfl⟩ rfl rfl (fun h hh => ⟨1, _, hh.1.1.1⟩) (fun h hh => hh.1.1) rfl (Nat.le_of_ble_eq_true rfl) dX7_changeByHand_47 ⟨by dsimp only; omega, by dsimp only; omega⟩ (fun h v h' hh hj9 => ?_)
  obtain ⟨rfl, ⟨P2, X2, hc2, hx2, hp2⟩, hj2⟩ := hj9
  refine V_weak (I2 := fun x9 => (CW cI cO ee Tx9 P2 S X2 x9 ∧ x9 q = some (5000, .inr (11, [iV a, iV (c - S.2 28 % 6), iV (r - S.2 28 / 6), iV n]))) ∧ Fr T7 h0 x9) (fun x9 hx9 => by rw [hx9]; exact ⟨⟨hc2, hj2 _ _ _ hh.1.2 (by unfold TKB tU; omega)⟩, hh.2.trans (hj2.mono (fun u hu => by unfold T7; first | (unfold tL at hu; omega) | (unfold TKB tU at hu; omega) | (unfold TKA tC tU at hu; omega) | (unfold tC tU at hu; omega) | (unfold tC at hu; omega) | omega))⟩) ?_
  rw [show P 1 = P2 1 from (hp2 1 (by omega)).symm]
  have hRA := rel_beg (S' := S) (X' := X2) hIv.2.2.2.1 hx2 rfl rfl rfl rfl rfl rfl rfl rfl
  have hlg := RelN_g hIv.2.2.2.2.2 ⟨hcX.1, hcX.2.1⟩ hcX.2.2
  have hb1 : X2.2 20 = X.2 25 := hx2.1
  have hb2 : X2.2 25 = X.2 25 := hx2.2.1
  have hb3 : X2.2 26 = (lenG (X.2 25) (X.2 26).toNat : Int) := hx2.2.2.2.2.2.1
  have hlg1 := hlg.2.2.1
  have hlg2 := hlg.2.2.2.1
  refine V_aload0 (pc' := 51) C dX7_changeByHand_50 rfl ?_
  refine V_getf (pc' := 54) (T := TX7) (N := 13) (ci := 12) C hin rfl 10 (by decide) (by decide +kernel) (fun h hh => ⟨1, _, hh.1.1.1, rfl⟩) dX7_changeByHand_51 rfl ?_
  refine V_aload0 (pc' := 55) C dX7_changeByHand_54 rfl ?_
  refine V_getf (pc' := 58) (T := TX7) (N := 13) (ci := 12) C hin rfl 11 (by decide) (by decide +kernel) (fun h hh => ⟨1, _, hh.1.1.1, rfl⟩) dX7_changeByHand_55 rfl ?_
  refine sCall2 (pc' := 61) C (kX7_placeOf (c := S.2 28 % 6) (r := S.2 28 / 6)) gX7_changeByHand_X7_placeOf rfl ydX7_placeOf ⟨Nat.le_of_ble_eq_true rfl, Nat.le_of_ble_eq_true rfl⟩ ⟨rfl, rfl⟩ (Nat.le_of_ble_eq_true rfl) dX7_changeByHand_58 ⟨by dsimp only; omega, by dsimp only; omega⟩ rfl ?_
  refine V_eq (st2 := [.int (iI (S.2 28))]) (by rw [show atI (S.2 28 % 6) (S.2 28 / 6) = S.2 28 by unfold atI; omega]; rfl) ?_
  refine V_istore7 (pc' := 63) C dX7_changeByHand_61 rfl (by decide) rfl ?_
  refine V_aload0 (pc' := 64) C dX7_changeByHand_63 rfl ?_
  refine V_iload2 (pc' := 65) C dX7_changeByHand_64 rfl ?_
  refine V_iload3 (pc' := 66) C dX7_changeByHand_65 rfl ?_
  refine sCall2 (pc' := 69) C (kX7_placeOf (c := c) (r := r)) gX7_changeByHand_X7_placeOf rfl ydX7_placeOf ⟨Nat.le_of_ble_eq_true rfl, Nat.le_of_ble_eq_true rfl⟩ ⟨rfl, rfl⟩ (Nat.le_of_ble_eq_true rfl) dX7_changeByHand_66 ⟨by dsimp only; omega, by dsimp only; omega⟩ rfl ?_
  refine V_aload5 (pc' := 71) C dX7_changeByHand_69 rfl ?_
  refine V_iload7 (pc' := 73) C dX7_changeByHand_71 rfl ?_
  refine V_iconst (pc' := 74) C dX7_changeByHand_73 rfl ?_
  refine V_iconst (pc' := 75) C dX7_changeByHand_74 rfl ?_
  refine V_callV (ci := 12) (n := 5) [.int (iI (atI c r)), .ref q, .int (iI (S.2 28)), .int (iI (-1)), .int (iI 0)] C (kX7_changes (P := P2) (S := S) (X := X2) hwS1 h9 (q := q) (tq := 5000) (k := a) (c := c - S.2 28 % 6) (r := r - S.2 28 / 6) (nu := n) (pl := atI c r) (bs := S.2 28) (mk := -1) (dp := 0) (by unfold tC tU; omega) (by omega) hn hx9 (by omega) ⟨by have := hx2.1; have := hx2.2.1; omega, by have := hx2.1; have := hx2.2.1; omega, by have := hx2.1; have := hx2.2.1; omega, by have := hx2.1; have := hx2.2.1; omega⟩ (Or.inr ⟨by have := hx2.1; have := hx2.2.1; omega, by have h7 := hx2.2.1; have h8 := hx2.2.2.2.2.2.1; have h6 := hlg.2.2.1; omega⟩)) gX7_changeByHand_X7_change rfl ydX7_change ⟨Nat.le_of_ble_eq_true rfl, Nat.le_of_ble_eq_true rfl⟩ ⟨rfl, rfl⟩ rfl rfl (fun h hh => ⟨1, _, hh.1.1.1⟩) (fun h hh => ⟨hh.1.1, hh.1.2⟩) rfl (Nat.le_of_ble_eq_true rfl) dX7_changeByHand_75 ⟨by dsimp only; omega, by dsimp only; omega⟩ (fun h v h' hh hj9 => ?_)
  obtain ⟨rfl, hj1, hj2⟩ := hj9
  rw [hv] at hj1
  obtain ⟨S2, hS2⟩ : ∃ S2, S2 = handS S a (atI c r) v n := ⟨_, rfl⟩
  obtain ⟨X3, hX3⟩ : ∃ X3, X3 = nxX S X2 (atI c r) v (-1) 0 := ⟨_, rfl⟩
  rw [show becS S (atI c r) v (-1) 0 = S2 by rw [hS2]; unfold handS; rw [← hS1], ← hX3] at hj1
  have hRA2 : RelA S2 X3 (S.2 24) := by
    rw [hS2, hX3]
    unfold handS
    rw [← hS1]
    exact hRA.nx (Int.le_refl _) hx9 (isValue_of.mp hvv) ⟨by decide, by decide⟩
  have hxK2 : xK X2 X3 := by rw [hX3]; exact xK_nx _ _ _ _ _ _
  rw [← hS2] at haw
  refine V_weak (I2 := fun x9 => (CW cI cO ee Tx9 P2 S2 X3 x9 ∧ True) ∧ Fr T7 h0 x9) (fun x9 hx9 => by rw [hx9]; exact ⟨⟨hj1, trivial⟩, hh.2.trans (hj2.mono (fun u hu => by unfold T7; first | (unfold tL at hu; omega) | (unfold TKB tU at hu; omega) | (unfold TKA tC tU at hu; omega) | (unfold tC tU at hu; omega) | (unfold tC at hu; omega) | omega))⟩) ?_
  refine V_aload0 (pc' := 79) C dX7_changeByHand_78 rfl ?_
  refine V_callV (ci := 12) (n := 0) [] C (kX7_runRules (P := P2) (S := S2) (X := X3) haw.1 haw.2.1 (by rw [hS2]; exact KD_hand hIv.1 hIv.2.1 hka) (by rw [hS2]; exact RM_hand hrm) h9 (fr := S.2 24) hRA2 ⟨haw.2.2.1, haw.2.2.2.1, haw.2.2.2.2.1, haw.2.2.2.2.2.1⟩ ⟨by rw [show S2.2 29 = S.2 29 by rw [hS2]; exact hand_2 S a _ v n 29 (by decide)]; have h6 := hxK2.1; omega, by have h6 := hxK2.1; omega⟩) gX7_changeByHand_X7_runRules rfl ydX7_runRules ⟨Nat.le_of_ble_eq_true rfl, Nat.le_of_ble_eq_true rfl⟩ ⟨rfl, rfl⟩ rfl rfl (fun h hh => ⟨1, _, hh.1.1.1⟩) (fun h hh => hh.1.1) rfl (Nat.le_of_ble_eq_true rfl) dX7_changeByHand_79 ⟨by dsimp only; omega, by dsimp only; omega⟩ (fun h v h' hh hj9 => ?_)
  obtain ⟨rfl, ⟨X4, hc4, hRA4, hxK4⟩, hj2⟩ := hj9
  have hew : EW (chX S2 (S.2 24)) X4 (S.2 24) := by
    refine ew_chain haw (RelH_hand hIv.2.2.2.2.1 ⟨hxK2.2.1.trans hx2.2.2.1, hxK2.2.2.1.trans hx2.2.2.2.1⟩ ?_ ?_ ?_) (HWo_hand (HW_o hIv.1.2.2.1) ?_ ?_) hRA4 hxK4 <;> rw [hS2] <;> first | exact hand_2 S a _ v n _ (by decide) | exact hand_1 S a _ v n _ (by decide)
  have hwc := (AW_chX haw).1
  have hc2 := (AW_chX haw).2.2.2.2.1
  have hk4 : (chX S2 (S.2 24)).1 4 = S2.1 4 := chI_1 S2 (S.2 24) 4 (by decide) _
  obtain ⟨S3, hS3⟩ : ∃ S3, S3 = chX S2 (S.2 24) := ⟨_, rfl⟩
  rw [← hS3] at hc4 hew hwc hc2 hk4
  have h27 : S3.2 27 = S.2 27 := by rw [hc2 27 (by decide) (by decide), hS2]; exact hand_2 S a _ v n 27 (by decide)
  have h22 : S3.2 22 = S.2 22 := by rw [hc2 22 (by decide) (by decide), hS2]; exact hand_2 S a _ v n 22 (by decide)
  obtain ⟨hE5, hE6⟩ := hew.2.2.2.2
  have hE7 := hew.1.1.1.1
  have hE8 := hew.1.2.1
  have hX20 : X4.2 20 = X.2 25 := by rw [hxK4.2.2.2, hxK2.2.2.2]; exact hb1
  have hE1 : 0 ≤ X4.2 25 := by omega
  have hE2 : X4.2 25 ≤ 107520 := by omega
  have hE3 : 0 ≤ X4.2 20 := by omega
  have hE4 : X4.2 20 ≤ 107520 := by omega
  have hS24 : S2.1 4 = S.1 4 := by rw [hS2]; unfold handS; rw [becS_1 _ _ _ _ _ 4 (by decide), ← hS1]
  refine V_weak (I2 := fun x9 => (CW cI cO ee Tx9 P2 S3 X4 x9 ∧ True) ∧ Fr T7 h0 x9) (fun x9 hx9 => by rw [hx9]; exact ⟨⟨hc4, trivial⟩, hh.2.trans (hj2.mono (fun u hu => by unfold T7; first | (unfold tL at hu; omega) | (unfold TKB tU at hu; omega) | (unfold TKA tC tU at hu; omega) | (unfold tC tU at hu; omega) | (unfold tC at hu; omega) | omega))⟩) ?_
  refine V_aloadN6 (pc' := 84) C dX7_changeByHand_82 rfl ?_
  refine V_ifnullN (tgt := 102) C dX7_changeByHand_84 (by decide) ?_
  refine V_aload0 (pc' := 103) C dX7_changeByHand_102 rfl ?_
  refine V_callV (ci := 12) (n := 0) [] C (kX7_end (P := P2) (S := S3) (X := X4) hwc h9 (fr := S.2 24) ⟨hE1, hE2, hE3, hE4⟩ (by have h5 := hew.1.1.1; have h6 := hew.1.2.1; show X4.2 25 - X4.2 20 = S3.2 24 - S.2 24; omega) ⟨by have h5 := hew.2.1.1; have h6 := hew.2.2.1.1; omega, by have h5 := hew.2.1.1; have h6 := hew.2.2.1.2.1; omega⟩) gX7_changeByHand_X7_endAction rfl ydX7_endAction ⟨Nat.le_of_ble_eq_true rfl, Nat.le_of_ble_eq_true rfl⟩ ⟨rfl, rfl⟩ rfl rfl (fun h hh => ⟨1, _, hh.1.1.1⟩) (fun h hh => hh.1.1) rfl (Nat.le_of_ble_eq_true rfl) dX7_changeByHand_103 ⟨by dsimp only; omega, by dsimp only; omega⟩ (fun h v h' hh hj9 => ?_)
  obtain ⟨r9, rfl, hj8, hj1, hj2⟩ := hj9
  rw [hj8]
  refine V_weak (I2 := fun x9 => CW cI cO ee Tx9 P2 (byHandS S a (atI c r) v n).2 (endX S3 X4 (S.2 24)) x9 ∧ Fr T7 h0 x9) (fun x9 hx9 => by rw [hx9]; exact ⟨CW.congr hj1 h9 (by have := cwE_hand (w := S3.2 27) (hS3.trans (by rw [hS2])) (by rw [h27, if_neg (by omega)]); rw [uG_id] at this; exact this), hh.2.trans (hj2.mono (fun u hu => by unfold T7; first | (unfold tL at hu; omega) | (unfold TKB tU at hu; omega) | (unfold TKA tC tU at hu; omega) | (unfold tC tU at hu; omega) | (unfold tC at hu; omega) | omega))⟩) ?_
  exact V_end C hr hlk (fun h' hh => ⟨_, rfl, by rw [hS3, hS2]; unfold byHandS; rw [endsS_fst] <;> rfl, ⟨P2, X4, S3, hh.1, rfl, by rw [hS3, hS2], hew, by rw [hxK4.1, hxK2.1]; exact hx2.2.2.2.2.2.1⟩, hh.2⟩) ⟨by omega, by omega⟩ dX7_changeByHand_106
set_option maxHeartbeats 4000000 in
set_option maxRecDepth 100000 in
theorem kX7_changeByHand_r {a c r n v b : Int} (hIv : Iv S X b) (hb : b + 210 ≤ 107520) (h9 : T9ok Tx9) (hp9 : T9p Tx9) (hcl : isCellB c r = true) (hr2 : rI c ∧ rI r) (hka : a = 115 ∨ a = 97 ∨ a = 99) (hn : -9999 ≤ n ∧ n ≤ 9999) (hv : vbI a n (S.1 0 (atI c r)) (S.1 0 (S.2 28)) = v) (hvv : isValueB v = true) {m : Nat} (hm : S.2 27 = (m : Int)) : Ct l yX7_changeByHand wsX7_changeByHand ({ frames := 12, cells := 2 + growC (X.2 25) (X.2 26).toNat, slots := 14 + growS (X.2 25) (X.2 26).toNat, locals := 310 } : Room) D (tyL cB cC cI cO cJ cD) ee [.ref (P 1), .int (iI a), .int (iI c), .int (iI r), .int (iI n)] (CW cI cO ee Tx9 P S X) (Ji fun h z9 h' => z9 = (byHandS S a (atI c r) v n).1 ∧ (∃ P' X4 S3, CW cI cO ee Tx9 P' (byHandS S a (atI c r) v n).2 (endX S3 X4 (S.2 24)) h' ∧ P' 1 = P 1 ∧ S3 = chX (handS S a (atI c r) v n) (S.2 24) ∧ EW S3 X4 (S.2 24) ∧ X4.2 26 = (lenG (X.2 25) (X.2 26).toNat : Int)) ∧ Fr T7 h h') (2 + growC (X.2 25) (X.2 26).toNat) (14 + growS (X.2 25) (X.2 26).toNat) := by
  refine Ct_of (cc := cX7_changeByHand) (own := RX7) [some (.ref (P 1)), some (.int (iI a)), some (.int (iI c)), some (.int (iI r)), some (.int (iI n)), none, none, none] (by decide) rfl rfl (Nat.le_of_ble_eq_true rfl) (fun i9 v9 h9 => argL [.ref (P 1), .int (iI a), .int (iI c), .int (iI r), .int (iI n)] 3 rfl i9 v9 h9) ?_
  intro p e s m9 args below meth c9 h0 sz hI C hr hlk hinit
  have hin : ∀ w ∈ wsX70, w ∈ wsX7_changeByHand := by decide +kernel
  have hwp := hIv.1.1
  have hrm := hIv.2.2.1
  obtain ⟨hw1, hw2, hw3, hw4, hw5, hw6⟩ := id hwp
  have hx9 := atI_in (c := c) (r := r) hcl
  have hca : 0 ≤ a ∧ a ≤ 200 := by omega
  have haw := hand_wf (x := atI c r) hIv.1 hca hx9 hn hvv
  have hcX : 0 ≤ X.2 25 ∧ X.2 25 ≤ X.2 26 ∧ X.2 25 + 210 ≤ 107520 := by
    have h1 := hI.2.2.2.1.2.2
    have h2 := hIv.2.2.2.1.1
    obtain ⟨-, h3, h4, h5⟩ := hIv.1.2.2.2.2.1
    have h6 : 0 ≤ X.2 26 := by
      obtain ⟨e9, -, h7⟩ := hIv.2.2.2.2.2
      rw [h7]
      exact Int.natCast_nonneg _
    omega
  have hrn := hIv.2.2.2.1.1
  have hcr : c = atI c r % 6 ∧ r = atI c r / 6 := by
    simp only [isCellB, isInB, Bool.and_eq_true, decide_eq_true_eq] at hcl
    unfold atI
    omega
  have hm1 : (m : Int) < S.2 22 := by have := hIv.1.2.2.2.1 (by omega); omega
  have hk9 := hIv.1.2.2.2.1 (by omega)
  obtain ⟨k, hk⟩ : ∃ k : Nat, S.1 4 m = (k : Int) := ⟨(S.1 4 m).toNat, by have := hw2 m (by omega) (by omega); omega⟩
  have hk10 : k < 10 := by rw [hm] at hk9; omega
  obtain ⟨S1, hS1⟩ : ∃ S1, S1 = recS S a (atI c r) n := ⟨_, rfl⟩
  have hwS1 : WFp S1 := by rw [hS1]; exact recS_wf hwp hIv.1.2.2.2.1 hca hx9 hn
  have sS2 : S1.2 = S.2 := by rw [hS1]; exact recS_2 _ _ _ _
  have sF : ∀ k : Nat, (k ≠ 4 ∧ k ≠ 5 ∧ k ≠ 6 ∧ k ≠ 7 ∧ k ≠ 8) → S1.1 k = S.1 k := fun k hk => by rw [hS1]; exact recS_1 _ _ _ _ k hk
  have s0 := sF 0 (by decide)
  have s21 := sF 21 (by decide)
  have hrS1 : RM S1 := RM_of hrm (sF 14 (by decide)) (by rw [sS2]) (by rw [sS2])
  have hrc := recS_c (a := a) (x := atI c r) (n := n) hm
  rw [hm, hk, ← hcr.1, ← hcr.2] at hrc
  have s4 : S1.1 4 = upZ (S.1 4) m (S.1 4 m + 1) := by rw [hS1, hrc, hk]; rfl
  have s5 : S1.1 5 = upZ (S.1 5) (10 * m + k) a := by rw [hS1, hrc]; rfl
  have s6 : S1.1 6 = upZ (S.1 6) (10 * m + k) (c - S.2 28 % 6) := by rw [hS1, hrc]; rfl
  have s7 : S1.1 7 = upZ (S.1 7) (10 * m + k) (r - S.2 28 / 6) := by rw [hS1, hrc]; rfl
  have s8 : S1.1 8 = upZ (S.1 8) (10 * m + k) n := by rw [hS1, hrc]; rfl
  have s9 : ∀ j, 9 ≤ j → j < 16 → S1.1 j = S.1 j := fun j j0 j1 => sF j (by omega)
  refine V_weak (I2 := fun x9 => (CW cI cO ee Tx9 P S X x9 ∧ True) ∧ Fr T7 h0 x9) (fun x9 hx9 => by subst hx9; exact ⟨⟨hI, trivial⟩, Fr.refl⟩) ?_
  refine V_new (pc' := 3) (T := TX6) (N := 4) (ty0 := tyX6) (ci := 11) (fs := [.int 0, .int 0, .int 0, .int 0]) (200 + 10 * m + k) C (by decide +kernel) tyX6_ok (by decide +kernel) (by decide +kernel) (by decide +kernel) rfl (by decide) (by dsimp only; omega) (by dsimp only; omega) dX7_changeByHand_0 rfl (fun q => ?_)
  refine V_weak (I2 := fun x9 => (CW cI cO ee Tx9 P S X x9 ∧ x9 q = some ((200 + 10 * m + k), .inr (11, [.int 0, .int 0, .int 0, .int 0]))) ∧ Fr T7 h0 x9) (fun x9 hx9 => by obtain ⟨h, hh, hq, rfl⟩ := hx9; exact ⟨⟨hh.1.1.kp hwp hrm h9 (Fr.new (T := fun _ => False) Fr.refl hq) (fun _ _ z => z) (fun _ _ z => z), hup_s⟩, hh.2.new hq⟩) ?_
  refine V_dup (pc' := 4) C rfl dX7_changeByHand_3 rfl ?_
  refine V_iload1 (pc' := 5) C dX7_changeByHand_4 rfl ?_
  refine V_iload2 (pc' := 6) C dX7_changeByHand_5 rfl ?_
  refine V_aload0 (pc' := 7) C dX7_changeByHand_6 rfl ?_
  refine V_getf (pc' := 10) (T := TX7) (N := 13) (ci := 12) C hin rfl 10 (by decide) (by decide +kernel) (fun h hh => ⟨1, _, hh.1.1.1, rfl⟩) dX7_changeByHand_7 rfl ?_
  refine V_isub (pc' := 11) C dX7_changeByHand_10 rfl ?_
  refine V_iload3 (pc' := 12) C dX7_changeByHand_11 rfl ?_
  refine V_aload0 (pc' := 13) C dX7_changeByHand_12 rfl ?_
  refine V_getf (pc' := 16) (T := TX7) (N := 13) (ci := 12) C hin rfl 11 (by decide) (by decide +kernel) (fun h hh => ⟨1, _, hh.1.1.1, rfl⟩) dX7_changeByHand_13 rfl ?_
  refine V_isub (pc' := 17) C dX7_changeByHand_16 rfl ?_
  refine V_iload4 (pc' := 19) C dX7_changeByHand_17 rfl ?_
  refine V_callI (n := 4) [.int (iI a), .int (iI (c - S.2 28 % 6)), .int (iI (r - S.2 28 / 6)), .int (iI n)] C (kX6_init (t := (200 + 10 * m + k)) (k := a) (c := c - S.2 28 % 6) (r := r - S.2 28 / 6) (n := n) (by omega)) gX7_changeByHand_X6_init (by decide +kernel) (by decide +kernel) (by decide +kernel) rfl ydX6_init ⟨Nat.le_of_ble_eq_true rfl, Nat.le_of_ble_eq_true rfl⟩ ⟨rfl, rfl⟩ rfl (fun h hh => hh.1.2) rfl (Nat.le_of_ble_eq_true rfl) dX7_changeByHand_19 ⟨by dsimp only; omega, by dsimp only; omega⟩ (fun h v h' hh hj9 => ?_)
  obtain ⟨rfl, hj1, hj2⟩ := hj9
  refine V_weak (I2 := fun x9 => (CW cI cO ee Tx9 P S X x9 ∧ x9 q = some ((200 + 10 * m + k), .inr (11, [iV a, iV (c - S.2 28 % 6), iV (r - S.2 28 / 6), iV n]))) ∧ Fr T7 h0 x9) (fun x9 hx9 => by rw [hx9]; exact ⟨⟨hh.1.1.kp hwp hrm h9 hj2 (fun u hu z => usT_st hwp (by omega) hk hk10 hu z) (fun u hu z => by omega), hj1⟩, hh.2.trans (hj2.mono (fun u hu => by unfold T7; first | (unfold tL at hu; omega) | (unfold TKB tU at hu; omega) | (unfold TKA tC tU at hu; omega) | (unfold tC tU at hu; omega) | (unfold tC at hu; omega) | omega))⟩) ?_
  refine V_astore5 (pc' := 24) C dX7_changeByHand_22 rfl (by decide) rfl ?_
  refine V_aload0 (pc' := 25) C dX7_changeByHand_24 rfl ?_
  refine V_aload0 (pc' := 26) C dX7_changeByHand_25 rfl ?_
  refine V_getf (pc' := 29) (T := TX7) (N := 13) (ci := 12) C hin rfl 9 (by decide) (by decide +kernel) (fun h hh => ⟨1, _, hh.1.1.1, rfl⟩) dX7_changeByHand_26 rfl ?_
  refine V_callV (ci := 12) (n := 1) [.int (iI (S.2 27))] C (kX7_macroAt_s (z := S.2 27) hwp (by omega)) gX7_changeByHand_X7_macroAt rfl ydX7_macroAt ⟨Nat.le_of_ble_eq_true rfl, Nat.le_of_ble_eq_true rfl⟩ ⟨rfl, rfl⟩ rfl rfl (fun h hh => ⟨1, _, hh.1.1.1⟩) (fun h hh => hh.1.1) rfl (Nat.le_of_ble_eq_true rfl) dX7_changeByHand_29 ⟨by dsimp only; omega, by dsimp only; omega⟩ (fun h v h' hh hj9 => ?_)
  obtain ⟨rfl, rfl⟩ := hj9
  refine V_weak (I2 := fun x9 => (CW cI cO ee Tx9 P S X x9 ∧ x9 q = some ((200 + 10 * m + k), .inr (11, [iV a, iV (c - S.2 28 % 6), iV (r - S.2 28 / 6), iV n]))) ∧ Fr T7 h0 x9) (fun x9 hx9 => by rw [hx9]; exact hh) ?_
  refine V_eq (st2 := [.ref (P (100 + m))]) (by rw [hm, Int.toNat_natCast]; rfl) ?_
  refine V_astore6 (pc' := 34) C dX7_changeByHand_32 rfl (by decide) rfl ?_
  refine V_aload6 (pc' := 36) C dX7_changeByHand_34 rfl ?_
  refine V_ifnull (pc' := 39) C dX7_changeByHand_36 rfl ?_
  refine V_fix (fun g1 hg1 => ?_)
  obtain ⟨hma, ⟨md, ar, hsl⟩, -⟩ := hg1.1.1.2.2.2.2.2.2.2.2.1 m hm1
  refine V_aload6 (pc' := 41) C dX7_changeByHand_39 rfl ?_
  refine V_aload5 (pc' := 43) C dX7_changeByHand_41 rfl ?_
  refine V_callV (ci := 8) (n := 1) [.ref q] C (kX3_keepStep (t := 100 + m) (ts := 110 + m) (sl := P (110 + m)) (gl := P (130 + m)) (z := (m : Int)) (md := md) (ar := ar) (sn := S.1 4 m) (f := fstP P (200 + 10 * m) (S.1 4 m)) (bs := q) (tb := (200 + 10 * m + k)) (fs := [iV a, iV (c - S.2 28 % 6), iV (r - S.2 28 / 6), iV n]) (by unfold tL; omega) (by omega)) gX7_changeByHand_X3_keepStep rfl ydX3_keepStep ⟨Nat.le_of_ble_eq_true rfl, Nat.le_of_ble_eq_true rfl⟩ ⟨rfl, rfl⟩ rfl rfl (fun h hh => by subst hh; exact ⟨100 + m, _, hma⟩) (fun h hh => by subst hh; exact ⟨hma, hsl, hg1.1.2⟩) rfl (Nat.le_of_ble_eq_true rfl) dX7_changeByHand_43 ⟨by dsimp only; omega, by dsimp only; omega⟩ (fun h v h' hh hj9 => ?_)
  obtain ⟨rfl, ⟨q9, hj1⟩, hj2⟩ := hj9
  rw [hh] at hj2
  obtain ⟨P1, hP1⟩ : ∃ P1, P1 = pUp P (200 + 10 * m + k) q := ⟨_, rfl⟩
  have hP1u : ∀ u, u ≠ 200 + 10 * m + k → P1 u = P u := fun u hu => by rw [hP1]; exact pUp_n hu
  have hcw1 : CW cI cO ee Tx9 P1 S1 X h' := by
    refine hg1.1.1.mk2 hj2 (fun u hu => by unfold tL; omega) (fun u hu => hP1u u (by omega)) h9 hp9 s0 s21 (by rw [sS2]) (by rw [sS2]) (by rw [sS2]) (by rw [sS2]) ?_
    rw [hP1]
    exact MrH.recs hg1.1.1.2.2.2.2.2.2.2 hwp hrm hm1 hk hk10 hj2 hg1.1.2 hj1 s4 s5 s6 s7 s8 s9 (by rw [sS2]) (by rw [sS2])
  refine V_weak (I2 := fun x9 => (CW cI cO ee Tx9 P1 S1 X x9 ∧ x9 q = some ((200 + 10 * m + k), .inr (11, [iV a, iV (c - S.2 28 % 6), iV (r - S.2 28 / 6), iV n]))) ∧ Fr T7 h0 x9) (fun x9 hx9 => by rw [hx9]; exact ⟨⟨hcw1, hj2 _ _ _ hg1.1.2 (by unfold tL; omega)⟩, hg1.2.trans (hj2.mono (fun u hu => by unfold T7; first | (unfold tL at hu; omega) | (unfold TKB tU at hu; omega) | (unfold TKA tC tU at hu; omega) | (unfold tC tU at hu; omega) | (unfold tC at hu; omega) | omega))⟩) ?_
  rw [show P 1 = P1 1 from (hP1u 1 (by omega)).symm, show P (100 + m) = P1 (100 + m) from (hP1u _ (by omega)).symm]
  refine V_aload0 (pc' := 47) C dX7_changeByHand_46 rfl ?_
  refine V_callV (ci := 12) (n := 0) [] C (kX7_begin (P := P1) (S := S1) (X := X) hwS1 hrS1 h9 hp9 hIv.2.2.2.2.2 hcX) gX7_changeByHand_X7_beginAction rfl ydX7_beginAction ⟨Nat.le_of_ble_eq_true rfl, Nat.le_of_ble_eq_true rfl⟩ ⟨rfl, rfl⟩ rfl rfl (fun h hh => ⟨1, _, hh.1.1.1⟩) (fun h hh => hh.1.1) rfl (Nat.le_of_ble_eq_true rfl) dX7_changeByHand_47 ⟨by dsimp only; omega, by dsimp only; omega⟩ (fun h v h' hh hj9 => ?_)
  obtain ⟨rfl, ⟨P2, X2, hc2, hx2, hp2⟩, hj2⟩ := hj9
  refine V_weak (I2 := fun x9 => (CW cI cO ee Tx9 P2 S1 X2 x9 ∧ x9 q = some ((200 + 10 * m + k), .inr (11, [iV a, iV (c - S.2 28 % 6), iV (r - S.2 28 / 6), iV n]))) ∧ Fr T7 h0 x9) (fun x9 hx9 => by rw [hx9]; exact ⟨⟨hc2, hj2 _ _ _ hh.1.2 (by unfold TKB tU; omega)⟩, hh.2.trans (hj2.mono (fun u hu => by unfold T7; first | (unfold tL at hu; omega) | (unfold TKB tU at hu; omega) | (unfold TKA tC tU at hu; omega) | (unfold tC tU at hu; omega) | (unfold tC at hu; omega) | omega))⟩) ?_
  rw [show P1 1 = P2 1 from (hp2 1 (by omega)).symm, show P1 (100 + m) = P2 (100 + m) from (hp2 _ (by omega)).symm]
  have hRA := rel_beg (S' := S1) (X' := X2) hIv.2.2.2.1 hx2 s0 (sF 2 (by decide)) (sF 3 (by decide)) (sF 16 (by decide)) (sF 17 (by decide)) (sF 18 (by decide)) (by rw [sS2]) (by rw [sS2])
  have hlg := RelN_g hIv.2.2.2.2.2 ⟨hcX.1, hcX.2.1⟩ hcX.2.2
  have hb1 : X2.2 20 = X.2 25 := hx2.1
  have hb2 : X2.2 25 = X.2 25 := hx2.2.1
  have hb3 : X2.2 26 = (lenG (X.2 25) (X.2 26).toNat : Int) := hx2.2.2.2.2.2.1
  have hlg1 := hlg.2.2.1
  have hlg2 := hlg.2.2.2.1
  refine V_aload0 (pc' := 51) C dX7_changeByHand_50 rfl ?_
  refine V_getf (pc' := 54) (T := TX7) (N := 13) (ci := 12) C hin rfl 10 (by decide) (by decide +kernel) (fun h hh => ⟨1, _, hh.1.1.1, rfl⟩) dX7_changeByHand_51 rfl ?_
  refine V_aload0 (pc' := 55) C dX7_changeByHand_54 rfl ?_
  refine V_getf (pc' := 58) (T := TX7) (N := 13) (ci := 12) C hin rfl 11 (by decide) (by decide +kernel) (fun h hh => ⟨1, _, hh.1.1.1, rfl⟩) dX7_changeByHand_55 rfl ?_
  refine sCall2 (pc' := 61) C (kX7_placeOf (c := S1.2 28 % 6) (r := S1.2 28 / 6)) gX7_changeByHand_X7_placeOf rfl ydX7_placeOf ⟨Nat.le_of_ble_eq_true rfl, Nat.le_of_ble_eq_true rfl⟩ ⟨rfl, rfl⟩ (Nat.le_of_ble_eq_true rfl) dX7_changeByHand_58 ⟨by dsimp only; omega, by dsimp only; omega⟩ rfl ?_
  refine V_eq (st2 := [.int (iI (S.2 28))]) (by rw [show atI (S1.2 28 % 6) (S1.2 28 / 6) = S.2 28 by unfold atI; rw [sS2]; omega]; rfl) ?_
  refine V_istore7 (pc' := 63) C dX7_changeByHand_61 rfl (by decide) rfl ?_
  refine V_aload0 (pc' := 64) C dX7_changeByHand_63 rfl ?_
  refine V_iload2 (pc' := 65) C dX7_changeByHand_64 rfl ?_
  refine V_iload3 (pc' := 66) C dX7_changeByHand_65 rfl ?_
  refine sCall2 (pc' := 69) C (kX7_placeOf (c := c) (r := r)) gX7_changeByHand_X7_placeOf rfl ydX7_placeOf ⟨Nat.le_of_ble_eq_true rfl, Nat.le_of_ble_eq_true rfl⟩ ⟨rfl, rfl⟩ (Nat.le_of_ble_eq_true rfl) dX7_changeByHand_66 ⟨by dsimp only; omega, by dsimp only; omega⟩ rfl ?_
  refine V_aload5 (pc' := 71) C dX7_changeByHand_69 rfl ?_
  refine V_iload7 (pc' := 73) C dX7_changeByHand_71 rfl ?_
  refine V_iconst (pc' := 74) C dX7_changeByHand_73 rfl ?_
  refine V_iconst (pc' := 75) C dX7_changeByHand_74 rfl ?_
  refine V_callV (ci := 12) (n := 5) [.int (iI (atI c r)), .ref q, .int (iI (S.2 28)), .int (iI (-1)), .int (iI 0)] C (kX7_changes (P := P2) (S := S1) (X := X2) hwS1 h9 (q := q) (tq := (200 + 10 * m + k)) (k := a) (c := c - S.2 28 % 6) (r := r - S.2 28 / 6) (nu := n) (pl := atI c r) (bs := S.2 28) (mk := -1) (dp := 0) (by unfold tC tU; omega) (by omega) hn hx9 (by omega) ⟨by have := hx2.1; have := hx2.2.1; omega, by have := hx2.1; have := hx2.2.1; omega, by have := hx2.1; have := hx2.2.1; omega, by have := hx2.1; have := hx2.2.1; omega⟩ (Or.inr ⟨by have := hx2.1; have := hx2.2.1; omega, by have h7 := hx2.2.1; have h8 := hx2.2.2.2.2.2.1; have h6 := hlg.2.2.1; omega⟩)) gX7_changeByHand_X7_change rfl ydX7_change ⟨Nat.le_of_ble_eq_true rfl, Nat.le_of_ble_eq_true rfl⟩ ⟨rfl, rfl⟩ rfl rfl (fun h hh => ⟨1, _, hh.1.1.1⟩) (fun h hh => ⟨hh.1.1, hh.1.2⟩) rfl (Nat.le_of_ble_eq_true rfl) dX7_changeByHand_75 ⟨by dsimp only; omega, by dsimp only; omega⟩ (fun h v h' hh hj9 => ?_)
  obtain ⟨rfl, hj1, hj2⟩ := hj9
  rw [s0, hv] at hj1
  obtain ⟨S2, hS2⟩ : ∃ S2, S2 = handS S a (atI c r) v n := ⟨_, rfl⟩
  obtain ⟨X3, hX3⟩ : ∃ X3, X3 = nxX S1 X2 (atI c r) v (-1) 0 := ⟨_, rfl⟩
  rw [show becS S1 (atI c r) v (-1) 0 = S2 by rw [hS2, hS1]; rfl, ← hX3] at hj1
  have hRA2 : RelA S2 X3 (S.2 24) := by
    rw [hS2, hX3]
    unfold handS
    rw [← hS1]
    exact hRA.nx (by rw [sS2]; exact Int.le_refl _) hx9 (isValue_of.mp hvv) ⟨by decide, by decide⟩
  have hxK2 : xK X2 X3 := by rw [hX3]; exact xK_nx _ _ _ _ _ _
  rw [← hS2] at haw
  refine V_weak (I2 := fun x9 => (CW cI cO ee Tx9 P2 S2 X3 x9 ∧ True) ∧ Fr T7 h0 x9) (fun x9 hx9 => by rw [hx9]; exact ⟨⟨hj1, trivial⟩, hh.2.trans (hj2.mono (fun u hu => by unfold T7; first | (unfold tL at hu; omega) | (unfold TKB tU at hu; omega) | (unfold TKA tC tU at hu; omega) | (unfold tC tU at hu; omega) | (unfold tC at hu; omega) | omega))⟩) ?_
  refine V_aload0 (pc' := 79) C dX7_changeByHand_78 rfl ?_
  refine V_callV (ci := 12) (n := 0) [] C (kX7_runRules (P := P2) (S := S2) (X := X3) haw.1 haw.2.1 (by rw [hS2]; exact KD_hand hIv.1 hIv.2.1 hka) (by rw [hS2]; exact RM_hand hrm) h9 (fr := S.2 24) hRA2 ⟨haw.2.2.1, haw.2.2.2.1, haw.2.2.2.2.1, haw.2.2.2.2.2.1⟩ ⟨by rw [show S2.2 29 = S.2 29 by rw [hS2]; exact hand_2 S a _ v n 29 (by decide)]; have h6 := hxK2.1; omega, by have h6 := hxK2.1; omega⟩) gX7_changeByHand_X7_runRules rfl ydX7_runRules ⟨Nat.le_of_ble_eq_true rfl, Nat.le_of_ble_eq_true rfl⟩ ⟨rfl, rfl⟩ rfl rfl (fun h hh => ⟨1, _, hh.1.1.1⟩) (fun h hh => hh.1.1) rfl (Nat.le_of_ble_eq_true rfl) dX7_changeByHand_79 ⟨by dsimp only; omega, by dsimp only; omega⟩ (fun h v h' hh hj9 => ?_)
  obtain ⟨rfl, ⟨X4, hc4, hRA4, hxK4⟩, hj2⟩ := hj9
  have hew : EW (chX S2 (S.2 24)) X4 (S.2 24) := by
    refine ew_chain haw (RelH_hand hIv.2.2.2.2.1 ⟨hxK2.2.1.trans hx2.2.2.1, hxK2.2.2.1.trans hx2.2.2.2.1⟩ ?_ ?_ ?_) (HWo_hand (HW_o hIv.1.2.2.1) ?_ ?_) hRA4 hxK4 <;> rw [hS2] <;> first | exact hand_2 S a _ v n _ (by decide) | exact hand_1 S a _ v n _ (by decide)
  have hwc := (AW_chX haw).1
  have hc2 := (AW_chX haw).2.2.2.2.1
  have hk4 : (chX S2 (S.2 24)).1 4 = S2.1 4 := chI_1 S2 (S.2 24) 4 (by decide) _
  obtain ⟨S3, hS3⟩ : ∃ S3, S3 = chX S2 (S.2 24) := ⟨_, rfl⟩
  rw [← hS3] at hc4 hew hwc hc2 hk4
  have h27 : S3.2 27 = S.2 27 := by rw [hc2 27 (by decide) (by decide), hS2]; exact hand_2 S a _ v n 27 (by decide)
  have h22 : S3.2 22 = S.2 22 := by rw [hc2 22 (by decide) (by decide), hS2]; exact hand_2 S a _ v n 22 (by decide)
  obtain ⟨hE5, hE6⟩ := hew.2.2.2.2
  have hE7 := hew.1.1.1.1
  have hE8 := hew.1.2.1
  have hX20 : X4.2 20 = X.2 25 := by rw [hxK4.2.2.2, hxK2.2.2.2]; exact hb1
  have hE1 : 0 ≤ X4.2 25 := by omega
  have hE2 : X4.2 25 ≤ 107520 := by omega
  have hE3 : 0 ≤ X4.2 20 := by omega
  have hE4 : X4.2 20 ≤ 107520 := by omega
  have hS24 : S2.1 4 = S1.1 4 := by rw [hS2]; unfold handS; rw [becS_1 _ _ _ _ _ 4 (by decide), ← hS1]
  refine V_weak (I2 := fun x9 => (CW cI cO ee Tx9 P2 S3 X4 x9 ∧ True) ∧ Fr T7 h0 x9) (fun x9 hx9 => by rw [hx9]; exact ⟨⟨hc4, trivial⟩, hh.2.trans (hj2.mono (fun u hu => by unfold T7; first | (unfold tL at hu; omega) | (unfold TKB tU at hu; omega) | (unfold TKA tC tU at hu; omega) | (unfold tC tU at hu; omega) | (unfold tC at hu; omega) | omega))⟩) ?_
  refine V_aload6 (pc' := 84) C dX7_changeByHand_82 rfl ?_
  refine V_ifnull (pc' := 87) C dX7_changeByHand_84 rfl ?_
  refine V_fix (fun g1 hg1 => ?_)
  obtain ⟨hma, ⟨md, ar, hsl⟩, -⟩ := hg1.1.1.2.2.2.2.2.2.2.2.1 m (by omega)
  refine V_aload6 (pc' := 89) C dX7_changeByHand_87 rfl ?_
  refine V_callV (ci := 8) (n := 0) [] C (kX3_stepCount (t := 100 + m) (ts := 110 + m) (sl := P2 (110 + m)) (gl := P2 (130 + m)) (z := (m : Int)) (md := md) (ar := ar) (sn := S3.1 4 m) (f := fstP P2 (200 + 10 * m) (S3.1 4 m))) gX7_changeByHand_X3_stepCount rfl ydX3_stepCount ⟨Nat.le_of_ble_eq_true rfl, Nat.le_of_ble_eq_true rfl⟩ ⟨rfl, rfl⟩ rfl rfl (fun h hh => by subst hh; exact ⟨100 + m, _, hma⟩) (fun h hh => by subst hh; exact ⟨hma, hsl⟩) rfl (Nat.le_of_ble_eq_true rfl) dX7_changeByHand_89 ⟨by dsimp only; omega, by dsimp only; omega⟩ (fun h v h' hh hj9 => ?_)
  obtain ⟨r9, rfl, hj8, rfl⟩ := hj9
  rw [hj8]
  have hn4 : S3.1 4 m = (k : Int) + 1 := by rw [hk4, hS24, s4, upZ_s, hk]
  refine V_weak (I2 := fun x9 => (CW cI cO ee Tx9 P2 S3 X4 x9 ∧ True) ∧ Fr T7 h0 x9) (fun x9 hx9 => by rw [hx9]; exact by rw [hh]; exact hg1) ?_
  refine V_bipush (pc' := 94) C dX7_changeByHand_92 rfl (by decide) ?_
  refine V_icmplt (tgt := 102) C (by omega) dX7_changeByHand_94 (by decide) rfl (fun c_94 => ?_) (fun c_94 => ?_)
  · refine V_aload0 (pc' := 103) C dX7_changeByHand_102 rfl ?_
    refine V_callV (ci := 12) (n := 0) [] C (kX7_end (P := P2) (S := S3) (X := X4) hwc h9 (fr := S.2 24) ⟨hE1, hE2, hE3, hE4⟩ (by have h5 := hew.1.1.1; have h6 := hew.1.2.1; show X4.2 25 - X4.2 20 = S3.2 24 - S.2 24; omega) ⟨by have h5 := hew.2.1.1; have h6 := hew.2.2.1.1; omega, by have h5 := hew.2.1.1; have h6 := hew.2.2.1.2.1; omega⟩) gX7_changeByHand_X7_endAction rfl ydX7_endAction ⟨Nat.le_of_ble_eq_true rfl, Nat.le_of_ble_eq_true rfl⟩ ⟨rfl, rfl⟩ rfl rfl (fun h hh => ⟨1, _, hh.1.1.1⟩) (fun h hh => hh.1.1) rfl (Nat.le_of_ble_eq_true rfl) dX7_changeByHand_103 ⟨by dsimp only; omega, by dsimp only; omega⟩ (fun h v h' hh hj9 => ?_)
    obtain ⟨r9, rfl, hj8, hj1, hj2⟩ := hj9
    rw [hj8]
    refine V_weak (I2 := fun x9 => CW cI cO ee Tx9 P2 (byHandS S a (atI c r) v n).2 (endX S3 X4 (S.2 24)) x9 ∧ Fr T7 h0 x9) (fun x9 hx9 => by rw [hx9]; exact ⟨CW.congr hj1 h9 (by have := cwE_hand (w := S3.2 27) (hS3.trans (by rw [hS2])) (by rw [h27, hm, if_neg (by omega)]); rw [uG_id] at this; exact this), hh.2.trans (hj2.mono (fun u hu => by unfold T7; first | (unfold tL at hu; omega) | (unfold TKB tU at hu; omega) | (unfold TKA tC tU at hu; omega) | (unfold tC tU at hu; omega) | (unfold tC at hu; omega) | omega))⟩) ?_
    exact V_end C hr hlk (fun h' hh => ⟨_, rfl, by rw [hS3, hS2]; unfold byHandS; rw [endsS_fst] <;> rfl, ⟨P2, X4, S3, hh.1, rfl, by rw [hS3, hS2], hew, by rw [hxK4.1, hxK2.1]; exact hx2.2.2.2.2.2.1⟩, hh.2⟩) ⟨by omega, by omega⟩ dX7_changeByHand_106
  · refine V_aload0 (pc' := 98) C dX7_changeByHand_97 rfl ?_
    refine V_iconst (pc' := 99) C dX7_changeByHand_98 rfl ?_
    refine V_putf (pc' := 102) (T := TX7) (N := 13) (ci := 12) (I2 := fun x9 => (CW cI cO ee Tx9 P2 (uG S3 27 (-1)) X4 x9 ∧ True) ∧ Fr T7 h0 x9) C hin tyX7_ok nmX7 rfl 9 (by decide) (by decide +kernel) rfl rfl rfl (fun h hh => ⟨1, _, hh.1.1.1, Nat.le_of_ble_eq_true rfl, ⟨hh.1.1.rec hwc h9, trivial⟩, hh.2.up hh.1.1.1 (by unfold T7; omega)⟩) dX7_changeByHand_99 rfl ?_
    refine V_aload0 (pc' := 103) C dX7_changeByHand_102 rfl ?_
    refine V_callV (ci := 12) (n := 0) [] C (kX7_end (P := P2) (S := (uG S3 27 (-1))) (X := X4) (WFp_27 hwc) h9 (fr := S.2 24) ⟨hE1, hE2, hE3, hE4⟩ (by have h5 := hew.1.1.1; have h6 := hew.1.2.1; show X4.2 25 - X4.2 20 = S3.2 24 - S.2 24; omega) ⟨by have h5 := hew.2.1.1; have h6 := hew.2.2.1.1; omega, by have h5 := hew.2.1.1; have h6 := hew.2.2.1.2.1; omega⟩) gX7_changeByHand_X7_endAction rfl ydX7_endAction ⟨Nat.le_of_ble_eq_true rfl, Nat.le_of_ble_eq_true rfl⟩ ⟨rfl, rfl⟩ rfl rfl (fun h hh => ⟨1, _, hh.1.1.1⟩) (fun h hh => hh.1.1) rfl (Nat.le_of_ble_eq_true rfl) dX7_changeByHand_103 ⟨by dsimp only; omega, by dsimp only; omega⟩ (fun h v h' hh hj9 => ?_)
    obtain ⟨r9, rfl, hj8, hj1, hj2⟩ := hj9
    rw [hj8]
    refine V_weak (I2 := fun x9 => CW cI cO ee Tx9 P2 (byHandS S a (atI c r) v n).2 (endX S3 X4 (S.2 24)) x9 ∧ Fr T7 h0 x9) (fun x9 hx9 => by rw [hx9]; exact ⟨CW.congr hj1 h9 (by have := cwE_hand (w := -1) (hS3.trans (by rw [hS2])) (by rw [h27, hm, if_pos ⟨by omega, by omega⟩]); exact this), hh.2.trans (hj2.mono (fun u hu => by unfold T7; first | (unfold tL at hu; omega) | (unfold TKB tU at hu; omega) | (unfold TKA tC tU at hu; omega) | (unfold tC tU at hu; omega) | (unfold tC at hu; omega) | omega))⟩) ?_
    exact V_end C hr hlk (fun h' hh => ⟨_, rfl, by rw [hS3, hS2]; unfold byHandS; rw [endsS_fst] <;> rfl, ⟨P2, X4, S3, hh.1, rfl, by rw [hS3, hS2], hew, by rw [hxK4.1, hxK2.1]; exact hx2.2.2.2.2.2.1⟩, hh.2⟩) ⟨by omega, by omega⟩ dX7_changeByHand_106
end

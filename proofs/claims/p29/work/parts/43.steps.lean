/-! the class makes a macro's steps -/
/-- the class's own part behind a change -/
def nxX (S X : MSt) (pl v mk dp : Int) : MSt := if v = S.1 0 pl then X else XnF (X13 X (upZ (X.1 13) (X.2 25 - X.2 20) dp)) (noteF (fun k => X.1 (7 + k)) (X.2 25) pl (S.1 0 pl) v mk) (X.2 25 + 1)
theorem becS_u1 (S : MSt) (z w x v b d : Int) : becS (uA S 1 z w) x v b d = uA (becS S x v b d) 1 z w := by
  unfold becS
  by_cases h : S.1 0 x = v
  · rw [if_pos h, if_pos (show (uA S 1 z w).1 0 x = v from h)]
  · rw [if_neg h, if_neg (show ¬ (uA S 1 z w).1 0 x = v from h)]
    refine Prod.ext (funext fun k => ?_) rfl
    show (if k = 0 then _ else if k = 19 then _ else if k = 18 then _ else if k = 17 then _ else if k = 16 then _ else if k = 1 then _ else _) = (if k = 1 then _ else if k = 0 then _ else if k = 19 then _ else if k = 18 then _ else if k = 17 then _ else if k = 16 then _ else _)
    by_cases h0 : k = 0
    · subst h0; rfl
    · by_cases h1 : k = 1
      · subst h1; rfl
      · simp only [if_neg h0, if_neg h1]
        rfl
def rnX (S X : MSt) (m x dp : Int) : Nat → MSt
  | 0 => X
  | j + 1 => nxX (rnI S m x dp j) (rnX S X m x dp j) (goalI S m j x) (stepI (rnI S m x dp j) m j x) m dp
theorem nxX_2 (S X : MSt) (pl v mk dp : Int) : X.2 25 ≤ (nxX S X pl v mk dp).2 25 ∧ (nxX S X pl v mk dp).2 25 ≤ X.2 25 + 1 ∧ (nxX S X pl v mk dp).2 20 = X.2 20 ∧ (nxX S X pl v mk dp).2 26 = X.2 26 := by
  unfold nxX
  split
  · omega
  · refine ⟨?_, ?_, rfl, rfl⟩ <;> (show _ ≤ _; simp [XnF]; try omega)
theorem rnX_2 (S X : MSt) (m x dp : Int) : ∀ j : Nat, X.2 25 ≤ (rnX S X m x dp j).2 25 ∧ (rnX S X m x dp j).2 25 ≤ X.2 25 + j ∧ (rnX S X m x dp j).2 20 = X.2 20 ∧ (rnX S X m x dp j).2 26 = X.2 26
  | 0 => ⟨Int.le_refl _, by simp [rnX], rfl, rfl⟩
  | j + 1 => by
    have ih := rnX_2 S X m x dp j
    have h := nxX_2 (rnI S m x dp j) (rnX S X m x dp j) (goalI S m j x) (stepI (rnI S m x dp j) m j x) m dp
    rw [rnX]
    omega
theorem CW.one {cI cO : ClassId} {ee : Nat × Nat} {Tx9 : (Nat → Nat) → MSt → Hp → Prop} {P : Nat → Nat} {S X : MSt} {h : Hp} {z w : Int} (H : CW cI cO ee Tx9 P S X h) (h9 : T9ok Tx9) : CW cI cO ee Tx9 P (uA S 1 z w) X h := by
  obtain ⟨a1, a2, a3, a4, a5, a6, a7, a8⟩ := H
  exact ⟨a1, a2, a3, a4, a5, a6, h9 P S (uA S 1 z w) h h (fun _ => False) rfl rfl Fr.refl (fun z => z) (fun z => z) a7, a8⟩
theorem CW.cp {cI cO : ClassId} {ee : Nat × Nat} {Tx9 : (Nat → Nat) → MSt → Hp → Prop} {P : Nat → Nat} {S X : MSt} {h : Hp} (H : CW cI cO ee Tx9 P S X h) (h9 : T9ok Tx9) (n : Nat) : CW cI cO ee Tx9 P (cpN S n) X h := by
  obtain ⟨a1, a2, a3, a4, a5, a6, a7, a8⟩ := H
  exact ⟨a1, a2, a3, a4, a5, a6, h9 P S (cpN S n) h h (fun _ => False) rfl rfl Fr.refl (fun z => z) (fun z => z) a7, a8⟩
theorem rnI_nx {S : MSt} {m x dp : Int} {j : Nat} : rnI S m x dp (j + 1) = uA (becS (rnI S m x dp j) (goalI S m j x) (stepI (rnI S m x dp j) m j x) m dp) 1 (goalI S m j x) (stepI (rnI S m x dp j) m j x) := by
  rw [rnI, becS_u1, rnI_goal]
theorem ydX7_makeSteps : yX7_makeSteps.cls = RX7 ∧ yX7_makeSteps.cls ≠ "java/lang/invoke/MethodHandle" ∧ yX7_makeSteps.cls ≠ "java/lang/invoke/VarHandle" ∧ (parseMethodDescriptor yX7_makeSteps.desc).map (fun d => d.parameters.length) = some 4 := by decide +kernel
section
variable {l : Launch} {D : va_G} {cB cC cI cO cJ cD : ClassId} {ee : Nat × Nat} {Tx9 : (Nat → Nat) → MSt → Hp → Prop} {P : Nat → Nat} {S X : MSt}
theorem kX7_changes (hwp : WFp S) (h9 : T9ok Tx9) {q tq : Nat} {k c r nu pl bs mk dp : Int} (hq : ¬ (fun u => tC 2 u ∨ tU 6 u ∨ u = 13) tq) (hk : 0 ≤ k ∧ k ≤ 255) (hn : -9999 ≤ nu ∧ nu ≤ 9999) (hpl : 0 ≤ pl ∧ pl < 48) (hbs : 0 ≤ bs ∧ bs < 48) (hc9 : 0 ≤ X.2 25 ∧ X.2 25 ≤ 107520 ∧ 0 ≤ X.2 20 ∧ X.2 20 ≤ X.2 25) (hi : (vbI k nu (S.1 0 pl) (S.1 0 bs)) = S.1 0 pl ∨ (X.2 25 - X.2 20 < 210 ∧ X.2 25 < X.2 26)) : Ct l yX7_change wsX7_change ({ frames := 3, cells := 0, slots := 0, locals := 80 } : Room) D (tyL cB cC cI cO cJ cD) ee [.ref (P 1), .int (iI pl), .ref q, .int (iI bs), .int (iI mk), .int (iI dp)] (fun x => CW cI cO ee Tx9 P S X x ∧ x q = some (tq, .inr (11, [iV k, iV c, iV r, iV nu]))) (fun h v9 h' => v9 = none ∧ CW cI cO ee Tx9 P (becS S pl (vbI k nu (S.1 0 pl) (S.1 0 bs)) mk dp) (nxX S X pl (vbI k nu (S.1 0 pl) (S.1 0 bs)) mk dp) h' ∧ Fr (fun u => tC 2 u ∨ tU 6 u ∨ u = 13) h h') 0 0 := by
  by_cases hv : (vbI k nu (S.1 0 pl) (S.1 0 bs)) = S.1 0 pl
  · have e1 : becS S pl (vbI k nu (S.1 0 pl) (S.1 0 bs)) mk dp = S := if_pos hv.symm
    have e2 : nxX S X pl (vbI k nu (S.1 0 pl) (S.1 0 bs)) mk dp = X := if_pos hv
    rw [e1, e2]
    exact kX7_change_n hwp h9 hq hk hn hpl hbs hc9 hv
  · have e2 : nxX S X pl (vbI k nu (S.1 0 pl) (S.1 0 bs)) mk dp = _ := if_neg hv
    rw [e2]
    exact kX7_change_y hwp h9 hq hk hn hpl hbs hc9 hv (hi.resolve_left hv)
set_option maxHeartbeats 4000000 in
set_option maxRecDepth 100000 in
theorem kX7_makeSteps (hwp : WFp S) (hkd : KD S) (h9 : T9ok Tx9) {m : Nat} (hm : (m : Int) < S.2 22) {x dp : Int} (hx : 0 ≤ x ∧ x < 48) (hg : ∀ j : Nat, (j : Int) < S.1 4 m → 0 ≤ goalI S m j x ∧ goalI S m j x < 48) (hrg9 : ∀ j : Nat, (j : Int) ≤ S.1 4 m → rgN ((rnI S m x dp j).1 0)) (hc9 : 0 ≤ X.2 25 ∧ 0 ≤ X.2 20 ∧ X.2 20 ≤ X.2 25 ∧ X.2 25 - X.2 20 + 10 ≤ 210 ∧ X.2 25 + 10 ≤ X.2 26 ∧ X.2 26 ≤ 107520) : Ct l yX7_makeSteps wsX7_makeSteps ({ frames := 5, cells := 0, slots := 0, locals := 130 } : Room) D (tyL cB cC cI cO cJ cD) ee [.ref (P 1), .ref (P (100 + m)), .int (iI (x % 6)), .int (iI (x / 6)), .int (iI dp)] (CW cI cO ee Tx9 P S X) (fun h v9 h' => v9 = none ∧ CW cI cO ee Tx9 P (runS S m x dp) (rnX S X m x dp (S.1 4 m).toNat) h' ∧ Fr (fun u => tC 2 u ∨ tU 6 u ∨ u = 13) h h') (0) (0) := by
  refine Ct_of (cc := cX7_makeSteps) (own := RX7) [some (.ref (P 1)), some (.ref (P (100 + m))), some (.int (iI (x % 6))), some (.int (iI (x / 6))), some (.int (iI dp)), none, none, none, none] (by decide) rfl rfl (Nat.le_of_ble_eq_true rfl) (fun i9 v9 h9 => argL [.ref (P 1), .ref (P (100 + m)), .int (iI (x % 6)), .int (iI (x / 6)), .int (iI dp)] 4 rfl i9 v9 h9) ?_
  intro p e s m9 args below meth c9 h0 sz hI C hr hlk hinit
  have hin6 : ∀ w ∈ wsX60, w ∈ wsX7_makeSteps := by decide +kernel
  have hin3 : ∀ w ∈ wsX30, w ∈ wsX7_makeSteps := by decide +kernel
  obtain ⟨hw1, hw2, hw3, hw4, hw5, hw6⟩ := id hwp
  have hm9 := hw2 m (by omega) (by omega)
  obtain ⟨hma, ⟨md, ar, hsl⟩, hst, -⟩ := hI.2.2.2.2.2.2.2.2.1 m hm
  refine V_weak (I2 := fun x9 => CW cI cO ee Tx9 P (rnI S m x dp 0) (rnX S X m x dp 0) x9 ∧ Fr (fun u => tC 2 u ∨ tU 6 u ∨ u = 13) h0 x9) (fun x9 hx9 => by subst hx9; exact ⟨hI.cp h9 48, Fr.refl⟩) ?_
  refine V_iload2 (pc' := 1) C dX7_makeSteps_0 rfl ?_
  refine V_iload3 (pc' := 2) C dX7_makeSteps_1 rfl ?_
  refine sCall2 (pc' := 5) C (kX7_placeOf (c := x % 6) (r := x / 6)) gX7_makeSteps_X7_placeOf rfl ydX7_placeOf ⟨Nat.le_of_ble_eq_true rfl, Nat.le_of_ble_eq_true rfl⟩ ⟨rfl, rfl⟩ (Nat.le_of_ble_eq_true rfl) dX7_makeSteps_2 ⟨Nat.zero_le _, Nat.zero_le _⟩ rfl ?_
  refine V_eq (st2 := [.int (iI x)]) (by rw [show atI (x % 6) (x / 6) = x by unfold atI; omega]) ?_
  refine V_istore5 (pc' := 7) C dX7_makeSteps_5 rfl (by decide) rfl ?_
  refine V_iconst (pc' := 8) C dX7_makeSteps_7 rfl ?_
  refine V_istore6 (pc' := 10) C dX7_makeSteps_8 rfl (by decide) rfl ?_
  refine V_for0 (N := (S.1 4 m).toNat) (fun j => fun x9 => CW cI cO ee Tx9 P (rnI S m x dp j) (rnX S X m x dp j) x9 ∧ Fr (fun u => tC 2 u ∨ tU 6 u ∨ u = 13) h0 x9) (fun j => [some (.ref (P 1)), some (.ref (P (100 + m))), some (.int (iI (x % 6))), some (.int (iI (x / 6))), some (.int (iI dp)), some (.int (iI x)), some (.int (iI j)), none, none]) (fun _ => True) trivial (fun h hh => hh) rfl (fun j hj hv hk => ?_) (fun hv => ?_)
  · have hs9 := hw1 (10 * (m : Int) + j) (by omega) (by omega)
    have hk9 := hkd m j (by omega) (by omega) (by omega) (by omega)
    have e5 := rnI_1 S m x dp 5 (by decide) j
    have e8 := rnI_1 S m x dp 8 (by decide) j
    have eg := rnI_goal S m x dp j j
    have hgo := hg j (by omega)
    have hx2 := rnX_2 S X m x dp j
    have hwj : WFp (rnI S m x dp j) := WFp_of hwp (fun k a b => rnI_1 S m x dp k (by omega) j) ⟨rnI_2 S m x dp 22 (by decide) j, rnI_2 S m x dp 23 (by decide) j, rnI_2 S m x dp 27 (by decide) j, rnI_2 S m x dp 28 (by decide) j⟩ (hrg9 j (by omega))
    have hvb : vbI (S.1 5 (10 * (m : Int) + j)) (S.1 8 (10 * (m : Int) + j)) ((rnI S m x dp j).1 0 (goalI S m j x)) ((rnI S m x dp j).1 0 x) = stepI (rnI S m x dp j) m j x := vb_step hk9 e5 e8 (by rw [eg]; exact (rnI_01 S m x dp j _ hgo.1 hgo.2).symm) (rnI_01 S m x dp j _ hx.1 hx.2).symm
    refine V_iload6 (pc' := 12) C dX7_makeSteps_10 rfl ?_
    refine V_aload1 (pc' := 13) C dX7_makeSteps_12 rfl ?_
    refine V_callV (ci := 8) (n := 0) [] C (kX3_stepCount (t := 100 + m) (ts := 110 + m) (sl := P (110 + m)) (gl := P (130 + m)) (z := (m : Int)) (md := md) (ar := ar) (sn := S.1 4 m) (f := fstP P (200 + 10 * m) (S.1 4 m))) gX7_makeSteps_X3_stepCount rfl ydX3_stepCount ⟨Nat.le_of_ble_eq_true rfl, Nat.le_of_ble_eq_true rfl⟩ ⟨rfl, rfl⟩ rfl rfl (fun h hh => ⟨100 + m, _, (hh.2 _ _ _ hma (by unfold tC tU; omega))⟩) (fun h hh => ⟨(hh.2 _ _ _ hma (by unfold tC tU; omega)), (hsl.fr hh.2 (by unfold tC tU; omega) (by unfold tC tU; omega))⟩) rfl (Nat.le_of_ble_eq_true rfl) dX7_makeSteps_13 ⟨Nat.le_of_ble_eq_true rfl, Nat.le_of_ble_eq_true rfl⟩ (fun h v h' hh hj9 => ?_)
    obtain ⟨r9, rfl, hj8, rfl⟩ := hj9
    rw [hj8]
    first | (refine V_weak (I2 := fun x9 => CW cI cO ee Tx9 P (rnI S m x dp j) (rnX S X m x dp j) x9 ∧ Fr (fun u => tC 2 u ∨ tU 6 u ∨ u = 13) h0 x9) (fun x9 hx9 => by rw [hx9]; exact hh) ?_) | (refine V_weak (I2 := fun x9 => CW cI cO ee Tx9 P (rnI S m x dp (S.1 4 m).toNat) (rnX S X m x dp (S.1 4 m).toNat) x9 ∧ Fr (fun u => tC 2 u ∨ tU 6 u ∨ u = 13) h0 x9) (fun x9 hx9 => by rw [hx9]; exact hh) ?_)
    refine V_icmpge (tgt := 73) C (by omega) dX7_makeSteps_16 (by decide) rfl (fun c_16 => ?_) (fun c_16 => ?_)
    · exact absurd c_16 (by omega)
    · refine V_aload1 (pc' := 20) C dX7_makeSteps_19 rfl ?_
      refine V_iload6 (pc' := 22) C dX7_makeSteps_20 rfl ?_
      refine V_callV (ci := 8) (n := 1) [.int (iI (j : Int))] C (kX3_stepAt_s (t := 100 + m) (ts := 110 + m) (sl := P (110 + m)) (gl := P (130 + m)) (z := (m : Int)) (md := md) (ar := ar) (sn := S.1 4 m) (f := fstP P (200 + 10 * m) (S.1 4 m)) (i := (j : Int)) (bs := P (200 + 10 * m + j)) (tb := 200 + 10 * m + j) (fs := stF S (10 * m + j)) ⟨by omega, by omega⟩ (by rw [Int.toNat_natCast]; exact fstP_at (by omega))) gX7_makeSteps_X3_stepAt rfl ydX3_stepAt ⟨Nat.le_of_ble_eq_true rfl, Nat.le_of_ble_eq_true rfl⟩ ⟨rfl, rfl⟩ rfl rfl (fun h hh => ⟨100 + m, _, (hh.2 _ _ _ hma (by unfold tC tU; omega))⟩) (fun h hh => ⟨(hh.2 _ _ _ hma (by unfold tC tU; omega)), (hsl.fr hh.2 (by unfold tC tU; omega) (by unfold tC tU; omega)), (hh.2 _ _ _ (hst j (by omega)) (by unfold tC tU; omega))⟩) rfl (Nat.le_of_ble_eq_true rfl) dX7_makeSteps_22 ⟨Nat.le_of_ble_eq_true rfl, Nat.le_of_ble_eq_true rfl⟩ (fun h v h' hh hj9 => ?_)
      obtain ⟨rfl, rfl⟩ := hj9
      refine V_weak (I2 := fun x9 => CW cI cO ee Tx9 P (rnI S m x dp j) (rnX S X m x dp j) x9 ∧ Fr (fun u => tC 2 u ∨ tU 6 u ∨ u = 13) h0 x9) (fun x9 hx9 => by rw [hx9]; exact hh) ?_
      refine V_astore7 (pc' := 27) C dX7_makeSteps_25 rfl (by decide) rfl ?_
      refine V_aload7 (pc' := 29) C dX7_makeSteps_27 rfl ?_
      refine V_ifnull (pc' := 32) C dX7_makeSteps_29 rfl ?_
      refine V_iload2 (pc' := 33) C dX7_makeSteps_32 rfl ?_
      refine V_aload7 (pc' := 35) C dX7_makeSteps_33 rfl ?_
      refine V_getfN (pc' := 38) (T := TX6) (N := 4) (ci := 11) C hin6 rfl 1 (by decide) (by decide) (fun h hh => ⟨200 + 10 * m + j, _, (hh.2 _ _ _ (hst j (by omega)) (by unfold tC tU; omega)), rfl⟩) dX7_makeSteps_35 rfl ?_
      refine V_iadd (pc' := 39) C dX7_makeSteps_38 rfl ?_
      refine V_iload3 (pc' := 40) C dX7_makeSteps_39 rfl ?_
      refine V_aload7 (pc' := 42) C dX7_makeSteps_40 rfl ?_
      refine V_getfN (pc' := 45) (T := TX6) (N := 4) (ci := 11) C hin6 rfl 2 (by decide) (by decide) (fun h hh => ⟨200 + 10 * m + j, _, (hh.2 _ _ _ (hst j (by omega)) (by unfold tC tU; omega)), rfl⟩) dX7_makeSteps_42 rfl ?_
      refine V_iadd (pc' := 46) C dX7_makeSteps_45 rfl ?_
      refine sCall2 (pc' := 49) C (kX7_placeOf (c := x % 6 + S.1 6 (10 * (m : Int) + j)) (r := x / 6 + S.1 7 (10 * (m : Int) + j))) gX7_makeSteps_X7_placeOf rfl ydX7_placeOf ⟨Nat.le_of_ble_eq_true rfl, Nat.le_of_ble_eq_true rfl⟩ ⟨rfl, rfl⟩ (Nat.le_of_ble_eq_true rfl) dX7_makeSteps_46 ⟨Nat.zero_le _, Nat.zero_le _⟩ rfl ?_
      refine V_eq (st2 := [.int (iI (goalI S m j x))]) rfl ?_
      refine V_istore8 (pc' := 51) C dX7_makeSteps_49 rfl (by decide) rfl ?_
      refine V_aload0 (pc' := 52) C dX7_makeSteps_51 rfl ?_
      refine V_iload8 (pc' := 54) C dX7_makeSteps_52 rfl ?_
      refine V_aload7 (pc' := 56) C dX7_makeSteps_54 rfl ?_
      refine V_iload5 (pc' := 58) C dX7_makeSteps_56 rfl ?_
      refine V_aload1 (pc' := 59) C dX7_makeSteps_58 rfl ?_
      refine V_getfN (pc' := 62) (T := TX3) (N := 3) (ci := 8) C hin3 rfl 0 (by decide) (by decide) (fun h hh => ⟨100 + m, _, (hh.2 _ _ _ hma (by unfold tC tU; omega)), rfl⟩) dX7_makeSteps_59 rfl ?_
      refine V_iload4 (pc' := 64) C dX7_makeSteps_62 rfl ?_
      refine V_callV (ci := 12) (n := 5) [.int (iI (goalI S m j x)), .ref (P (200 + 10 * m + j)), .int (iI x), .int (iI (m : Int)), .int (iI dp)] C (kX7_changes (S := rnI S m x dp j) (X := rnX S X m x dp j) hwj h9 (q := P (200 + 10 * m + j)) (tq := 200 + 10 * m + j) (k := S.1 5 (10 * (m : Int) + j)) (c := S.1 6 (10 * (m : Int) + j)) (r := S.1 7 (10 * (m : Int) + j)) (nu := S.1 8 (10 * (m : Int) + j)) (pl := goalI S m j x) (bs := x) (mk := (m : Int)) (dp := dp) (by unfold tC tU; omega) (by omega) (by omega) hgo hx (by omega) (Or.inr ⟨by omega, by omega⟩)) gX7_makeSteps_X7_change rfl ydX7_change ⟨Nat.le_of_ble_eq_true rfl, Nat.le_of_ble_eq_true rfl⟩ ⟨rfl, rfl⟩ rfl rfl (fun h hh => ⟨1, _, hh.1.1⟩) (fun h hh => ⟨hh.1, (hh.2 _ _ _ (hst j (by omega)) (by unfold tC tU; omega))⟩) rfl (Nat.le_of_ble_eq_true rfl) dX7_makeSteps_64 ⟨Nat.le_of_ble_eq_true rfl, Nat.le_of_ble_eq_true rfl⟩ (fun h v h' hh hj9 => ?_)
      obtain ⟨rfl, hj1, hj2⟩ := hj9
      rw [hvb] at hj1
      refine V_weak (I2 := fun x9 => CW cI cO ee Tx9 P (rnI S m x dp (j + 1)) (rnX S X m x dp (j + 1)) x9 ∧ Fr (fun u => tC 2 u ∨ tU 6 u ∨ u = 13) h0 x9) (fun x9 hx9 => by rw [hx9, rnI_nx]; exact ⟨hj1.one h9, hh.2.trans hj2⟩) ?_
      refine V_iinc6 (pc' := 70) C dX7_makeSteps_67 rfl (by decide) rfl ?_
      refine V_goto (tgt := 10) C dX7_makeSteps_70 (by decide) ?_
      refine V_forget7 (V_forget8 ?_)
      exact V_conv (fun h q => q) (by simp) (hk trivial)
  · refine V_iload6 (pc' := 12) C dX7_makeSteps_10 rfl ?_
    refine V_aload1 (pc' := 13) C dX7_makeSteps_12 rfl ?_
    refine V_callV (ci := 8) (n := 0) [] C (kX3_stepCount (t := 100 + m) (ts := 110 + m) (sl := P (110 + m)) (gl := P (130 + m)) (z := (m : Int)) (md := md) (ar := ar) (sn := S.1 4 m) (f := fstP P (200 + 10 * m) (S.1 4 m))) gX7_makeSteps_X3_stepCount rfl ydX3_stepCount ⟨Nat.le_of_ble_eq_true rfl, Nat.le_of_ble_eq_true rfl⟩ ⟨rfl, rfl⟩ rfl rfl (fun h hh => ⟨100 + m, _, (hh.2 _ _ _ hma (by unfold tC tU; omega))⟩) (fun h hh => ⟨(hh.2 _ _ _ hma (by unfold tC tU; omega)), (hsl.fr hh.2 (by unfold tC tU; omega) (by unfold tC tU; omega))⟩) rfl (Nat.le_of_ble_eq_true rfl) dX7_makeSteps_13 ⟨Nat.le_of_ble_eq_true rfl, Nat.le_of_ble_eq_true rfl⟩ (fun h v h' hh hj9 => ?_)
    obtain ⟨r9, rfl, hj8, rfl⟩ := hj9
    rw [hj8]
    first | (refine V_weak (I2 := fun x9 => CW cI cO ee Tx9 P (rnI S m x dp j) (rnX S X m x dp j) x9 ∧ Fr (fun u => tC 2 u ∨ tU 6 u ∨ u = 13) h0 x9) (fun x9 hx9 => by rw [hx9]; exact hh) ?_) | (refine V_weak (I2 := fun x9 => CW cI cO ee Tx9 P (rnI S m x dp (S.1 4 m).toNat) (rnX S X m x dp (S.1 4 m).toNat) x9 ∧ Fr (fun u => tC 2 u ∨ tU 6 u ∨ u = 13) h0 x9) (fun x9 hx9 => by rw [hx9]; exact hh) ?_)
    refine V_icmpge (tgt := 73) C (by omega) dX7_makeSteps_16 (by decide) rfl (fun c_16 => ?_) (fun c_16 => ?_)
    · exact V_endv C hr hlk (fun h' hh => ⟨rfl, hh.1, hh.2⟩) ⟨Nat.le_refl _, Nat.le_refl _⟩ dX7_makeSteps_73
    · exact absurd c_16 (by omega)
end

/-! the class tries a macro's steps -/
def KD (S : MSt) : Prop := ∀ m k : Int, 0 ≤ m → m < 6 → 0 ≤ k → k < S.1 4 m → S.1 5 (10 * m + k) = 115 ∨ S.1 5 (10 * m + k) = 97 ∨ S.1 5 (10 * m + k) = 99
/-- the class's own part with another trial -/
def Xtr (X : MSt) (f : Int → Int) : MSt := (fun j => if j = 5 then f else X.1 j, X.2)
def trC (S X : MSt) (m x : Int) : Nat → Int → Int
  | 0 => cpyZ (S.1 0) (X.1 5) 0 0 48
  | j + 1 => upZ (trC S X m x j) (goalI S m j x) (stepI (trI S m x j) m j x)
theorem trC_eq (S X : MSt) (m x : Int) : ∀ j : Nat, ∀ z, 0 ≤ z → z < 48 → trC S X m x j z = (trI S m x j).1 1 z
  | 0, z, h0, h1 => by
    unfold trC trI cpyZ cpN
    dsimp only
    rw [if_pos (by omega), if_pos rfl, if_pos (by omega), show (0 : Int) + (z - 0) = z by omega]
  | j + 1, z, h0, h1 => by
    rw [trC, trI, uA_s, trI_goal]
    unfold upZ
    by_cases q : z = goalI S m j x
    · rw [if_pos q, if_pos q]
    · rw [if_neg q, if_neg q]
      exact trC_eq S X m x j z h0 h1
theorem vb_step {S Y : MSt} {m k x : Int} (hk : S.1 5 (10 * m + k) = 115 ∨ S.1 5 (10 * m + k) = 97 ∨ S.1 5 (10 * m + k) = 99) (h5 : Y.1 5 = S.1 5) (h8 : Y.1 8 = S.1 8) {b0 b : Int} (e0 : b0 = Y.1 1 (goalI Y m k x)) (e1 : b = Y.1 1 x) : vbI (S.1 5 (10 * m + k)) (S.1 8 (10 * m + k)) b0 b = stepI Y m k x := by
  subst e0 e1
  unfold vbI stepI
  rw [h5, h8]
  rcases hk with h | h | h <;> rw [h] <;> simp
theorem AuX.tr {cI : ClassId} {P : Nat → Nat} {X : MSt} {h : Hp} {f g : Int → Int} (H : AuX cI P (Xtr X g) h) : AuX cI P (Xtr X f) h := AuH.eq H (fun k hk => match k, hk with
  | 0, _ => rfl
  | 1, _ => rfl
  | 2, _ => rfl
  | 3, _ => rfl)
theorem CW.trial {cI cO : ClassId} {ee : Nat × Nat} {Tx9 : (Nat → Nat) → MSt → Hp → Prop} {P : Nat → Nat} {S X : MSt} {h h' : Hp} {f g : Int → Int} (H : CW cI cO ee Tx9 P S (Xtr X g) h) (hw : WFp S) (hT9 : ∀ (h h' : Hp), Tx9 P S h → Fr (tC 4) h h' → Tx9 P S h') (h1 : CeH cI (P 4) (P 5) 4 f h') (hF : Fr (tC 4) h h') : CW cI cO ee Tx9 P S (Xtr X f) h' := by
  obtain ⟨a1, a2, a3, a4, a5, a6, a7, a8⟩ := H
  exact ⟨MnH.fr (X := Xtr X g) a1 hF (by unfold tC; omega), a2.fr hF (by unfold tC; omega) (by unfold tC; omega), h1, (AuX.fr (X := Xtr X g) a4 hF (fun u _ _ => by unfold tC; omega)).tr, a5.fr hF (by unfold tC; omega) (by unfold tC; omega), DpX.fr (X := Xtr X g) a6 hF (by unfold tC; omega), hT9 _ _ a7 hF, a8.fr hw hF (fun u _ _ => by unfold tC; omega)⟩
theorem Xtr_self (X : MSt) : Xtr X (X.1 5) = X := by
  refine Prod.ext (funext fun j => ?_) rfl
  by_cases h : j = 5
  · subst h; rfl
  · exact if_neg h
theorem ydX7_reasonAgainst : yX7_reasonAgainst.cls = RX7 ∧ yX7_reasonAgainst.cls ≠ "java/lang/invoke/MethodHandle" ∧ yX7_reasonAgainst.cls ≠ "java/lang/invoke/VarHandle" ∧ (parseMethodDescriptor yX7_reasonAgainst.desc).map (fun d => d.parameters.length) = some 3 := by decide +kernel
section
variable {l : Launch} {D : va_G} {cB cC cI cO cJ cD : ClassId} {ee : Nat × Nat} {Tx9 : (Nat → Nat) → MSt → Hp → Prop} {P : Nat → Nat} {S X : MSt}
set_option maxHeartbeats 4000000 in
set_option maxRecDepth 100000 in
theorem kX7_reasonAgainst (hwp : WFp S) (hkd : KD S) (hT9 : ∀ (h h' : Hp), Tx9 P S h → Fr (tC 4) h h' → Tx9 P S h') {m : Nat} (hm : (m : Int) < S.2 22) {x : Int} (hx : 0 ≤ x ∧ x < 48) : Ct l yX7_reasonAgainst wsX7_reasonAgainst ({ frames := 6, cells := 0, slots := 0, locals := 130 } : Room) D (tyL cB cC cI cO cJ cD) ee [.ref (P 1), .ref (P (100 + m)), .int (iI (x % 6)), .int (iI (x / 6))] (CW cI cO ee Tx9 P S X) (Ji fun h z9 h' => z9 = (whyS S m x).1 ∧ (∃ f, CW cI cO ee Tx9 P S (Xtr X f) h') ∧ Fr (tC 4) h h') (0) (0) := by
  refine Ct_of (cc := cX7_reasonAgainst) (own := RX7) [some (.ref (P 1)), some (.ref (P (100 + m))), some (.int (iI (x % 6))), some (.int (iI (x / 6))), none, none, none, none, none, none, none] (by decide) rfl rfl (Nat.le_of_ble_eq_true rfl) (fun i9 v9 h9 => argL [.ref (P 1), .ref (P (100 + m)), .int (iI (x % 6)), .int (iI (x / 6))] 7 rfl i9 v9 h9) ?_
  intro p e s m9 args below meth c9 h0 sz hI C hr hlk hinit
  have hin : ∀ w ∈ wsX70, w ∈ wsX7_reasonAgainst := by decide +kernel
  have hin6 : ∀ w ∈ wsX60, w ∈ wsX7_reasonAgainst := by decide +kernel
  obtain ⟨hw1, hw2, hw3, hw4, hw5, hw6⟩ := id hwp
  obtain ⟨hma, ⟨md, ar, hsl⟩, hst, ⟨md', ar', hgl⟩, hrg⟩ := hI.2.2.2.2.2.2.2.2.1 m hm
  refine V_weak (I2 := fun x9 => CW cI cO ee Tx9 P S (Xtr X (X.1 5)) x9 ∧ Fr (tC 4) h0 x9) (fun x9 hx9 => by subst hx9; exact ⟨by rw [Xtr_self]; exact hI, Fr.refl⟩) ?_
  refine V_aload0 (pc' := 1) C dX7_reasonAgainst_0 rfl ?_
  refine V_getf (pc' := 4) (T := TX7) (N := 13) (ci := 12) C hin rfl 1 (by decide) (by decide +kernel) (fun h hh => ⟨1, _, hh.1.1, rfl⟩) dX7_reasonAgainst_1 rfl ?_
  refine V_aload0 (pc' := 5) C dX7_reasonAgainst_4 rfl ?_
  refine V_getf (pc' := 8) (T := TX7) (N := 13) (ci := 12) C hin rfl 0 (by decide) (by decide +kernel) (fun h hh => ⟨1, _, hh.1.1, rfl⟩) dX7_reasonAgainst_5 rfl ?_
  refine V_callV (ci := 6) (n := 1) [.ref (P 2)] C (kX1_copyFrom (v := P 5) (g := X.1 5) (t := 4) (lb := P 2) (vb := P 3) (tb := 2) (gb := S.1 0) ⟨(by unfold tC; omega), (by unfold tC; omega)⟩) gX7_reasonAgainst_X1_copyFrom rfl ydX1_copyFrom ⟨Nat.le_of_ble_eq_true rfl, Nat.le_of_ble_eq_true rfl⟩ ⟨rfl, rfl⟩ rfl rfl (fun h hh => ⟨4, _, hh.1.2.2.1.1⟩) (fun h hh => ⟨hh.1.2.2.1, hh.1.2.1⟩) rfl (Nat.le_of_ble_eq_true rfl) dX7_reasonAgainst_8 ⟨Nat.le_of_ble_eq_true rfl, Nat.le_of_ble_eq_true rfl⟩ (fun h v h' hh hj9 => ?_)
  obtain ⟨rfl, hj1, hj2⟩ := hj9
  refine V_weak (I2 := fun x9 => CW cI cO ee Tx9 P S (Xtr X (trC S X m x 0)) x9 ∧ Fr (tC 4) h0 x9) (fun x9 hx9 => by rw [hx9]; exact ⟨hh.1.trial hwp hT9 hj1 hj2, hh.2.trans hj2⟩) ?_
  refine V_iload2 (pc' := 12) C dX7_reasonAgainst_11 rfl ?_
  refine V_iload3 (pc' := 13) C dX7_reasonAgainst_12 rfl ?_
  refine sCall2 (pc' := 16) C (kX7_placeOf (c := x % 6) (r := x / 6)) gX7_reasonAgainst_X7_placeOf rfl ydX7_placeOf ⟨Nat.le_of_ble_eq_true rfl, Nat.le_of_ble_eq_true rfl⟩ ⟨rfl, rfl⟩ (Nat.le_of_ble_eq_true rfl) dX7_reasonAgainst_13 ⟨Nat.zero_le _, Nat.zero_le _⟩ rfl ?_
  refine V_eq (st2 := [.int (iI x)]) (by rw [show atI (x % 6) (x / 6) = x by unfold atI; omega]; rfl) ?_
  refine V_istore4 (pc' := 18) C dX7_reasonAgainst_16 rfl (by decide) rfl ?_
  refine V_iconst (pc' := 19) C dX7_reasonAgainst_18 rfl ?_
  refine V_istore5 (pc' := 21) C dX7_reasonAgainst_19 rfl (by decide) rfl ?_
  refine V_for0 (N := (S.1 4 m).toNat) (fun j => fun x9 => CW cI cO ee Tx9 P S (Xtr X (trC S X m x j)) x9 ∧ Fr (tC 4) h0 x9) (fun j => [some (.ref (P 1)), some (.ref (P (100 + m))), some (.int (iI (x % 6))), some (.int (iI (x / 6))), some (.int (iI x)), some (.int (iI j)), none, none, none, none, none]) (fun j => whyS S m x = whyR S m x ((S.1 4 m).toNat - j) j ∧ rgN ((trI S m x j).1 1)) ⟨rfl, cpN_rg hwp⟩ (fun h hh => hh) rfl (fun j hj hv hk => ?_) (fun hv => ?_)
  · have hm9 := hw2 m (by omega) (by omega)
    have hs9 := hw1 (10 * (m : Int) + j) (by omega) (by omega)
    have hk9 := hkd m j (by omega) (by omega) (by omega) (by omega)
    have e5 := trI_1 S m x 5 (by decide) j
    have e8 := trI_1 S m x 8 (by decide) j
    have eg := trI_goal S m x j j
    obtain ⟨n, hn⟩ : ∃ n, (S.1 4 m).toNat - j = n + 1 := ⟨(S.1 4 m).toNat - j - 1, by omega⟩
    have hn2 : (S.1 4 m).toNat - (j + 1) = n := by omega
    rw [hn] at hv
    simp only [whyR] at hv
    refine V_iload5 (pc' := 23) C dX7_reasonAgainst_21 rfl ?_
    refine V_aload1 (pc' := 24) C dX7_reasonAgainst_23 rfl ?_
    refine V_callV (ci := 8) (n := 0) [] C (kX3_stepCount (t := 100 + m) (ts := 110 + m) (sl := P (110 + m)) (gl := P (130 + m)) (z := (m : Int)) (md := md) (ar := ar) (sn := S.1 4 m) (f := fstP P (200 + 10 * m) (S.1 4 m))) gX7_reasonAgainst_X3_stepCount rfl ydX3_stepCount ⟨Nat.le_of_ble_eq_true rfl, Nat.le_of_ble_eq_true rfl⟩ ⟨rfl, rfl⟩ rfl rfl (fun h hh => ⟨100 + m, _, (hh.2 _ _ _ hma (by unfold tC; omega))⟩) (fun h hh => ⟨(hh.2 _ _ _ hma (by unfold tC; omega)), (hsl.fr hh.2 (by unfold tC; omega) (by unfold tC; omega))⟩) rfl (Nat.le_of_ble_eq_true rfl) dX7_reasonAgainst_24 ⟨Nat.le_of_ble_eq_true rfl, Nat.le_of_ble_eq_true rfl⟩ (fun h v h' hh hj9 => ?_)
    obtain ⟨r9, rfl, hj8, rfl⟩ := hj9
    rw [hj8]
    first | (refine V_weak (I2 := fun x9 => CW cI cO ee Tx9 P S (Xtr X (trC S X m x j)) x9 ∧ Fr (tC 4) h0 x9) (fun x9 hx9 => by rw [hx9]; exact hh) ?_) | (refine V_weak (I2 := fun x9 => CW cI cO ee Tx9 P S (Xtr X (trC S X m x (S.1 4 m).toNat)) x9 ∧ Fr (tC 4) h0 x9) (fun x9 hx9 => by rw [hx9]; exact hh) ?_)
    refine V_icmpge (tgt := 153) C (by have := hw2 m (by omega) (by omega); omega) dX7_reasonAgainst_27 (by decide) rfl (fun c_27 => ?_) (fun c_27 => ?_)
    · exact absurd c_27 (by have := hw2 m (by omega) (by omega); omega)
    · refine V_aload1 (pc' := 31) C dX7_reasonAgainst_30 rfl ?_
      refine V_iload5 (pc' := 33) C dX7_reasonAgainst_31 rfl ?_
      refine V_callV (ci := 8) (n := 1) [.int (iI (j : Int))] C (kX3_stepAt_s (t := 100 + m) (ts := 110 + m) (sl := P (110 + m)) (gl := P (130 + m)) (z := (m : Int)) (md := md) (ar := ar) (sn := S.1 4 m) (f := fstP P (200 + 10 * m) (S.1 4 m)) (i := (j : Int)) (bs := P (200 + 10 * m + j)) (tb := 200 + 10 * m + j) (fs := stF S (10 * m + j)) ⟨by omega, by omega⟩ (by rw [Int.toNat_natCast]; exact fstP_at (by omega))) gX7_reasonAgainst_X3_stepAt rfl ydX3_stepAt ⟨Nat.le_of_ble_eq_true rfl, Nat.le_of_ble_eq_true rfl⟩ ⟨rfl, rfl⟩ rfl rfl (fun h hh => ⟨100 + m, _, (hh.2 _ _ _ hma (by unfold tC; omega))⟩) (fun h hh => ⟨(hh.2 _ _ _ hma (by unfold tC; omega)), (hsl.fr hh.2 (by unfold tC; omega) (by unfold tC; omega)), hh.2 _ _ _ (hst j (by omega)) (by unfold tC; omega)⟩) rfl (Nat.le_of_ble_eq_true rfl) dX7_reasonAgainst_33 ⟨Nat.le_of_ble_eq_true rfl, Nat.le_of_ble_eq_true rfl⟩ (fun h v h' hh hj9 => ?_)
      obtain ⟨rfl, rfl⟩ := hj9
      refine V_weak (I2 := fun x9 => CW cI cO ee Tx9 P S (Xtr X (trC S X m x j)) x9 ∧ Fr (tC 4) h0 x9) (fun x9 hx9 => by rw [hx9]; exact hh) ?_
      refine V_astore6 (pc' := 38) C dX7_reasonAgainst_36 rfl (by decide) rfl ?_
      refine V_aload6 (pc' := 40) C dX7_reasonAgainst_38 rfl ?_
      refine V_ifnonnull (tgt := 46) C dX7_reasonAgainst_40 (by decide) ?_
      refine V_iload2 (pc' := 47) C dX7_reasonAgainst_46 rfl ?_
      refine V_aload6 (pc' := 49) C dX7_reasonAgainst_47 rfl ?_
      refine V_getfN (pc' := 52) (T := TX6) (N := 4) (ci := 11) C hin6 rfl 1 (by decide) (by decide) (fun h hh => ⟨200 + 10 * m + j, _, hh.2 _ _ _ (hst j (by omega)) (by unfold tC; omega), rfl⟩) dX7_reasonAgainst_49 rfl ?_
      refine V_iadd (pc' := 53) C dX7_reasonAgainst_52 rfl ?_
      refine V_istore7 (pc' := 55) C dX7_reasonAgainst_53 rfl (by decide) rfl ?_
      refine V_iload3 (pc' := 56) C dX7_reasonAgainst_55 rfl ?_
      refine V_aload6 (pc' := 58) C dX7_reasonAgainst_56 rfl ?_
      refine V_getfN (pc' := 61) (T := TX6) (N := 4) (ci := 11) C hin6 rfl 2 (by decide) (by decide) (fun h hh => ⟨200 + 10 * m + j, _, hh.2 _ _ _ (hst j (by omega)) (by unfold tC; omega), rfl⟩) dX7_reasonAgainst_58 rfl ?_
      refine V_iadd (pc' := 62) C dX7_reasonAgainst_61 rfl ?_
      refine V_istore8 (pc' := 64) C dX7_reasonAgainst_62 rfl (by decide) rfl ?_
      refine V_iload7 (pc' := 66) C dX7_reasonAgainst_64 rfl ?_
      refine V_iload8 (pc' := 68) C dX7_reasonAgainst_66 rfl ?_
      refine sCall2 (pc' := 71) C (kX7_isCell (c := x % 6 + S.1 6 (10 * (m : Int) + j)) (r := x / 6 + S.1 7 (10 * (m : Int) + j)) ⟨by omega, by omega⟩) gX7_reasonAgainst_X7_isCell rfl ydX7_isCell ⟨Nat.le_of_ble_eq_true rfl, Nat.le_of_ble_eq_true rfl⟩ ⟨rfl, rfl⟩ (Nat.le_of_ble_eq_true rfl) dX7_reasonAgainst_68 ⟨Nat.zero_le _, Nat.zero_le _⟩ rfl ?_
      refine V_ifneB (tgt := 77) C dX7_reasonAgainst_71 (by decide) rfl (fun c_71 => ?_) (fun c_71 => ?_)
      · have hgo : 0 ≤ goalI S m j x ∧ goalI S m j x < 48 := goal_in (by simp_all [isOutB])
        have hg6 : (goalI S m j x) % 6 = x % 6 + S.1 6 (10 * (m : Int) + j) ∧ (goalI S m j x) / 6 = x / 6 + S.1 7 (10 * (m : Int) + j) := by
          have h9 : isCellB (x % 6 + S.1 6 (10 * (m : Int) + j)) (x / 6 + S.1 7 (10 * (m : Int) + j)) = true := by assumption
          simp only [isCellB, isInB, Bool.and_eq_true, decide_eq_true_eq] at h9
          unfold goalI atI
          omega
        refine V_aload1 (pc' := 78) C dX7_reasonAgainst_77 rfl ?_
        refine V_iload7 (pc' := 80) C dX7_reasonAgainst_78 rfl ?_
        refine V_iload8 (pc' := 82) C dX7_reasonAgainst_80 rfl ?_
        refine V_callV (ci := 8) (n := 2) [.int (iI (x % 6 + S.1 6 (10 * (m : Int) + j))), .int (iI (x / 6 + S.1 7 (10 * (m : Int) + j)))] C (kX3_mayChange (t := 100 + m) (ts := 130 + m) (sl := P (110 + m)) (gl := P (130 + m)) (z := (m : Int)) (md := md') (ar := ar') (sn := S.1 9 m) (f := fstP P (300 + 4 * m) (S.1 9 m)) (rb := fun i => P (300 + 4 * m + i)) (tr := fun i => 300 + 4 * m + i) (G := grG S m) (fun i hi => by have := hw3 (4 * (m : Int) + i) (by omega) (by omega); simp only [grG]; omega) ⟨by omega, by omega⟩) gX7_reasonAgainst_X3_mayChange rfl ydX3_mayChange ⟨Nat.le_of_ble_eq_true rfl, Nat.le_of_ble_eq_true rfl⟩ ⟨rfl, rfl⟩ rfl rfl (fun h hh => ⟨100 + m, _, (hh.2 _ _ _ hma (by unfold tC; omega))⟩) (fun h hh => ⟨(hh.2 _ _ _ hma (by unfold tC; omega)), (hgl.fr hh.2 (by unfold tC; omega) (by unfold tC; omega)), fun i hi => ⟨fstP_at hi, hh.2 _ _ _ (hrg i hi) (by unfold tC; omega)⟩⟩) rfl (Nat.le_of_ble_eq_true rfl) dX7_reasonAgainst_82 ⟨Nat.le_of_ble_eq_true rfl, Nat.le_of_ble_eq_true rfl⟩ (fun h v h' hh hj9 => ?_)
        obtain ⟨r9, rfl, hj8, rfl⟩ := hj9
        have hmy : myN (grG S m) (x % 6 + S.1 6 (10 * (m : Int) + j)) (x / 6 + S.1 7 (10 * (m : Int) + j)) (S.1 9 m).toNat = isGrantedB S m (goalI S m j x) := by
          rw [← hg6.1, ← hg6.2, myN_gr]
          rfl
        rw [hj8, hmy]
        refine V_weak (I2 := fun x9 => CW cI cO ee Tx9 P S (Xtr X (trC S X m x j)) x9 ∧ Fr (tC 4) h0 x9) (fun x9 hx9 => by rw [hx9]; exact hh) ?_
        refine V_ifneB (tgt := 91) C dX7_reasonAgainst_85 (by decide) rfl (fun c_85 => ?_) (fun c_85 => ?_)
        · refine V_iload7 (pc' := 93) C dX7_reasonAgainst_91 rfl ?_
          refine V_iload8 (pc' := 95) C dX7_reasonAgainst_93 rfl ?_
          refine sCall2 (pc' := 98) C (kX7_placeOf (c := x % 6 + S.1 6 (10 * (m : Int) + j)) (r := x / 6 + S.1 7 (10 * (m : Int) + j))) gX7_reasonAgainst_X7_placeOf rfl ydX7_placeOf ⟨Nat.le_of_ble_eq_true rfl, Nat.le_of_ble_eq_true rfl⟩ ⟨rfl, rfl⟩ (Nat.le_of_ble_eq_true rfl) dX7_reasonAgainst_95 ⟨Nat.zero_le _, Nat.zero_le _⟩ rfl ?_
          refine V_eq (st2 := [.int (iI (goalI S m j x))]) rfl ?_
          refine V_istore9 (pc' := 100) C dX7_reasonAgainst_98 rfl (by decide) rfl ?_
          refine V_aload6 (pc' := 102) C dX7_reasonAgainst_100 rfl ?_
          refine V_aload0 (pc' := 103) C dX7_reasonAgainst_102 rfl ?_
          refine V_getf (pc' := 106) (T := TX7) (N := 13) (ci := 12) C hin rfl 1 (by decide) (by decide +kernel) (fun h hh => ⟨1, _, hh.1.1, rfl⟩) dX7_reasonAgainst_103 rfl ?_
          refine V_iload9 (pc' := 108) C dX7_reasonAgainst_106 rfl ?_
          refine V_callV (ci := 6) (n := 1) [.int (iI (goalI S m j x))] C (kX1_valueAt (v := P 5) (g := trC S X m x j) (t := 4) (z := goalI S m j x) hgo) gX7_reasonAgainst_X1_valueAt rfl ydX1_valueAt ⟨Nat.le_of_ble_eq_true rfl, Nat.le_of_ble_eq_true rfl⟩ ⟨rfl, rfl⟩ rfl rfl (fun h hh => ⟨4, _, hh.1.2.2.1.1⟩) (fun h hh => hh.1.2.2.1) rfl (Nat.le_of_ble_eq_true rfl) dX7_reasonAgainst_108 ⟨Nat.le_of_ble_eq_true rfl, Nat.le_of_ble_eq_true rfl⟩ (fun h v h' hh hj9 => ?_)
          obtain ⟨r9, rfl, hj8, rfl⟩ := hj9
          rw [hj8]
          refine V_weak (I2 := fun x9 => CW cI cO ee Tx9 P S (Xtr X (trC S X m x j)) x9 ∧ Fr (tC 4) h0 x9) (fun x9 hx9 => by rw [hx9]; exact hh) ?_
          refine V_aload0 (pc' := 112) C dX7_reasonAgainst_111 rfl ?_
          refine V_getf (pc' := 115) (T := TX7) (N := 13) (ci := 12) C hin rfl 1 (by decide) (by decide +kernel) (fun h hh => ⟨1, _, hh.1.1, rfl⟩) dX7_reasonAgainst_112 rfl ?_
          refine V_iload4 (pc' := 117) C dX7_reasonAgainst_115 rfl ?_
          refine V_callV (ci := 6) (n := 1) [.int (iI x)] C (kX1_valueAt (v := P 5) (g := trC S X m x j) (t := 4) (z := x) hx) gX7_reasonAgainst_X1_valueAt rfl ydX1_valueAt ⟨Nat.le_of_ble_eq_true rfl, Nat.le_of_ble_eq_true rfl⟩ ⟨rfl, rfl⟩ rfl rfl (fun h hh => ⟨4, _, hh.1.2.2.1.1⟩) (fun h hh => hh.1.2.2.1) rfl (Nat.le_of_ble_eq_true rfl) dX7_reasonAgainst_117 ⟨Nat.le_of_ble_eq_true rfl, Nat.le_of_ble_eq_true rfl⟩ (fun h v h' hh hj9 => ?_)
          obtain ⟨r9, rfl, hj8, rfl⟩ := hj9
          rw [hj8]
          refine V_weak (I2 := fun x9 => CW cI cO ee Tx9 P S (Xtr X (trC S X m x j)) x9 ∧ Fr (tC 4) h0 x9) (fun x9 hx9 => by rw [hx9]; exact hh) ?_
          refine V_callV (ci := 11) (n := 2) [.int (iI (trC S X m x j (goalI S m j x))), .int (iI (trC S X m x j x))] C (kX6_valueBehind (t := 200 + 10 * m + j) (k := S.1 5 (10 * (m : Int) + j)) (c := S.1 6 (10 * (m : Int) + j)) (r := S.1 7 (10 * (m : Int) + j)) (n := S.1 8 (10 * (m : Int) + j)) (b0 := trC S X m x j (goalI S m j x)) (b1 := trC S X m x j x) (by omega)) gX7_reasonAgainst_X6_valueBehind rfl ydX6_valueBehind ⟨Nat.le_of_ble_eq_true rfl, Nat.le_of_ble_eq_true rfl⟩ ⟨rfl, rfl⟩ rfl rfl (fun h hh => ⟨200 + 10 * m + j, _, hh.2 _ _ _ (hst j (by omega)) (by unfold tC; omega)⟩) (fun h hh => hh.2 _ _ _ (hst j (by omega)) (by unfold tC; omega)) rfl (Nat.le_of_ble_eq_true rfl) dX7_reasonAgainst_120 ⟨Nat.le_of_ble_eq_true rfl, Nat.le_of_ble_eq_true rfl⟩ (fun h v h' hh hj9 => ?_)
          obtain ⟨r9, rfl, hj8, rfl⟩ := hj9
          rw [hj8, vb_step (Y := trI S m x j) hk9 e5 e8 (by rw [eg]; exact trC_eq S X m x j _ hgo.1 hgo.2) (trC_eq S X m x j _ hx.1 hx.2)]
          refine V_weak (I2 := fun x9 => CW cI cO ee Tx9 P S (Xtr X (trC S X m x j)) x9 ∧ Fr (tC 4) h0 x9) (fun x9 hx9 => by rw [hx9]; exact hh) ?_
          have hsr := stepI_rI (X := trI S m x j) (m := (m : Int)) (k := (j : Int)) (x := x) hwp e8 ⟨by omega, by omega⟩ ⟨by omega, by omega⟩ hx hv.2 (by rw [eg]; exact hgo)
          refine V_istore10 (pc' := 125) C dX7_reasonAgainst_123 rfl (by decide) rfl ?_
          refine V_iload10 (pc' := 127) C dX7_reasonAgainst_125 rfl ?_
          refine sCall1 (pc' := 130) C (kX7_isValue (x := stepI (trI S m x j) m j x) hsr) gX7_reasonAgainst_X7_isValue rfl ydX7_isValue ⟨Nat.le_of_ble_eq_true rfl, Nat.le_of_ble_eq_true rfl⟩ ⟨rfl, rfl⟩ (Nat.le_of_ble_eq_true rfl) dX7_reasonAgainst_127 ⟨Nat.zero_le _, Nat.zero_le _⟩ rfl ?_
          refine V_ifneB (tgt := 136) C dX7_reasonAgainst_130 (by decide) rfl (fun c_130 => ?_) (fun c_130 => ?_)
          · refine V_aload0 (pc' := 137) C dX7_reasonAgainst_136 rfl ?_
            refine V_getf (pc' := 140) (T := TX7) (N := 13) (ci := 12) C hin rfl 1 (by decide) (by decide +kernel) (fun h hh => ⟨1, _, hh.1.1, rfl⟩) dX7_reasonAgainst_137 rfl ?_
            refine V_iload9 (pc' := 142) C dX7_reasonAgainst_140 rfl ?_
            refine V_iload10 (pc' := 144) C dX7_reasonAgainst_142 rfl ?_
            refine V_callV (ci := 6) (n := 2) [.int (iI (goalI S m j x)), .int (iI (stepI (trI S m x j) m j x))] C (kX1_put (v := P 5) (g := trC S X m x j) (t := 4) (z := goalI S m j x) hgo (stepI (trI S m x j) m j x)) gX7_reasonAgainst_X1_put rfl ydX1_put ⟨Nat.le_of_ble_eq_true rfl, Nat.le_of_ble_eq_true rfl⟩ ⟨rfl, rfl⟩ rfl rfl (fun h hh => ⟨4, _, hh.1.2.2.1.1⟩) (fun h hh => hh.1.2.2.1) rfl (Nat.le_of_ble_eq_true rfl) dX7_reasonAgainst_144 ⟨Nat.le_of_ble_eq_true rfl, Nat.le_of_ble_eq_true rfl⟩ (fun h v h' hh hj9 => ?_)
            obtain ⟨rfl, hj1, hj2⟩ := hj9
            refine V_weak (I2 := fun x9 => CW cI cO ee Tx9 P S (Xtr X (trC S X m x (j + 1))) x9 ∧ Fr (tC 4) h0 x9) (fun x9 hx9 => by rw [hx9]; exact ⟨hh.1.trial hwp hT9 hj1 hj2, hh.2.trans hj2⟩) ?_
            refine V_iinc5 (pc' := 150) C dX7_reasonAgainst_147 rfl (by decide) rfl ?_
            refine V_goto (tgt := 21) C dX7_reasonAgainst_150 (by decide) ?_
            refine V_forget6 (V_forget7 (V_forget8 (V_forget9 (V_forget10 ?_))))
            exact V_conv (fun h q => q) (by simp) (hk ⟨by rw [hn2, hv.1, if_neg (by simp_all [isOutB]), if_neg (by simp_all), if_neg (by simp_all)], rgN_up hv.2 (by assumption)⟩)
          · refine V_bipush (pc' := 135) C dX7_reasonAgainst_133 rfl (by decide) ?_
            exact V_endz (z := 118) C hr hlk (nar_c (by decide) (by decide)) (fun h' hh => ⟨_, rfl, by rw [hv.1]; simp_all [isOutB], ⟨_, hh.1⟩, hh.2⟩) ⟨Nat.le_refl _, Nat.le_refl _⟩ dX7_reasonAgainst_135
        · refine V_bipush (pc' := 90) C dX7_reasonAgainst_88 rfl (by decide) ?_
          exact V_endz (z := 103) C hr hlk (nar_c (by decide) (by decide)) (fun h' hh => ⟨_, rfl, by rw [hv.1]; simp_all [isOutB], ⟨_, hh.1⟩, hh.2⟩) ⟨Nat.le_refl _, Nat.le_refl _⟩ dX7_reasonAgainst_90
      · refine V_bipush (pc' := 76) C dX7_reasonAgainst_74 rfl (by decide) ?_
        exact V_endz (z := 111) C hr hlk (nar_c (by decide) (by decide)) (fun h' hh => ⟨_, rfl, by rw [hv.1]; simp_all [isOutB], ⟨_, hh.1⟩, hh.2⟩) ⟨Nat.le_refl _, Nat.le_refl _⟩ dX7_reasonAgainst_76
  · rw [Nat.sub_self] at hv
    simp only [whyR] at hv
    refine V_iload5 (pc' := 23) C dX7_reasonAgainst_21 rfl ?_
    refine V_aload1 (pc' := 24) C dX7_reasonAgainst_23 rfl ?_
    refine V_callV (ci := 8) (n := 0) [] C (kX3_stepCount (t := 100 + m) (ts := 110 + m) (sl := P (110 + m)) (gl := P (130 + m)) (z := (m : Int)) (md := md) (ar := ar) (sn := S.1 4 m) (f := fstP P (200 + 10 * m) (S.1 4 m))) gX7_reasonAgainst_X3_stepCount rfl ydX3_stepCount ⟨Nat.le_of_ble_eq_true rfl, Nat.le_of_ble_eq_true rfl⟩ ⟨rfl, rfl⟩ rfl rfl (fun h hh => ⟨100 + m, _, (hh.2 _ _ _ hma (by unfold tC; omega))⟩) (fun h hh => ⟨(hh.2 _ _ _ hma (by unfold tC; omega)), (hsl.fr hh.2 (by unfold tC; omega) (by unfold tC; omega))⟩) rfl (Nat.le_of_ble_eq_true rfl) dX7_reasonAgainst_24 ⟨Nat.le_of_ble_eq_true rfl, Nat.le_of_ble_eq_true rfl⟩ (fun h v h' hh hj9 => ?_)
    obtain ⟨r9, rfl, hj8, rfl⟩ := hj9
    rw [hj8]
    first | (refine V_weak (I2 := fun x9 => CW cI cO ee Tx9 P S (Xtr X (trC S X m x j)) x9 ∧ Fr (tC 4) h0 x9) (fun x9 hx9 => by rw [hx9]; exact hh) ?_) | (refine V_weak (I2 := fun x9 => CW cI cO ee Tx9 P S (Xtr X (trC S X m x (S.1 4 m).toNat)) x9 ∧ Fr (tC 4) h0 x9) (fun x9 hx9 => by rw [hx9]; exact hh) ?_)
    refine V_icmpge (tgt := 153) C (by have := hw2 m (by omega) (by omega); omega) dX7_reasonAgainst_27 (by decide) rfl (fun c_27 => ?_) (fun c_27 => ?_)
    · refine V_bipush (pc' := 155) C dX7_reasonAgainst_153 rfl (by decide) ?_
      exact V_endz (z := 45) C hr hlk (nar_c (by decide) (by decide)) (fun h' hh => ⟨_, rfl, by rw [hv.1], ⟨_, hh.1⟩, hh.2⟩) ⟨Nat.le_refl _, Nat.le_refl _⟩ dX7_reasonAgainst_155
    · exact absurd c_27 (by have := hw2 m (by omega) (by omega); omega)
end

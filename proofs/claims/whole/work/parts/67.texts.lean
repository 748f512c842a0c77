/-! the class: writeStep, textAt; rule and lastBy without an answer -/
def rT (S : MSt) : Prop := ∀ z, 0 ≤ z → z < S.2 30 → 0 ≤ S.1 21 z ∧ S.1 21 z < 128
def TxH (cB : ClassId) (P : Nat → Nat) (S : MSt) (h : Hp) : Prop := ∃ ml g, SbH cB (P 14) (P 15) 14 ml (S.2 30) g h ∧ agr g S ∧ rT S
theorem TxH_ok (cB : ClassId) : T9ok (TxH cB) := fun P S S' h h' T e21 e30 hF h14 h15 ⟨ml, g, a, b, c⟩ => by
  refine ⟨ml, g, by rw [e30]; exact a.fr hF h14 h15, ?_, ?_⟩
  · unfold agr
    rw [e30, e21]
    exact b
  · unfold rT
    rw [e30, e21]
    exact c
theorem TxH_p (cB : ClassId) : T9p (TxH cB) := fun P P' S h e14 e15 ⟨ml, g, a, b, c⟩ => ⟨ml, g, by rw [e14, e15]; exact a, b, c⟩
theorem rT_wr {S : MSt} (h : rT S) {c : Int} (hc : 0 ≤ c ∧ c < 128) : rT (wrS S c) := fun z z0 z1 => by
  rw [wrS_30] at z1
  rw [wr_21]
  by_cases q : z = S.2 30
  · rw [q, upZ_s]
    exact hc
  · rw [upZ_n q]
    exact h z z0 (by omega)
theorem rT_dig : ∀ (f : Nat) (S : MSt) (n : Int), rT S → 0 ≤ n → rT (digN f S n)
  | 0, S, n, h, _ => h
  | f + 1, S, n, h, hn => by
    rw [digN]
    refine rT_wr ?_ (by omega)
    split
    · exact rT_dig f S (n / 10) h (by omega)
    · exact h
theorem absI_0 (x : Int) : 0 ≤ absI x := by
  unfold absI
  split <;> omega
theorem rT_num {S : MSt} (h : rT S) (x : Int) : rT (numS S x) := by
  unfold numS
  refine rT_dig 4 _ _ ?_ (absI_0 x)
  split
  · exact h
  · exact rT_wr h (by decide)
theorem absI_9 {d : Int} (h : -9 ≤ d ∧ d ≤ 9) : 0 ≤ absI d ∧ absI d ≤ 9 := by
  unfold absI
  split <;> omega
theorem dist_num {S : MSt} {d : Int} (h : -9 ≤ d ∧ d ≤ 9) : distS S d = numS (wrS S (signI d)) (absI d) := by
  have h9 := absI_9 h
  unfold distS
  rw [num_p h9.1, dig1 ⟨h9.1, by omega⟩]
  show wrS (if 9 < absI d then _ else _) _ = _
  rw [if_neg (by omega)]
theorem rT_dist {S : MSt} (h : rT S) {d : Int} (hd : -9 ≤ d ∧ d ≤ 9) : rT (distS S d) := by
  rw [dist_num hd]
  refine rT_num (rT_wr h ?_) _
  unfold signI
  split <;> omega
theorem szI_abs {d : Int} (h : -9 ≤ d ∧ d ≤ 9) : szI (absI d) = 1 := by
  have h9 := absI_9 h
  rw [szI_p h9.1, if_pos (by omega)]
section
variable {cB cI cO : ClassId} {ee : Nat} {P : Nat → Nat} {S S' X : MSt} {h h' : Hp}
theorem CW.txt (H : CW cI cO ee (TxH cB) P S X h) (hw : WFp S) (hF : Fr (tC 14) h h') (ht : TxH cB P S' h') (e0 : S'.1 0 = S.1 0) (e : ∀ k, 4 ≤ k → k < 16 → S'.1 k = S.1 k) (e22 : S'.2 22 = S.2 22) (e23 : S'.2 23 = S.2 23) (e26 : S'.2 26 = S.2 26) (e27 : S'.2 27 = S.2 27) (e28 : S'.2 28 = S.2 28) : CW cI cO ee (TxH cB) P S' X h' := by
  obtain ⟨a1, a2, a3, a4, a5, a6, a7, a8⟩ := H
  have nt : ∀ u, u ≠ 14 → u ≠ 15 → ¬ tC 14 u := fun u q1 q2 z => by
    unfold tC at z
    omega
  refine ⟨?_, by rw [e0]; exact a2.fr hF (nt _ (by decide) (by decide)) (nt _ (by decide) (by decide)), a3.fr hF (nt _ (by decide) (by decide)) (nt _ (by decide) (by decide)), AuX.fr a4 hF (fun u _ _ => nt _ (by omega) (by omega)), a5.fr hF (nt _ (by decide) (by decide)) (nt _ (by decide) (by decide)), DpX.fr (X := X) a6 hF (nt _ (by decide) (by decide)), ht, ?_⟩
  · have b := MnH.fr (X := X) a1 hF (nt _ (by decide) (by decide))
    unfold MnH mnF at b ⊢
    rw [e26, e27, e28]
    exact b
  · have b := MrH.fr (S := S) a8 hw hF (fun u _ _ => nt _ (by omega) (by omega))
    simp only [MrH, MacL, RulL, Mac1, Rul1, stF, e22, e23, e 4 (by decide) (by decide), e 5 (by decide) (by decide), e 6 (by decide) (by decide), e 7 (by decide) (by decide), e 8 (by decide) (by decide), e 9 (by decide) (by decide), e 10 (by decide) (by decide), e 11 (by decide) (by decide), e 12 (by decide) (by decide), e 13 (by decide) (by decide), e 14 (by decide) (by decide), e 15 (by decide) (by decide)] at b ⊢
    exact b
end
theorem tx_1 {k : Nat} (h : k ≠ 21) (S : MSt) (x : Int) : (numS S x).1 k = S.1 k ∧ (distS S x).1 k = S.1 k := by
  refine ⟨?_, distS_1 S x k h⟩
  unfold numS
  rw [digN_1 k h]
  split
  · rfl
  · exact wrS_1 S 45 k h
theorem tx_2 {k : Nat} (h : k ≠ 30) (S : MSt) (x : Int) : (numS S x).2 k = S.2 k ∧ (distS S x).2 k = S.2 k := by
  constructor
  · unfold numS
    rw [digN_2 k h]
    split
    · rfl
    · exact wrS_2 S 45 k h
  · unfold distS
    rw [digN_2 k h, wrS_2 S _ k h]
theorem WFp_wr {S : MSt} {c : Int} (h : WFp S) : WFp (wrS S c) := WFp_of h (fun k _ _ => wrS_1 S c k (by omega)) ⟨wrS_2 S c 22 (by decide), wrS_2 S c 23 (by decide), wrS_2 S c 27 (by decide), wrS_2 S c 28 (by decide)⟩ (by rw [wrS_1 S c 0 (by decide)]; exact h.2.2.2.2.2)
theorem WFp_dist {S : MSt} {d : Int} (h : WFp S) : WFp (distS S d) := WFp_of h (fun k _ _ => (tx_1 (by omega) S d).2) ⟨(tx_2 (by decide) S d).2, (tx_2 (by decide) S d).2, (tx_2 (by decide) S d).2, (tx_2 (by decide) S d).2⟩ (by rw [(tx_1 (by decide) S d).2]; exact h.2.2.2.2.2)
theorem dist_30 {S : MSt} {d : Int} (h : -9 ≤ d ∧ d ≤ 9) : (distS S d).2 30 = S.2 30 + 2 := by
  have h9 := absI_9 h
  rw [dist_num h, num_p h9.1, dig1 ⟨h9.1, by omega⟩, wrS_30, wrS_30]
  omega
theorem ydX7_writeDistance : yX7_writeDistance.cls = RX7 ∧ yX7_writeDistance.cls ≠ "java/lang/invoke/MethodHandle" ∧ yX7_writeDistance.cls ≠ "java/lang/invoke/VarHandle" ∧ (parseMethodDescriptor yX7_writeDistance.desc).map (fun d => d.parameters.length) = some 1 := by decide +kernel
theorem ydX7_writeStep : yX7_writeStep.cls = RX7 ∧ yX7_writeStep.cls ≠ "java/lang/invoke/MethodHandle" ∧ yX7_writeStep.cls ≠ "java/lang/invoke/VarHandle" ∧ (parseMethodDescriptor yX7_writeStep.desc).map (fun d => d.parameters.length) = some 2 := by decide +kernel
theorem ydX7_textAt : yX7_textAt.cls = RX7 ∧ yX7_textAt.cls ≠ "java/lang/invoke/MethodHandle" ∧ yX7_textAt.cls ≠ "java/lang/invoke/VarHandle" ∧ (parseMethodDescriptor yX7_textAt.desc).map (fun d => d.parameters.length) = some 1 := by decide +kernel
section
variable {l : Launch} {D : va_G} {cB cC cI cO cJ cD : ClassId} {ee : Nat} {P : Nat → Nat} {S X : MSt}
set_option maxHeartbeats 4000000 in
set_option maxRecDepth 100000 in
theorem kX7_writeDistance (hwp : WFp S) {d : Int} (hd : -9 ≤ d ∧ d ≤ 9) (hn : S.2 30 + 2 ≤ 16) : Ct l yX7_writeDistance wsX7_writeDistance ({ frames := 5, cells := 0, slots := 0, locals := 140 } : Room) D (tyL cB cC cI cO cJ cD) ee [.ref (P 1), .int (iI d)] (CW cI cO ee (TxH cB) P S X) (fun h v9 h' => v9 = none ∧ CW cI cO ee (TxH cB) P (distS S d) X h' ∧ Fr (tC 14) h h') (0) (0) := by
  refine Ct_of (cc := cX7_writeDistance) (own := RX7) [some (.ref (P 1)), some (.int (iI d))] (by decide) rfl rfl (Nat.le_of_ble_eq_true rfl) (fun i9 v9 h9 => argL [.ref (P 1), .int (iI d)] 0 rfl i9 v9 h9) ?_
  intro p e s m9 args below meth c9 h0 sz hI C hr hlk hinit
  have hin : ∀ w ∈ wsX70, w ∈ wsX7_writeDistance := by decide +kernel
  have ha9 := absI_9 hd
  have hn0 : 0 ≤ S.2 30 := by
    obtain ⟨ml, g, hsb, -, -⟩ := hI.2.2.2.2.2.2.1
    exact hsb.2.2.1
  refine V_weak (I2 := fun x9 => CW cI cO ee (TxH cB) P S X x9 ∧ Fr (tC 14) h0 x9) (fun x9 hx9 => by subst hx9; exact ⟨hI, Fr.refl⟩) ?_
  refine V_aload0 (pc' := 1) C dX7_writeDistance_0 rfl ?_
  refine V_getf (pc' := 4) (T := TX7) (N := 13) (ci := 12) C hin rfl 6 (by decide) (by decide +kernel) (fun h hh => ⟨1, _, hh.1.1, rfl⟩) dX7_writeDistance_1 rfl ?_
  refine V_iload1 (pc' := 5) C dX7_writeDistance_4 rfl ?_
  refine V_ifge (tgt := 13) C (by omega) dX7_writeDistance_5 (by decide) rfl (fun c_5 => ?_) (fun c_5 => ?_)
  · refine V_bipush (pc' := 15) C dX7_writeDistance_13 rfl (by decide) ?_
    refine V_fix (fun g1 hg1 => ?_)
    obtain ⟨ml, g, hsb, hag, hrt⟩ := hg1.1.2.2.2.2.2.2.1
    refine V_callV (ci := 1) (n := 1) [.int (iI 43)] C (kJ4_append_cf468 (la := P 14) (v := P 15) (t := 14) (ml := ml) (n := S.2 30) (g := g) (z := 43) ⟨by decide, by decide⟩ (by omega)) gX7_writeDistance_J4_append_cf468 rfl ydJ4_append_cf468 ⟨Nat.le_of_ble_eq_true rfl, Nat.le_of_ble_eq_true rfl⟩ ⟨rfl, rfl⟩ rfl rfl (fun h hh => by subst hh; exact ⟨14, _, hsb.1⟩) (fun h hh => by subst hh; exact hsb) rfl (Nat.le_of_ble_eq_true rfl) dX7_writeDistance_15 ⟨Nat.le_of_ble_eq_true rfl, Nat.le_of_ble_eq_true rfl⟩ (fun h v9 h' hh hj9 => ?_)
    obtain ⟨rfl, hj1, hj2⟩ := hj9
    subst hh
    refine V_weak (I2 := fun x9 => CW cI cO ee (TxH cB) P (wrS S 43) X x9 ∧ Fr (tC 14) h0 x9) (fun x9 hx9 => by rw [hx9]; exact ⟨CW.txt hg1.1 hwp hj2 ⟨ml, _, by rw [wrS_30]; exact hj1, agr_ch hag 43, rT_wr hrt ⟨by decide, by decide⟩⟩ (wrS_1 _ _ 0 (by decide)) (fun k _ _ => wrS_1 _ _ k (by omega)) (wrS_2 _ _ 22 (by decide)) (wrS_2 _ _ 23 (by decide)) (wrS_2 _ _ 26 (by decide)) (wrS_2 _ _ 27 (by decide)) (wrS_2 _ _ 28 (by decide)), hg1.2.trans hj2⟩) ?_
    refine V_pop (pc' := 19) C rfl dX7_writeDistance_18 rfl ?_
    refine V_aload0 (pc' := 20) C dX7_writeDistance_19 rfl ?_
    refine V_getf (pc' := 23) (T := TX7) (N := 13) (ci := 12) C hin rfl 6 (by decide) (by decide +kernel) (fun h hh => ⟨1, _, hh.1.1, rfl⟩) dX7_writeDistance_20 rfl ?_
    refine V_iload1 (pc' := 24) C dX7_writeDistance_23 rfl ?_
    refine V_mabs (pc' := 27) C (by decide +kernel) (by decide +kernel) (by decide +kernel) (by decide +kernel) ⟨Nat.le_of_ble_eq_true rfl, Nat.le_of_ble_eq_true rfl⟩ ⟨Nat.le_refl _, Nat.le_refl _⟩ ⟨by omega, by omega⟩ dX7_writeDistance_24 rfl ?_
    refine V_fix (fun g1 hg1 => ?_)
    obtain ⟨ml, g, hsb, hag, hrt⟩ := hg1.1.2.2.2.2.2.2.1
    refine V_callV (ci := 1) (n := 1) [.int (iI (absI d))] C (kJ4_append_bf812 (la := P 14) (v := P 15) (t := 14) (ml := ml) (n := (wrS S 43).2 30) (g := g) (i := absI d) ⟨by omega, by omega⟩ (by rw [szI_abs hd, wrS_30]; omega)) gX7_writeDistance_J4_append_bf812 rfl ydJ4_append_bf812 ⟨Nat.le_of_ble_eq_true rfl, Nat.le_of_ble_eq_true rfl⟩ ⟨rfl, rfl⟩ rfl rfl (fun h hh => by subst hh; exact ⟨14, _, hsb.1⟩) (fun h hh => by subst hh; exact hsb) rfl (Nat.le_of_ble_eq_true rfl) dX7_writeDistance_27 ⟨Nat.le_of_ble_eq_true rfl, Nat.le_of_ble_eq_true rfl⟩ (fun h v9 h' hh hj9 => ?_)
    obtain ⟨rfl, ⟨g9, hj1, hj3⟩, hj2⟩ := hj9
    subst hh
    obtain ⟨hj4, hj5⟩ := hj3 (wrS S 43) rfl hag
    refine V_weak (I2 := fun x9 => CW cI cO ee (TxH cB) P (numS (wrS S 43) (absI d)) X x9 ∧ Fr (tC 14) h0 x9) (fun x9 hx9 => by rw [hx9]; exact ⟨CW.txt hg1.1 (WFp_wr hwp) hj2 ⟨ml, g9, by rw [hj5]; exact hj1, hj4, rT_num hrt _⟩ (tx_1 (by decide) _ _).1 (fun k _ _ => (tx_1 (by omega) _ _).1) (tx_2 (by decide) _ _).1 (tx_2 (by decide) _ _).1 (tx_2 (by decide) _ _).1 (tx_2 (by decide) _ _).1 (tx_2 (by decide) _ _).1, hg1.2.trans hj2⟩) ?_
    refine V_pop (pc' := 31) C rfl dX7_writeDistance_30 rfl ?_
    exact V_endv C hr hlk (fun h' hh => ⟨rfl, by have h8 := hh.1; rw [show wrS S 43 = wrS S (signI d) by rw [show signI d = 43 from if_pos c_5], ← dist_num hd] at h8; exact h8, hh.2⟩) ⟨Nat.le_refl _, Nat.le_refl _⟩ dX7_writeDistance_31
  · refine V_bipush (pc' := 10) C dX7_writeDistance_8 rfl (by decide) ?_
    refine V_goto (tgt := 15) C dX7_writeDistance_10 (by decide) ?_
    refine V_fix (fun g1 hg1 => ?_)
    obtain ⟨ml, g, hsb, hag, hrt⟩ := hg1.1.2.2.2.2.2.2.1
    refine V_callV (ci := 1) (n := 1) [.int (iI 45)] C (kJ4_append_cf468 (la := P 14) (v := P 15) (t := 14) (ml := ml) (n := S.2 30) (g := g) (z := 45) ⟨by decide, by decide⟩ (by omega)) gX7_writeDistance_J4_append_cf468 rfl ydJ4_append_cf468 ⟨Nat.le_of_ble_eq_true rfl, Nat.le_of_ble_eq_true rfl⟩ ⟨rfl, rfl⟩ rfl rfl (fun h hh => by subst hh; exact ⟨14, _, hsb.1⟩) (fun h hh => by subst hh; exact hsb) rfl (Nat.le_of_ble_eq_true rfl) dX7_writeDistance_15 ⟨Nat.le_of_ble_eq_true rfl, Nat.le_of_ble_eq_true rfl⟩ (fun h v9 h' hh hj9 => ?_)
    obtain ⟨rfl, hj1, hj2⟩ := hj9
    subst hh
    refine V_weak (I2 := fun x9 => CW cI cO ee (TxH cB) P (wrS S 45) X x9 ∧ Fr (tC 14) h0 x9) (fun x9 hx9 => by rw [hx9]; exact ⟨CW.txt hg1.1 hwp hj2 ⟨ml, _, by rw [wrS_30]; exact hj1, agr_ch hag 45, rT_wr hrt ⟨by decide, by decide⟩⟩ (wrS_1 _ _ 0 (by decide)) (fun k _ _ => wrS_1 _ _ k (by omega)) (wrS_2 _ _ 22 (by decide)) (wrS_2 _ _ 23 (by decide)) (wrS_2 _ _ 26 (by decide)) (wrS_2 _ _ 27 (by decide)) (wrS_2 _ _ 28 (by decide)), hg1.2.trans hj2⟩) ?_
    refine V_pop (pc' := 19) C rfl dX7_writeDistance_18 rfl ?_
    refine V_aload0 (pc' := 20) C dX7_writeDistance_19 rfl ?_
    refine V_getf (pc' := 23) (T := TX7) (N := 13) (ci := 12) C hin rfl 6 (by decide) (by decide +kernel) (fun h hh => ⟨1, _, hh.1.1, rfl⟩) dX7_writeDistance_20 rfl ?_
    refine V_iload1 (pc' := 24) C dX7_writeDistance_23 rfl ?_
    refine V_mabs (pc' := 27) C (by decide +kernel) (by decide +kernel) (by decide +kernel) (by decide +kernel) ⟨Nat.le_of_ble_eq_true rfl, Nat.le_of_ble_eq_true rfl⟩ ⟨Nat.le_refl _, Nat.le_refl _⟩ ⟨by omega, by omega⟩ dX7_writeDistance_24 rfl ?_
    refine V_fix (fun g1 hg1 => ?_)
    obtain ⟨ml, g, hsb, hag, hrt⟩ := hg1.1.2.2.2.2.2.2.1
    refine V_callV (ci := 1) (n := 1) [.int (iI (absI d))] C (kJ4_append_bf812 (la := P 14) (v := P 15) (t := 14) (ml := ml) (n := (wrS S 45).2 30) (g := g) (i := absI d) ⟨by omega, by omega⟩ (by rw [szI_abs hd, wrS_30]; omega)) gX7_writeDistance_J4_append_bf812 rfl ydJ4_append_bf812 ⟨Nat.le_of_ble_eq_true rfl, Nat.le_of_ble_eq_true rfl⟩ ⟨rfl, rfl⟩ rfl rfl (fun h hh => by subst hh; exact ⟨14, _, hsb.1⟩) (fun h hh => by subst hh; exact hsb) rfl (Nat.le_of_ble_eq_true rfl) dX7_writeDistance_27 ⟨Nat.le_of_ble_eq_true rfl, Nat.le_of_ble_eq_true rfl⟩ (fun h v9 h' hh hj9 => ?_)
    obtain ⟨rfl, ⟨g9, hj1, hj3⟩, hj2⟩ := hj9
    subst hh
    obtain ⟨hj4, hj5⟩ := hj3 (wrS S 45) rfl hag
    refine V_weak (I2 := fun x9 => CW cI cO ee (TxH cB) P (numS (wrS S 45) (absI d)) X x9 ∧ Fr (tC 14) h0 x9) (fun x9 hx9 => by rw [hx9]; exact ⟨CW.txt hg1.1 (WFp_wr hwp) hj2 ⟨ml, g9, by rw [hj5]; exact hj1, hj4, rT_num hrt _⟩ (tx_1 (by decide) _ _).1 (fun k _ _ => (tx_1 (by omega) _ _).1) (tx_2 (by decide) _ _).1 (tx_2 (by decide) _ _).1 (tx_2 (by decide) _ _).1 (tx_2 (by decide) _ _).1 (tx_2 (by decide) _ _).1, hg1.2.trans hj2⟩) ?_
    refine V_pop (pc' := 31) C rfl dX7_writeDistance_30 rfl ?_
    exact V_endv C hr hlk (fun h' hh => ⟨rfl, by have h8 := hh.1; rw [show wrS S 45 = wrS S (signI d) by rw [show signI d = 45 from if_neg c_5], ← dist_num hd] at h8; exact h8, hh.2⟩) ⟨Nat.le_refl _, Nat.le_refl _⟩ dX7_writeDistance_31
set_option maxHeartbeats 4000000 in
set_option maxRecDepth 100000 in
theorem kX7_writeStep (hwp : WFp S) (hkd : KD S) {m k : Nat} (hm1 : (m : Int) < S.2 22) (hk1 : (k : Int) < S.1 4 m) : Ct l yX7_writeStep wsX7_writeStep ({ frames := 7, cells := 0, slots := 0, locals := 190 } : Room) D (tyL cB cC cI cO cJ cD) ee [.ref (P 1), .int (iI (m : Int)), .int (iI (k : Int))] (CW cI cO ee (TxH cB) P S X) (Ji fun h z9 h' => z9 = (stepS S (10 * (m : Int) + (k : Int))).2 30 ∧ CW cI cO ee (TxH cB) P (stepS S (10 * (m : Int) + (k : Int))) X h' ∧ Fr (tC 14) h h') (0) (0) := by
  refine Ct_of (cc := cX7_writeStep) (own := RX7) [some (.ref (P 1)), some (.int (iI (m : Int))), some (.int (iI (k : Int))), none] (by decide) rfl rfl (Nat.le_of_ble_eq_true rfl) (fun i9 v9 h9 => argL [.ref (P 1), .int (iI (m : Int)), .int (iI (k : Int))] 1 rfl i9 v9 h9) ?_
  intro p e s m9 args below meth c9 h0 sz hI C hr hlk hinit
  have hin : ∀ w ∈ wsX70, w ∈ wsX7_writeStep := by decide +kernel
  have hin6 : ∀ w ∈ wsX60, w ∈ wsX7_writeStep := by decide +kernel
  obtain ⟨hw1, hw2, hw3, hw4, hw5, hw6⟩ := id hwp
  obtain ⟨hma, ⟨md, ar, hsl⟩, hstp, -⟩ := hI.2.2.2.2.2.2.2.2.1 m hm1
  have hm9 := hw2 m (by omega) (by omega)
  have hs9 := hw1 (10 * (m : Int) + (k : Int)) (by omega) (by omega)
  have hk9 := hkd m k (by omega) (by omega) (by omega) (by omega)
  have l1 : (wrS (uG S 30 0) (S.1 5 (10 * (m : Int) + (k : Int)))).2 30 = 1 := by rw [wrS_30, uG_s]; decide
  have l2 : (distS (wrS (uG S 30 0) (S.1 5 (10 * (m : Int) + (k : Int)))) (S.1 6 (10 * (m : Int) + (k : Int)))).2 30 = 3 := by rw [dist_30 ⟨by omega, by omega⟩, l1]; decide
  have l3 : (distS (distS (wrS (uG S 30 0) (S.1 5 (10 * (m : Int) + (k : Int)))) (S.1 6 (10 * (m : Int) + (k : Int)))) (S.1 7 (10 * (m : Int) + (k : Int)))).2 30 = 5 := by rw [dist_30 ⟨by omega, by omega⟩, l2]; decide
  have l4 : (wrS (distS (distS (wrS (uG S 30 0) (S.1 5 (10 * (m : Int) + (k : Int)))) (S.1 6 (10 * (m : Int) + (k : Int)))) (S.1 7 (10 * (m : Int) + (k : Int)))) 61).2 30 = 6 := by rw [wrS_30, l3]; decide
  have hwa : WFp (uG S 30 0) := hwp
  have hsz := szI_in (i := S.1 8 (10 * (m : Int) + (k : Int))) ⟨by omega, by omega⟩
  refine V_weak (I2 := fun x9 => CW cI cO ee (TxH cB) P S X x9 ∧ Fr (tC 14) h0 x9) (fun x9 hx9 => by subst hx9; exact ⟨hI, Fr.refl⟩) ?_
  refine V_aload0 (pc' := 1) C dX7_writeStep_0 rfl ?_
  refine V_iload1 (pc' := 2) C dX7_writeStep_1 rfl ?_
  refine V_callV (ci := 12) (n := 1) [.int (iI (m : Int))] C (kX7_neededMacro (z := (m : Int)) hwp ⟨by omega, by omega⟩) gX7_writeStep_X7_neededMacro rfl ydX7_neededMacro ⟨Nat.le_of_ble_eq_true rfl, Nat.le_of_ble_eq_true rfl⟩ ⟨rfl, rfl⟩ rfl rfl (fun h hh => ⟨1, _, hh.1.1⟩) (fun h hh => hh.1) rfl (Nat.le_of_ble_eq_true rfl) dX7_writeStep_2 ⟨Nat.le_of_ble_eq_true rfl, Nat.le_of_ble_eq_true rfl⟩ (fun h v h' hh hj9 => ?_)
  obtain ⟨rfl, rfl⟩ := hj9
  refine V_weak (I2 := fun x9 => CW cI cO ee (TxH cB) P S X x9 ∧ Fr (tC 14) h0 x9) (fun x9 hx9 => by rw [hx9]; exact hh) ?_
  refine V_eq (st2 := [.ref (P (100 + m))]) (by rw [Int.toNat_natCast]; rfl) ?_
  refine V_iload2 (pc' := 6) C dX7_writeStep_5 rfl ?_
  refine V_callV (ci := 8) (n := 1) [.int (iI (k : Int))] C (kX3_stepAt_s (t := 100 + m) (ts := 110 + m) (sl := P (110 + m)) (gl := P (130 + m)) (z := (m : Int)) (md := md) (ar := ar) (sn := S.1 4 m) (f := fstP P (200 + 10 * m) (S.1 4 m)) (i := (k : Int)) (bs := P (200 + 10 * m + k)) (tb := 200 + 10 * m + k) (fs := stF S (10 * m + k)) ⟨by omega, by omega⟩ (by rw [Int.toNat_natCast]; exact fstP_at (by omega))) gX7_writeStep_X3_stepAt rfl ydX3_stepAt ⟨Nat.le_of_ble_eq_true rfl, Nat.le_of_ble_eq_true rfl⟩ ⟨rfl, rfl⟩ rfl rfl (fun h hh => ⟨100 + m, _, hh.2 _ _ _ hma (by unfold tC; omega)⟩) (fun h hh => ⟨hh.2 _ _ _ hma (by unfold tC; omega), hsl.fr hh.2 (by unfold tC; omega) (by unfold tC; omega), (hh.2 _ _ _ (hstp k (by omega)) (by unfold tC; omega))⟩) rfl (Nat.le_of_ble_eq_true rfl) dX7_writeStep_6 ⟨Nat.le_of_ble_eq_true rfl, Nat.le_of_ble_eq_true rfl⟩ (fun h v h' hh hj9 => ?_)
  obtain ⟨rfl, rfl⟩ := hj9
  refine V_weak (I2 := fun x9 => CW cI cO ee (TxH cB) P S X x9 ∧ Fr (tC 14) h0 x9) (fun x9 hx9 => by rw [hx9]; exact hh) ?_
  refine V_astore3 (pc' := 10) C dX7_writeStep_9 rfl (by decide) rfl ?_
  refine V_aload3 (pc' := 11) C dX7_writeStep_10 rfl ?_
  refine V_ifnonnull (tgt := 25) C dX7_writeStep_11 (by decide) ?_
  refine V_aload0 (pc' := 26) C dX7_writeStep_25 rfl ?_
  refine V_getf (pc' := 29) (T := TX7) (N := 13) (ci := 12) C hin rfl 6 (by decide) (by decide +kernel) (fun h hh => ⟨1, _, hh.1.1, rfl⟩) dX7_writeStep_26 rfl ?_
  refine V_iconst (pc' := 30) C dX7_writeStep_29 rfl ?_
  refine V_fix (fun g1 hg1 => ?_)
  obtain ⟨ml, g, hsb, hag, hrt⟩ := hg1.1.2.2.2.2.2.2.1
  refine V_callV (ci := 1) (n := 1) [.int (iI 0)] C (kJ4_setLength_d00df (la := P 14) (v := P 15) (t := 14) (ml := ml) (n := S.2 30) (g := g)) gX7_writeStep_J4_setLength_d00df rfl ydJ4_setLength_d00df ⟨Nat.le_of_ble_eq_true rfl, Nat.le_of_ble_eq_true rfl⟩ ⟨rfl, rfl⟩ rfl rfl (fun h hh => by subst hh; exact ⟨14, _, hsb.1⟩) (fun h hh => by subst hh; exact hsb) rfl (Nat.le_of_ble_eq_true rfl) dX7_writeStep_30 ⟨Nat.le_of_ble_eq_true rfl, Nat.le_of_ble_eq_true rfl⟩ (fun h v9 h' hh hj9 => ?_)
  obtain ⟨rfl, ⟨m9, hj1⟩, hj2⟩ := hj9
  subst hh
  refine V_weak (I2 := fun x9 => CW cI cO ee (TxH cB) P (uG S 30 0) X x9 ∧ Fr (tC 14) h0 x9) (fun x9 hx9 => by rw [hx9]; exact ⟨CW.txt hg1.1 hwp hj2 ⟨m9, g, by rw [uG_s]; exact hj1, fun z z0 z1 => by rw [uG_s] at z1; omega, fun z z0 z1 => by rw [uG_s] at z1; omega⟩ rfl (fun _ _ _ => rfl) rfl rfl rfl rfl rfl, hg1.2.trans hj2⟩) ?_
  refine V_aload0 (pc' := 34) C dX7_writeStep_33 rfl ?_
  refine V_getf (pc' := 37) (T := TX7) (N := 13) (ci := 12) C hin rfl 6 (by decide) (by decide +kernel) (fun h hh => ⟨1, _, hh.1.1, rfl⟩) dX7_writeStep_34 rfl ?_
  refine V_aload3 (pc' := 38) C dX7_writeStep_37 rfl ?_
  refine V_getfN (pc' := 41) (T := TX6) (N := 4) (ci := 11) C hin6 rfl 0 (by decide) (by decide) (fun h hh => ⟨200 + 10 * m + k, _, (hh.2 _ _ _ (hstp k (by omega)) (by unfold tC; omega)), rfl⟩) dX7_writeStep_38 rfl ?_
  refine V_fix (fun g1 hg1 => ?_)
  obtain ⟨ml, g, hsb, hag, hrt⟩ := hg1.1.2.2.2.2.2.2.1
  refine V_callV (ci := 1) (n := 1) [.int (iI (S.1 5 (10 * (m : Int) + (k : Int))))] C (kJ4_append_cf468 (la := P 14) (v := P 15) (t := 14) (ml := ml) (n := (uG S 30 0).2 30) (g := g) (z := S.1 5 (10 * (m : Int) + (k : Int))) ⟨by omega, by omega⟩ (by rw [uG_s]; decide)) gX7_writeStep_J4_append_cf468 rfl ydJ4_append_cf468 ⟨Nat.le_of_ble_eq_true rfl, Nat.le_of_ble_eq_true rfl⟩ ⟨rfl, rfl⟩ rfl rfl (fun h hh => by subst hh; exact ⟨14, _, hsb.1⟩) (fun h hh => by subst hh; exact hsb) rfl (Nat.le_of_ble_eq_true rfl) dX7_writeStep_41 ⟨Nat.le_of_ble_eq_true rfl, Nat.le_of_ble_eq_true rfl⟩ (fun h v9 h' hh hj9 => ?_)
  obtain ⟨rfl, hj1, hj2⟩ := hj9
  subst hh
  refine V_weak (I2 := fun x9 => CW cI cO ee (TxH cB) P (wrS (uG S 30 0) (S.1 5 (10 * (m : Int) + (k : Int)))) X x9 ∧ Fr (tC 14) h0 x9) (fun x9 hx9 => by rw [hx9]; exact ⟨CW.txt hg1.1 hwa hj2 ⟨ml, _, by rw [wrS_30]; exact hj1, agr_ch hag (S.1 5 (10 * (m : Int) + (k : Int))), rT_wr hrt ⟨by omega, by omega⟩⟩ (wrS_1 _ _ 0 (by decide)) (fun k _ _ => wrS_1 _ _ k (by omega)) (wrS_2 _ _ 22 (by decide)) (wrS_2 _ _ 23 (by decide)) (wrS_2 _ _ 26 (by decide)) (wrS_2 _ _ 27 (by decide)) (wrS_2 _ _ 28 (by decide)), hg1.2.trans hj2⟩) ?_
  refine V_pop (pc' := 45) C rfl dX7_writeStep_44 rfl ?_
  refine V_aload0 (pc' := 46) C dX7_writeStep_45 rfl ?_
  refine V_aload3 (pc' := 47) C dX7_writeStep_46 rfl ?_
  refine V_getfN (pc' := 50) (T := TX6) (N := 4) (ci := 11) C hin6 rfl 1 (by decide) (by decide) (fun h hh => ⟨200 + 10 * m + k, _, (hh.2 _ _ _ (hstp k (by omega)) (by unfold tC; omega)), rfl⟩) dX7_writeStep_47 rfl ?_
  refine V_callV (ci := 12) (n := 1) [.int (iI (S.1 6 (10 * (m : Int) + (k : Int))))] C (kX7_writeDistance (S := (wrS (uG S 30 0) (S.1 5 (10 * (m : Int) + (k : Int))))) (WFp_wr hwa) (d := S.1 6 (10 * (m : Int) + (k : Int))) ⟨by omega, by omega⟩ (by rw [l1]; decide)) gX7_writeStep_X7_writeDistance rfl ydX7_writeDistance ⟨Nat.le_of_ble_eq_true rfl, Nat.le_of_ble_eq_true rfl⟩ ⟨rfl, rfl⟩ rfl rfl (fun h hh => ⟨1, _, hh.1.1⟩) (fun h hh => hh.1) rfl (Nat.le_of_ble_eq_true rfl) dX7_writeStep_50 ⟨Nat.le_of_ble_eq_true rfl, Nat.le_of_ble_eq_true rfl⟩ (fun h v h' hh hj9 => ?_)
  obtain ⟨rfl, hj1, hj2⟩ := hj9
  refine V_weak (I2 := fun x9 => CW cI cO ee (TxH cB) P (distS (wrS (uG S 30 0) (S.1 5 (10 * (m : Int) + (k : Int)))) (S.1 6 (10 * (m : Int) + (k : Int)))) X x9 ∧ Fr (tC 14) h0 x9) (fun x9 hx9 => by rw [hx9]; exact ⟨hj1, hh.2.trans hj2⟩) ?_
  refine V_aload0 (pc' := 54) C dX7_writeStep_53 rfl ?_
  refine V_aload3 (pc' := 55) C dX7_writeStep_54 rfl ?_
  refine V_getfN (pc' := 58) (T := TX6) (N := 4) (ci := 11) C hin6 rfl 2 (by decide) (by decide) (fun h hh => ⟨200 + 10 * m + k, _, (hh.2 _ _ _ (hstp k (by omega)) (by unfold tC; omega)), rfl⟩) dX7_writeStep_55 rfl ?_
  refine V_callV (ci := 12) (n := 1) [.int (iI (S.1 7 (10 * (m : Int) + (k : Int))))] C (kX7_writeDistance (S := (distS (wrS (uG S 30 0) (S.1 5 (10 * (m : Int) + (k : Int)))) (S.1 6 (10 * (m : Int) + (k : Int))))) (WFp_dist (WFp_wr hwa)) (d := S.1 7 (10 * (m : Int) + (k : Int))) ⟨by omega, by omega⟩ (by rw [l2]; decide)) gX7_writeStep_X7_writeDistance rfl ydX7_writeDistance ⟨Nat.le_of_ble_eq_true rfl, Nat.le_of_ble_eq_true rfl⟩ ⟨rfl, rfl⟩ rfl rfl (fun h hh => ⟨1, _, hh.1.1⟩) (fun h hh => hh.1) rfl (Nat.le_of_ble_eq_true rfl) dX7_writeStep_58 ⟨Nat.le_of_ble_eq_true rfl, Nat.le_of_ble_eq_true rfl⟩ (fun h v h' hh hj9 => ?_)
  obtain ⟨rfl, hj1, hj2⟩ := hj9
  refine V_weak (I2 := fun x9 => CW cI cO ee (TxH cB) P (distS (distS (wrS (uG S 30 0) (S.1 5 (10 * (m : Int) + (k : Int)))) (S.1 6 (10 * (m : Int) + (k : Int)))) (S.1 7 (10 * (m : Int) + (k : Int)))) X x9 ∧ Fr (tC 14) h0 x9) (fun x9 hx9 => by rw [hx9]; exact ⟨hj1, hh.2.trans hj2⟩) ?_
  refine V_aload3 (pc' := 62) C dX7_writeStep_61 rfl ?_
  refine V_getfN (pc' := 65) (T := TX6) (N := 4) (ci := 11) C hin6 rfl 0 (by decide) (by decide) (fun h hh => ⟨200 + 10 * m + k, _, (hh.2 _ _ _ (hstp k (by omega)) (by unfold tC; omega)), rfl⟩) dX7_writeStep_62 rfl ?_
  refine V_bipush (pc' := 67) C dX7_writeStep_65 rfl (by decide) ?_
  refine V_icmpeq (tgt := 92) C (by omega) dX7_writeStep_67 (by decide) rfl (fun c_67 => ?_) (fun c_67 => ?_)
  · refine V_aload0 (pc' := 93) C dX7_writeStep_92 rfl ?_
    refine V_getf (pc' := 96) (T := TX7) (N := 13) (ci := 12) C hin rfl 6 (by decide) (by decide +kernel) (fun h hh => ⟨1, _, hh.1.1, rfl⟩) dX7_writeStep_93 rfl ?_
    refine V_fix (fun g1 hg1 => ?_)
    obtain ⟨ml, g, hsb, hag, hrt⟩ := hg1.1.2.2.2.2.2.2.1
    refine V_callV (ci := 1) (n := 0) [] C (kJ4_length_8abf5 (la := P 14) (v := P 15) (t := 14) (ml := ml) (n := (distS (distS (wrS (uG S 30 0) (S.1 5 (10 * (m : Int) + (k : Int)))) (S.1 6 (10 * (m : Int) + (k : Int)))) (S.1 7 (10 * (m : Int) + (k : Int)))).2 30) (g := g)) gX7_writeStep_J4_length_8abf5 rfl ydJ4_length_8abf5 ⟨Nat.le_of_ble_eq_true rfl, Nat.le_of_ble_eq_true rfl⟩ ⟨rfl, rfl⟩ rfl rfl (fun h hh => by subst hh; exact ⟨14, _, hsb.1⟩) (fun h hh => by subst hh; exact hsb) rfl (Nat.le_of_ble_eq_true rfl) dX7_writeStep_96 ⟨Nat.le_of_ble_eq_true rfl, Nat.le_of_ble_eq_true rfl⟩ (fun h v9 h' hh hj9 => ?_)
    obtain ⟨r9, rfl, hj8, rfl⟩ := hj9
    rw [hj8]
    subst hh
    refine V_weak (I2 := fun x9 => CW cI cO ee (TxH cB) P (distS (distS (wrS (uG S 30 0) (S.1 5 (10 * (m : Int) + (k : Int)))) (S.1 6 (10 * (m : Int) + (k : Int)))) (S.1 7 (10 * (m : Int) + (k : Int)))) X x9 ∧ Fr (tC 14) h0 x9) (fun x9 hx9 => by rw [hx9]; exact hg1) ?_
    exact V_end C hr hlk (fun h' hh => ⟨_, rfl, by rw [stepS_99 c_67], by rw [stepS_99 c_67]; exact hh.1, hh.2⟩) ⟨Nat.le_refl _, Nat.le_refl _⟩ dX7_writeStep_99
  · refine V_aload0 (pc' := 71) C dX7_writeStep_70 rfl ?_
    refine V_getf (pc' := 74) (T := TX7) (N := 13) (ci := 12) C hin rfl 6 (by decide) (by decide +kernel) (fun h hh => ⟨1, _, hh.1.1, rfl⟩) dX7_writeStep_71 rfl ?_
    refine V_bipush (pc' := 76) C dX7_writeStep_74 rfl (by decide) ?_
    refine V_fix (fun g1 hg1 => ?_)
    obtain ⟨ml, g, hsb, hag, hrt⟩ := hg1.1.2.2.2.2.2.2.1
    refine V_callV (ci := 1) (n := 1) [.int (iI 61)] C (kJ4_append_cf468 (la := P 14) (v := P 15) (t := 14) (ml := ml) (n := (distS (distS (wrS (uG S 30 0) (S.1 5 (10 * (m : Int) + (k : Int)))) (S.1 6 (10 * (m : Int) + (k : Int)))) (S.1 7 (10 * (m : Int) + (k : Int)))).2 30) (g := g) (z := 61) ⟨by decide, by decide⟩ (by omega)) gX7_writeStep_J4_append_cf468 rfl ydJ4_append_cf468 ⟨Nat.le_of_ble_eq_true rfl, Nat.le_of_ble_eq_true rfl⟩ ⟨rfl, rfl⟩ rfl rfl (fun h hh => by subst hh; exact ⟨14, _, hsb.1⟩) (fun h hh => by subst hh; exact hsb) rfl (Nat.le_of_ble_eq_true rfl) dX7_writeStep_76 ⟨Nat.le_of_ble_eq_true rfl, Nat.le_of_ble_eq_true rfl⟩ (fun h v9 h' hh hj9 => ?_)
    obtain ⟨rfl, hj1, hj2⟩ := hj9
    subst hh
    refine V_weak (I2 := fun x9 => CW cI cO ee (TxH cB) P (wrS (distS (distS (wrS (uG S 30 0) (S.1 5 (10 * (m : Int) + (k : Int)))) (S.1 6 (10 * (m : Int) + (k : Int)))) (S.1 7 (10 * (m : Int) + (k : Int)))) 61) X x9 ∧ Fr (tC 14) h0 x9) (fun x9 hx9 => by rw [hx9]; exact ⟨CW.txt hg1.1 (WFp_dist (WFp_dist (WFp_wr hwa))) hj2 ⟨ml, _, by rw [wrS_30]; exact hj1, agr_ch hag 61, rT_wr hrt ⟨by decide, by decide⟩⟩ (wrS_1 _ _ 0 (by decide)) (fun k _ _ => wrS_1 _ _ k (by omega)) (wrS_2 _ _ 22 (by decide)) (wrS_2 _ _ 23 (by decide)) (wrS_2 _ _ 26 (by decide)) (wrS_2 _ _ 27 (by decide)) (wrS_2 _ _ 28 (by decide)), hg1.2.trans hj2⟩) ?_
    refine V_pop (pc' := 80) C rfl dX7_writeStep_79 rfl ?_
    refine V_aload0 (pc' := 81) C dX7_writeStep_80 rfl ?_
    refine V_getf (pc' := 84) (T := TX7) (N := 13) (ci := 12) C hin rfl 6 (by decide) (by decide +kernel) (fun h hh => ⟨1, _, hh.1.1, rfl⟩) dX7_writeStep_81 rfl ?_
    refine V_aload3 (pc' := 85) C dX7_writeStep_84 rfl ?_
    refine V_getfN (pc' := 88) (T := TX6) (N := 4) (ci := 11) C hin6 rfl 3 (by decide) (by decide) (fun h hh => ⟨200 + 10 * m + k, _, (hh.2 _ _ _ (hstp k (by omega)) (by unfold tC; omega)), rfl⟩) dX7_writeStep_85 rfl ?_
    refine V_fix (fun g1 hg1 => ?_)
    obtain ⟨ml, g, hsb, hag, hrt⟩ := hg1.1.2.2.2.2.2.2.1
    refine V_callV (ci := 1) (n := 1) [.int (iI (S.1 8 (10 * (m : Int) + (k : Int))))] C (kJ4_append_bf812 (la := P 14) (v := P 15) (t := 14) (ml := ml) (n := (wrS (distS (distS (wrS (uG S 30 0) (S.1 5 (10 * (m : Int) + (k : Int)))) (S.1 6 (10 * (m : Int) + (k : Int)))) (S.1 7 (10 * (m : Int) + (k : Int)))) 61).2 30) (g := g) (i := S.1 8 (10 * (m : Int) + (k : Int))) ⟨by omega, by omega⟩ (by rw [l4]; omega)) gX7_writeStep_J4_append_bf812 rfl ydJ4_append_bf812 ⟨Nat.le_of_ble_eq_true rfl, Nat.le_of_ble_eq_true rfl⟩ ⟨rfl, rfl⟩ rfl rfl (fun h hh => by subst hh; exact ⟨14, _, hsb.1⟩) (fun h hh => by subst hh; exact hsb) rfl (Nat.le_of_ble_eq_true rfl) dX7_writeStep_88 ⟨Nat.le_of_ble_eq_true rfl, Nat.le_of_ble_eq_true rfl⟩ (fun h v9 h' hh hj9 => ?_)
    obtain ⟨rfl, ⟨g9, hj1, hj3⟩, hj2⟩ := hj9
    subst hh
    obtain ⟨hj4, hj5⟩ := hj3 (wrS (distS (distS (wrS (uG S 30 0) (S.1 5 (10 * (m : Int) + (k : Int)))) (S.1 6 (10 * (m : Int) + (k : Int)))) (S.1 7 (10 * (m : Int) + (k : Int)))) 61) rfl hag
    refine V_weak (I2 := fun x9 => CW cI cO ee (TxH cB) P (numS (wrS (distS (distS (wrS (uG S 30 0) (S.1 5 (10 * (m : Int) + (k : Int)))) (S.1 6 (10 * (m : Int) + (k : Int)))) (S.1 7 (10 * (m : Int) + (k : Int)))) 61) (S.1 8 (10 * (m : Int) + (k : Int)))) X x9 ∧ Fr (tC 14) h0 x9) (fun x9 hx9 => by rw [hx9]; exact ⟨CW.txt hg1.1 (WFp_wr (WFp_dist (WFp_dist (WFp_wr hwa)))) hj2 ⟨ml, g9, by rw [hj5]; exact hj1, hj4, rT_num hrt _⟩ (tx_1 (by decide) _ _).1 (fun k _ _ => (tx_1 (by omega) _ _).1) (tx_2 (by decide) _ _).1 (tx_2 (by decide) _ _).1 (tx_2 (by decide) _ _).1 (tx_2 (by decide) _ _).1 (tx_2 (by decide) _ _).1, hg1.2.trans hj2⟩) ?_
    refine V_pop (pc' := 92) C rfl dX7_writeStep_91 rfl ?_
    refine V_aload0 (pc' := 93) C dX7_writeStep_92 rfl ?_
    refine V_getf (pc' := 96) (T := TX7) (N := 13) (ci := 12) C hin rfl 6 (by decide) (by decide +kernel) (fun h hh => ⟨1, _, hh.1.1, rfl⟩) dX7_writeStep_93 rfl ?_
    refine V_fix (fun g1 hg1 => ?_)
    obtain ⟨ml, g, hsb, hag, hrt⟩ := hg1.1.2.2.2.2.2.2.1
    refine V_callV (ci := 1) (n := 0) [] C (kJ4_length_8abf5 (la := P 14) (v := P 15) (t := 14) (ml := ml) (n := (numS (wrS (distS (distS (wrS (uG S 30 0) (S.1 5 (10 * (m : Int) + (k : Int)))) (S.1 6 (10 * (m : Int) + (k : Int)))) (S.1 7 (10 * (m : Int) + (k : Int)))) 61) (S.1 8 (10 * (m : Int) + (k : Int)))).2 30) (g := g)) gX7_writeStep_J4_length_8abf5 rfl ydJ4_length_8abf5 ⟨Nat.le_of_ble_eq_true rfl, Nat.le_of_ble_eq_true rfl⟩ ⟨rfl, rfl⟩ rfl rfl (fun h hh => by subst hh; exact ⟨14, _, hsb.1⟩) (fun h hh => by subst hh; exact hsb) rfl (Nat.le_of_ble_eq_true rfl) dX7_writeStep_96 ⟨Nat.le_of_ble_eq_true rfl, Nat.le_of_ble_eq_true rfl⟩ (fun h v9 h' hh hj9 => ?_)
    obtain ⟨r9, rfl, hj8, rfl⟩ := hj9
    rw [hj8]
    subst hh
    refine V_weak (I2 := fun x9 => CW cI cO ee (TxH cB) P (numS (wrS (distS (distS (wrS (uG S 30 0) (S.1 5 (10 * (m : Int) + (k : Int)))) (S.1 6 (10 * (m : Int) + (k : Int)))) (S.1 7 (10 * (m : Int) + (k : Int)))) 61) (S.1 8 (10 * (m : Int) + (k : Int)))) X x9 ∧ Fr (tC 14) h0 x9) (fun x9 hx9 => by rw [hx9]; exact hg1) ?_
    exact V_end C hr hlk (fun h' hh => ⟨_, rfl, by rw [stepS_n c_67], by rw [stepS_n c_67]; exact hh.1, hh.2⟩) ⟨Nat.le_refl _, Nat.le_refl _⟩ dX7_writeStep_99
set_option maxHeartbeats 4000000 in
set_option maxRecDepth 100000 in
theorem xX7_writeStep_m (hwp : WFp S) {z q : Int} (hz : ¬ (0 ≤ z ∧ z < S.2 22)) (hr0 : rI z) (hst : l.stackTraces = false) : Tx l yX7_writeStep wsX7_writeStep ({ frames := 8, cells := 1, slots := 6, locals := 170 } : Room) D (tyL cB cC cI cO cJ cD) ee [.ref (P 1), .int (iI z), .int (iI q)] (CW cI cO ee (TxH cB) P S X) "java/lang/IndexOutOfBoundsException" (fun h h' => h' = h) (1) (6) := by
  refine Tx_of (cc := cX7_writeStep) (own := RX7) [some (.ref (P 1)), some (.int (iI z)), some (.int (iI q)), none] (by decide) rfl rfl (Nat.le_of_ble_eq_true rfl) (fun i9 v9 h9 => argL [.ref (P 1), .int (iI z), .int (iI q)] 1 rfl i9 v9 h9) ?_
  intro p e s m9 args below meth c9 h0 sz hI C hlk hxt
  refine V_weak (I2 := fun x9 => CW cI cO ee (TxH cB) P S X x9 ∧ x9 = h0) (fun x9 hx9 => by subst hx9; exact ⟨hI, rfl⟩) ?_
  refine V_aload0 (pc' := 1) C dX7_writeStep_0 rfl ?_
  refine V_iload1 (pc' := 2) C dX7_writeStep_1 rfl ?_
  exact V_outV (ci := 12) (n := 1) [.int (iI z)] C (xX7_neededMacro (z := z) hwp hz hr0 hst) gX7_writeStep_X7_neededMacro rfl ydX7_neededMacro ⟨Nat.le_of_ble_eq_true rfl, Nat.le_of_ble_eq_true rfl⟩ ⟨rfl, rfl⟩ rfl rfl (fun h hh => ⟨1, _, hh.1.1⟩) (fun h hh => hh.1) rfl (Nat.le_of_ble_eq_true rfl) dX7_writeStep_2 ⟨Nat.le_of_ble_eq_true rfl, Nat.le_of_ble_eq_true rfl⟩ hxt hlk (fun h h' hh hj => by rw [hj]; exact hh.2) ⟨Nat.le_of_ble_eq_true rfl, Nat.le_of_ble_eq_true rfl⟩
set_option maxHeartbeats 4000000 in
set_option maxRecDepth 100000 in
theorem xX7_writeStep_s (hwp : WFp S) {m : Nat} {q : Int} (hm1 : (m : Int) < S.2 22) (hq : ¬ (0 ≤ q ∧ q < S.1 4 m)) (hq0 : rI q) (hst : l.stackTraces = false) : Tx l yX7_writeStep wsX7_writeStep ({ frames := 8, cells := 1, slots := 6, locals := 170 } : Room) D (tyL cB cC cI cO cJ cD) ee [.ref (P 1), .int (iI (m : Int)), .int (iI q)] (CW cI cO ee (TxH cB) P S X) "java/lang/IndexOutOfBoundsException" (fun h h' => h' = h) (1) (6) := by
  refine Tx_of (cc := cX7_writeStep) (own := RX7) [some (.ref (P 1)), some (.int (iI (m : Int))), some (.int (iI q)), none] (by decide) rfl rfl (Nat.le_of_ble_eq_true rfl) (fun i9 v9 h9 => argL [.ref (P 1), .int (iI (m : Int)), .int (iI q)] 1 rfl i9 v9 h9) ?_
  intro p e s m9 args below meth c9 h0 sz hI C hlk hxt
  obtain ⟨hw1, hw2, hw3, hw4, hw5, hw6⟩ := id hwp
  obtain ⟨hma, ⟨md, ar, hsl⟩, hstp, -⟩ := hI.2.2.2.2.2.2.2.2.1 m hm1
  have hm9 := hw2 m (by omega) (by omega)
  refine V_weak (I2 := fun x9 => CW cI cO ee (TxH cB) P S X x9 ∧ x9 = h0) (fun x9 hx9 => by subst hx9; exact ⟨hI, rfl⟩) ?_
  refine V_aload0 (pc' := 1) C dX7_writeStep_0 rfl ?_
  refine V_iload1 (pc' := 2) C dX7_writeStep_1 rfl ?_
  refine V_callV (ci := 12) (n := 1) [.int (iI (m : Int))] C (kX7_neededMacro (z := (m : Int)) hwp ⟨by omega, by omega⟩) gX7_writeStep_X7_neededMacro rfl ydX7_neededMacro ⟨Nat.le_of_ble_eq_true rfl, Nat.le_of_ble_eq_true rfl⟩ ⟨rfl, rfl⟩ rfl rfl (fun h hh => ⟨1, _, hh.1.1⟩) (fun h hh => hh.1) rfl (Nat.le_of_ble_eq_true rfl) dX7_writeStep_2 ⟨Nat.le_of_ble_eq_true rfl, Nat.le_of_ble_eq_true rfl⟩ (fun h v h' hh hj9 => ?_)
  obtain ⟨rfl, rfl⟩ := hj9
  refine V_weak (I2 := fun x9 => CW cI cO ee (TxH cB) P S X x9 ∧ x9 = h0) (fun x9 hx9 => by rw [hx9]; exact hh) ?_
  refine V_eq (st2 := [.ref (P (100 + m))]) (by rw [Int.toNat_natCast]; rfl) ?_
  refine V_iload2 (pc' := 6) C dX7_writeStep_5 rfl ?_
  refine V_callV (ci := 8) (n := 1) [.int (iI q)] C (kX3_stepAt_n (t := 100 + m) (ts := 110 + m) (sl := P (110 + m)) (gl := P (130 + m)) (z := (m : Int)) (md := md) (ar := ar) (sn := S.1 4 m) (f := fstP P (200 + 10 * m) (S.1 4 m)) (i := q) hq hq0) gX7_writeStep_X3_stepAt rfl ydX3_stepAt ⟨Nat.le_of_ble_eq_true rfl, Nat.le_of_ble_eq_true rfl⟩ ⟨rfl, rfl⟩ rfl rfl (fun h hh => by rw [hh.2]; exact ⟨100 + m, _, hma⟩) (fun h hh => by rw [hh.2]; exact ⟨hma, hsl⟩) rfl (Nat.le_of_ble_eq_true rfl) dX7_writeStep_6 ⟨Nat.le_of_ble_eq_true rfl, Nat.le_of_ble_eq_true rfl⟩ (fun h v h' hh hj9 => ?_)
  obtain ⟨rfl, rfl⟩ := hj9
  refine V_weak (I2 := fun x9 => CW cI cO ee (TxH cB) P S X x9 ∧ x9 = h0) (fun x9 hx9 => by rw [hx9]; exact hh) ?_
  refine V_astoreN3 (pc' := 10) C dX7_writeStep_9 rfl (by decide) rfl ?_
  refine V_aloadN3 (pc' := 11) C dX7_writeStep_10 rfl ?_
  refine V_ifnonnullN (pc' := 14) C dX7_writeStep_11 rfl ?_
  exact V_throwSW (text := "no such step") (names := ["java/lang/RuntimeException", "java/lang/Exception"]) C hst (by decide +kernel) (by decide +kernel) (by decide +kernel) (by decide +kernel) (by decide +kernel) (by decide +kernel) (by decide +kernel) (by decide +kernel) dX7_writeStep_14 dX7_writeStep_17 dX7_writeStep_18 dX7_writeStep_21 dX7_writeStep_24 hxt (Nat.le_of_ble_eq_true rfl) (Nat.le_of_ble_eq_true rfl) ⟨Nat.le_of_ble_eq_true rfl, Nat.le_of_ble_eq_true rfl⟩ hlk (fun h' hh => hh.2) rfl ⟨Nat.le_of_ble_eq_true rfl, Nat.le_of_ble_eq_true rfl⟩
set_option maxHeartbeats 4000000 in
set_option maxRecDepth 100000 in
theorem kX7_textAt {z : Int} (hz : 0 ≤ z ∧ z < S.2 30) : Ct l yX7_textAt wsX7_textAt ({ frames := 7, cells := 0, slots := 0, locals := 170 } : Room) D (tyL cB cC cI cO cJ cD) ee [.ref (P 1), .int (iI z)] (CW cI cO ee (TxH cB) P S X) (Ji fun h z9 h' => z9 = S.1 21 z ∧ h' = h) (0) (0) := by
  refine Ct_of (cc := cX7_textAt) (own := RX7) [some (.ref (P 1)), some (.int (iI z))] (by decide) rfl rfl (Nat.le_of_ble_eq_true rfl) (fun i9 v9 h9 => argL [.ref (P 1), .int (iI z)] 0 rfl i9 v9 h9) ?_
  intro p e s m9 args below meth c9 h0 sz hI C hr hlk hinit
  have hin : ∀ w ∈ wsX70, w ∈ wsX7_textAt := by decide +kernel
  obtain ⟨ml, g, hsb, hag, hrt⟩ := hI.2.2.2.2.2.2.1
  have hn9 := hsb.2.2
  refine V_weak (I2 := fun x9 => CW cI cO ee (TxH cB) P S X x9 ∧ x9 = h0) (fun x9 hx9 => by subst hx9; exact ⟨hI, rfl⟩) ?_
  refine V_iload1 (pc' := 1) C dX7_textAt_0 rfl ?_
  refine V_iflt (tgt := 15) C (by omega) dX7_textAt_1 (by decide) rfl (fun c_1 => ?_) (fun c_1 => ?_)
  · exact absurd c_1 (by omega)
  · refine V_iload1 (pc' := 5) C dX7_textAt_4 rfl ?_
    refine V_aload0 (pc' := 6) C dX7_textAt_5 rfl ?_
    refine V_getf (pc' := 9) (T := TX7) (N := 13) (ci := 12) C hin rfl 6 (by decide) (by decide +kernel) (fun h hh => ⟨1, _, hh.1.1, rfl⟩) dX7_textAt_6 rfl ?_
    refine V_callV (ci := 1) (n := 0) [] C (kJ4_length_8abf5 (la := P 14) (v := P 15) (t := 14) (ml := ml) (n := S.2 30) (g := g)) gX7_textAt_J4_length_8abf5 rfl ydJ4_length_8abf5 ⟨Nat.le_of_ble_eq_true rfl, Nat.le_of_ble_eq_true rfl⟩ ⟨rfl, rfl⟩ rfl rfl (fun h hh => by rw [hh.2]; exact ⟨14, _, hsb.1⟩) (fun h hh => by rw [hh.2]; exact hsb) rfl (Nat.le_of_ble_eq_true rfl) dX7_textAt_9 ⟨Nat.le_of_ble_eq_true rfl, Nat.le_of_ble_eq_true rfl⟩ (fun h v9 h' hh hj9 => ?_)
    obtain ⟨r9, rfl, hj8, rfl⟩ := hj9
    rw [hj8]
    refine V_weak (I2 := fun x9 => CW cI cO ee (TxH cB) P S X x9 ∧ x9 = h0) (fun x9 hx9 => by rw [hx9]; exact hh) ?_
    refine V_icmplt (tgt := 26) C (by omega) dX7_textAt_12 (by decide) rfl (fun c_12 => ?_) (fun c_12 => ?_)
    · refine V_aload0 (pc' := 27) C dX7_textAt_26 rfl ?_
      refine V_getf (pc' := 30) (T := TX7) (N := 13) (ci := 12) C hin rfl 6 (by decide) (by decide +kernel) (fun h hh => ⟨1, _, hh.1.1, rfl⟩) dX7_textAt_27 rfl ?_
      refine V_iload1 (pc' := 31) C dX7_textAt_30 rfl ?_
      refine V_callV (ci := 1) (n := 1) [.int (iI z)] C (kJ4_charAt_5068e (la := P 14) (v := P 15) (t := 14) (ml := ml) (n := S.2 30) (g := g) (z := z) hz (by rw [hag z hz.1 hz.2]; exact hrt z hz.1 hz.2)) gX7_textAt_J4_charAt_5068e rfl ydJ4_charAt_5068e ⟨Nat.le_of_ble_eq_true rfl, Nat.le_of_ble_eq_true rfl⟩ ⟨rfl, rfl⟩ rfl rfl (fun h hh => by rw [hh.2]; exact ⟨14, _, hsb.1⟩) (fun h hh => by rw [hh.2]; exact hsb) rfl (Nat.le_of_ble_eq_true rfl) dX7_textAt_31 ⟨Nat.le_of_ble_eq_true rfl, Nat.le_of_ble_eq_true rfl⟩ (fun h v9 h' hh hj9 => ?_)
      obtain ⟨r9, rfl, hj8, rfl⟩ := hj9
      rw [hj8, hag z hz.1 hz.2]
      have hr9 := hrt z hz.1 hz.2
      refine V_weak (I2 := fun x9 => CW cI cO ee (TxH cB) P S X x9 ∧ x9 = h0) (fun x9 hx9 => by rw [hx9]; exact hh) ?_
      exact V_endz (z := S.1 21 z) C hr hlk (nar_c hr9.1 (by omega)) (fun h' hh => ⟨_, rfl, rfl, hh.2⟩) ⟨Nat.le_refl _, Nat.le_refl _⟩ dX7_textAt_34
    · exact absurd c_12 (by omega)
set_option maxHeartbeats 4000000 in
set_option maxRecDepth 100000 in
theorem xX7_textAt_n {z : Int} (hz : z < 0) (hz0 : rI z) (hst : l.stackTraces = false) : Tx l yX7_textAt wsX7_textAt ({ frames := 8, cells := 1, slots := 6, locals := 170 } : Room) D (tyL cB cC cI cO cJ cD) ee [.ref (P 1), .int (iI z)] (CW cI cO ee (TxH cB) P S X) "java/lang/IndexOutOfBoundsException" (fun h h' => h' = h) (1) (6) := by
  refine Tx_of (cc := cX7_textAt) (own := RX7) [some (.ref (P 1)), some (.int (iI z))] (by decide) rfl rfl (Nat.le_of_ble_eq_true rfl) (fun i9 v9 h9 => argL [.ref (P 1), .int (iI z)] 0 rfl i9 v9 h9) ?_
  intro p e s m9 args below meth c9 h0 sz hI C hlk hxt
  refine V_weak (I2 := fun x9 => CW cI cO ee (TxH cB) P S X x9 ∧ x9 = h0) (fun x9 hx9 => by subst hx9; exact ⟨hI, rfl⟩) ?_
  refine V_iload1 (pc' := 1) C dX7_textAt_0 rfl ?_
  refine V_iflt (tgt := 15) C (by omega) dX7_textAt_1 (by decide) rfl (fun c_1 => ?_) (fun c_1 => ?_)
  · exact V_throwSW (text := "no such character") (names := ["java/lang/RuntimeException", "java/lang/Exception"]) C hst (by decide +kernel) (by decide +kernel) (by decide +kernel) (by decide +kernel) (by decide +kernel) (by decide +kernel) (by decide +kernel) (by decide +kernel) dX7_textAt_15 dX7_textAt_18 dX7_textAt_19 dX7_textAt_22 dX7_textAt_25 hxt (Nat.le_of_ble_eq_true rfl) (Nat.le_of_ble_eq_true rfl) ⟨Nat.le_of_ble_eq_true rfl, Nat.le_of_ble_eq_true rfl⟩ hlk (fun h' hh => hh.2) rfl ⟨Nat.le_of_ble_eq_true rfl, Nat.le_of_ble_eq_true rfl⟩
  · exact absurd c_1 (by omega)
set_option maxHeartbeats 4000000 in
set_option maxRecDepth 100000 in
theorem xX7_textAt_g {z : Int} (hz : 0 ≤ z ∧ S.2 30 ≤ z) (hz0 : rI z) (hst : l.stackTraces = false) : Tx l yX7_textAt wsX7_textAt ({ frames := 8, cells := 1, slots := 6, locals := 170 } : Room) D (tyL cB cC cI cO cJ cD) ee [.ref (P 1), .int (iI z)] (CW cI cO ee (TxH cB) P S X) "java/lang/IndexOutOfBoundsException" (fun h h' => h' = h) (1) (6) := by
  refine Tx_of (cc := cX7_textAt) (own := RX7) [some (.ref (P 1)), some (.int (iI z))] (by decide) rfl rfl (Nat.le_of_ble_eq_true rfl) (fun i9 v9 h9 => argL [.ref (P 1), .int (iI z)] 0 rfl i9 v9 h9) ?_
  intro p e s m9 args below meth c9 h0 sz hI C hlk hxt
  have hin : ∀ w ∈ wsX70, w ∈ wsX7_textAt := by decide +kernel
  obtain ⟨ml, g, hsb, hag, hrt⟩ := hI.2.2.2.2.2.2.1
  have hn9 := hsb.2.2
  refine V_weak (I2 := fun x9 => CW cI cO ee (TxH cB) P S X x9 ∧ x9 = h0) (fun x9 hx9 => by subst hx9; exact ⟨hI, rfl⟩) ?_
  refine V_iload1 (pc' := 1) C dX7_textAt_0 rfl ?_
  refine V_iflt (tgt := 15) C (by omega) dX7_textAt_1 (by decide) rfl (fun c_1 => ?_) (fun c_1 => ?_)
  · exact absurd c_1 (by omega)
  · refine V_iload1 (pc' := 5) C dX7_textAt_4 rfl ?_
    refine V_aload0 (pc' := 6) C dX7_textAt_5 rfl ?_
    refine V_getf (pc' := 9) (T := TX7) (N := 13) (ci := 12) C hin rfl 6 (by decide) (by decide +kernel) (fun h hh => ⟨1, _, hh.1.1, rfl⟩) dX7_textAt_6 rfl ?_
    refine V_callV (ci := 1) (n := 0) [] C (kJ4_length_8abf5 (la := P 14) (v := P 15) (t := 14) (ml := ml) (n := S.2 30) (g := g)) gX7_textAt_J4_length_8abf5 rfl ydJ4_length_8abf5 ⟨Nat.le_of_ble_eq_true rfl, Nat.le_of_ble_eq_true rfl⟩ ⟨rfl, rfl⟩ rfl rfl (fun h hh => by rw [hh.2]; exact ⟨14, _, hsb.1⟩) (fun h hh => by rw [hh.2]; exact hsb) rfl (Nat.le_of_ble_eq_true rfl) dX7_textAt_9 ⟨Nat.le_of_ble_eq_true rfl, Nat.le_of_ble_eq_true rfl⟩ (fun h v9 h' hh hj9 => ?_)
    obtain ⟨r9, rfl, hj8, rfl⟩ := hj9
    rw [hj8]
    refine V_weak (I2 := fun x9 => CW cI cO ee (TxH cB) P S X x9 ∧ x9 = h0) (fun x9 hx9 => by rw [hx9]; exact hh) ?_
    refine V_icmplt (tgt := 26) C (by omega) dX7_textAt_12 (by decide) rfl (fun c_12 => ?_) (fun c_12 => ?_)
    · exact absurd c_12 (by omega)
    · exact V_throwSW (text := "no such character") (names := ["java/lang/RuntimeException", "java/lang/Exception"]) C hst (by decide +kernel) (by decide +kernel) (by decide +kernel) (by decide +kernel) (by decide +kernel) (by decide +kernel) (by decide +kernel) (by decide +kernel) dX7_textAt_15 dX7_textAt_18 dX7_textAt_19 dX7_textAt_22 dX7_textAt_25 hxt (Nat.le_of_ble_eq_true rfl) (Nat.le_of_ble_eq_true rfl) ⟨Nat.le_of_ble_eq_true rfl, Nat.le_of_ble_eq_true rfl⟩ hlk (fun h' hh => hh.2) rfl ⟨Nat.le_of_ble_eq_true rfl, Nat.le_of_ble_eq_true rfl⟩
end
section
variable {l : Launch} {D : va_G} {cB cC cI cO cJ cD : ClassId} {ee : Nat} {Tx9 : (Nat → Nat) → MSt → Hp → Prop} {P : Nat → Nat} {S X : MSt}
set_option maxHeartbeats 4000000 in
set_option maxRecDepth 100000 in
theorem xX7_rule_n (hwp : WFp S) {c r : Int} (hr2 : rI c ∧ rI r) (hc2 : isCellB c r = true) (hn : ruledI S (atI c r) = -1) (hst : l.stackTraces = false) : Tx l yX7_rule wsX7_rule ({ frames := 8, cells := 1, slots := 6, locals := 170 } : Room) D (tyL cB cC cI cO cJ cD) ee [.ref (P 1), .int (iI c), .int (iI r)] (CW cI cO ee Tx9 P S X) "java/util/NoSuchElementException" (fun h h' => h' = h) (1) (6) := by
  refine Tx_of (cc := cX7_rule) (own := RX7) [some (.ref (P 1)), some (.int (iI c)), some (.int (iI r)), none] (by decide) rfl rfl (Nat.le_of_ble_eq_true rfl) (fun i9 v9 h9 => argL [.ref (P 1), .int (iI c), .int (iI r)] 1 rfl i9 v9 h9) ?_
  intro p e s m9 args below meth c9 h0 sz hI C hlk hxt
  refine V_weak (I2 := fun x9 => CW cI cO ee Tx9 P S X x9 ∧ x9 = h0) (fun x9 hx9 => by subst hx9; exact ⟨hI, rfl⟩) ?_
  have hx := atI_in (c := c) (r := r) hc2
  have hcr : c = atI c r % 6 ∧ r = atI c r / 6 := by
    simp only [isCellB, isInB, Bool.and_eq_true, decide_eq_true_eq] at hc2
    unfold atI
    omega
  refine V_iload1 (pc' := 1) C dX7_rule_0 rfl ?_
  refine V_iload2 (pc' := 2) C dX7_rule_1 rfl ?_
  refine V_callS (n := 2) [.int (iI c), .int (iI r)] C (kX7_needCell hr2 hc2) gX7_rule_X7_needCell rfl ydX7_needCell ⟨Nat.le_of_ble_eq_true rfl, Nat.le_of_ble_eq_true rfl⟩ ⟨rfl, rfl⟩ rfl (fun h hh => trivial) rfl (Nat.le_of_ble_eq_true rfl) dX7_rule_2 ⟨Nat.le_of_ble_eq_true rfl, Nat.le_of_ble_eq_true rfl⟩ (fun h v h' hh hj9 => ?_)
  obtain ⟨rfl, rfl⟩ := hj9
  refine V_weak (I2 := fun x9 => CW cI cO ee Tx9 P S X x9 ∧ x9 = h0) (fun x9 hx9 => by rw [hx9]; exact hh) ?_
  refine V_aload0 (pc' := 6) C dX7_rule_5 rfl ?_
  refine V_iload1 (pc' := 7) C dX7_rule_6 rfl ?_
  refine V_iload2 (pc' := 8) C dX7_rule_7 rfl ?_
  refine V_eq (st2 := [.int (iI (atI c r / 6)), .int (iI (atI c r % 6)), .ref (P 1)]) (by rw [← hcr.1, ← hcr.2]; rfl) ?_
  refine V_callV (ci := 12) (n := 2) [.int (iI (atI c r % 6)), .int (iI (atI c r / 6))] C (kX7_ruleNumberFor (x := atI c r) hwp ⟨by omega, by omega⟩) gX7_rule_X7_ruleNumberFor rfl ydX7_ruleNumberFor ⟨Nat.le_of_ble_eq_true rfl, Nat.le_of_ble_eq_true rfl⟩ ⟨rfl, rfl⟩ rfl rfl (fun h hh => ⟨1, _, hh.1.1⟩) (fun h hh => hh.1) rfl (Nat.le_of_ble_eq_true rfl) dX7_rule_8 ⟨Nat.le_of_ble_eq_true rfl, Nat.le_of_ble_eq_true rfl⟩ (fun h v h' hh hj9 => ?_)
  obtain ⟨r9, rfl, hj8, rfl⟩ := hj9
  rw [hj8]
  refine V_weak (I2 := fun x9 => CW cI cO ee Tx9 P S X x9 ∧ x9 = h0) (fun x9 hx9 => by rw [hx9]; exact hh) ?_
  refine V_istore3 (pc' := 12) C dX7_rule_11 rfl (by decide) rfl ?_
  refine V_iload3 (pc' := 13) C dX7_rule_12 rfl ?_
  refine V_iconst (pc' := 14) C dX7_rule_13 rfl ?_
  refine V_icmpne (tgt := 27) C (by omega) dX7_rule_14 (by decide) rfl (fun c_14 => ?_) (fun c_14 => ?_)
  · exact absurd c_14 (by omega)
  · exact V_throwN (text := "no rule is for the cell") C hst (by decide +kernel) (by decide +kernel) (by decide +kernel) (by decide +kernel) (by decide +kernel) (by decide +kernel) dX7_rule_17 dX7_rule_20 dX7_rule_21 dX7_rule_23 dX7_rule_26 hxt (Nat.le_of_ble_eq_true rfl) (Nat.le_of_ble_eq_true rfl) ⟨Nat.le_of_ble_eq_true rfl, Nat.le_of_ble_eq_true rfl⟩ hlk (fun h' hh => hh.2) rfl ⟨Nat.le_of_ble_eq_true rfl, Nat.le_of_ble_eq_true rfl⟩
set_option maxHeartbeats 4000000 in
set_option maxRecDepth 100000 in
theorem xX7_lastBy_n {c r : Int} (hr2 : rI c ∧ rI r) (hc2 : isCellB c r = true) (hF : ∀ i, 0 ≤ i → i < X.2 25 → rI (X.1 7 i) ∧ rI (X.1 9 i) ∧ rI (X.1 10 i)) (hl : latN (fun k => X.1 (7 + k)) (atI c r) (X.2 25).toNat = -1) (hst : l.stackTraces = false) : Tx l yX7_lastBy wsX7_lastBy ({ frames := 8, cells := 1, slots := 6, locals := 170 } : Room) D (tyL cB cC cI cO cJ cD) ee [.ref (P 1), .int (iI c), .int (iI r)] (CW cI cO ee Tx9 P S X) "java/util/NoSuchElementException" (fun h h' => h' = h) (1) (6) := by
  refine Tx_of (cc := cX7_lastBy) (own := RX7) [some (.ref (P 1)), some (.int (iI c)), some (.int (iI r)), none] (by decide) rfl rfl (Nat.le_of_ble_eq_true rfl) (fun i9 v9 h9 => argL [.ref (P 1), .int (iI c), .int (iI r)] 1 rfl i9 v9 h9) ?_
  intro p e s m9 args below meth c9 h0 sz hI C hlk hxt
  have hin : ∀ w ∈ wsX70, w ∈ wsX7_lastBy := by decide +kernel
  refine V_weak (I2 := fun x9 => CW cI cO ee Tx9 P S X x9 ∧ x9 = h0) (fun x9 hx9 => by subst hx9; exact ⟨hI, rfl⟩) ?_
  have hx := atI_in (c := c) (r := r) hc2
  refine V_iload1 (pc' := 1) C dX7_lastBy_0 rfl ?_
  refine V_iload2 (pc' := 2) C dX7_lastBy_1 rfl ?_
  refine V_callS (n := 2) [.int (iI c), .int (iI r)] C (kX7_needCell hr2 hc2) gX7_lastBy_X7_needCell rfl ydX7_needCell ⟨Nat.le_of_ble_eq_true rfl, Nat.le_of_ble_eq_true rfl⟩ ⟨rfl, rfl⟩ rfl (fun h hh => trivial) rfl (Nat.le_of_ble_eq_true rfl) dX7_lastBy_2 ⟨Nat.le_of_ble_eq_true rfl, Nat.le_of_ble_eq_true rfl⟩ (fun h v h' hh hj9 => ?_)
  obtain ⟨rfl, rfl⟩ := hj9
  refine V_weak (I2 := fun x9 => CW cI cO ee Tx9 P S X x9 ∧ x9 = h0) (fun x9 hx9 => by rw [hx9]; exact hh) ?_
  refine V_aload0 (pc' := 6) C dX7_lastBy_5 rfl ?_
  refine V_getf (pc' := 9) (T := TX7) (N := 13) (ci := 12) C hin rfl 4 (by decide) (by decide +kernel) (fun h hh => ⟨1, _, hh.1.1, rfl⟩) dX7_lastBy_6 rfl ?_
  refine V_iload1 (pc' := 10) C dX7_lastBy_9 rfl ?_
  refine V_iload2 (pc' := 11) C dX7_lastBy_10 rfl ?_
  refine sCall2 (pc' := 14) C (kX7_placeOf (c := c) (r := r)) gX7_lastBy_X7_placeOf rfl ydX7_placeOf ⟨Nat.le_of_ble_eq_true rfl, Nat.le_of_ble_eq_true rfl⟩ ⟨rfl, rfl⟩ (Nat.le_of_ble_eq_true rfl) dX7_lastBy_11 ⟨Nat.zero_le _, Nat.zero_le _⟩ rfl ?_
  refine V_callV (ci := 5) (n := 1) [.int (iI (atI c r))] C (kX0_latestFor (v := fun k => P (7 + k)) (t := 6) (F := fun k => X.1 (7 + k)) (n := X.2 25) (len := (X.2 26).toNat) (z := atI c r) (by omega) hF) gX7_lastBy_X0_latestFor rfl ydX0_latestFor ⟨Nat.le_of_ble_eq_true rfl, Nat.le_of_ble_eq_true rfl⟩ ⟨rfl, rfl⟩ rfl rfl (fun h hh => ⟨6, _, hh.1.2.2.2.1.1⟩) (fun h hh => hh.1.2.2.2.1) rfl (Nat.le_of_ble_eq_true rfl) dX7_lastBy_14 ⟨Nat.le_of_ble_eq_true rfl, Nat.le_of_ble_eq_true rfl⟩ (fun h v h' hh hj9 => ?_)
  obtain ⟨r9, rfl, hj8, rfl⟩ := hj9
  rw [hj8]
  refine V_weak (I2 := fun x9 => CW cI cO ee Tx9 P S X x9 ∧ x9 = h0) (fun x9 hx9 => by rw [hx9]; exact hh) ?_
  refine V_istore3 (pc' := 18) C dX7_lastBy_17 rfl (by decide) rfl ?_
  refine V_iload3 (pc' := 19) C dX7_lastBy_18 rfl ?_
  refine V_iconst (pc' := 20) C dX7_lastBy_19 rfl ?_
  refine V_icmpne (tgt := 33) C (by omega) dX7_lastBy_20 (by decide) rfl (fun c_20 => ?_) (fun c_20 => ?_)
  · exact absurd c_20 (by omega)
  · exact V_throwN (text := "no entry is for the cell") C hst (by decide +kernel) (by decide +kernel) (by decide +kernel) (by decide +kernel) (by decide +kernel) (by decide +kernel) dX7_lastBy_23 dX7_lastBy_26 dX7_lastBy_27 dX7_lastBy_29 dX7_lastBy_32 hxt (Nat.le_of_ble_eq_true rfl) (Nat.le_of_ble_eq_true rfl) ⟨Nat.le_of_ble_eq_true rfl, Nat.le_of_ble_eq_true rfl⟩ hlk (fun h' hh => hh.2) rfl ⟨Nat.le_of_ble_eq_true rfl, Nat.le_of_ble_eq_true rfl⟩
end

/-! the class: writeStep, textAt; rule and lastBy without an answer -/
def rT (S : MSt) : Prop := ∀ z, 0 ≤ z → z < S.2 30 → 0 ≤ S.1 21 z ∧ S.1 21 z < 128
def TxH (cB : ClassId) (P : Nat → Nat) (S : MSt) (h : Hp) : Prop := ∃ ml g, SbH cB (P 14) (P 15) 14 ml (S.2 30) g h ∧ agr g S ∧ rT S
theorem TxH_ok (cB : ClassId) : T9ok (TxH cB) := fun P S S' h h' T e21 e30 hF h14 h15 ⟨ml, g, a, b, c⟩ => by
  refine ⟨ml, g, by rw [e30]; exact a.fr hF h14 h15, ?_, ?_⟩
  · unfold agr
    rw [e30, e21]
    exact b
  · unfold rT
    rw [e30, e21]
    exact c
theorem TxH_p (cB : ClassId) : T9p (TxH cB) := fun P P' S h e14 e15 ⟨ml, g, a, b, c⟩ => ⟨ml, g, by rw [e14, e15]; exact a, b, c⟩
theorem rT_wr {S : MSt} (h : rT S) {c : Int} (hc : 0 ≤ c ∧ c < 128) : rT (wrS S c) := fun z z0 z1 => by
  rw [wrS_30] at z1
  rw [wr_21]
  by_cases q : z = S.2 30
  · rw [q, upZ_s]
    exact hc
  · rw [upZ_n q]
    exact h z z0 (by omega)
theorem rT_dig : ∀ (f : Nat) (S : MSt) (n : Int), rT S → 0 ≤ n → rT (digN f S n)
  | 0, S, n, h, _ => h
  | f + 1, S, n, h, hn => by
    rw [digN]
    refine rT_wr ?_ (by omega)
    split
    · exact rT_dig f S (n / 10) h (by omega)
    · exact h
theorem absI_0 (x : Int) : 0 ≤ absI x := by
  unfold absI
  split <;> omega
theorem rT_num {S : MSt} (h : rT S) (x : Int) : rT (numS S x) := by
  unfold numS
  refine rT_dig 4 _ _ ?_ (absI_0 x)
  split
  · exact h
  · exact rT_wr h (by decide)
theorem absI_9 {d : Int} (h : -9 ≤ d ∧ d ≤ 9) : 0 ≤ absI d ∧ absI d ≤ 9 := by
  unfold absI
  split <;> omega
theorem dist_num {S : MSt} {d : Int} (h : -9 ≤ d ∧ d ≤ 9) : distS S d = numS (wrS S (signI d)) (absI d) := by
  have h9 := absI_9 h
  unfold distS
  rw [num_p h9.1, dig1 ⟨h9.1, by omega⟩]
  show wrS (if 9 < absI d then _ else _) _ = _
  rw [if_neg (by omega)]
theorem rT_dist {S : MSt} (h : rT S) {d : Int} (hd : -9 ≤ d ∧ d ≤ 9) : rT (distS S d) := by
  rw [dist_num hd]
  refine rT_num (rT_wr h ?_) _
  unfold signI
  split <;> omega
theorem szI_abs {d : Int} (h : -9 ≤ d ∧ d ≤ 9) : szI (absI d) = 1 := by
  have h9 := absI_9 h
  rw [szI_p h9.1, if_pos (by omega)]
section
variable {cB cI cO : ClassId} {ee : Nat × Nat} {P : Nat → Nat} {S S' X : MSt} {h h' : Hp}
theorem CW.txt (H : CW cI cO ee (TxH cB) P S X h) (hw : WFp S) (hF : Fr (tC 14) h h') (ht : TxH cB P S' h') (e0 : S'.1 0 = S.1 0) (e : ∀ k, 4 ≤ k → k < 16 → S'.1 k = S.1 k) (e22 : S'.2 22 = S.2 22) (e23 : S'.2 23 = S.2 23) (e26 : S'.2 26 = S.2 26) (e27 : S'.2 27 = S.2 27) (e28 : S'.2 28 = S.2 28) : CW cI cO ee (TxH cB) P S' X h' := by
  obtain ⟨a1, a2, a3, a4, a5, a6, a7, a8⟩ := H
  have nt : ∀ u, u ≠ 14 → u ≠ 15 → ¬ tC 14 u := fun u q1 q2 z => by
    unfold tC at z
    omega
  refine ⟨?_, by rw [e0]; exact a2.fr hF (nt _ (by decide) (by decide)) (nt _ (by decide) (by decide)), a3.fr hF (nt _ (by decide) (by decide)) (nt _ (by decide) (by decide)), AuX.fr a4 hF (fun u _ _ => nt _ (by omega) (by omega)), a5.fr hF (nt _ (by decide) (by decide)) (nt _ (by decide) (by decide)), DpX.fr (X := X) a6 hF (nt _ (by decide) (by decide)), ht, ?_⟩
  · have b := MnH.fr (X := X) a1 hF (nt _ (by decide) (by decide))
    unfold MnH mnF at b ⊢
    rw [e26, e27, e28]
    exact b
  · have b := MrH.fr (S := S) a8 hw hF (fun u _ _ => nt _ (by omega) (by omega))
    simp only [MrH, MacL, RulL, Mac1, Rul1, stF, e22, e23, e 4 (by decide) (by decide), e 5 (by decide) (by decide), e 6 (by decide) (by decide), e 7 (by decide) (by decide), e 8 (by decide) (by decide), e 9 (by decide) (by decide), e 10 (by decide) (by decide), e 11 (by decide) (by decide), e 12 (by decide) (by decide), e 13 (by decide) (by decide), e 14 (by decide) (by decide), e 15 (by decide) (by decide)] at b ⊢
    exact b
end
theorem tx_1 {k : Nat} (h : k ≠ 21) (S : MSt) (x : Int) : (numS S x).1 k = S.1 k ∧ (distS S x).1 k = S.1 k := by
  refine ⟨?_, distS_1 S x k h⟩
  unfold numS
  rw [digN_1 k h]
  split
  · rfl
  · exact wrS_1 S 45 k h
theorem tx_2 {k : Nat} (h : k ≠ 30) (S : MSt) (x : Int) : (numS S x).2 k = S.2 k ∧ (distS S x).2 k = S.2 k := by
  constructor
  · unfold numS
    rw [digN_2 k h]
    split
    · rfl
    · exact wrS_2 S 45 k h
  · unfold distS
    rw [digN_2 k h, wrS_2 S _ k h]
theorem WFp_wr {S : MSt} {c : Int} (h : WFp S) : WFp (wrS S c) := WFp_of h (fun k _ _ => wrS_1 S c k (by omega)) ⟨wrS_2 S c 22 (by decide), wrS_2 S c 23 (by decide), wrS_2 S c 27 (by decide), wrS_2 S c 28 (by decide)⟩ (by rw [wrS_1 S c 0 (by decide)]; exact h.2.2.2.2.2)
theorem WFp_dist {S : MSt} {d : Int} (h : WFp S) : WFp (distS S d) := WFp_of h (fun k _ _ => (tx_1 (by omega) S d).2) ⟨(tx_2 (by decide) S d).2, (tx_2 (by decide) S d).2, (tx_2 (by decide) S d).2, (tx_2 (by decide) S d).2⟩ (by rw [(tx_1 (by decide) S d).2]; exact h.2.2.2.2.2)
theorem dist_30 {S : MSt} {d : Int} (h : -9 ≤ d ∧ d ≤ 9) : (distS S d).2 30 = S.2 30 + 2 := by
  have h9 := absI_9 h
  rw [dist_num h, num_p h9.1, dig1 ⟨h9.1, by omega⟩, wrS_30, wrS_30]
  omega
section
variable {l : Launch} {D : va_G} {cB cC cI cO cJ cD : ClassId} {ee : Nat × Nat} {P : Nat → Nat} {S X : MSt}
end
section
variable {l : Launch} {D : va_G} {cB cC cI cO cJ cD : ClassId} {ee : Nat × Nat} {Tx9 : (Nat → Nat) → MSt → Hp → Prop} {P : Nat → Nat} {S X : MSt}
set_option maxHeartbeats 4000000 in
set_option maxRecDepth 100000 in
theorem xX7_rule_n (hwp : WFp S) {c r : Int} (hr2 : rI c ∧ rI r) (hc2 : isCellB c r = true) (hn : ruledI S (atI c r) = -1) (hst : l.stackTraces = false) : Tx l yX7_rule wsX7_rule ({ frames := 8, cells := 1, slots := 6, locals := 170 } : Room) D (tyL cB cC cI cO cJ cD) ee [.ref (P 1), .int (iI c), .int (iI r)] (CW cI cO ee Tx9 P S X) "java/util/NoSuchElementException" (fun h h' => h' = h) (1) (6) := by
  refine Tx_of (cc := cX7_rule) (own := RX7) [some (.ref (P 1)), some (.int (iI c)), some (.int (iI r)), none] (by decide) rfl rfl (Nat.le_of_ble_eq_true rfl) (fun i9 v9 h9 => argL [.ref (P 1), .int (iI c), .int (iI r)] 1 rfl i9 v9 h9) ?_
  intro p e s m9 args below meth c9 h0 sz hI C hlk hxt
  refine V_weak (I2 := fun x9 => CW cI cO ee Tx9 P S X x9 ∧ x9 = h0) (fun x9 hx9 => by subst hx9; exact ⟨hI, rfl⟩) ?_
  have hx := atI_in (c := c) (r := r) hc2
  have hcr : c = atI c r % 6 ∧ r = atI c r / 6 := by
    simp only [isCellB, isInB, Bool.and_eq_true, decide_eq_true_eq] at hc2
    unfold atI
    omega
  refine V_iload1 (pc' := 1) C dX7_rule_0 rfl ?_
  refine V_iload2 (pc' := 2) C dX7_rule_1 rfl ?_
  refine V_callS (n := 2) [.int (iI c), .int (iI r)] C (kX7_needCell hr2 hc2) gX7_rule_X7_needCell rfl ydX7_needCell ⟨Nat.le_of_ble_eq_true rfl, Nat.le_of_ble_eq_true rfl⟩ ⟨rfl, rfl⟩ rfl (fun h hh => trivial) rfl (Nat.le_of_ble_eq_true rfl) dX7_rule_2 ⟨Nat.le_of_ble_eq_true rfl, Nat.le_of_ble_eq_true rfl⟩ (fun h v h' hh hj9 => ?_)
  obtain ⟨rfl, rfl⟩ := hj9
  refine V_weak (I2 := fun x9 => CW cI cO ee Tx9 P S X x9 ∧ x9 = h0) (fun x9 hx9 => by rw [hx9]; exact hh) ?_
  refine V_aload0 (pc' := 6) C dX7_rule_5 rfl ?_
  refine V_iload1 (pc' := 7) C dX7_rule_6 rfl ?_
  refine V_iload2 (pc' := 8) C dX7_rule_7 rfl ?_
  refine V_eq (st2 := [.int (iI (atI c r / 6)), .int (iI (atI c r % 6)), .ref (P 1)]) (by rw [← hcr.1, ← hcr.2]; rfl) ?_
  refine V_callV (ci := 12) (n := 2) [.int (iI (atI c r % 6)), .int (iI (atI c r / 6))] C (kX7_ruleNumberFor (x := atI c r) hwp ⟨by omega, by omega⟩) gX7_rule_X7_ruleNumberFor rfl ydX7_ruleNumberFor ⟨Nat.le_of_ble_eq_true rfl, Nat.le_of_ble_eq_true rfl⟩ ⟨rfl, rfl⟩ rfl rfl (fun h hh => ⟨1, _, hh.1.1⟩) (fun h hh => hh.1) rfl (Nat.le_of_ble_eq_true rfl) dX7_rule_8 ⟨Nat.le_of_ble_eq_true rfl, Nat.le_of_ble_eq_true rfl⟩ (fun h v h' hh hj9 => ?_)
  obtain ⟨r9, rfl, hj8, rfl⟩ := hj9
  rw [hj8]
  refine V_weak (I2 := fun x9 => CW cI cO ee Tx9 P S X x9 ∧ x9 = h0) (fun x9 hx9 => by rw [hx9]; exact hh) ?_
  refine V_istore3 (pc' := 12) C dX7_rule_11 rfl (by decide) rfl ?_
  refine V_iload3 (pc' := 13) C dX7_rule_12 rfl ?_
  refine V_iconst (pc' := 14) C dX7_rule_13 rfl ?_
  refine V_icmpne (tgt := 27) C (by omega) dX7_rule_14 (by decide) rfl (fun c_14 => ?_) (fun c_14 => ?_)
  · exact absurd c_14 (by omega)
  · exact V_throwN (text := "no rule is for the cell") C hst (by decide +kernel) (by decide +kernel) (by decide +kernel) (by decide +kernel) (by decide +kernel) (by decide +kernel) dX7_rule_17 dX7_rule_20 dX7_rule_21 dX7_rule_23 dX7_rule_26 hxt (Nat.le_of_ble_eq_true rfl) (Nat.le_of_ble_eq_true rfl) ⟨Nat.le_of_ble_eq_true rfl, Nat.le_of_ble_eq_true rfl⟩ hlk (fun h' hh => hh.2) rfl ⟨Nat.le_of_ble_eq_true rfl, Nat.le_of_ble_eq_true rfl⟩
end

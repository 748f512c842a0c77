/-! the end of an action, its undoing, the audit's growth: what ties class and reference -/
def RelH (S X : MSt) : Prop := X.2 27 = S.2 25 ∧ ∀ k : Int, 0 ≤ k → k < S.2 25 → X.1 12 k = S.2 29 + S.1 20 k
def RelN (X : MSt) : Prop := ∃ e : Nat, e ≤ 9 ∧ X.2 26 = ((210 * 2 ^ e : Nat) : Int)
/-- the actions that can be undone, the latest one ends at fr -/
def HWo (S : MSt) (fr : Int) : Prop := 0 ≤ S.2 25 ∧ S.2 25 ≤ 8 ∧ S.1 20 0 = 0 ∧ S.1 20 (S.2 25) = fr ∧ ∀ k, 0 ≤ k → k < S.2 25 → S.1 20 k < S.1 20 (k + 1) ∧ S.1 20 (k + 1) ≤ S.1 20 k + 210
theorem HWo_le {S : MSt} {fr : Int} (h : HWo S fr) : ∀ n : Nat, (n : Int) ≤ S.2 25 → ∀ i : Nat, i ≤ n → S.1 20 (i : Int) ≤ S.1 20 (n : Int)
  | 0, _, i, hi => by rw [Nat.le_zero.mp hi]; exact Int.le_refl _
  | n + 1, hn, i, hi => by
    have h9 := h.2.2.2.2 n (by omega) (by omega)
    by_cases q : i = n + 1
    · rw [q]; exact Int.le_refl _
    · have ih := HWo_le h n (by omega) i (by omega)
      rw [show ((n + 1 : Nat) : Int) = (n : Int) + 1 by omega]
      omega
theorem HWo_lo {S : MSt} {fr : Int} (h : HWo S fr) : ∀ n : Nat, (n : Int) ≤ S.2 25 → 0 ≤ S.1 20 (n : Int) := fun n hn => by
  have := HWo_le h n hn 0 (Nat.zero_le _)
  have e := h.2.2.1
  simp only [Int.natCast_zero] at this
  omega
theorem uA_id {S : MSt} {k : Nat} {z v : Int} (h : S.1 k z = v) : uA S k z v = S := by
  refine Prod.ext (funext fun j => ?_) rfl
  by_cases q : j = k
  · subst q
    rw [uA_s]
    funext y
    by_cases p : y = z
    · rw [p, upZ_s, h]
    · rw [upZ_n p]
  · rw [uA_n _ q]
theorem byN_in {F : Nat → Int → Int} (z : Int) {n : Nat} (h : ∀ e : Nat, e < n → -1 ≤ F 3 e ∧ F 3 e ≤ 5) : ∀ j : Nat, j ≤ n → -2 ≤ byN F z j ∧ byN F z j ≤ 5
  | 0, _ => by simp [byN]
  | j + 1, hj => by
    have ih := byN_in z h j (by omega)
    have := h j (by omega)
    rw [byN]
    split <;> omega
theorem RelL.sw {S X : MSt} (H : RelL S X) : ∀ z, 0 ≤ z → z < 48 → -2 ≤ S.1 2 z ∧ S.1 2 z ≤ 5 := fun z z0 z1 => by
  obtain ⟨⟨h1, h1a, h1b⟩, h2, h3, h4, h5, h6⟩ := H
  rw [h5 z z0 z1]
  exact byN_in z (n := (X.2 25).toNat) (fun e he => (h3 e (by omega)).2.2.1) _ (by omega)
-- the settling
theorem sl1_by {C X : MSt} (hL : RelL C X) : ∀ j : Nat, (j : Int) ≤ C.2 24 → (∀ z, 0 ≤ z → z < 48 → (sl1 C j).1 2 z = byN (AF X) z ((C.2 29).toNat + j)) ∧ (∀ w, -1 ≤ w → w ≤ 5 → (sl1 C j).1 3 (w + 1) = cntN (AF X) w ((C.2 29).toNat + j))
  | 0, _ => ⟨hL.2.2.2.2.1, hL.2.2.2.2.2⟩
  | j + 1, hj => by
    have ih := sl1_by hL j (by omega)
    have e16 := sl1_1 C 16 (by decide) j
    have e18 := sl1_1 C 18 (by decide) j
    have r := hL.2.1 j (by omega)
    have hs := hL.1.2.1
    have ei : (((C.2 29).toNat + j : Nat) : Int) = C.2 29 + j := by omega
    have f0 : AF X 0 (((C.2 29).toNat + j : Nat) : Int) = C.1 16 j := by rw [ei]; exact r.1
    have f3 : AF X 3 (((C.2 29).toNat + j : Nat) : Int) = C.1 18 j := by rw [ei]; exact r.2.2
    refine ⟨fun z z0 z1 => ?_, fun w w0 w1 => ?_⟩
    · show (sl1 C (j + 1)).1 2 z = byN (AF X) z (((C.2 29).toNat + j) + 1)
      rw [sl1, uA_s, uA_n _ (by decide), e16, e18, byN, f0, f3, ← ih.1 z z0 z1]
      unfold upZ
      by_cases q : z = C.1 16 j
      · rw [if_pos q, if_pos q.symm]
      · rw [if_neg q, if_neg (fun y => q y.symm)]
    · show (sl1 C (j + 1)).1 3 (w + 1) = cntN (AF X) w (((C.2 29).toNat + j) + 1)
      rw [sl1, uA_n _ (by decide), uA_s, e18, cntN, f3, ← ih.2 w w0 w1]
      unfold upZ
      by_cases q : w + 1 = C.1 18 j + 1
      · rw [if_pos q, if_pos (by omega), q]
      · rw [if_neg q, if_neg (by omega)]
theorem sl2_s (S : MSt) (d : Int) (k : Nat) (h : k = 16 ∨ k = 17 ∨ k = 18 ∨ k = 19) (j : Nat) : (sl2 S d (j + 1)).1 k = upZ ((sl2 S d j).1 k) (d + j - d) ((sl2 S d j).1 k (d + j)) := by
  rcases h with rfl | rfl | rfl | rfl <;> rfl
theorem sl2_at (S : MSt) (d : Int) (hd : 0 ≤ d) (k : Nat) (h : k = 16 ∨ k = 17 ∨ k = 18 ∨ k = 19) : ∀ (j : Nat) (i : Int), 0 ≤ i → (sl2 S d j).1 k i = if i < j then S.1 k (i + d) else S.1 k i
  | 0, i, h0 => by rw [if_neg (by omega)]; rfl
  | j + 1, i, h0 => by
    rw [sl2_s S d k h j, show d + (j : Int) - d = j by omega]
    unfold upZ
    by_cases q : i = j
    · rw [if_pos q, if_pos (by omega), sl2_at S d hd k h j (d + j) (by omega), if_neg (by omega), q, Int.add_comm]
    · rw [if_neg q, sl2_at S d hd k h j i h0]
      by_cases q2 : i < j
      · rw [if_pos q2, if_pos (by omega)]
      · rw [if_neg q2, if_neg (by omega)]
theorem sl3_at (S : MSt) (d : Int) : ∀ (j : Nat) (i : Int), 0 ≤ i → (sl3 S d j).1 20 i = if i < j then S.1 20 (i + 1) - d else S.1 20 i
  | 0, i, h0 => by rw [if_neg (by omega)]; rfl
  | j + 1, i, h0 => by
    rw [sl3, uA_s]
    unfold upZ
    by_cases q : i = j
    · rw [if_pos q, if_pos (by omega), sl3_at S d j (j + 1) (by omega), if_neg (by omega), q]
    · rw [if_neg q, sl3_at S d j i h0]
      by_cases q2 : i < j
      · rw [if_pos q2, if_pos (by omega)]
      · rw [if_neg q2, if_neg (by omega)]
theorem setl_log (C : MSt) (k : Nat) (h : k = 16 ∨ k = 17 ∨ k = 18 ∨ k = 19) (hd : 0 ≤ C.1 20 1) (i : Int) (h0 : 0 ≤ i) (h1 : i < C.2 24 - C.1 20 1) : (setlS C).1 k i = C.1 k (i + C.1 20 1) := by
  have e : (setlS C).1 k = (sl2 (setA C) (C.1 20 1) (C.2 24 - C.1 20 1).toNat).1 k := by
    unfold setlS
    rw [uG_1, sl3_1 _ _ _ (by omega)]
    rfl
  rw [e, sl2_at _ _ hd k h _ _ h0, if_pos (by omega)]
  unfold setA
  rw [uG_1, sl1_1 C k (by omega)]
theorem setl_20 (C : MSt) (h8 : C.2 25 = 8) (i : Int) (h0 : 0 ≤ i) (h1 : i < 8) : (setlS C).1 20 i = C.1 20 (i + 1) - C.1 20 1 := by
  have e : (setlS C).1 20 = (sl3 (setB C) (C.1 20 1) (C.2 25).toNat).1 20 := rfl
  have e2 : (setB C).1 20 = C.1 20 := by
    unfold setB
    rw [uG_1, sl2_1 _ _ _ (by decide)]
    unfold setA
    rw [uG_1, sl1_1 C 20 (by decide)]
  rw [e, sl3_at _ _ _ _ h0, if_pos (by omega), e2]
theorem setl_29 (C : MSt) : (setlS C).2 29 = C.2 29 + C.1 20 1 := by
  unfold setlS setB
  rw [uG_n _ (by decide), sl3_2, uG_n _ (by decide), sl2_2]
  unfold setA
  rw [uG_s]
theorem setl_23 (C : MSt) (k : Nat) (h : k = 2 ∨ k = 3) : (setlS C).1 k = (sl1 C (C.1 20 1).toNat).1 k := by
  unfold setlS setB
  rw [uG_1, sl3_1 _ _ _ (by omega), uG_1, sl2_1 _ _ _ (by omega)]
  rfl
theorem setl_rel {C X : MSt} (hL : RelL C X) (he : 0 ≤ C.1 20 1 ∧ C.1 20 1 ≤ C.2 24) : RelL (setlS C) X := by
  obtain ⟨⟨h1, h1a, h1b⟩, h2, h3, h4, h5, h6⟩ := id hL
  have e24 := setlS_24 C
  have e29 := setl_29 C
  have hb := sl1_by hL (C.1 20 1).toNat (by omega)
  have en : (C.2 29).toNat + (C.1 20 1).toNat = (C.2 29 + C.1 20 1).toNat := by omega
  rw [en] at hb
  refine ⟨⟨by omega, by omega, by omega⟩, fun j hj => ?_, h3, fun z z0 z1 => ?_, fun z z0 z1 => ?_, fun w w0 w1 => ?_⟩
  · have r := h2 (j + (C.1 20 1).toNat) (by omega)
    have ei : ((j + (C.1 20 1).toNat : Nat) : Int) = j + C.1 20 1 := by omega
    rw [ei] at r
    rw [setl_log C 16 (by decide) he.1 j (by omega) (by omega), setl_log C 17 (by decide) he.1 j (by omega) (by omega), setl_log C 18 (by decide) he.1 j (by omega) (by omega), e29, show C.2 29 + C.1 20 1 + (j : Int) = C.2 29 + (j + C.1 20 1) by omega]
    exact r
  · rw [setlS_1 C 0 (by decide)]
    exact h4 z z0 z1
  · rw [setl_23 C 2 (Or.inl rfl), e29]
    exact hb.1 z z0 z1
  · rw [setl_23 C 3 (Or.inr rfl), e29]
    exact hb.2 w w0 w1
theorem setl_wfl {C : MSt} (hl : WFl C) (he : 0 ≤ C.1 20 1 ∧ C.1 20 1 ≤ C.2 24) : WFl (setlS C) := by
  have e24 := setlS_24 C
  refine ⟨by omega, fun k k0 k1 => ?_⟩
  rw [setl_log C 16 (by decide) he.1 k k0 (by omega), setl_log C 18 (by decide) he.1 k k0 (by omega), setl_log C 19 (by decide) he.1 k k0 (by omega)]
  exact hl.2 _ (by omega) (by omega)
theorem setl_hwo {C : MSt} {fr : Int} (hh : HWo C fr) (h8 : C.2 25 = 8) : HWo (setlS C) (fr - C.1 20 1) := by
  have e25 := setlS_25 C
  obtain ⟨g1, g2, g3, g4, g5⟩ := hh
  refine ⟨by omega, by omega, ?_, ?_, fun k k0 k1 => ?_⟩
  · rw [setl_20 C h8 0 (by omega) (by omega)]
    simp
  · rw [e25, h8, setl_20 C h8 _ (by omega) (by omega)]
    rw [h8] at g4
    simp only [show (8 : Int) - 1 + 1 = 8 by decide]
    omega
  · rw [setl_20 C h8 k k0 (by omega), setl_20 C h8 (k + 1) (by omega) (by omega)]
    have := g5 (k + 1) (by omega) (by omega)
    omega
theorem ends_lt {C : MSt} {fr : Int} (hn : ¬ C.2 24 - fr ≤ 0) (h7 : C.2 25 ≠ 8) (h20 : C.1 20 (C.2 25) = fr) : endsS C fr (C.2 24 - fr) = (C.2 24 - fr, uA (uG C 25 (C.2 25 + 1)) 20 (C.2 25 + 1) (C.2 24)) := by
  unfold endsS
  rw [if_neg hn, if_neg h7, uA_id (show C.1 20 (C.2 25) = C.2 24 - (C.2 24 - fr) by omega)]
theorem ends_8 {C : MSt} {fr : Int} (hn : ¬ C.2 24 - fr ≤ 0) (h8 : C.2 25 = 8) (h20 : C.1 20 (C.2 25) = fr) : endsS C fr (C.2 24 - fr) = (C.2 24 - fr, uA (uG (setlS C) 25 ((setlS C).2 25 + 1)) 20 ((setlS C).2 25 + 1) ((setlS C).2 24)) := by
  have e25 := setlS_25 C
  have e24 := setlS_24 C
  unfold endsS
  rw [if_neg hn, if_pos h8, uA_id (show C.1 20 8 = fr by rw [← h20, h8]), uA_id (show (setlS C).1 20 ((setlS C).2 25) = (setlS C).2 24 - (C.2 24 - fr) by
    rw [e25, setl_20 C h8 _ (by omega) (by omega), h8, e24]
    rw [h8] at h20
    simp only [show (8 : Int) - 1 + 1 = 8 by decide]
    omega)]
/-- what holds of an action at work, for its end -/
def EW (C X : MSt) (fr : Int) : Prop := RelA C X fr ∧ RelH C X ∧ HWo C fr ∧ WFl C ∧ fr ≤ C.2 24 ∧ C.2 24 ≤ fr + 210
def endX (C X : MSt) (fr : Int) : MSt := if C.2 24 - fr ≤ 0 then X else XhF X (keepF (X.1 12) (X.2 27) (X.2 20)) (keepN (X.2 27))
theorem XhF_rel {C X : MSt} {f : Int → Int} {n : Int} (h : RelL C X) : RelL C (XhF X f n) := h.e rfl rfl rfl rfl rfl rfl rfl rfl rfl rfl rfl rfl rfl
theorem ends_push {B X : MSt} {fr : Int} (hL : RelL B X) (hh : HWo B fr) (h7 : B.2 25 < 8) (hfr : fr < B.2 24 ∧ B.2 24 ≤ fr + 210) (hl : WFl B) : RelL (uA (uG B 25 (B.2 25 + 1)) 20 (B.2 25 + 1) (B.2 24)) X ∧ HW (uA (uG B 25 (B.2 25 + 1)) 20 (B.2 25 + 1) (B.2 24)) ∧ WFl (uA (uG B 25 (B.2 25 + 1)) 20 (B.2 25 + 1) (B.2 24)) := by
  obtain ⟨g1, g2, g3, g4, g5⟩ := hh
  refine ⟨hL.e rfl rfl rfl rfl rfl rfl rfl rfl rfl rfl rfl rfl rfl, ⟨?_, ?_, ?_, ?_, fun k k0 k1 => ?_⟩, hl⟩
  · show 0 ≤ B.2 25 + 1
    omega
  · show B.2 25 + 1 ≤ 8
    omega
  · show upZ (B.1 20) (B.2 25 + 1) (B.2 24) 0 = 0
    rw [upZ_n (by omega)]
    exact g3
  · show upZ (B.1 20) (B.2 25 + 1) (B.2 24) (B.2 25 + 1) = B.2 24
    exact upZ_s
  · have k2 : k < B.2 25 + 1 := k1
    show upZ (B.1 20) (B.2 25 + 1) (B.2 24) k < upZ (B.1 20) (B.2 25 + 1) (B.2 24) (k + 1) ∧ upZ (B.1 20) (B.2 25 + 1) (B.2 24) (k + 1) ≤ upZ (B.1 20) (B.2 25 + 1) (B.2 24) k + 210
    rw [upZ_n (by omega : k ≠ B.2 25 + 1)]
    by_cases q : k = B.2 25
    · subst q
      rw [upZ_s, g4]
      omega
    · rw [upZ_n (by omega)]
      exact g5 k k0 (by omega)
theorem ends_rel {C X : MSt} {fr : Int} (h : EW C X fr) : RelL (endsS C fr (C.2 24 - fr)).2 (endX C X fr) ∧ RelH (endsS C fr (C.2 24 - fr)).2 (endX C X fr) ∧ HW (endsS C fr (C.2 24 - fr)).2 ∧ WFl (endsS C fr (C.2 24 - fr)).2 ∧ (endsS C fr (C.2 24 - fr)).2.2 29 + (endsS C fr (C.2 24 - fr)).2.2 24 = C.2 29 + C.2 24 := by
  obtain ⟨⟨hL, hD⟩, hH, hh, hl, hf1, hf2⟩ := h
  by_cases hn : C.2 24 - fr ≤ 0
  · have e1 : endsS C fr (C.2 24 - fr) = (C.2 24 - fr, C) := if_pos hn
    have e2 : endX C X fr = X := if_pos hn
    rw [e1, e2]
    obtain ⟨g1, g2, g3, g4, g5⟩ := hh
    exact ⟨hL, hH, ⟨g1, g2, g3, by rw [g4]; show fr = C.2 24; omega, g5⟩, hl, rfl⟩
  · have e2 : endX C X fr = XhF X (keepF (X.1 12) (X.2 27) (X.2 20)) (keepN (X.2 27)) := if_neg hn
    have hh0 := hh
    obtain ⟨g1, g2, g3, g4, g5⟩ := hh
    have hD1 := hD.1
    by_cases h8 : C.2 25 = 8
    · have e1 := ends_8 hn h8 g4
      have p1 := HWo_lo hh0 1 (by omega)
      have p2 := HWo_le hh0 8 (by omega) 1 (by omega)
      have p3 : C.1 20 8 = fr := by rw [← g4, h8]
      have p1' : 0 ≤ C.1 20 1 := p1
      have p2' : C.1 20 1 ≤ C.1 20 8 := p2
      have hs := setl_rel hL ⟨p1', by omega⟩
      have e24 := setlS_24 C
      have e25 := setlS_25 C
      have e29 := setl_29 C
      have K := ends_push hs (setl_hwo hh0 h8) (by omega) ⟨by omega, by omega⟩ (setl_wfl hl ⟨p1', by omega⟩)
      rw [e1, e2]
      refine ⟨XhF_rel K.1, ⟨?_, fun k k0 k1 => ?_⟩, K.2.1, K.2.2, ?_⟩
      · show keepN (X.2 27) = (setlS C).2 25 + 1
        unfold keepN
        rw [if_pos (by have := hH.1; omega)]
        omega
      · have k2 : k < (setlS C).2 25 + 1 := k1
        show keepF (X.1 12) (X.2 27) (X.2 20) k = (setlS C).2 29 + upZ ((setlS C).1 20) ((setlS C).2 25 + 1) ((setlS C).2 24) k
        unfold keepF
        rw [if_pos (by have := hH.1; omega), upZ_n (by omega : k ≠ (setlS C).2 25 + 1), setl_20 C h8 k k0 (by omega)]
        by_cases q : k = 7
        · rw [q, upZ_s]
          simp only [show (7 : Int) + 1 = 8 by decide]
          omega
        · rw [upZ_n q]
          unfold cpyZ
          rw [if_pos (by omega), show (1 : Int) + (k - 0) = k + 1 by omega, hH.2 (k + 1) (by omega) (by omega)]
          omega
      · show (setlS C).2 29 + (setlS C).2 24 = C.2 29 + C.2 24
        omega
    · have e1 := ends_lt hn h8 g4
      have K := ends_push hL hh0 (by omega) ⟨by omega, by omega⟩ hl
      rw [e1, e2]
      refine ⟨XhF_rel K.1, ⟨?_, fun k k0 k1 => ?_⟩, K.2.1, K.2.2, rfl⟩
      · show keepN (X.2 27) = C.2 25 + 1
        unfold keepN
        rw [if_neg (by have := hH.1; omega), hH.1]
      · have k2 : k < C.2 25 + 1 := k1
        show keepF (X.1 12) (X.2 27) (X.2 20) k = C.2 29 + upZ (C.1 20) (C.2 25 + 1) (C.2 24) k
        unfold keepF
        rw [if_neg (by have := hH.1; omega), upZ_n (by omega : k ≠ C.2 25 + 1), hH.1]
        by_cases q : k = C.2 25
        · rw [q, upZ_s, g4]
          exact hD1
        · rw [upZ_n q]
          exact hH.2 k k0 (by omega)
-- the undoing
theorem un_cells {S X : MSt} (hL : RelL S X) : ∀ j : Nat, (j : Int) ≤ S.2 24 → ∀ z, 0 ≤ z → z < 48 → (unI S j).1 0 z = anewN (AF X) z ((X.2 25).toNat - j)
  | 0, _, z, z0, z1 => (hL.2.2.2.1 z z0 z1).symm
  | j + 1, hj, z, z0, z1 => by
    obtain ⟨⟨h1, h1a, h1b⟩, h2, h3, h4, h5, h6⟩ := id hL
    have ih := un_cells hL j (by omega) z z0 z1
    obtain ⟨n, hn⟩ : ∃ n : Nat, (X.2 25).toNat - j = n + 1 := ⟨(X.2 25).toNat - j - 1, by omega⟩
    have hn2 : (X.2 25).toNat - (j + 1) = n := by omega
    rw [hn] at ih
    rw [hn2]
    have e24 := unI_24 S j
    have r := h2 (S.2 24 - j - 1).toNat (by omega)
    have ei : (((S.2 24 - j - 1).toNat : Nat) : Int) = S.2 24 - j - 1 := by omega
    rw [ei] at r
    have en : S.2 29 + (S.2 24 - j - 1) = (n : Int) := by omega
    rw [en] at r
    have r3 := h3 n (by omega)
    rw [unI, uA_s, unI_1 (S := S) 16 (by decide), unI_1 (S := S) 17 (by decide), e24]
    rw [uG_1]
    rw [anewN] at ih
    have f0 : AF X 0 (n : Int) = X.1 7 n := rfl
    have f2 : AF X 2 (n : Int) = X.1 9 n := rfl
    rw [f0, f2] at ih
    unfold upZ
    by_cases q : z = S.1 16 (S.2 24 - j - 1)
    · rw [if_pos q, ← r.2.1, r3.2.2.2, r.1, ← q]
    · rw [if_neg q, ih, if_neg (fun y => q (by rw [← y, r.1]))]
theorem un_rel {S X X' : MSt} {k : Int} (hL : RelL S X) (hk : 0 ≤ k ∧ k ≤ S.2 24) (x7 : X'.1 7 = X.1 7) (x8 : X'.1 8 = X.1 8) (x9 : X'.1 9 = X.1 9) (x10 : X'.1 10 = X.1 10) (x25 : X'.2 25 = S.2 29 + k) : RelL (unI S (S.2 24 - k).toNat) X' := by
  obtain ⟨⟨h1, h1a, h1b⟩, h2, h3, h4, h5, h6⟩ := id hL
  have e24 := unI_24 S (S.2 24 - k).toNat
  have e24' : (unI S (S.2 24 - k).toNat).2 24 = k := by omega
  have e29 : (unI S (S.2 24 - k).toNat).2 29 = S.2 29 := unI_2 S 29 (by decide) _
  have f0 : AF X' 0 = AF X 0 := x7
  have f2 : AF X' 2 = AF X 2 := x9
  have f3 : AF X' 3 = AF X 3 := x10
  have an : ∀ (z : Int) (j : Nat), anewN (AF X') z j = anewN (AF X) z j := fun z j => anewN_pre z (fun i _ => ⟨by rw [f0], by rw [f2]⟩) j (Nat.le_refl j)
  refine ⟨⟨by omega, by omega, by omega⟩, fun j hj => ?_, fun e he => ?_, fun z z0 z1 => ?_, fun z z0 z1 => ?_, fun w w0 w1 => ?_⟩
  · rw [e29, x7, x8, x10, unI_1 S 16 (by decide), unI_1 S 17 (by decide), unI_1 S 18 (by decide)]
    exact h2 j (by omega)
  · rw [x7, x8, x9, x10, an]
    exact h3 e (by omega)
  · rw [an, x25, un_cells hL _ (by omega) z z0 z1]
    congr 1
    omega
  · rw [unI_1 S 2 (by decide), e29, h5 z z0 z1]
    exact (byN_pre z (fun i _ => ⟨by rw [f0], by rw [f3]⟩) _ (Nat.le_refl _)).symm
  · rw [unI_1 S 3 (by decide), e29, h6 w w0 w1]
    exact (cntN_pre w (fun i _ => by rw [f3]) _ (Nat.le_refl _)).symm
-- the audit's arrays agree as far as they are used
theorem RelL.g {S X X' : MSt} (H : RelL S X) (hx : ∀ k : Nat, k < 4 → ∀ z : Int, 0 ≤ z → z < X.2 25 → X'.1 (7 + k) z = X.1 (7 + k) z) (x25 : X'.2 25 = X.2 25) : RelL S X' := by
  obtain ⟨⟨h1, h1a, h1b⟩, h2, h3, h4, h5, h6⟩ := H
  have lo : ∀ j : Nat, j < (X.2 25).toNat → (AF X') 0 j = (AF X) 0 j ∧ (AF X') 2 j = (AF X) 2 j ∧ (AF X') 3 j = (AF X) 3 j := fun j hj => ⟨hx 0 (by decide) j (by omega) (by omega), hx 2 (by decide) j (by omega) (by omega), hx 3 (by decide) j (by omega) (by omega)⟩
  have an : ∀ (z : Int) (j : Nat), j ≤ (X.2 25).toNat → anewN (AF X') z j = anewN (AF X) z j := fun z j hj => anewN_pre z (fun i hi => ⟨(lo i (by omega)).1, (lo i (by omega)).2.1⟩) j (Nat.le_refl j)
  refine ⟨⟨by omega, by omega, by omega⟩, fun j hj => ?_, fun e he => ?_, fun z z0 z1 => ?_, fun z z0 z1 => ?_, fun w w0 w1 => ?_⟩
  · have a := hx 0 (by decide) (S.2 29 + j) (by omega) (by omega)
    have b := hx 1 (by decide) (S.2 29 + j) (by omega) (by omega)
    have c := hx 3 (by decide) (S.2 29 + j) (by omega) (by omega)
    simp only [Nat.reduceAdd] at a b c
    rw [a, b, c]
    exact h2 j hj
  · have a := hx 0 (by decide) e (by omega) (by omega)
    have b := hx 1 (by decide) e (by omega) (by omega)
    have c := hx 2 (by decide) e (by omega) (by omega)
    have d := hx 3 (by decide) e (by omega) (by omega)
    simp only [Nat.reduceAdd] at a b c d
    rw [a, b, c, d, an _ e (by omega)]
    exact h3 e (by omega)
  · rw [x25, an z _ (Nat.le_refl _)]
    exact h4 z z0 z1
  · rw [h5 z z0 z1]
    exact (byN_pre z (fun i hi => ⟨(lo i (by omega)).1, (lo i (by omega)).2.2⟩) _ (Nat.le_refl _)).symm
  · rw [h6 w w0 w1]
    exact (cntN_pre w (fun i hi => (lo i (by omega)).2.2) _ (Nat.le_refl _)).symm

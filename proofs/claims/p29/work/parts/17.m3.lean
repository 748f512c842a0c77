/-! the reference's actions: the queue, the settling, a change by hand -/
/-- the log is well formed -/
def WFl (S : MSt) : Prop := 0 ≤ S.2 24 ∧ ∀ k, 0 ≤ k → k < S.2 24 → 0 ≤ S.1 16 k ∧ S.1 16 k < 48 ∧ -1 ≤ S.1 18 k ∧ S.1 18 k < 6 ∧ 0 ≤ S.1 19 k ∧ S.1 19 k ≤ 3
theorem whyR_ok (S : MSt) (m x : Int) : ∀ n j, (whyR S m x n j).1 = 45 → ∀ i, i < n → isOutB S m ((j + i : Nat) : Int) x = false ∧ isGrantedB S m (goalI S m ((j + i : Nat) : Int) x) = true ∧ isValueB (stepI (trI S m x (j + i)) m ((j + i : Nat) : Int) x) = true
  | 0, j, _, i, hi => absurd hi (Nat.not_lt_zero i)
  | n + 1, j, h, i, hi => by
    unfold whyR at h
    split at h
    · cases h
    · split at h
      · cases h
      · split at h
        · cases h
        · cases i with
          | zero => exact ⟨by simpa using ‹¬ isOutB S m (j : Int) x = true›, by simpa using ‹¬ isGrantedB S m (goalI S m (j : Int) x) = false›, by simpa using ‹¬ isValueB (stepI (trI S m x j) m (j : Int) x) = false›⟩
          | succ i =>
            have := whyR_ok S m x n (j + 1) h i (by omega)
            rw [show j + (i + 1) = j + 1 + i by omega]
            exact this
theorem whyS_ok {S : MSt} {m x : Int} (h : (whyS S m x).1 = 45) : ∀ j : Nat, (j : Int) < S.1 4 m → isOutB S m j x = false ∧ isGrantedB S m (goalI S m j x) = true ∧ isValueB (stepI (trI S m x j) m j x) = true := by
  intro j hj
  have := whyR_ok S m x _ 0 h j (by omega)
  rw [Nat.zero_add] at this
  exact this
theorem whyR_st (S : MSt) (m x : Int) : ∀ n j, ∃ i, (whyR S m x n j).2 = trI S m x i
  | 0, j => ⟨j, rfl⟩
  | n + 1, j => by
    unfold whyR
    split
    · exact ⟨j, rfl⟩
    · split
      · exact ⟨j, rfl⟩
      · split
        · exact ⟨j, rfl⟩
        · exact whyR_st S m x n (j + 1)
theorem whyS_1 (S : MSt) (m x : Int) (k : Nat) (h : k ≠ 1) : (whyS S m x).2.1 k = S.1 k := by
  obtain ⟨i, hi⟩ := whyR_st S m x (S.1 4 m).toNat 0
  unfold whyS
  rw [hi, trI_1 S m x k h]
theorem whyS_2 (S : MSt) (m x : Int) : (whyS S m x).2.2 = S.2 := by
  obtain ⟨i, hi⟩ := whyR_st S m x (S.1 4 m).toNat 0
  unfold whyS
  rw [hi, trI_2 S m x]
/-- the same program's part, and the same cells -/
def PEq (Y S : MSt) : Prop := (∀ k, 4 ≤ k → k < 16 → Y.1 k = S.1 k) ∧ Y.1 0 = S.1 0
theorem goalI_pe {Y S : MSt} (h : PEq Y S) (m k x : Int) : goalI Y m k x = goalI S m k x := by
  unfold goalI
  rw [h.1 6 (by decide) (by decide), h.1 7 (by decide) (by decide)]
theorem becS_0 (S : MSt) (x v w dp : Int) : (becS S x v w dp).1 0 = upZ (S.1 0) x v := by
  unfold becS
  split
  · funext z
    unfold upZ
    split
    · rename_i h1 h2
      rw [h2, h1]
    · rfl
  · simp [uA, uG]
theorem becS_11 (S : MSt) (x v w dp : Int) : (becS S x v w dp).1 1 = S.1 1 := becS_1 S x v w dp 1 (by decide)
theorem becS_24 (S : MSt) (x v w dp : Int) : S.2 24 ≤ (becS S x v w dp).2 24 ∧ (becS S x v w dp).2 24 ≤ S.2 24 + 1 := by
  unfold becS
  split
  · omega
  · simp [uA, uG]
    omega
/-- in a run the tried values are the cells' values -/
theorem rnI_01 (S : MSt) (m x dp : Int) : ∀ (j : Nat) (z : Int), 0 ≤ z → z < 48 → (rnI S m x dp j).1 1 z = (rnI S m x dp j).1 0 z
  | 0, z, h0, h1 => by
    have : ((48 : Nat) : Int) = 48 := rfl
    simp [rnI, cpN, h0, h1]
  | j + 1, z, h0, h1 => by
    have ih := rnI_01 S m x dp j z h0 h1
    rw [rnI, becS_11, becS_0, uA_s, uA_n _ (by decide)]
    unfold upZ
    split
    · rfl
    · exact ih
theorem rnI_24 (S : MSt) (m x dp : Int) : ∀ j : Nat, S.2 24 ≤ (rnI S m x dp j).2 24 ∧ (rnI S m x dp j).2 24 ≤ S.2 24 + j
  | 0 => by simp [rnI, cpN]
  | j + 1 => by
    have ih := rnI_24 S m x dp j
    have h := becS_24 (uA (rnI S m x dp j) 1 (goalI (rnI S m x dp j) m j x) (stepI (rnI S m x dp j) m j x)) (goalI (rnI S m x dp j) m j x) (stepI (rnI S m x dp j) m j x) m dp
    rw [uA_2] at h
    rw [rnI]
    omega
theorem stepI_eq {X Y : MSt} {m k x : Int} (h5 : X.1 5 = Y.1 5) (h6 : X.1 6 = Y.1 6) (h7 : X.1 7 = Y.1 7) (h8 : X.1 8 = Y.1 8) (hg : X.1 1 (goalI Y m k x) = Y.1 1 (goalI Y m k x)) (hx : X.1 1 x = Y.1 1 x) : stepI X m k x = stepI Y m k x := by
  have e : goalI X m k x = goalI Y m k x := by unfold goalI; rw [h6, h7]
  unfold stepI
  rw [e, h5, h8, hg, hx]
theorem rn_tr {Y S : MSt} {m x dp : Int} (hp : PEq Y S) (hx : 0 ≤ x ∧ x < 48) : ∀ n : Nat, (∀ j : Nat, j < n → 0 ≤ goalI S m j x ∧ goalI S m j x < 48) → ∀ z, 0 ≤ z → z < 48 → (rnI Y m x dp n).1 1 z = (trI S m x n).1 1 z
  | 0, _, z, h0, h1 => by
    simp [rnI, trI, cpN, h0, h1]
    rw [hp.2]
  | n + 1, hg, z, h0, h1 => by
    have ih := rn_tr hp hx (dp := dp) n (fun j hj => hg j (by omega))
    have g := hg n (by omega)
    have e6 := (rnI_1 Y m x dp 6 (by decide) n).trans ((hp.1 6 (by decide) (by decide)).trans (trI_1 S m x 6 (by decide) n).symm)
    have e7 := (rnI_1 Y m x dp 7 (by decide) n).trans ((hp.1 7 (by decide) (by decide)).trans (trI_1 S m x 7 (by decide) n).symm)
    have e5 := (rnI_1 Y m x dp 5 (by decide) n).trans ((hp.1 5 (by decide) (by decide)).trans (trI_1 S m x 5 (by decide) n).symm)
    have e8 := (rnI_1 Y m x dp 8 (by decide) n).trans ((hp.1 8 (by decide) (by decide)).trans (trI_1 S m x 8 (by decide) n).symm)
    have eg : goalI (trI S m x n) m n x = goalI S m n x := trI_goal S m x n n
    have eg2 : goalI (rnI Y m x dp n) m n x = goalI S m n x := by rw [rnI_goal, goalI_pe hp]
    have es : stepI (rnI Y m x dp n) m n x = stepI (trI S m x n) m n x := stepI_eq e5 e6 e7 e8 (by rw [eg]; exact ih _ g.1 g.2) (ih x hx.1 hx.2)
    rw [rnI, becS_11, uA_s, trI, uA_s, es, eg, eg2]
    unfold upZ
    split
    · rfl
    · exact ih z h0 h1
/-- what the running of a macro that can run needs -/
theorem run_ok {Y S : MSt} {m x : Int} (dp : Int) (hw : WFp S) (hp : PEq Y S) (hm : 0 ≤ m ∧ m < 6) (hx : 0 ≤ x ∧ x < 48) (hl : 0 ≤ Y.2 24 ∧ Y.2 24 ≤ 2090) (h : (whyS S m x).1 = 45) : (∀ j : Nat, (j : Int) < Y.1 4 m → 0 ≤ goalI Y m j x ∧ goalI Y m j x < 48) ∧ (∀ j : Nat, (j : Int) < Y.1 4 m → rI (stepI (rnI Y m x dp j) m j x) ∧ rI ((rnI Y m x dp j).1 0 (goalI Y m j x)) ∧ 0 ≤ (rnI Y m x dp j).2 24 ∧ (rnI Y m x dp j).2 24 < 2100) ∧ (∀ j : Nat, (j : Int) ≤ Y.1 4 m → rgN ((rnI Y m x dp j).1 0)) := by
  have e4 := hp.1 4 (by decide) (by decide)
  have ok := whyS_ok h
  have e4m : Y.1 4 m = S.1 4 m := by rw [e4]
  have hg : ∀ j : Nat, (j : Int) < Y.1 4 m → 0 ≤ goalI Y m j x ∧ goalI Y m j x < 48 := fun j hj => by
    rw [goalI_pe hp]
    exact goal_in (ok j (by rw [← e4]; exact hj)).1
  have hm4 := hw.2.1 m hm.1 hm.2
  have es : ∀ j : Nat, (j : Int) < Y.1 4 m → stepI (rnI Y m x dp j) m j x = stepI (trI S m x j) m j x := fun n hn => by
    have ih := rn_tr hp hx (dp := dp) (m := m) n (fun j hj => by have := hg j (by omega); rw [goalI_pe hp] at this; exact this)
    have g := hg n hn
    rw [goalI_pe hp] at g
    have e6 := (rnI_1 Y m x dp 6 (by decide) n).trans ((hp.1 6 (by decide) (by decide)).trans (trI_1 S m x 6 (by decide) n).symm)
    have e7 := (rnI_1 Y m x dp 7 (by decide) n).trans ((hp.1 7 (by decide) (by decide)).trans (trI_1 S m x 7 (by decide) n).symm)
    have e5 := (rnI_1 Y m x dp 5 (by decide) n).trans ((hp.1 5 (by decide) (by decide)).trans (trI_1 S m x 5 (by decide) n).symm)
    have e8 := (rnI_1 Y m x dp 8 (by decide) n).trans ((hp.1 8 (by decide) (by decide)).trans (trI_1 S m x 8 (by decide) n).symm)
    have eg : goalI (trI S m x n) m n x = goalI S m n x := trI_goal S m x n n
    exact stepI_eq e5 e6 e7 e8 (by rw [eg]; exact ih _ g.1 g.2) (ih x hx.1 hx.2)
  have hr : ∀ j : Nat, (j : Int) ≤ Y.1 4 m → rgN ((rnI Y m x dp j).1 0) := by
    intro j
    induction j with
    | zero =>
      intro _ z h0 h1
      have := hw.2.2.2.2.2 z h0 h1
      simp [rnI, cpN]
      rw [hp.2]
      exact this
    | succ j ih =>
      intro hj
      rw [rnI, becS_0, uA_n _ (by decide)]
      refine rgN_up (ih (by omega)) ?_
      rw [es j (by omega)]
      exact (ok j (by rw [← e4]; omega)).2.2
  refine ⟨hg, fun j hj => ?_, hr⟩
  have g := hg j hj
  have h1 := hr j (by omega) _ g.1 g.2
  have h2 := (ok j (by rw [← e4]; exact hj)).2.2
  have h3 := rnI_24 Y m x dp j
  rw [← es j hj] at h2
  simp only [isValueB, isInB, Bool.and_eq_true, decide_eq_true_eq] at h2
  refine ⟨by omega, by omega, by omega, by omega⟩
theorem whyS_ans (S : MSt) (m x : Int) : 45 ≤ (whyS S m x).1 ∧ (whyS S m x).1 ≤ 118 := whyR_ans S m x _ 0
theorem run_pre {X : MSt} {m x v : Int} (dp : Int) (w1 : WFp X) (hm : 0 ≤ m ∧ m < 6) (hx : 0 ≤ x ∧ x < 48) (hl : 0 ≤ X.2 24 ∧ X.2 24 ≤ 2090) (hok : (whyS X m x).1 = 45) : WFp (uG (whyS X m x).2 26 v) ∧ (∀ j : Nat, (j : Int) < (uG (whyS X m x).2 26 v).1 4 m → 0 ≤ goalI (uG (whyS X m x).2 26 v) m j x ∧ goalI (uG (whyS X m x).2 26 v) m j x < 48) ∧ (∀ j : Nat, (j : Int) < (uG (whyS X m x).2 26 v).1 4 m → rI (stepI (rnI (uG (whyS X m x).2 26 v) m x dp j) m j x) ∧ rI ((rnI (uG (whyS X m x).2 26 v) m x dp j).1 0 (goalI (uG (whyS X m x).2 26 v) m j x)) ∧ 0 ≤ (rnI (uG (whyS X m x).2 26 v) m x dp j).2 24 ∧ (rnI (uG (whyS X m x).2 26 v) m x dp j).2 24 < 2100) := by
  generalize hY : uG (whyS X m x).2 26 v = Y
  have y1 : ∀ k, k ≠ 1 → Y.1 k = X.1 k := fun k h => by rw [← hY]; exact whyS_1 X m x k h
  have y2 : ∀ k, k ≠ 26 → Y.2 k = X.2 k := fun k h => by rw [← hY, uG_n _ h, whyS_2]
  have hpe : PEq Y X := ⟨fun k h1 h2 => y1 k (by omega), y1 0 (by decide)⟩
  obtain ⟨g1, g2, -⟩ := run_ok dp w1 hpe hm hx (by rw [y2 24 (by decide)]; exact hl) hok
  refine ⟨?_, g1, g2⟩
  obtain ⟨v1, v2, v3, v4, v5, v6⟩ := w1
  refine ⟨?_, ?_, ?_, ?_, ?_, ?_⟩
  · rw [y1 5 (by decide), y1 6 (by decide), y1 7 (by decide), y1 8 (by decide)]; exact v1
  · rw [y1 4 (by decide), y1 9 (by decide)]; exact v2
  · rw [y1 10 (by decide), y1 11 (by decide)]; exact v3
  · rw [y1 12 (by decide), y1 13 (by decide), y1 14 (by decide), y1 15 (by decide)]; exact v4
  · rw [y2 22 (by decide), y2 23 (by decide), y2 27 (by decide), y2 28 (by decide)]; exact v5
  · rw [y1 0 (by decide)]; exact v6
/-- one place of the queue -/
def chS (X : MSt) (run k : Int) : MSt × Int := if 0 ≤ ruledI X (X.1 16 k) ∧ X.1 19 k < 3 ∧ X.1 14 (ruledI X (X.1 16 k)) ≠ X.2 27 ∧ run < 20 then (if (whyS X (X.1 14 (ruledI X (X.1 16 k))) (X.1 16 k)).1 = 45 then (runS (uG (whyS X (X.1 14 (ruledI X (X.1 16 k))) (X.1 16 k)).2 26 ((whyS X (X.1 14 (ruledI X (X.1 16 k))) (X.1 16 k)).2.2 26 + 0)) (X.1 14 (ruledI X (X.1 16 k))) (X.1 16 k) (X.1 19 k + 1), run + 1) else (uG (whyS X (X.1 14 (ruledI X (X.1 16 k))) (X.1 16 k)).2 26 ((whyS X (X.1 14 (ruledI X (X.1 16 k))) (X.1 16 k)).2.2 26 + 1), run + 0)) else (X, run)
theorem chS_no {X : MSt} {run k : Int} (h : ¬ (0 ≤ ruledI X (X.1 16 k) ∧ X.1 19 k < 3 ∧ X.1 14 (ruledI X (X.1 16 k)) ≠ X.2 27 ∧ run < 20)) : chS X run k = (X, run) := by
  unfold chS
  rw [if_neg h]
theorem chS_yes {X : MSt} {run k : Int} (h : 0 ≤ ruledI X (X.1 16 k) ∧ X.1 19 k < 3 ∧ X.1 14 (ruledI X (X.1 16 k)) ≠ X.2 27 ∧ run < 20) (hw : (whyS X (X.1 14 (ruledI X (X.1 16 k))) (X.1 16 k)).1 = 45) : chS X run k = (runS (uG (whyS X (X.1 14 (ruledI X (X.1 16 k))) (X.1 16 k)).2 26 ((whyS X (X.1 14 (ruledI X (X.1 16 k))) (X.1 16 k)).2.2 26 + 0)) (X.1 14 (ruledI X (X.1 16 k))) (X.1 16 k) (X.1 19 k + 1), run + 1) := by
  unfold chS
  rw [if_pos h, if_pos hw]
theorem chS_skip {X : MSt} {run k : Int} (h : 0 ≤ ruledI X (X.1 16 k) ∧ X.1 19 k < 3 ∧ X.1 14 (ruledI X (X.1 16 k)) ≠ X.2 27 ∧ run < 20) (hw : ¬ (whyS X (X.1 14 (ruledI X (X.1 16 k))) (X.1 16 k)).1 = 45) : chS X run k = (uG (whyS X (X.1 14 (ruledI X (X.1 16 k))) (X.1 16 k)).2 26 ((whyS X (X.1 14 (ruledI X (X.1 16 k))) (X.1 16 k)).2.2 26 + 1), run + 0) := by
  unfold chS
  rw [if_pos h, if_neg hw]
/-- the queue, from the place fr on: the state and the runs behind j places -/
def chI (S : MSt) (fr : Int) : Nat → MSt × Int
  | 0 => (S, 0)
  | j + 1 => chS (chI S fr j).1 (chI S fr j).2 (fr + j)
/-- the settling of the oldest action: its three loops -/
def sl1 (S : MSt) : Nat → MSt
  | 0 => S
  | k + 1 => uA (uA (sl1 S k) 3 ((sl1 S k).1 18 k + 1) ((sl1 S k).1 3 ((sl1 S k).1 18 k + 1) + 1)) 2 ((sl1 S k).1 16 k) ((sl1 S k).1 18 k)
theorem sl1_1 (S : MSt) (k : Nat) (h : k ≠ 2 ∧ k ≠ 3) : ∀ j, (sl1 S j).1 k = S.1 k
  | 0 => rfl
  | j + 1 => by
    rw [sl1, uA_n _ h.1, uA_n _ h.2]
    exact sl1_1 S k h j
theorem sl1_2 (S : MSt) : ∀ j, (sl1 S j).2 = S.2
  | 0 => rfl
  | j + 1 => sl1_2 S j
def sl2 (S : MSt) (d : Int) : Nat → MSt
  | 0 => S
  | j + 1 => uA (uA (uA (uA (sl2 S d j) 16 (d + j - d) ((sl2 S d j).1 16 (d + j))) 17 (d + j - d) ((sl2 S d j).1 17 (d + j))) 18 (d + j - d) ((sl2 S d j).1 18 (d + j))) 19 (d + j - d) ((sl2 S d j).1 19 (d + j))
theorem sl2_1 (S : MSt) (d : Int) (k : Nat) (h : k ≠ 16 ∧ k ≠ 17 ∧ k ≠ 18 ∧ k ≠ 19) : ∀ j, (sl2 S d j).1 k = S.1 k
  | 0 => rfl
  | j + 1 => by
    rw [sl2, uA_n _ h.2.2.2, uA_n _ h.2.2.1, uA_n _ h.2.1, uA_n _ h.1]
    exact sl2_1 S d k h j
theorem sl2_2 (S : MSt) (d : Int) : ∀ j, (sl2 S d j).2 = S.2
  | 0 => rfl
  | j + 1 => sl2_2 S d j
def sl3 (S : MSt) (d : Int) : Nat → MSt
  | 0 => S
  | j + 1 => uA (sl3 S d j) 20 j ((sl3 S d j).1 20 (j + 1) - d)
theorem sl3_1 (S : MSt) (d : Int) (k : Nat) (h : k ≠ 20) : ∀ j, (sl3 S d j).1 k = S.1 k
  | 0 => rfl
  | j + 1 => by
    rw [sl3, uA_n _ h]
    exact sl3_1 S d k h j
theorem sl3_2 (S : MSt) (d : Int) : ∀ j, (sl3 S d j).2 = S.2
  | 0 => rfl
  | j + 1 => sl3_2 S d j
theorem uG_uG (S : MSt) (k : Nat) (a b : Int) : uG (uG S k a) k b = uG S k b := by
  refine Prod.ext rfl (funext fun j => ?_)
  by_cases h : j = k <;> simp [uG, h]
theorem WFp_of {S Y : MSt} (h : WFp S) (h1 : ∀ k, 4 ≤ k → k < 16 → Y.1 k = S.1 k) (h2 : Y.2 22 = S.2 22 ∧ Y.2 23 = S.2 23 ∧ Y.2 27 = S.2 27 ∧ Y.2 28 = S.2 28) (h3 : rgN (Y.1 0)) : WFp Y := by
  obtain ⟨w1, w2, w3, w4, w5, w6⟩ := h
  refine ⟨?_, ?_, ?_, ?_, ?_, h3⟩
  · rw [h1 5 (by decide) (by decide), h1 6 (by decide) (by decide), h1 7 (by decide) (by decide), h1 8 (by decide) (by decide)]
    exact w1
  · rw [h1 4 (by decide) (by decide), h1 9 (by decide) (by decide)]
    exact w2
  · rw [h1 10 (by decide) (by decide), h1 11 (by decide) (by decide)]
    exact w3
  · rw [h1 12 (by decide) (by decide), h1 13 (by decide) (by decide), h1 14 (by decide) (by decide), h1 15 (by decide) (by decide)]
    exact w4
  · rw [h2.1, h2.2.1, h2.2.2.1, h2.2.2.2]
    exact w5
theorem WFl_bec {S : MSt} {x v w dp : Int} (h : WFl S) (hx : 0 ≤ x ∧ x < 48) (hw : -1 ≤ w ∧ w < 6) (hd : 0 ≤ dp ∧ dp ≤ 3) : WFl (becS S x v w dp) := by
  unfold becS
  split
  · exact h
  · refine ⟨by have := h.1; simp [uA, uG]; omega, fun k h0 h1 => ?_⟩
    by_cases q : k = S.2 24
    · simp [uA, uG, upZ, q]
      omega
    · have h2 := h.2 k h0 (by simp [uA, uG] at h1; omega)
      simp [uA, uG, upZ, q]
      exact h2
theorem rnI_wl {Y : MSt} {m x dp : Int} (h : WFl Y) (hm : 0 ≤ m ∧ m < 6) (hd : 0 ≤ dp ∧ dp ≤ 3) (hg : ∀ j : Nat, (j : Int) < Y.1 4 m → 0 ≤ goalI Y m j x ∧ goalI Y m j x < 48) : ∀ j : Nat, (j : Int) ≤ Y.1 4 m → WFl (rnI Y m x dp j)
  | 0, _ => by simpa [WFl, rnI, cpN] using h
  | j + 1, hj => by
    have ih := rnI_wl h hm hd hg j (by omega)
    have g := hg j (by omega)
    rw [rnI]
    exact WFl_bec (by simpa [WFl, uA] using ih) (by rw [rnI_goal]; exact g) (by omega) hd
/-- the queue: what holds as long as it goes on -/
def chW (S : MSt) (fr : Int) (j : Nat) : Prop := WFp (chI S fr j).1 ∧ WFl (chI S fr j).1 ∧ 0 ≤ (chI S fr j).2 ∧ (chI S fr j).2 ≤ 20 ∧ S.2 24 ≤ (chI S fr j).1.2 24 ∧ (chI S fr j).1.2 24 ≤ S.2 24 + 10 * (chI S fr j).2 ∧ (∀ k, 4 ≤ k → k < 16 → (chI S fr j).1.1 k = S.1 k) ∧ (∀ k, k ≠ 24 → k ≠ 26 → (chI S fr j).1.2 k = S.2 k)
theorem ruledI_in {S : MSt} {x : Int} (h : 0 ≤ S.2 23 ∧ S.2 23 ≤ 6) : -1 ≤ ruledI S x ∧ ruledI S x < 6 := by
  have := ruN_in S x (S.2 23).toNat
  unfold ruledI
  omega
theorem chI_wf {S : MSt} {fr : Int} (hp : WFp S) (hl : WFl S) (hfr : 0 ≤ fr) (hlog : S.2 24 ≤ 1890) : ∀ j : Nat, (∀ i : Nat, i < j → fr + i < (chI S fr i).1.2 24) → chW S fr j
  | 0, _ => ⟨hp, hl, by simp [chI], by simp [chI], by simp [chI], by simp [chI], fun _ _ _ => rfl, fun _ _ _ => rfl⟩
  | j + 1, hj => by
    obtain ⟨w1, w2, w3, w4, w5, w6, w7, w8⟩ := chI_wf hp hl hfr hlog j (fun i hi => hj i (by omega))
    have hk := hj j (by omega)
    generalize hX : (chI S fr j).1 = X at w1 w2 w5 w6 w7 w8 hk
    generalize hn : (chI S fr j).2 = run at w3 w4 w6
    have e : chI S fr (j + 1) = chS X run (fr + j) := by rw [chI, hX, hn]
    have lk := w2.2 (fr + j) (by omega) hk
    have r1 := ruledI_in (x := X.1 16 (fr + j)) ⟨w1.2.2.2.2.1.2.2.1, w1.2.2.2.2.1.2.2.2.1⟩
    unfold chW
    rw [e]
    unfold chS
    split
    · rename_i hc
      have rm := w1.2.2.2.1 (ruledI X (X.1 16 (fr + j))) hc.1 r1.2
      generalize hx : X.1 16 (fr + j) = x at lk hc r1 rm ⊢
      generalize hm : X.1 14 (ruledI X x) = m at hc rm ⊢
      have hrg : rgN (X.1 0) := w1.2.2.2.2.2
      split
      · rename_i hok
        generalize hY : uG (whyS X m x).2 26 ((whyS X m x).2.2 26 + 0) = Y
        have y1 : ∀ k, k ≠ 1 → Y.1 k = X.1 k := fun k h => by rw [← hY, uG_1, whyS_1 X m x k h]
        have y2 : ∀ k, k ≠ 26 → Y.2 k = X.2 k := fun k h => by rw [← hY, uG_n _ h, whyS_2]
        have hpe : PEq Y X := ⟨fun k h1 h2 => y1 k (by omega), y1 0 (by decide)⟩
        have hl9 : 0 ≤ Y.2 24 ∧ Y.2 24 ≤ 2090 := by rw [y2 24 (by decide)]; omega
        obtain ⟨g1, g2, g3⟩ := run_ok (X.1 19 (fr + j) + 1) w1 hpe (by omega) (by omega) hl9 hok
        have hY4 : Y.1 4 m = X.1 4 m := by rw [y1 4 (by decide)]
        have hm4 := w1.2.1 m (by omega) (by omega)
        have hcast : (((Y.1 4 m).toNat : Nat) : Int) = Y.1 4 m := by omega
        have z1 : ∀ k, k ≠ 0 ∧ k ≠ 1 ∧ k ≠ 16 ∧ k ≠ 17 ∧ k ≠ 18 ∧ k ≠ 19 → (runS Y m x (X.1 19 (fr + j) + 1)).1 k = X.1 k := fun k h => by
          unfold runS
          rw [rnI_1 Y m x _ k h, y1 k h.2.1]
        have z2 : ∀ k, k ≠ 24 → k ≠ 26 → (runS Y m x (X.1 19 (fr + j) + 1)).2 k = X.2 k := fun k h h2 => by
          unfold runS
          rw [rnI_2 Y m x _ k h, y2 k h2]
        have z3 := rnI_24 Y m x (X.1 19 (fr + j) + 1) (Y.1 4 m).toNat
        have z4 : WFl (runS Y m x (X.1 19 (fr + j) + 1)) := rnI_wl (by
          refine ⟨by rw [y2 24 (by decide)]; exact w2.1, fun k h0 h1 => ?_⟩
          rw [y1 16 (by decide), y1 18 (by decide), y1 19 (by decide)]
          exact w2.2 k h0 (by rw [y2 24 (by decide)] at h1; exact h1)) (by omega) (by omega) g1 _ (by omega)
        have z5 : rgN ((runS Y m x (X.1 19 (fr + j) + 1)).1 0) := g3 _ (by omega)
        refine ⟨WFp_of w1 (fun k h1 h2 => z1 k (by omega)) ⟨z2 22 (by decide) (by decide), z2 23 (by decide) (by decide), z2 27 (by decide) (by decide), z2 28 (by decide) (by decide)⟩ z5, z4, by simp; omega, by simp; omega, ?_, ?_, fun k h1 h2 => by simp; rw [z1 k (by omega), w7 k h1 h2], fun k h1 h2 => by simp; rw [z2 k h1 h2, w8 k h1 h2]⟩
        · simp
          unfold runS
          rw [y2 24 (by decide)] at z3
          omega
        · simp
          unfold runS
          rw [y2 24 (by decide)] at z3
          omega
      · generalize hY : uG (whyS X m x).2 26 ((whyS X m x).2.2 26 + 1) = Y
        have y1 : ∀ k, k ≠ 1 → Y.1 k = X.1 k := fun k h => by rw [← hY, uG_1, whyS_1 X m x k h]
        have y2 : ∀ k, k ≠ 26 → Y.2 k = X.2 k := fun k h => by rw [← hY, uG_n _ h, whyS_2]
        refine ⟨WFp_of w1 (fun k h1 h2 => y1 k (by omega)) ⟨y2 22 (by decide), y2 23 (by decide), y2 27 (by decide), y2 28 (by decide)⟩ (by simp; rw [y1 0 (by decide)]; exact hrg), ?_, by simp; omega, by simp; omega, by simp; rw [y2 24 (by decide)]; exact w5, by simp; rw [y2 24 (by decide)]; exact w6, fun k h1 h2 => by simp; rw [y1 k (by omega), w7 k h1 h2], fun k h1 h2 => by simp; rw [y2 k h2, w8 k h1 h2]⟩
        refine ⟨by simp; rw [y2 24 (by decide)]; exact w2.1, fun k h0 h1 => ?_⟩
        simp at h1 ⊢
        rw [y1 16 (by decide), y1 18 (by decide), y1 19 (by decide)]
        exact w2.2 k h0 (by rw [y2 24 (by decide)] at h1; exact h1)
    · exact ⟨w1, w2, w3, w4, w5, w6, w7, w8⟩
/-- how many places the queue has -/
def chK (S : MSt) (fr : Int) : Nat → Nat → Nat
  | 0, j => j
  | f + 1, j => if fr + j < (chI S fr j).1.2 24 then chK S fr f (j + 1) else j
def chL (S : MSt) (fr : Int) : Nat := chK S fr 211 0
theorem chK_sp (S : MSt) (fr : Int) : ∀ f j : Nat, j ≤ chK S fr f j ∧ chK S fr f j ≤ j + f ∧ (∀ i : Nat, j ≤ i → i < chK S fr f j → fr + i < (chI S fr i).1.2 24) ∧ (chK S fr f j < j + f → ¬ fr + (chK S fr f j : Nat) < (chI S fr (chK S fr f j)).1.2 24)
  | 0, j => ⟨Nat.le_refl _, Nat.le_refl _, fun i h1 h2 => by simp [chK] at h2; omega, fun h => by simp [chK] at h⟩
  | f + 1, j => by
    unfold chK
    split
    · rename_i hc
      obtain ⟨a, b, d, e⟩ := chK_sp S fr f (j + 1)
      refine ⟨by omega, by omega, fun i h1 h2 => ?_, fun h => e (by omega)⟩
      by_cases q : i = j
      · rw [q]; exact hc
      · exact d i (by omega) h2
    · rename_i hc
      exact ⟨Nat.le_refl _, by omega, fun i h1 h2 => by omega, fun _ => hc⟩
theorem chL_sp {S : MSt} {fr : Int} (hp : WFp S) (hl : WFl S) (hfr : 0 ≤ fr) (hlog : S.2 24 ≤ 1890) (h10 : S.2 24 ≤ fr + 10) : (∀ i : Nat, i < chL S fr → fr + i < (chI S fr i).1.2 24) ∧ ¬ fr + (chL S fr : Nat) < (chI S fr (chL S fr)).1.2 24 ∧ chL S fr ≤ 210 := by
  obtain ⟨a, b, d, e⟩ := chK_sp S fr 211 0
  have d' : ∀ i : Nat, i < chL S fr → fr + i < (chI S fr i).1.2 24 := fun i hi => d i (Nat.zero_le _) hi
  have hle : chL S fr ≤ 210 := by
    rcases Nat.lt_or_ge 210 (chL S fr) with q | q
    · have w := chI_wf hp hl hfr hlog 210 (fun i hi => d' i (by omega))
      have := d' 210 q
      obtain ⟨-, -, w3, w4, w5, w6, -⟩ := w
      omega
    · exact q
  exact ⟨d', e (by unfold chL at hle; omega), hle⟩
/-- the state behind the queue -/
def chX (S : MSt) (fr : Int) : MSt := (chI S fr (chL S fr)).1
def setA (S : MSt) : MSt := uG (sl1 S (S.1 20 1).toNat) 29 (S.2 29 + S.1 20 1)
def setB (S : MSt) : MSt := uG (sl2 (setA S) (S.1 20 1) (S.2 24 - S.1 20 1).toNat) 24 (S.2 24 - S.1 20 1)
def setlS (S : MSt) : MSt := uG (sl3 (setB S) (S.1 20 1) (S.2 25).toNat) 25 (S.2 25 - 1)
/-- the end of an action whose n changes begin at fr -/
def endsS (C : MSt) (fr n : Int) : Int × MSt := if n ≤ 0 then (n, C) else (n, uA (uG (uA (if C.2 25 = 8 then setlS (uA C 20 8 fr) else C) 20 ((if C.2 25 = 8 then setlS (uA C 20 8 fr) else C).2 25) ((if C.2 25 = 8 then setlS (uA C 20 8 fr) else C).2 24 - n)) 25 ((if C.2 25 = 8 then setlS (uA C 20 8 fr) else C).2 25 + 1)) 20 ((if C.2 25 = 8 then setlS (uA C 20 8 fr) else C).2 25 + 1) ((if C.2 25 = 8 then setlS (uA C 20 8 fr) else C).2 24))
/-- a change by hand -/
def afterS (S : MSt) : MSt := uG S 27 (if 0 ≤ S.2 27 ∧ S.1 4 (S.2 27) = 10 then -1 else S.2 27)
def handS (S : MSt) (a x v n : Int) : MSt := becS (recS S a x n) x v (-1) 0
def byHandS (S : MSt) (a x v n : Int) : Int × MSt := ((endsS (chX (handS S a x v n) (S.2 24)) (S.2 24) ((chX (handS S a x v n) (S.2 24)).2 24 - S.2 24)).1, afterS (endsS (chX (handS S a x v n) (S.2 24)) (S.2 24) ((chX (handS S a x v n) (S.2 24)).2 24 - S.2 24)).2)

section
variable {l : Launch} {D : va_G} {cB cC cI cO cJ cD : ClassId} {ee : Nat × Nat} {mo : Nat} {Pm : Nat → Nat} {S : MSt}
end

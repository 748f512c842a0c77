/-! the reference's trying, running, recording -/
/-- the program's part is well formed: steps, grants, rules, numbers; the cells are in range -/
def WFp (S : MSt) : Prop := (∀ z, 0 ≤ z → z < 60 → -5 ≤ S.1 6 z ∧ S.1 6 z ≤ 5 ∧ -7 ≤ S.1 7 z ∧ S.1 7 z ≤ 7 ∧ -9999 ≤ S.1 8 z ∧ S.1 8 z ≤ 9999 ∧ 0 ≤ S.1 5 z ∧ S.1 5 z ≤ 200)
  ∧ (∀ m, 0 ≤ m → m < 6 → 0 ≤ S.1 4 m ∧ S.1 4 m ≤ 10 ∧ 0 ≤ S.1 9 m ∧ S.1 9 m ≤ 4)
  ∧ (∀ g, 0 ≤ g → g < 24 → 0 ≤ S.1 10 g ∧ S.1 10 g < 48 ∧ 0 ≤ S.1 11 g ∧ S.1 11 g < 48)
  ∧ (∀ r, 0 ≤ r → r < 6 → 0 ≤ S.1 12 r ∧ S.1 12 r < 48 ∧ 0 ≤ S.1 13 r ∧ S.1 13 r < 48 ∧ 0 ≤ S.1 14 r ∧ S.1 14 r < 6 ∧ 0 ≤ S.1 15 r ∧ S.1 15 r ≤ 9)
  ∧ (0 ≤ S.2 22 ∧ S.2 22 ≤ 6 ∧ 0 ≤ S.2 23 ∧ S.2 23 ≤ 6 ∧ -1 ≤ S.2 27 ∧ S.2 27 < 6 ∧ 0 ≤ S.2 28 ∧ S.2 28 < 48)
  ∧ (∀ z, 0 ≤ z → z < 48 → -9999 ≤ S.1 0 z ∧ S.1 0 z ≤ 9999)
/-- the copy of the cells, so far -/
def cpN (S : MSt) (j : Nat) : MSt := (fun k => if k = 1 then (fun z => if 0 ≤ z ∧ z < j then S.1 0 z else S.1 1 z) else S.1 k, S.2)
theorem cpN_0 (S : MSt) : cpN S 0 = S := by
  refine Prod.ext (funext fun k => ?_) rfl
  by_cases h : k = 1
  · subst h
    funext z
    have : ¬ (0 ≤ z ∧ z < 0) := by omega
    simp [cpN, this]
  · simp [cpN, h]
theorem cpN_succ (S : MSt) (j : Nat) : uA (cpN S j) 1 j (S.1 0 j) = cpN S (j + 1) := by
  refine Prod.ext (funext fun k => ?_) rfl
  by_cases h : k = 1
  · subst h
    funext z
    by_cases q : z = j
    · subst q
      have : (0 : Int) ≤ (j : Int) ∧ (j : Int) < ((j + 1 : Nat) : Int) := by omega
      rw [uA_s, upZ_s]
      show S.1 0 j = if (0 : Int) ≤ (j : Int) ∧ (j : Int) < ((j + 1 : Nat) : Int) then S.1 0 j else S.1 1 j
      rw [if_pos this]
    · have : (0 ≤ z ∧ z < ((j + 1 : Nat) : Int)) ↔ (0 ≤ z ∧ z < (j : Int)) := by omega
      simp only [cpN, uA, upZ, if_neg q, if_true, this]
  · simp [cpN, uA, h]
/-- the trying of a macro's steps: the state behind j steps -/
def trI (S : MSt) (m x : Int) : Nat → MSt
  | 0 => cpN S 48
  | j + 1 => uA (trI S m x j) 1 (goalI (trI S m x j) m j x) (stepI (trI S m x j) m j x)
theorem trI_1 (S : MSt) (m x : Int) (k : Nat) (h : k ≠ 1) : ∀ j, (trI S m x j).1 k = S.1 k
  | 0 => by simp [trI, cpN, h]
  | j + 1 => by
    rw [trI, uA_n _ h]
    exact trI_1 S m x k h j
theorem trI_2 (S : MSt) (m x : Int) : ∀ j, (trI S m x j).2 = S.2
  | 0 => rfl
  | j + 1 => trI_2 S m x j
theorem trI_goal (S : MSt) (m x k : Int) (j : Nat) : goalI (trI S m x j) m k x = goalI S m k x := by
  unfold goalI
  rw [trI_1 S m x 6 (by decide), trI_1 S m x 7 (by decide)]
theorem trI_out (S : MSt) (m x k : Int) (j : Nat) : isOutB (trI S m x j) m k x = isOutB S m k x := by
  unfold isOutB
  rw [trI_1 S m x 6 (by decide), trI_1 S m x 7 (by decide)]
theorem grN_congr {S S' : MSt} {m x : Int} (h1 : S'.1 10 = S.1 10) (h2 : S'.1 11 = S.1 11) : ∀ n, grN S' m x n = grN S m x n
  | 0 => rfl
  | n + 1 => by rw [grN, grN, grN_congr h1 h2 n, h1, h2]
theorem isGrantedB_congr {S S' : MSt} {m x : Int} (h0 : S'.1 9 = S.1 9) (h1 : S'.1 10 = S.1 10) (h2 : S'.1 11 = S.1 11) : isGrantedB S' m x = isGrantedB S m x := by
  unfold isGrantedB
  rw [grN_congr h1 h2, h0]
theorem trI_gr (S : MSt) (m x y : Int) (j : Nat) : isGrantedB (trI S m x j) m y = isGrantedB S m y := isGrantedB_congr (trI_1 S m x 9 (by decide) j) (trI_1 S m x 10 (by decide) j) (trI_1 S m x 11 (by decide) j)
theorem goal_in {S : MSt} {m k x : Int} (h : isOutB S m k x = false) : 0 ≤ goalI S m k x ∧ goalI S m k x < 48 := by
  simp only [isOutB, isCellB, isInB, Bool.not_eq_false', Bool.and_eq_true, decide_eq_true_eq] at h
  unfold goalI atI
  omega
/-- the answer from the step j on, n steps left -/
def whyR (S : MSt) (m x : Int) : Nat → Nat → Int × MSt
  | 0, j => (45, trI S m x j)
  | n + 1, j => if isOutB S m j x = true then (111, trI S m x j) else if isGrantedB S m (goalI S m j x) = false then (103, trI S m x j) else if isValueB (stepI (trI S m x j) m j x) = false then (118, trI S m x j) else whyR S m x n (j + 1)
def whyS (S : MSt) (m x : Int) : Int × MSt := whyR S m x (S.1 4 m).toNat 0
theorem whyR_ans (S : MSt) (m x : Int) : ∀ n j, 45 ≤ (whyR S m x n j).1 ∧ (whyR S m x n j).1 ≤ 118
  | 0, j => by simp [whyR]
  | n + 1, j => by
    have := whyR_ans S m x n (j + 1)
    unfold whyR
    split
    · simp
    · split
      · simp
      · split
        · simp
        · exact this
def rgN (f : Int → Int) : Prop := ∀ z, 0 ≤ z → z < 48 → -9999 ≤ f z ∧ f z ≤ 9999
theorem rgN_up {f : Int → Int} {g v : Int} (h : rgN f) (hv : isValueB v = true) : rgN (upZ f g v) := by
  intro z h0 h1
  unfold upZ
  split
  · simp only [isValueB, isInB, Bool.and_eq_true, decide_eq_true_eq] at hv
    exact hv
  · exact h z h0 h1
theorem cpN_rg {S : MSt} (h : WFp S) : rgN ((cpN S 48).1 1) := by
  intro z h0 h1
  have := h.2.2.2.2.2 z h0 h1
  simp [cpN, h0, h1]
  exact this
theorem stepI_rI {S X : MSt} {m k x : Int} (h : WFp S) (h8 : X.1 8 = S.1 8) (hm : 0 ≤ m ∧ m < 6) (hk : 0 ≤ k ∧ k < 10) (hx : 0 ≤ x ∧ x < 48) (hr : rgN (X.1 1)) (hg : 0 ≤ goalI X m k x ∧ goalI X m k x < 48) : rI (stepI X m k x) := by
  have h1 := h.1 (10 * m + k) (by omega) (by omega)
  have h2 := hr _ hg.1 hg.2
  have h3 := hr x hx.1 hx.2
  unfold stepI
  rw [h8]
  split
  · omega
  · split <;> omega
/-- the running of a macro's steps: the state behind j steps -/
def rnI (S : MSt) (m x dp : Int) : Nat → MSt
  | 0 => cpN S 48
  | j + 1 => becS (uA (rnI S m x dp j) 1 (goalI (rnI S m x dp j) m j x) (stepI (rnI S m x dp j) m j x)) (goalI (rnI S m x dp j) m j x) (stepI (rnI S m x dp j) m j x) m dp
theorem becS_1 (S : MSt) (x v w dp : Int) (k : Nat) (h : k ≠ 0 ∧ k ≠ 16 ∧ k ≠ 17 ∧ k ≠ 18 ∧ k ≠ 19) : (becS S x v w dp).1 k = S.1 k := by
  unfold becS
  split
  · rfl
  · simp [uA, uG, h]
theorem becS_2 (S : MSt) (x v w dp : Int) (k : Nat) (h : k ≠ 24) : (becS S x v w dp).2 k = S.2 k := by
  unfold becS
  split
  · rfl
  · simp [uA, uG, h]
theorem rnI_1 (S : MSt) (m x dp : Int) (k : Nat) (h : k ≠ 0 ∧ k ≠ 1 ∧ k ≠ 16 ∧ k ≠ 17 ∧ k ≠ 18 ∧ k ≠ 19) : ∀ j, (rnI S m x dp j).1 k = S.1 k
  | 0 => by simp [rnI, cpN, h]
  | j + 1 => by
    rw [rnI, becS_1 _ _ _ _ _ k ⟨h.1, h.2.2.1, h.2.2.2.1, h.2.2.2.2.1, h.2.2.2.2.2⟩, uA_n _ h.2.1]
    exact rnI_1 S m x dp k h j
theorem rnI_2 (S : MSt) (m x dp : Int) (k : Nat) (h : k ≠ 24) : ∀ j, (rnI S m x dp j).2 k = S.2 k
  | 0 => rfl
  | j + 1 => by
    rw [rnI, becS_2 _ _ _ _ _ k h]
    exact rnI_2 S m x dp k h j
theorem rnI_goal (S : MSt) (m x dp k : Int) (j : Nat) : goalI (rnI S m x dp j) m k x = goalI S m k x := by
  unfold goalI
  rw [rnI_1 S m x dp 6 (by decide), rnI_1 S m x dp 7 (by decide)]
def runS (S : MSt) (m x dp : Int) : MSt := rnI S m x dp (S.1 4 m).toNat
/-- a change by hand becomes a step -/
def recS (S : MSt) (a x n : Int) : MSt := if S.2 27 < 0 then S else uA (uA (uA (uA (uA S 5 (10 * S.2 27 + S.1 4 (S.2 27)) a) 6 (10 * S.2 27 + S.1 4 (S.2 27)) (x % 6 - S.2 28 % 6)) 7 (10 * S.2 27 + S.1 4 (S.2 27)) (x / 6 - S.2 28 / 6)) 8 (10 * S.2 27 + S.1 4 (S.2 27)) n) 4 (S.2 27) (S.1 4 (S.2 27) + 1)

theorem ydX8_why : yX8_why.cls = RX8 ∧ yX8_why.cls ≠ "java/lang/invoke/MethodHandle" ∧ yX8_why.cls ≠ "java/lang/invoke/VarHandle" ∧ (parseMethodDescriptor yX8_why.desc).map (fun d => d.parameters.length) = some 2 := by decide +kernel
theorem ydX8_runs : yX8_runs.cls = RX8 ∧ yX8_runs.cls ≠ "java/lang/invoke/MethodHandle" ∧ yX8_runs.cls ≠ "java/lang/invoke/VarHandle" ∧ (parseMethodDescriptor yX8_runs.desc).map (fun d => d.parameters.length) = some 3 := by decide +kernel
theorem ydX8_records : yX8_records.cls = RX8 ∧ yX8_records.cls ≠ "java/lang/invoke/MethodHandle" ∧ yX8_records.cls ≠ "java/lang/invoke/VarHandle" ∧ (parseMethodDescriptor yX8_records.desc).map (fun d => d.parameters.length) = some 3 := by decide +kernel
section
variable {l : Launch} {D : va_G} {cB cC cI cO cJ cD : ClassId} {ee mo : Nat} {Pm : Nat → Nat} {S : MSt}
set_option maxHeartbeats 4000000 in
set_option maxRecDepth 100000 in
theorem kX8_why (m : Int) (x : Int) (h1 : 0 ≤ m ∧ m < 6) (h2 : 0 ≤ x ∧ x < 48) (hwf : WFp S) : Mf l D cB cC cI cO cJ cD ee yX8_why wsX8_why ({ frames := 3, cells := 0, slots := 0, locals := 68 } : Room) mo Pm [.int (iI m), .int (iI x)] S ((whyS S m x).1, (whyS S m x).2) := by
  refine Ct_of (cc := cX8_why) (own := RX8) [some (.ref mo), some (.int (iI m)), some (.int (iI x)), none, none] (by decide) rfl rfl (Nat.le_of_ble_eq_true rfl) (fun i9 v9 h9 => argL (.ref mo :: [.int (iI m), .int (iI x)]) 2 rfl i9 v9 h9) ?_
  intro p e s m9 args below meth c9 h0 sz hI C hr hlk hinit
  have hin : ∀ w ∈ wsX80, w ∈ wsX8_why := by decide +kernel
  refine V_weak (I2 := MI cC cI h0 mo Pm S) (fun x hx => by subst hx; exact ⟨hI, Fr.refl⟩) ?_
  obtain ⟨hw1, hw2, hw3, hw4, hw5, hw6⟩ := id hwf
  have hm2 := hw2 m h1.1 h1.2
  refine V_iconst (pc' := 1) C dX8_why_0 rfl ?_
  refine V_istore3 (pc' := 2) C dX8_why_1 rfl (by decide) rfl ?_
  refine V_for0 (N := 48) (fun j => MI cC cI h0 mo Pm (cpN S j)) (fun j => [some (.ref mo), some (.int (iI m)), some (.int (iI x)), some (.int (iI j)), none]) (fun _ => True) trivial (fun h q => by rw [cpN_0]; exact q) rfl (fun j hj hv hk => ?_) (fun hv => ?_)
  · refine V_iload3 (pc' := 3) C dX8_why_2 rfl ?_
    refine V_bipush (pc' := 5) C dX8_why_3 rfl (by decide) ?_
    refine V_icmpge (tgt := 26) C (by omega) dX8_why_5 (by decide) rfl (fun c_5 => ?_) (fun c_5 => ?_)
    · exact absurd c_5 (by omega)
    · refine V_aload0 (pc' := 9) C dX8_why_8 rfl ?_
      refine mGetA (pc' := 12) 1 C hin (by decide) (by decide +kernel) dX8_why_9 rfl ?_
      refine V_iload3 (pc' := 13) C dX8_why_12 rfl ?_
      refine V_aload0 (pc' := 14) C dX8_why_13 rfl ?_
      refine mGetA (pc' := 17) 0 C hin (by decide) (by decide +kernel) dX8_why_14 rfl ?_
      refine V_iload3 (pc' := 18) C dX8_why_17 rfl ?_
      refine mLd (pc' := 19) (n := 48) 0 C (by decide) rfl (by omega) dX8_why_18 rfl ?_
      refine mSt (pc' := 20) (n := 48) 1 C (by decide) rfl (by omega) dX8_why_19 rfl ?_
      refine V_iinc3 (pc' := 23) C dX8_why_20 rfl (by decide) rfl ?_
      refine V_goto (tgt := 2) C dX8_why_23 (by decide) ?_
      exact V_conv (fun h q => by rw [← cpN_succ]; exact q) (by simp) (hk trivial)
  · refine V_iload3 (pc' := 3) C dX8_why_2 rfl ?_
    refine V_bipush (pc' := 5) C dX8_why_3 rfl (by decide) ?_
    refine V_icmpge (tgt := 26) C (by omega) dX8_why_5 (by decide) rfl (fun c_5 => ?_) (fun c_5 => ?_)
    · refine V_iconst (pc' := 27) C dX8_why_26 rfl ?_
      refine V_istore3 (pc' := 28) C dX8_why_27 rfl (by decide) rfl ?_
      refine V_for0 (N := (S.1 4 m).toNat) (fun j => MI cC cI h0 mo Pm (trI S m x j)) (fun j => [some (.ref mo), some (.int (iI m)), some (.int (iI x)), some (.int (iI j)), none]) (fun j => whyS S m x = whyR S m x ((S.1 4 m).toNat - j) j ∧ rgN ((trI S m x j).1 1)) ⟨rfl, cpN_rg hwf⟩ (fun h q => q) rfl (fun j hj hv hk => ?_) (fun hv => ?_)
      · have e4 := trI_1 S m x 4 (by decide) j
        have e5 := trI_1 S m x 5 (by decide) j
        have e6 := trI_1 S m x 6 (by decide) j
        have e7 := trI_1 S m x 7 (by decide) j
        have e8 := trI_1 S m x 8 (by decide) j
        have e9 := trI_1 S m x 9 (by decide) j
        have e10 := trI_1 S m x 10 (by decide) j
        have e11 := trI_1 S m x 11 (by decide) j
        have eg := trI_goal S m x j j
        have eo := trI_out S m x j j
        have er := trI_gr S m x (goalI S m j x) j
        have hs := hw1 (10 * m + j) (by omega) (by omega)
        obtain ⟨n, hn⟩ : ∃ n, (S.1 4 m).toNat - j = n + 1 := ⟨(S.1 4 m).toNat - j - 1, by omega⟩
        have hn2 : (S.1 4 m).toNat - (j + 1) = n := by omega
        rw [hn] at hv
        simp only [whyR] at hv
        refine V_iload3 (pc' := 29) C dX8_why_28 rfl ?_
        refine V_aload0 (pc' := 30) C dX8_why_29 rfl ?_
        refine mGetA (pc' := 33) 4 C hin (by decide) (by decide +kernel) dX8_why_30 rfl ?_
        refine V_iload1 (pc' := 34) C dX8_why_33 rfl ?_
        refine mLd (pc' := 35) (n := 6) 4 C (by decide) rfl (by omega) dX8_why_34 rfl ?_
        refine V_icmpge (tgt := 109) C (by rw [e4]; omega) dX8_why_35 (by decide) rfl (fun c_35 => ?_) (fun c_35 => ?_)
        · exact absurd c_35 (by rw [e4]; omega)
        · refine V_aload0 (pc' := 39) C dX8_why_38 rfl ?_
          refine V_iload1 (pc' := 40) C dX8_why_39 rfl ?_
          refine V_iload3 (pc' := 41) C dX8_why_40 rfl ?_
          refine V_iload2 (pc' := 42) C dX8_why_41 rfl ?_
          refine mCallF3 (pc' := 45) C (kX8_isOut _ _ _ (by omega) (by omega) (by omega) (by rw [e6]; omega) (by rw [e7]; omega)) gX8_why_X8_isOut rfl ydX8_isOut ⟨Nat.le_of_ble_eq_true rfl, Nat.le_of_ble_eq_true rfl⟩ ⟨rfl, rfl⟩ (Nat.le_of_ble_eq_true rfl) dX8_why_42 ⟨Nat.zero_le _, Nat.zero_le _⟩ rfl ?_
          refine V_ifeqB (tgt := 51) C dX8_why_45 (by decide) rfl (fun c_45 => ?_) (fun c_45 => ?_)
          · have ho : isOutB S m j x = false := by rw [← eo]; assumption
            have hgo := goal_in ho
            refine V_aload0 (pc' := 52) C dX8_why_51 rfl ?_
            refine V_iload1 (pc' := 53) C dX8_why_52 rfl ?_
            refine V_aload0 (pc' := 54) C dX8_why_53 rfl ?_
            refine V_iload1 (pc' := 55) C dX8_why_54 rfl ?_
            refine V_iload3 (pc' := 56) C dX8_why_55 rfl ?_
            refine V_iload2 (pc' := 57) C dX8_why_56 rfl ?_
            refine mCallF3 (pc' := 60) C (kX8_goal _ _ _ (by omega) (by omega) (by omega)) gX8_why_X8_goal rfl ydX8_goal ⟨Nat.le_of_ble_eq_true rfl, Nat.le_of_ble_eq_true rfl⟩ ⟨rfl, rfl⟩ (Nat.le_of_ble_eq_true rfl) dX8_why_57 ⟨Nat.zero_le _, Nat.zero_le _⟩ rfl ?_
            refine mCallF2 (pc' := 63) C (kX8_isGranted _ _ (by omega) (by rw [eg]; omega) (by rw [e9]; omega) (by rw [e10, e11]; exact hw3)) gX8_why_X8_isGranted rfl ydX8_isGranted ⟨Nat.le_of_ble_eq_true rfl, Nat.le_of_ble_eq_true rfl⟩ ⟨rfl, rfl⟩ (Nat.le_of_ble_eq_true rfl) dX8_why_60 ⟨Nat.zero_le _, Nat.zero_le _⟩ rfl ?_
            refine V_ifneB (tgt := 69) C dX8_why_63 (by decide) rfl (fun c_63 => ?_) (fun c_63 => ?_)
            · have hgr : ¬ isGrantedB S m (goalI S m j x) = false := fun q => by rw [← er, ← eg] at q; rw [q] at c_63; cases c_63
              refine V_aload0 (pc' := 70) C dX8_why_69 rfl ?_
              refine V_iload1 (pc' := 71) C dX8_why_70 rfl ?_
              refine V_iload3 (pc' := 72) C dX8_why_71 rfl ?_
              refine V_iload2 (pc' := 73) C dX8_why_72 rfl ?_
              refine mCallF3 (pc' := 76) C (kX8_stepped _ _ _ (by omega) (by omega) (by omega) (by rw [e5]; omega) (by rw [eg]; omega)) gX8_why_X8_stepped rfl ydX8_stepped ⟨Nat.le_of_ble_eq_true rfl, Nat.le_of_ble_eq_true rfl⟩ ⟨rfl, rfl⟩ (Nat.le_of_ble_eq_true rfl) dX8_why_73 ⟨Nat.zero_le _, Nat.zero_le _⟩ rfl ?_
              refine V_istore4 (pc' := 78) C dX8_why_76 rfl (by decide) rfl ?_
              refine V_iload4 (pc' := 80) C dX8_why_78 rfl ?_
              refine sCall1 (pc' := 83) C (kX8_isValue _ (stepI_rI hwf e8 (by omega) (by omega) (by omega) hv.2 (by rw [eg]; omega))) gX8_why_X8_isValue rfl ydX8_isValue ⟨Nat.le_of_ble_eq_true rfl, Nat.le_of_ble_eq_true rfl⟩ ⟨rfl, rfl⟩ (Nat.le_of_ble_eq_true rfl) dX8_why_80 ⟨Nat.zero_le _, Nat.zero_le _⟩ rfl ?_
              refine V_ifneB (tgt := 89) C dX8_why_83 (by decide) rfl (fun c_83 => ?_) (fun c_83 => ?_)
              · refine V_aload0 (pc' := 90) C dX8_why_89 rfl ?_
                refine mGetA (pc' := 93) 1 C hin (by decide) (by decide +kernel) dX8_why_90 rfl ?_
                refine V_aload0 (pc' := 94) C dX8_why_93 rfl ?_
                refine V_iload1 (pc' := 95) C dX8_why_94 rfl ?_
                refine V_iload3 (pc' := 96) C dX8_why_95 rfl ?_
                refine V_iload2 (pc' := 97) C dX8_why_96 rfl ?_
                refine mCallF3 (pc' := 100) C (kX8_goal _ _ _ (by omega) (by omega) (by omega)) gX8_why_X8_goal rfl ydX8_goal ⟨Nat.le_of_ble_eq_true rfl, Nat.le_of_ble_eq_true rfl⟩ ⟨rfl, rfl⟩ (Nat.le_of_ble_eq_true rfl) dX8_why_97 ⟨Nat.zero_le _, Nat.zero_le _⟩ rfl ?_
                refine V_iload4 (pc' := 102) C dX8_why_100 rfl ?_
                refine mSt (pc' := 103) (n := 48) 1 C (by decide) rfl (by rw [eg]; omega) dX8_why_102 rfl ?_
                refine V_iinc3 (pc' := 106) C dX8_why_103 rfl (by decide) rfl ?_
                refine V_goto (tgt := 28) C dX8_why_106 (by decide) ?_
                exact V_forget4 (V_conv (fun h q => q) (by simp) (hk ⟨by rw [hn2, hv.1, if_neg (by simp [*]), if_neg (by simp [*]), if_neg (by simp [*])], rgN_up hv.2 (by assumption)⟩))
              · refine V_bipush (pc' := 88) C dX8_why_86 rfl (by decide) ?_
                exact mEndc C hr hlk ⟨Nat.le_refl _, Nat.le_refl _⟩ dX8_why_88 (by omega) (by rw [hv.1, if_neg (by simp [ho]), if_neg hgr, if_pos (by assumption)])
            · refine V_bipush (pc' := 68) C dX8_why_66 rfl (by decide) ?_
              exact mEndc C hr hlk ⟨Nat.le_refl _, Nat.le_refl _⟩ dX8_why_68 (by omega) (by rw [hv.1, if_neg (by simp [ho]), if_pos (by rw [← er, ← eg]; assumption)])
          · refine V_bipush (pc' := 50) C dX8_why_48 rfl (by decide) ?_
            exact mEndc C hr hlk ⟨Nat.le_refl _, Nat.le_refl _⟩ dX8_why_50 (by omega) (by rw [hv.1, if_pos (by rw [← eo]; assumption)])
      · have e4 := trI_1 S m x 4 (by decide) (S.1 4 m).toNat
        rw [Nat.sub_self] at hv
        simp only [whyR] at hv
        refine V_iload3 (pc' := 29) C dX8_why_28 rfl ?_
        refine V_aload0 (pc' := 30) C dX8_why_29 rfl ?_
        refine mGetA (pc' := 33) 4 C hin (by decide) (by decide +kernel) dX8_why_30 rfl ?_
        refine V_iload1 (pc' := 34) C dX8_why_33 rfl ?_
        refine mLd (pc' := 35) (n := 6) 4 C (by decide) rfl (by omega) dX8_why_34 rfl ?_
        refine V_icmpge (tgt := 109) C (by rw [e4]; omega) dX8_why_35 (by decide) rfl (fun c_35 => ?_) (fun c_35 => ?_)
        · refine V_bipush (pc' := 111) C dX8_why_109 rfl (by decide) ?_
          exact mEndc C hr hlk ⟨Nat.le_refl _, Nat.le_refl _⟩ dX8_why_111 (by omega) (by rw [hv.1])
        · exact absurd c_35 (by rw [e4]; omega)
    · exact absurd c_5 (by omega)
set_option maxHeartbeats 4000000 in
set_option maxRecDepth 100000 in
theorem kX8_runs (m : Int) (x : Int) (dp : Int) (h1 : 0 ≤ m ∧ m < 6) (h2 : 0 ≤ x ∧ x < 48) (hwf : WFp S) (hg : ∀ j : Nat, (j : Int) < S.1 4 m → 0 ≤ goalI S m j x ∧ goalI S m j x < 48) (hst : ∀ j : Nat, (j : Int) < S.1 4 m → rI (stepI (rnI S m x dp j) m j x) ∧ rI ((rnI S m x dp j).1 0 (goalI S m j x)) ∧ 0 ≤ (rnI S m x dp j).2 24 ∧ (rnI S m x dp j).2 24 < 2100) : Mv l D cB cC cI cO cJ cD ee yX8_runs wsX8_runs ({ frames := 3, cells := 0, slots := 0, locals := 67 } : Room) mo Pm [.int (iI m), .int (iI x), .int (iI dp)] S (runS S m x dp) := by
  refine Ct_of (cc := cX8_runs) (own := RX8) [some (.ref mo), some (.int (iI m)), some (.int (iI x)), some (.int (iI dp)), none, none] (by decide) rfl rfl (Nat.le_of_ble_eq_true rfl) (fun i9 v9 h9 => argL (.ref mo :: [.int (iI m), .int (iI x), .int (iI dp)]) 2 rfl i9 v9 h9) ?_
  intro p e s m9 args below meth c9 h0 sz hI C hr hlk hinit
  have hin : ∀ w ∈ wsX80, w ∈ wsX8_runs := by decide +kernel
  refine V_weak (I2 := MI cC cI h0 mo Pm S) (fun x hx => by subst hx; exact ⟨hI, Fr.refl⟩) ?_
  obtain ⟨hw1, hw2, hw3, hw4, hw5, hw6⟩ := id hwf
  have hm2 := hw2 m h1.1 h1.2
  refine V_iconst (pc' := 1) C dX8_runs_0 rfl ?_
  refine V_istore4 (pc' := 3) C dX8_runs_1 rfl (by decide) rfl ?_
  refine V_for0 (N := 48) (fun j => MI cC cI h0 mo Pm (cpN S j)) (fun j => [some (.ref mo), some (.int (iI m)), some (.int (iI x)), some (.int (iI dp)), some (.int (iI j)), none]) (fun _ => True) trivial (fun h q => by rw [cpN_0]; exact q) rfl (fun j hj hv hk => ?_) (fun hv => ?_)
  · refine V_iload4 (pc' := 5) C dX8_runs_3 rfl ?_
    refine V_bipush (pc' := 7) C dX8_runs_5 rfl (by decide) ?_
    refine V_icmpge (tgt := 30) C (by omega) dX8_runs_7 (by decide) rfl (fun c_7 => ?_) (fun c_7 => ?_)
    · exact absurd c_7 (by omega)
    · refine V_aload0 (pc' := 11) C dX8_runs_10 rfl ?_
      refine mGetA (pc' := 14) 1 C hin (by decide) (by decide +kernel) dX8_runs_11 rfl ?_
      refine V_iload4 (pc' := 16) C dX8_runs_14 rfl ?_
      refine V_aload0 (pc' := 17) C dX8_runs_16 rfl ?_
      refine mGetA (pc' := 20) 0 C hin (by decide) (by decide +kernel) dX8_runs_17 rfl ?_
      refine V_iload4 (pc' := 22) C dX8_runs_20 rfl ?_
      refine mLd (pc' := 23) (n := 48) 0 C (by decide) rfl (by omega) dX8_runs_22 rfl ?_
      refine mSt (pc' := 24) (n := 48) 1 C (by decide) rfl (by omega) dX8_runs_23 rfl ?_
      refine V_iinc4 (pc' := 27) C dX8_runs_24 rfl (by decide) rfl ?_
      refine V_goto (tgt := 3) C dX8_runs_27 (by decide) ?_
      exact V_conv (fun h q => by rw [← cpN_succ]; exact q) (by simp) (hk trivial)
  · refine V_iload4 (pc' := 5) C dX8_runs_3 rfl ?_
    refine V_bipush (pc' := 7) C dX8_runs_5 rfl (by decide) ?_
    refine V_icmpge (tgt := 30) C (by omega) dX8_runs_7 (by decide) rfl (fun c_7 => ?_) (fun c_7 => ?_)
    · refine V_iconst (pc' := 31) C dX8_runs_30 rfl ?_
      refine V_istore4 (pc' := 33) C dX8_runs_31 rfl (by decide) rfl ?_
      refine V_for0 (N := (S.1 4 m).toNat) (fun j => MI cC cI h0 mo Pm (rnI S m x dp j)) (fun j => [some (.ref mo), some (.int (iI m)), some (.int (iI x)), some (.int (iI dp)), some (.int (iI j)), none]) (fun _ => True) trivial (fun h q => q) rfl (fun j hj hv hk => ?_) (fun hv => ?_)
      · have e4 := rnI_1 S m x dp 4 (by decide) j
        have e5 := rnI_1 S m x dp 5 (by decide) j
        have eg := rnI_goal S m x dp j j
        have hs := hw1 (10 * m + j) (by omega) (by omega)
        have hg9 := hg j (by omega)
        have hs9 := hst j (by omega)
        refine V_iload4 (pc' := 35) C dX8_runs_33 rfl ?_
        refine V_aload0 (pc' := 36) C dX8_runs_35 rfl ?_
        refine mGetA (pc' := 39) 4 C hin (by decide) (by decide +kernel) dX8_runs_36 rfl ?_
        refine V_iload1 (pc' := 40) C dX8_runs_39 rfl ?_
        refine mLd (pc' := 41) (n := 6) 4 C (by decide) rfl (by omega) dX8_runs_40 rfl ?_
        refine V_icmpge (tgt := 91) C (by rw [e4]; omega) dX8_runs_41 (by decide) rfl (fun c_41 => ?_) (fun c_41 => ?_)
        · exact absurd c_41 (by rw [e4]; omega)
        · refine V_aload0 (pc' := 45) C dX8_runs_44 rfl ?_
          refine V_iload1 (pc' := 46) C dX8_runs_45 rfl ?_
          refine V_iload4 (pc' := 48) C dX8_runs_46 rfl ?_
          refine V_iload2 (pc' := 49) C dX8_runs_48 rfl ?_
          refine mCallF3 (pc' := 52) C (kX8_stepped _ _ _ (by omega) (by omega) (by omega) (by rw [e5]; omega) (by rw [eg]; omega)) gX8_runs_X8_stepped rfl ydX8_stepped ⟨Nat.le_of_ble_eq_true rfl, Nat.le_of_ble_eq_true rfl⟩ ⟨rfl, rfl⟩ (Nat.le_of_ble_eq_true rfl) dX8_runs_49 ⟨Nat.zero_le _, Nat.zero_le _⟩ rfl ?_
          refine V_istore5 (pc' := 54) C dX8_runs_52 rfl (by decide) rfl ?_
          refine V_aload0 (pc' := 55) C dX8_runs_54 rfl ?_
          refine mGetA (pc' := 58) 1 C hin (by decide) (by decide +kernel) dX8_runs_55 rfl ?_
          refine V_aload0 (pc' := 59) C dX8_runs_58 rfl ?_
          refine V_iload1 (pc' := 60) C dX8_runs_59 rfl ?_
          refine V_iload4 (pc' := 62) C dX8_runs_60 rfl ?_
          refine V_iload2 (pc' := 63) C dX8_runs_62 rfl ?_
          refine mCallF3 (pc' := 66) C (kX8_goal _ _ _ (by omega) (by omega) (by omega)) gX8_runs_X8_goal rfl ydX8_goal ⟨Nat.le_of_ble_eq_true rfl, Nat.le_of_ble_eq_true rfl⟩ ⟨rfl, rfl⟩ (Nat.le_of_ble_eq_true rfl) dX8_runs_63 ⟨Nat.zero_le _, Nat.zero_le _⟩ rfl ?_
          refine V_iload5 (pc' := 68) C dX8_runs_66 rfl ?_
          refine mSt (pc' := 69) (n := 48) 1 C (by decide) rfl (by rw [eg]; omega) dX8_runs_68 rfl ?_
          refine V_aload0 (pc' := 70) C dX8_runs_69 rfl ?_
          refine V_aload0 (pc' := 71) C dX8_runs_70 rfl ?_
          refine V_iload1 (pc' := 72) C dX8_runs_71 rfl ?_
          refine V_iload4 (pc' := 74) C dX8_runs_72 rfl ?_
          refine V_iload2 (pc' := 75) C dX8_runs_74 rfl ?_
          refine mCallF3 (pc' := 78) C (kX8_goal _ _ _ (by omega) (by omega) (by omega)) gX8_runs_X8_goal rfl ydX8_goal ⟨Nat.le_of_ble_eq_true rfl, Nat.le_of_ble_eq_true rfl⟩ ⟨rfl, rfl⟩ (Nat.le_of_ble_eq_true rfl) dX8_runs_75 ⟨Nat.zero_le _, Nat.zero_le _⟩ rfl ?_
          refine V_iload5 (pc' := 80) C dX8_runs_78 rfl ?_
          refine V_iload1 (pc' := 81) C dX8_runs_80 rfl ?_
          refine V_iload3 (pc' := 82) C dX8_runs_81 rfl ?_
          refine mCallV4 (pc' := 85) C (kX8_becomes _ _ _ _ (by show 0 ≤ goalI (rnI S m x dp j) m j x ∧ goalI (rnI S m x dp j) m j x < 48; rw [eg]; omega) (by show 0 ≤ (rnI S m x dp j).2 24 ∧ (rnI S m x dp j).2 24 < 2100; omega) (by show rI ((rnI S m x dp j).1 0 (goalI (rnI S m x dp j) m j x)); rw [eg]; exact hs9.2.1) hs9.1) gX8_runs_X8_becomes rfl ydX8_becomes ⟨Nat.le_of_ble_eq_true rfl, Nat.le_of_ble_eq_true rfl⟩ ⟨rfl, rfl⟩ (Nat.le_of_ble_eq_true rfl) dX8_runs_82 ⟨Nat.zero_le _, Nat.zero_le _⟩ rfl ?_
          refine V_iinc4 (pc' := 88) C dX8_runs_85 rfl (by decide) rfl ?_
          refine V_goto (tgt := 33) C dX8_runs_88 (by decide) ?_
          exact V_forget5 (V_conv (fun h q => q) (by simp) (hk trivial))
      · have e4 := rnI_1 S m x dp 4 (by decide) (S.1 4 m).toNat
        refine V_iload4 (pc' := 35) C dX8_runs_33 rfl ?_
        refine V_aload0 (pc' := 36) C dX8_runs_35 rfl ?_
        refine mGetA (pc' := 39) 4 C hin (by decide) (by decide +kernel) dX8_runs_36 rfl ?_
        refine V_iload1 (pc' := 40) C dX8_runs_39 rfl ?_
        refine mLd (pc' := 41) (n := 6) 4 C (by decide) rfl (by omega) dX8_runs_40 rfl ?_
        refine V_icmpge (tgt := 91) C (by rw [e4]; omega) dX8_runs_41 (by decide) rfl (fun c_41 => ?_) (fun c_41 => ?_)
        · exact mEndv C hr hlk ⟨Nat.le_refl _, Nat.le_refl _⟩ dX8_runs_91 (rfl)
        · exact absurd c_41 (by rw [e4]; omega)
    · exact absurd c_7 (by omega)
set_option maxHeartbeats 4000000 in
set_option maxRecDepth 100000 in
theorem kX8_records (a : Int) (x : Int) (n : Int) (h1 : 0 ≤ x ∧ x < 48) (h2 : -1 ≤ S.2 27 ∧ S.2 27 < 6) (h3 : 0 ≤ S.2 27 → 0 ≤ S.1 4 (S.2 27) ∧ S.1 4 (S.2 27) < 10) (h4 : 0 ≤ S.2 28 ∧ S.2 28 < 48) : Mv l D cB cC cI cO cJ cD ee yX8_records wsX8_records ({ frames := 0, cells := 0, slots := 0, locals := 0 } : Room) mo Pm [.int (iI a), .int (iI x), .int (iI n)] S (recS S a x n) := by
  refine Ct_of (cc := cX8_records) (own := RX8) [some (.ref mo), some (.int (iI a)), some (.int (iI x)), some (.int (iI n)), none] (by decide) rfl rfl (Nat.le_of_ble_eq_true rfl) (fun i9 v9 h9 => argL (.ref mo :: [.int (iI a), .int (iI x), .int (iI n)]) 1 rfl i9 v9 h9) ?_
  intro p e s m9 args below meth c9 h0 sz hI C hr hlk hinit
  have hin : ∀ w ∈ wsX80, w ∈ wsX8_records := by decide +kernel
  refine V_weak (I2 := MI cC cI h0 mo Pm S) (fun x hx => by subst hx; exact ⟨hI, Fr.refl⟩) ?_
  refine V_aload0 (pc' := 1) C dX8_records_0 rfl ?_
  refine mGetI (pc' := 4) 27 C hin (by decide) (by decide +kernel) dX8_records_1 rfl ?_
  refine V_iflt (tgt := 93) C (by first | omega | (simp [uA] <;> omega)) dX8_records_4 (by decide) rfl (fun c_4 => ?_) (fun c_4 => ?_)
  · exact mEndv C hr hlk ⟨Nat.le_refl _, Nat.le_refl _⟩ dX8_records_93 (by first | (rw [recS, if_neg (by assumption)]; rfl) | (rw [recS, if_pos (by assumption)]))
  · have h5 := h3 (by omega)
    refine V_bipush (pc' := 9) C dX8_records_7 rfl (by decide) ?_
    refine V_aload0 (pc' := 10) C dX8_records_9 rfl ?_
    refine mGetI (pc' := 13) 27 C hin (by decide) (by decide +kernel) dX8_records_10 rfl ?_
    refine V_imul (pc' := 14) C dX8_records_13 rfl ?_
    refine V_aload0 (pc' := 15) C dX8_records_14 rfl ?_
    refine mGetA (pc' := 18) 4 C hin (by decide) (by decide +kernel) dX8_records_15 rfl ?_
    refine V_aload0 (pc' := 19) C dX8_records_18 rfl ?_
    refine mGetI (pc' := 22) 27 C hin (by decide) (by decide +kernel) dX8_records_19 rfl ?_
    refine mLd (pc' := 23) (n := 6) 4 C (by decide) rfl (by first | omega | (simp [uA] <;> omega)) dX8_records_22 rfl ?_
    refine V_iadd (pc' := 24) C dX8_records_23 rfl ?_
    refine V_istore4 (pc' := 26) C dX8_records_24 rfl (by decide) rfl ?_
    refine V_aload0 (pc' := 27) C dX8_records_26 rfl ?_
    refine mGetA (pc' := 30) 5 C hin (by decide) (by decide +kernel) dX8_records_27 rfl ?_
    refine V_iload4 (pc' := 32) C dX8_records_30 rfl ?_
    refine V_iload1 (pc' := 33) C dX8_records_32 rfl ?_
    refine mSt (pc' := 34) (n := 60) 5 C (by decide) rfl (by first | omega | (simp [uA] <;> omega)) dX8_records_33 rfl ?_
    refine V_aload0 (pc' := 35) C dX8_records_34 rfl ?_
    refine mGetA (pc' := 38) 6 C hin (by decide) (by decide +kernel) dX8_records_35 rfl ?_
    refine V_iload4 (pc' := 40) C dX8_records_38 rfl ?_
    refine V_iload2 (pc' := 41) C dX8_records_40 rfl ?_
    refine V_bipush (pc' := 43) C dX8_records_41 rfl (by decide) ?_
    refine V_irem (pc' := 44) C (by first | omega | (simp [uA] <;> omega)) dX8_records_43 rfl ?_
    refine V_aload0 (pc' := 45) C dX8_records_44 rfl ?_
    refine mGetI (pc' := 48) 28 C hin (by decide) (by decide +kernel) dX8_records_45 rfl ?_
    refine V_bipush (pc' := 50) C dX8_records_48 rfl (by decide) ?_
    refine V_irem (pc' := 51) C (by first | omega | (simp [uA] <;> omega)) dX8_records_50 rfl ?_
    refine V_isub (pc' := 52) C dX8_records_51 rfl ?_
    refine mSt (pc' := 53) (n := 60) 6 C (by decide) rfl (by first | omega | (simp [uA] <;> omega)) dX8_records_52 rfl ?_
    refine V_aload0 (pc' := 54) C dX8_records_53 rfl ?_
    refine mGetA (pc' := 57) 7 C hin (by decide) (by decide +kernel) dX8_records_54 rfl ?_
    refine V_iload4 (pc' := 59) C dX8_records_57 rfl ?_
    refine V_iload2 (pc' := 60) C dX8_records_59 rfl ?_
    refine V_bipush (pc' := 62) C dX8_records_60 rfl (by decide) ?_
    refine V_idiv (pc' := 63) C (by first | omega | (simp [uA] <;> omega)) dX8_records_62 rfl ?_
    refine V_aload0 (pc' := 64) C dX8_records_63 rfl ?_
    refine mGetI (pc' := 67) 28 C hin (by decide) (by decide +kernel) dX8_records_64 rfl ?_
    refine V_bipush (pc' := 69) C dX8_records_67 rfl (by decide) ?_
    refine V_idiv (pc' := 70) C (by first | omega | (simp [uA] <;> omega)) dX8_records_69 rfl ?_
    refine V_isub (pc' := 71) C dX8_records_70 rfl ?_
    refine mSt (pc' := 72) (n := 60) 7 C (by decide) rfl (by first | omega | (simp [uA] <;> omega)) dX8_records_71 rfl ?_
    refine V_aload0 (pc' := 73) C dX8_records_72 rfl ?_
    refine mGetA (pc' := 76) 8 C hin (by decide) (by decide +kernel) dX8_records_73 rfl ?_
    refine V_iload4 (pc' := 78) C dX8_records_76 rfl ?_
    refine V_iload3 (pc' := 79) C dX8_records_78 rfl ?_
    refine mSt (pc' := 80) (n := 60) 8 C (by decide) rfl (by first | omega | (simp [uA] <;> omega)) dX8_records_79 rfl ?_
    refine V_aload0 (pc' := 81) C dX8_records_80 rfl ?_
    refine mGetA (pc' := 84) 4 C hin (by decide) (by decide +kernel) dX8_records_81 rfl ?_
    refine V_aload0 (pc' := 85) C dX8_records_84 rfl ?_
    refine mGetI (pc' := 88) 27 C hin (by decide) (by decide +kernel) dX8_records_85 rfl ?_
    refine V_dup2 (pc' := 89) C rfl rfl dX8_records_88 rfl ?_
    refine mLd (pc' := 90) (n := 6) 4 C (by decide) rfl (by first | omega | (simp [uA] <;> omega)) dX8_records_89 rfl ?_
    refine V_iconst (pc' := 91) C dX8_records_90 rfl ?_
    refine V_iadd (pc' := 92) C dX8_records_91 rfl ?_
    refine mSt (pc' := 93) (n := 6) 4 C (by decide) rfl (by first | omega | (simp [uA] <;> omega)) dX8_records_92 rfl ?_
    exact mEndv C hr hlk ⟨Nat.le_refl _, Nat.le_refl _⟩ dX8_records_93 (by first | (rw [recS, if_neg (by assumption)]; rfl) | (rw [recS, if_pos (by assumption)]))
end

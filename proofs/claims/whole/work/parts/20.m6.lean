/-! the reference's actions as calls, the undoing, the text -/
section VX6
variable {p : Program} {l : Launch} {e : Env} {R : Room} {s : State} {m : MethodId} {args : Array Value} {below : List Frame} {meth : Method} {c : Code} {cells slots : Nat} {Q : State → Prop} {D : va_G} {tys : List (ClassId × FieldType)} {A : Nat → Prop} {nL : Nat} {cc : ByteArray} {Ts : List Cond} {own : String} {ee : Nat} {I : Hp → Prop} {pc pc' : Nat} {L : List (Option Value)} {st : List Value}
def absI (x : Int) : Int := if 0 ≤ x then x else -x
theorem V_mabs {x : Int} {index : Nat} (C : Cx p m c cc nL s args Ts own D tys A ee) (h1 : Cond.methodLink own index Lib.Math.abs.name ∈ Ts) (h2 : Cond.static Lib.Math.abs.name ∈ Ts) (h3 : Cond.initialized "java/lang/Math" ∈ Ts) (h4 : Cond.code Lib.Math.abs.name Lib.Math.abs.code 1 (some .int) ∈ Ts) (hf : 1 ≤ R.frames ∧ (st.map fun v => v.category).sum + 13 ≤ R.locals) (hc : cells ≤ R.cells ∧ slots ≤ R.slots) (hr : rI x) (d : decode cc pc = .ok (.invokestatic index, 3)) (e0 : pc + 3 = pc') (k : Vx p l e R s m args below meth c cells slots Q D A nL I pc' L (.int (iI (absI x)) :: st)) : Vx p l e R s m args below meth c cells slots Q D A nL I pc L (.int (iI x) :: st) := by
  subst e0
  have hts := C.1.2.2.2.2
  intro h H locs ls hI hW hS hL
  have hl1 : ls.size = nL := by obtain ⟨lx, h1, -⟩ := hL; exact h1.1
  refine va_mabs C.1.1 C.1.2.1 (C.1.2.2.1.trans hl1.symm) C.1.2.2.2.1 (hts _ h1) (hts _ h2) (hts _ h3) (hts _ h4) hf.1 hf.2 hc.1 hc.2 d ?_
  have e1 : (if 0 ≤ iI x then iI x else 0 - iI x) = iI (absI x) := by
    unfold absI
    by_cases q : 0 ≤ x
    · rw [if_pos q, if_pos (by rw [← iI_0, iI_le (by decide) hr]; exact q)]
    · rw [if_neg q, if_neg (by rw [← iI_0, iI_le (by decide) hr]; exact q), ← iI_0, iI_sub, Int.zero_sub]
  rw [e1]
  exact k h H locs ls hI hW hS hL
end VX6
/-- what no action touches -/
theorem chI_1 (S : MSt) (fr : Int) (k : Nat) (h : k ≠ 0 ∧ k ≠ 1 ∧ k ≠ 16 ∧ k ≠ 17 ∧ k ≠ 18 ∧ k ≠ 19) : ∀ j, (chI S fr j).1.1 k = S.1 k
  | 0 => rfl
  | j + 1 => by
    have ih := chI_1 S fr k h j
    rw [chI]
    unfold chS
    split
    · split
      · simp only [runS]
        rw [rnI_1 _ _ _ _ k h, uG_1, whyS_1 _ _ _ k h.2.1]
        exact ih
      · simp only
        rw [uG_1, whyS_1 _ _ _ k h.2.1]
        exact ih
    · exact ih
theorem setlS_1 (S : MSt) (k : Nat) (h : k ≠ 2 ∧ k ≠ 3 ∧ k ≠ 16 ∧ k ≠ 17 ∧ k ≠ 18 ∧ k ≠ 19 ∧ k ≠ 20) : (setlS S).1 k = S.1 k := by
  unfold setlS
  rw [uG_1, sl3_1 _ _ k h.2.2.2.2.2.2]
  unfold setB
  rw [uG_1, sl2_1 _ _ k ⟨h.2.2.1, h.2.2.2.1, h.2.2.2.2.1, h.2.2.2.2.2.1⟩]
  unfold setA
  rw [uG_1, sl1_1 _ k ⟨h.1, h.2.1⟩]
theorem setlS_2 (S : MSt) (k : Nat) (h : k ≠ 24 ∧ k ≠ 25 ∧ k ≠ 29) : (setlS S).2 k = S.2 k := by
  unfold setlS
  rw [uG_n _ h.2.1, sl3_2, setB_2 S k ⟨h.2.2, h.1⟩]
theorem setlS_25 (S : MSt) : (setlS S).2 25 = S.2 25 - 1 := by
  unfold setlS
  rw [uG_s]
theorem setlS_24 (S : MSt) : (setlS S).2 24 = S.2 24 - S.1 20 1 := by
  unfold setlS
  rw [uG_n _ (by decide), sl3_2]
  unfold setB
  rw [uG_s]
theorem endsS_1 (C : MSt) (fr n : Int) (k : Nat) (h : k ≠ 2 ∧ k ≠ 3 ∧ k ≠ 16 ∧ k ≠ 17 ∧ k ≠ 18 ∧ k ≠ 19 ∧ k ≠ 20) : (endsS C fr n).2.1 k = C.1 k := by
  unfold endsS
  split
  · rfl
  · simp only
    rw [uA_n _ h.2.2.2.2.2.2, uG_1, uA_n _ h.2.2.2.2.2.2]
    split
    · rw [setlS_1 _ k h, uA_n _ h.2.2.2.2.2.2]
    · rfl
theorem endsS_2 (C : MSt) (fr n : Int) (k : Nat) (h : k ≠ 24 ∧ k ≠ 25 ∧ k ≠ 29) : (endsS C fr n).2.2 k = C.2 k := by
  unfold endsS
  split
  · rfl
  · simp only
    rw [uA_2, uG_n _ h.2.1, uA_2]
    split
    · rw [setlS_2 _ k h, uA_2]
    · rfl
/-- an action's changes begin at fr: what the end of the action needs -/
def AW (S : MSt) (fr : Int) : Prop := WFp S ∧ WFl S ∧ 0 ≤ fr ∧ fr ≤ S.2 24 ∧ S.2 24 ≤ fr + 10 ∧ S.2 24 ≤ 1890 ∧ 0 ≤ S.2 25 ∧ S.2 25 ≤ 8 ∧ (S.2 25 = 8 → 0 ≤ S.1 20 1 ∧ S.1 20 1 ≤ fr)
theorem AW_chX {S : MSt} {fr : Int} (h : AW S fr) : WFp (chX S fr) ∧ WFl (chX S fr) ∧ S.2 24 ≤ (chX S fr).2 24 ∧ (chX S fr).2 24 ≤ S.2 24 + 200 ∧ (∀ k, k ≠ 24 → k ≠ 26 → (chX S fr).2 k = S.2 k) ∧ (chX S fr).1 20 = S.1 20 := by
  obtain ⟨h1, h2, h3, h4, h5, h6, h7, h8, h9⟩ := h
  obtain ⟨a1, a2, a3⟩ := chL_sp h1 h2 h3 h6 h5
  obtain ⟨w1, w2, w3, w4, w5, w6, w7, w8⟩ := chI_wf h1 h2 h3 h6 (chL S fr) a1
  refine ⟨w1, w2, w5, ?_, w8, chI_1 S fr 20 (by decide) _⟩
  unfold chX
  omega
theorem lastN_in {S : MSt} {x : Int} (hs : -2 ≤ S.1 2 x ∧ S.1 2 x ≤ 5) (hl : WFl S) : ∀ n : Nat, (n : Int) ≤ S.2 24 → -2 ≤ lastN S x n ∧ lastN S x n ≤ 5
  | 0, _ => by simpa [lastN] using hs
  | n + 1, hn => by
    have ih := lastN_in hs hl n (by omega)
    have := hl.2 n (by omega) (by omega)
    unfold lastN
    split <;> omega
theorem lastN_congr {S S' : MSt} {x : Int} (h1 : S'.1 2 = S.1 2) (h2 : S'.1 16 = S.1 16) (h3 : S'.1 18 = S.1 18) : ∀ n, lastN S' x n = lastN S x n
  | 0 => by rw [lastN, lastN, h1]
  | n + 1 => by rw [lastN, lastN, lastN_congr h1 h2 h3 n, h2, h3]
theorem lastN_u (S : MSt) (v x : Int) (n : Nat) : lastN (uG S 31 v) x n = lastN S x n := lastN_congr (S' := uG S 31 v) (S := S) rfl rfl rfl n
-- text
def wrS (S : MSt) (ch : Int) : MSt := uG (uA S 21 (S.2 30) ch) 30 (S.2 30 + 1)
def digN : Nat → MSt → Int → MSt
  | 0, S, _ => S
  | f + 1, S, n => wrS (if 9 < n then digN f S (n / 10) else S) (48 + n % 10)
theorem wrS_30 (S : MSt) (ch : Int) : (wrS S ch).2 30 = S.2 30 + 1 := uG_s _ _ _
theorem wrS_1 (S : MSt) (ch : Int) (k : Nat) (h : k ≠ 21) : (wrS S ch).1 k = S.1 k := by unfold wrS; rw [uG_1, uA_n _ h]
theorem wrS_2 (S : MSt) (ch : Int) (k : Nat) (h : k ≠ 30) : (wrS S ch).2 k = S.2 k := by unfold wrS; rw [uG_n _ h, uA_2]
theorem digN_30 : ∀ (f : Nat) (S : MSt) (n : Int), S.2 30 ≤ (digN f S n).2 30 ∧ (digN f S n).2 30 ≤ S.2 30 + f
  | 0, S, n => by simp [digN]
  | f + 1, S, n => by
    have ih := digN_30 f S (n / 10)
    rw [digN, wrS_30]
    split <;> omega
theorem digN_1 (k : Nat) (h : k ≠ 21) : ∀ (f : Nat) (S : MSt) (n : Int), (digN f S n).1 k = S.1 k
  | 0, S, n => rfl
  | f + 1, S, n => by
    rw [digN, wrS_1 _ _ k h]
    split
    · exact digN_1 k h f S _
    · rfl
theorem digN_2 (k : Nat) (h : k ≠ 30) : ∀ (f : Nat) (S : MSt) (n : Int), (digN f S n).2 k = S.2 k
  | 0, S, n => rfl
  | f + 1, S, n => by
    rw [digN, wrS_2 _ _ k h]
    split
    · exact digN_2 k h f S _
    · rfl
/-- the text of a step -/
def signI (x : Int) : Int := if 0 ≤ x then 43 else 45
def distS (S : MSt) (x : Int) : MSt := digN 1 (wrS S (signI x)) (absI x)
def numS (S : MSt) (x : Int) : MSt := digN 4 (if 0 ≤ x then S else wrS S 45) (absI x)
def stepS (S : MSt) (k : Int) : MSt := if S.1 5 k = 99 then distS (distS (wrS (uG S 30 0) (S.1 5 k)) (S.1 6 k)) (S.1 7 k) else numS (wrS (distS (distS (wrS (uG S 30 0) (S.1 5 k)) (S.1 6 k)) (S.1 7 k)) 61) (S.1 8 k)
def writeStepX (S : MSt) (m q : Int) : Int × MSt := if isMacB S m = false ∨ isInB q 0 (S.1 4 m - 1) = false then (0, uG S 31 1) else ((stepS (uG S 31 0) (10 * m + q)).2 30, stepS (uG S 31 0) (10 * m + q))

theorem ydX8_addRule : yX8_addRule.cls = RX8 ∧ yX8_addRule.cls ≠ "java/lang/invoke/MethodHandle" ∧ yX8_addRule.cls ≠ "java/lang/invoke/VarHandle" ∧ (parseMethodDescriptor yX8_addRule.desc).map (fun d => d.parameters.length) = some 6 := by decide +kernel
theorem ydX8_lastBy : yX8_lastBy.cls = RX8 ∧ yX8_lastBy.cls ≠ "java/lang/invoke/MethodHandle" ∧ yX8_lastBy.cls ≠ "java/lang/invoke/VarHandle" ∧ (parseMethodDescriptor yX8_lastBy.desc).map (fun d => d.parameters.length) = some 2 := by decide +kernel
theorem ydX8_undo : yX8_undo.cls = RX8 ∧ yX8_undo.cls ≠ "java/lang/invoke/MethodHandle" ∧ yX8_undo.cls ≠ "java/lang/invoke/VarHandle" ∧ (parseMethodDescriptor yX8_undo.desc).map (fun d => d.parameters.length) = some 0 := by decide +kernel
theorem ydX8_writes : yX8_writes.cls = RX8 ∧ yX8_writes.cls ≠ "java/lang/invoke/MethodHandle" ∧ yX8_writes.cls ≠ "java/lang/invoke/VarHandle" ∧ (parseMethodDescriptor yX8_writes.desc).map (fun d => d.parameters.length) = some 1 := by decide +kernel
theorem ydX8_ends : yX8_ends.cls = RX8 ∧ yX8_ends.cls ≠ "java/lang/invoke/MethodHandle" ∧ yX8_ends.cls ≠ "java/lang/invoke/VarHandle" ∧ (parseMethodDescriptor yX8_ends.desc).map (fun d => d.parameters.length) = some 1 := by decide +kernel
section
variable {l : Launch} {D : va_G} {cB cC cI cO cJ cD : ClassId} {ee mo : Nat} {Pm : Nat → Nat} {S : MSt} {b : Int}
set_option maxHeartbeats 4000000 in
set_option maxRecDepth 100000 in
theorem kX8_addRule (c : Int) (r : Int) (lc : Int) (lr : Int) (m : Int) (k : Int) (hmw : MW S b) (r0 : rI c) (r1 : rI r) (r2 : rI lc) (r3 : rI lr) (r4 : rI m) (r5 : rI k) : Mf l D cB cC cI cO cJ cD ee yX8_addRule wsX8_addRule ({ frames := 2, cells := 0, slots := 0, locals := 43 } : Room) mo Pm [.int (iI c), .int (iI r), .int (iI lc), .int (iI lr), .int (iI m), .int (iI k)] S ((addRuleX S c r lc lr m k).1, (addRuleX S c r lc lr m k).2) := by
  refine Ct_of (cc := cX8_addRule) (own := RX8) [some (.ref mo), some (.int (iI c)), some (.int (iI r)), some (.int (iI lc)), some (.int (iI lr)), some (.int (iI m)), some (.int (iI k))] (by decide) rfl rfl (Nat.le_of_ble_eq_true rfl) (fun i9 v9 h9 => argL (.ref mo :: [.int (iI c), .int (iI r), .int (iI lc), .int (iI lr), .int (iI m), .int (iI k)]) 0 rfl i9 v9 h9) ?_
  intro p e s m9 args below meth c9 h0 sz hI C hr hlk hinit
  have hin : ∀ w ∈ wsX80, w ∈ wsX8_addRule := by decide +kernel
  refine V_weak (I2 := MI cC cI h0 mo Pm S) (fun x hx => by subst hx; exact ⟨hI, Fr.refl⟩) ?_
  obtain ⟨hwp, hwl, hwh, hwr, hws, hwt⟩ := id hmw
  obtain ⟨hw1, hw2, hw3, hw4, hw5, hw6⟩ := id hwp
  refine V_aload0 (pc' := 1) C dX8_addRule_0 rfl ?_
  refine V_iload1 (pc' := 2) C dX8_addRule_1 rfl ?_
  refine V_iload2 (pc' := 3) C dX8_addRule_2 rfl ?_
  refine sCall2 (pc' := 6) C (kX8_isCell _ _ (by omega) (by omega)) gX8_addRule_X8_isCell rfl ydX8_isCell ⟨Nat.le_of_ble_eq_true rfl, Nat.le_of_ble_eq_true rfl⟩ ⟨rfl, rfl⟩ (Nat.le_of_ble_eq_true rfl) dX8_addRule_3 ⟨Nat.zero_le _, Nat.zero_le _⟩ rfl ?_
  refine V_ifeqB (tgt := 33) C dX8_addRule_6 (by decide) rfl (fun c_6 => ?_) (fun c_6 => ?_)
  · refine V_iconst (pc' := 34) C dX8_addRule_33 rfl ?_
    refine V_goto (tgt := 38) C dX8_addRule_34 (by decide) ?_
    refine V_iconst (pc' := 39) C dX8_addRule_38 rfl ?_
    refine mCallF2 (pc' := 42) C (kX8_isThrown true _ ) gX8_addRule_X8_isThrown rfl ydX8_isThrown ⟨Nat.le_of_ble_eq_true rfl, Nat.le_of_ble_eq_true rfl⟩ ⟨rfl, rfl⟩ (Nat.le_of_ble_eq_true rfl) dX8_addRule_39 ⟨Nat.zero_le _, Nat.zero_le _⟩ rfl ?_
    refine V_ifneB (tgt := 102) C dX8_addRule_42 (by decide) rfl (fun c_42 => ?_) (fun c_42 => ?_)
    · refine V_iconst (pc' := 103) C dX8_addRule_102 rfl ?_
      exact mEnd C hr hlk ⟨Nat.le_refl _, Nat.le_refl _⟩ dX8_addRule_103 (by simp_all [addRuleX, isMacB, thS, uG_uG, uG_n, uG_1])
    · exact absurd c_42 (by decide)
  · refine V_iload3 (pc' := 10) C dX8_addRule_9 rfl ?_
    refine V_iload4 (pc' := 12) C dX8_addRule_10 rfl ?_
    refine sCall2 (pc' := 15) C (kX8_isCell _ _ (by omega) (by omega)) gX8_addRule_X8_isCell rfl ydX8_isCell ⟨Nat.le_of_ble_eq_true rfl, Nat.le_of_ble_eq_true rfl⟩ ⟨rfl, rfl⟩ (Nat.le_of_ble_eq_true rfl) dX8_addRule_12 ⟨Nat.zero_le _, Nat.zero_le _⟩ rfl ?_
    refine V_ifeqB (tgt := 33) C dX8_addRule_15 (by decide) rfl (fun c_15 => ?_) (fun c_15 => ?_)
    · refine V_iconst (pc' := 34) C dX8_addRule_33 rfl ?_
      refine V_goto (tgt := 38) C dX8_addRule_34 (by decide) ?_
      refine V_iconst (pc' := 39) C dX8_addRule_38 rfl ?_
      refine mCallF2 (pc' := 42) C (kX8_isThrown true _ ) gX8_addRule_X8_isThrown rfl ydX8_isThrown ⟨Nat.le_of_ble_eq_true rfl, Nat.le_of_ble_eq_true rfl⟩ ⟨rfl, rfl⟩ (Nat.le_of_ble_eq_true rfl) dX8_addRule_39 ⟨Nat.zero_le _, Nat.zero_le _⟩ rfl ?_
      refine V_ifneB (tgt := 102) C dX8_addRule_42 (by decide) rfl (fun c_42 => ?_) (fun c_42 => ?_)
      · refine V_iconst (pc' := 103) C dX8_addRule_102 rfl ?_
        exact mEnd C hr hlk ⟨Nat.le_refl _, Nat.le_refl _⟩ dX8_addRule_103 (by simp_all [addRuleX, isMacB, thS, uG_uG, uG_n, uG_1])
      · exact absurd c_42 (by decide)
    · refine V_iload5 (pc' := 20) C dX8_addRule_18 rfl ?_
      refine V_iconst (pc' := 21) C dX8_addRule_20 rfl ?_
      refine V_aload0 (pc' := 22) C dX8_addRule_21 rfl ?_
      refine mGetI (pc' := 25) 22 C hin (by decide) (by decide +kernel) dX8_addRule_22 rfl ?_
      refine V_iconst (pc' := 26) C dX8_addRule_25 rfl ?_
      refine V_isub (pc' := 27) C dX8_addRule_26 rfl ?_
      refine sCall3 (pc' := 30) C (kX8_isIn _ _ _ (by omega) (by omega) (by omega)) gX8_addRule_X8_isIn rfl ydX8_isIn ⟨Nat.le_of_ble_eq_true rfl, Nat.le_of_ble_eq_true rfl⟩ ⟨rfl, rfl⟩ (Nat.le_of_ble_eq_true rfl) dX8_addRule_27 ⟨Nat.zero_le _, Nat.zero_le _⟩ rfl ?_
      refine V_ifneB (tgt := 37) C dX8_addRule_30 (by decide) rfl (fun c_30 => ?_) (fun c_30 => ?_)
      · refine V_iconst (pc' := 38) C dX8_addRule_37 rfl ?_
        refine V_iconst (pc' := 39) C dX8_addRule_38 rfl ?_
        refine mCallF2 (pc' := 42) C (kX8_isThrown false _ ) gX8_addRule_X8_isThrown rfl ydX8_isThrown ⟨Nat.le_of_ble_eq_true rfl, Nat.le_of_ble_eq_true rfl⟩ ⟨rfl, rfl⟩ (Nat.le_of_ble_eq_true rfl) dX8_addRule_39 ⟨Nat.zero_le _, Nat.zero_le _⟩ rfl ?_
        refine V_ifneB (tgt := 102) C dX8_addRule_42 (by decide) rfl (fun c_42 => ?_) (fun c_42 => ?_)
        · exact absurd c_42 (by decide)
        · refine V_weak (I2 := MI cC cI h0 mo Pm (uG S 31 0)) (fun h q => by simpa [thS, uG_uG] using q) ?_
          refine V_aload0 (pc' := 46) C dX8_addRule_45 rfl ?_
          refine V_iload1 (pc' := 47) C dX8_addRule_46 rfl ?_
          refine V_iload2 (pc' := 48) C dX8_addRule_47 rfl ?_
          refine V_iload3 (pc' := 49) C dX8_addRule_48 rfl ?_
          refine V_iload4 (pc' := 51) C dX8_addRule_49 rfl ?_
          refine sCall4 (pc' := 54) C (kX8_isRange _ _ _ _ (by omega)) gX8_addRule_X8_isRange rfl ydX8_isRange ⟨Nat.le_of_ble_eq_true rfl, Nat.le_of_ble_eq_true rfl⟩ ⟨rfl, rfl⟩ (Nat.le_of_ble_eq_true rfl) dX8_addRule_51 ⟨Nat.zero_le _, Nat.zero_le _⟩ rfl ?_
          refine V_ifeqB (tgt := 68) C dX8_addRule_54 (by decide) rfl (fun c_54 => ?_) (fun c_54 => ?_)
          · refine V_iconst (pc' := 69) C dX8_addRule_68 rfl ?_
            refine V_goto (tgt := 73) C dX8_addRule_69 (by decide) ?_
            refine V_iconst (pc' := 74) C dX8_addRule_73 rfl ?_
            refine mCallF2 (pc' := 77) C (kX8_isThrown true _ ) gX8_addRule_X8_isThrown rfl ydX8_isThrown ⟨Nat.le_of_ble_eq_true rfl, Nat.le_of_ble_eq_true rfl⟩ ⟨rfl, rfl⟩ (Nat.le_of_ble_eq_true rfl) dX8_addRule_74 ⟨Nat.zero_le _, Nat.zero_le _⟩ rfl ?_
            refine V_ifneB (tgt := 102) C dX8_addRule_77 (by decide) rfl (fun c_77 => ?_) (fun c_77 => ?_)
            · refine V_iconst (pc' := 103) C dX8_addRule_102 rfl ?_
              exact mEnd C hr hlk ⟨Nat.le_refl _, Nat.le_refl _⟩ dX8_addRule_103 (by simp_all [addRuleX, isMacB, thS, uG_uG, uG_n, uG_1])
            · exact absurd c_77 (by decide)
          · refine V_iload6 (pc' := 59) C dX8_addRule_57 rfl ?_
            refine V_iconst (pc' := 60) C dX8_addRule_59 rfl ?_
            refine V_bipush (pc' := 62) C dX8_addRule_60 rfl (by decide) ?_
            refine sCall3 (pc' := 65) C (kX8_isIn _ _ _ (by omega) (by omega) (by omega)) gX8_addRule_X8_isIn rfl ydX8_isIn ⟨Nat.le_of_ble_eq_true rfl, Nat.le_of_ble_eq_true rfl⟩ ⟨rfl, rfl⟩ (Nat.le_of_ble_eq_true rfl) dX8_addRule_62 ⟨Nat.zero_le _, Nat.zero_le _⟩ rfl ?_
            refine V_ifneB (tgt := 72) C dX8_addRule_65 (by decide) rfl (fun c_65 => ?_) (fun c_65 => ?_)
            · refine V_iconst (pc' := 73) C dX8_addRule_72 rfl ?_
              refine V_iconst (pc' := 74) C dX8_addRule_73 rfl ?_
              refine mCallF2 (pc' := 77) C (kX8_isThrown false _ ) gX8_addRule_X8_isThrown rfl ydX8_isThrown ⟨Nat.le_of_ble_eq_true rfl, Nat.le_of_ble_eq_true rfl⟩ ⟨rfl, rfl⟩ (Nat.le_of_ble_eq_true rfl) dX8_addRule_74 ⟨Nat.zero_le _, Nat.zero_le _⟩ rfl ?_
              refine V_ifneB (tgt := 102) C dX8_addRule_77 (by decide) rfl (fun c_77 => ?_) (fun c_77 => ?_)
              · exact absurd c_77 (by decide)
              · refine V_weak (I2 := MI cC cI h0 mo Pm (uG S 31 0)) (fun h q => by simpa [thS, uG_uG] using q) ?_
                refine V_aload0 (pc' := 81) C dX8_addRule_80 rfl ?_
                refine V_aload0 (pc' := 82) C dX8_addRule_81 rfl ?_
                refine mGetI (pc' := 85) 23 C hin (by decide) (by decide +kernel) dX8_addRule_82 rfl ?_
                refine V_bipush (pc' := 87) C dX8_addRule_85 rfl (by decide) ?_
                refine V_icmpne (tgt := 94) C (by first | omega | (simp [uA, uG, thS] <;> omega)) dX8_addRule_87 (by decide) rfl (fun c_87 => ?_) (fun c_87 => ?_)
                · refine V_iconst (pc' := 95) C dX8_addRule_94 rfl ?_
                  refine V_iconst (pc' := 96) C dX8_addRule_95 rfl ?_
                  refine mCallF2 (pc' := 99) C (kX8_isThrown false _ ) gX8_addRule_X8_isThrown rfl ydX8_isThrown ⟨Nat.le_of_ble_eq_true rfl, Nat.le_of_ble_eq_true rfl⟩ ⟨rfl, rfl⟩ (Nat.le_of_ble_eq_true rfl) dX8_addRule_96 ⟨Nat.zero_le _, Nat.zero_le _⟩ rfl ?_
                  refine V_ifeqB (tgt := 104) C dX8_addRule_99 (by decide) rfl (fun c_99 => ?_) (fun c_99 => ?_)
                  · have hc9 : ¬ S.2 23 = 6 := c_87
                    have hx := atI_in (c := c) (r := r) (by simpa using c_6)
                    have hy := atI_in (c := lc) (r := lr) (by simpa using c_15)
                    refine V_weak (I2 := MI cC cI h0 mo Pm (uG S 31 0)) (fun h q => by simpa [thS, uG_uG] using q) ?_
                    refine V_aload0 (pc' := 105) C dX8_addRule_104 rfl ?_
                    refine mGetA (pc' := 108) 12 C hin (by decide) (by decide +kernel) dX8_addRule_105 rfl ?_
                    refine V_aload0 (pc' := 109) C dX8_addRule_108 rfl ?_
                    refine mGetI (pc' := 112) 23 C hin (by decide) (by decide +kernel) dX8_addRule_109 rfl ?_
                    refine V_iload1 (pc' := 113) C dX8_addRule_112 rfl ?_
                    refine V_iload2 (pc' := 114) C dX8_addRule_113 rfl ?_
                    refine sCall2 (pc' := 117) C (kX8_at _ _ ) gX8_addRule_X8_at rfl ydX8_at ⟨Nat.le_of_ble_eq_true rfl, Nat.le_of_ble_eq_true rfl⟩ ⟨rfl, rfl⟩ (Nat.le_of_ble_eq_true rfl) dX8_addRule_114 ⟨Nat.zero_le _, Nat.zero_le _⟩ rfl ?_
                    refine mSt (pc' := 118) (n := 6) 12 C (by decide) rfl (by first | omega | (simp [uA, uG, thS] <;> omega)) dX8_addRule_117 rfl ?_
                    refine V_aload0 (pc' := 119) C dX8_addRule_118 rfl ?_
                    refine mGetA (pc' := 122) 13 C hin (by decide) (by decide +kernel) dX8_addRule_119 rfl ?_
                    refine V_aload0 (pc' := 123) C dX8_addRule_122 rfl ?_
                    refine mGetI (pc' := 126) 23 C hin (by decide) (by decide +kernel) dX8_addRule_123 rfl ?_
                    refine V_iload3 (pc' := 127) C dX8_addRule_126 rfl ?_
                    refine V_iload4 (pc' := 129) C dX8_addRule_127 rfl ?_
                    refine sCall2 (pc' := 132) C (kX8_at _ _ ) gX8_addRule_X8_at rfl ydX8_at ⟨Nat.le_of_ble_eq_true rfl, Nat.le_of_ble_eq_true rfl⟩ ⟨rfl, rfl⟩ (Nat.le_of_ble_eq_true rfl) dX8_addRule_129 ⟨Nat.zero_le _, Nat.zero_le _⟩ rfl ?_
                    refine mSt (pc' := 133) (n := 6) 13 C (by decide) rfl (by first | omega | (simp [uA, uG, thS] <;> omega)) dX8_addRule_132 rfl ?_
                    refine V_aload0 (pc' := 134) C dX8_addRule_133 rfl ?_
                    refine mGetA (pc' := 137) 14 C hin (by decide) (by decide +kernel) dX8_addRule_134 rfl ?_
                    refine V_aload0 (pc' := 138) C dX8_addRule_137 rfl ?_
                    refine mGetI (pc' := 141) 23 C hin (by decide) (by decide +kernel) dX8_addRule_138 rfl ?_
                    refine V_iload5 (pc' := 143) C dX8_addRule_141 rfl ?_
                    refine mSt (pc' := 144) (n := 6) 14 C (by decide) rfl (by first | omega | (simp [uA, uG, thS] <;> omega)) dX8_addRule_143 rfl ?_
                    refine V_aload0 (pc' := 145) C dX8_addRule_144 rfl ?_
                    refine mGetA (pc' := 148) 15 C hin (by decide) (by decide +kernel) dX8_addRule_145 rfl ?_
                    refine V_aload0 (pc' := 149) C dX8_addRule_148 rfl ?_
                    refine mGetI (pc' := 152) 23 C hin (by decide) (by decide +kernel) dX8_addRule_149 rfl ?_
                    refine V_iload6 (pc' := 154) C dX8_addRule_152 rfl ?_
                    refine mSt (pc' := 155) (n := 6) 15 C (by decide) rfl (by first | omega | (simp [uA, uG, thS] <;> omega)) dX8_addRule_154 rfl ?_
                    refine V_aload0 (pc' := 156) C dX8_addRule_155 rfl ?_
                    refine V_dup (pc' := 157) C rfl dX8_addRule_156 rfl ?_
                    refine mGetI (pc' := 160) 23 C hin (by decide) (by decide +kernel) dX8_addRule_157 rfl ?_
                    refine V_iconst (pc' := 161) C dX8_addRule_160 rfl ?_
                    refine V_iadd (pc' := 162) C dX8_addRule_161 rfl ?_
                    refine mPutI (pc' := 165) 23 C hin (by decide) (by decide +kernel) dX8_addRule_162 rfl ?_
                    refine V_aload0 (pc' := 166) C dX8_addRule_165 rfl ?_
                    refine mGetI (pc' := 169) 23 C hin (by decide) (by decide +kernel) dX8_addRule_166 rfl ?_
                    refine V_iconst (pc' := 170) C dX8_addRule_169 rfl ?_
                    refine V_isub (pc' := 171) C dX8_addRule_170 rfl ?_
                    exact mEnd C hr hlk ⟨Nat.le_refl _, Nat.le_refl _⟩ dX8_addRule_171 (by have hc9 : ¬ S.2 23 = 6 := c_87; unfold addRuleX; rw [if_neg (by simp_all [isMacB]), if_neg (by simp_all), if_neg hc9]; simp [uG, uA])
                  · exact absurd c_99 (by decide)
                · refine V_iconst (pc' := 91) C dX8_addRule_90 rfl ?_
                  refine V_goto (tgt := 95) C dX8_addRule_91 (by decide) ?_
                  refine V_iconst (pc' := 96) C dX8_addRule_95 rfl ?_
                  refine mCallF2 (pc' := 99) C (kX8_isThrown true _ ) gX8_addRule_X8_isThrown rfl ydX8_isThrown ⟨Nat.le_of_ble_eq_true rfl, Nat.le_of_ble_eq_true rfl⟩ ⟨rfl, rfl⟩ (Nat.le_of_ble_eq_true rfl) dX8_addRule_96 ⟨Nat.zero_le _, Nat.zero_le _⟩ rfl ?_
                  refine V_ifeqB (tgt := 104) C dX8_addRule_99 (by decide) rfl (fun c_99 => ?_) (fun c_99 => ?_)
                  · exact absurd c_99 (by decide)
                  · refine V_iconst (pc' := 103) C dX8_addRule_102 rfl ?_
                    exact mEnd C hr hlk ⟨Nat.le_refl _, Nat.le_refl _⟩ dX8_addRule_103 (by simp_all [addRuleX, isMacB, thS, uG_uG, uG_n, uG_1])
            · refine V_iconst (pc' := 69) C dX8_addRule_68 rfl ?_
              refine V_goto (tgt := 73) C dX8_addRule_69 (by decide) ?_
              refine V_iconst (pc' := 74) C dX8_addRule_73 rfl ?_
              refine mCallF2 (pc' := 77) C (kX8_isThrown true _ ) gX8_addRule_X8_isThrown rfl ydX8_isThrown ⟨Nat.le_of_ble_eq_true rfl, Nat.le_of_ble_eq_true rfl⟩ ⟨rfl, rfl⟩ (Nat.le_of_ble_eq_true rfl) dX8_addRule_74 ⟨Nat.zero_le _, Nat.zero_le _⟩ rfl ?_
              refine V_ifneB (tgt := 102) C dX8_addRule_77 (by decide) rfl (fun c_77 => ?_) (fun c_77 => ?_)
              · refine V_iconst (pc' := 103) C dX8_addRule_102 rfl ?_
                exact mEnd C hr hlk ⟨Nat.le_refl _, Nat.le_refl _⟩ dX8_addRule_103 (by simp_all [addRuleX, isMacB, thS, uG_uG, uG_n, uG_1])
              · exact absurd c_77 (by decide)
      · refine V_iconst (pc' := 34) C dX8_addRule_33 rfl ?_
        refine V_goto (tgt := 38) C dX8_addRule_34 (by decide) ?_
        refine V_iconst (pc' := 39) C dX8_addRule_38 rfl ?_
        refine mCallF2 (pc' := 42) C (kX8_isThrown true _ ) gX8_addRule_X8_isThrown rfl ydX8_isThrown ⟨Nat.le_of_ble_eq_true rfl, Nat.le_of_ble_eq_true rfl⟩ ⟨rfl, rfl⟩ (Nat.le_of_ble_eq_true rfl) dX8_addRule_39 ⟨Nat.zero_le _, Nat.zero_le _⟩ rfl ?_
        refine V_ifneB (tgt := 102) C dX8_addRule_42 (by decide) rfl (fun c_42 => ?_) (fun c_42 => ?_)
        · refine V_iconst (pc' := 103) C dX8_addRule_102 rfl ?_
          exact mEnd C hr hlk ⟨Nat.le_refl _, Nat.le_refl _⟩ dX8_addRule_103 (by simp_all [addRuleX, isMacB, thS, uG_uG, uG_n, uG_1])
        · exact absurd c_42 (by decide)
set_option maxHeartbeats 4000000 in
set_option maxRecDepth 100000 in
theorem kX8_lastBy (c : Int) (r : Int) (hmw : MW S b) (r0 : rI c) (r1 : rI r) : Mf l D cB cC cI cO cJ cD ee yX8_lastBy wsX8_lastBy ({ frames := 3, cells := 0, slots := 0, locals := 65 } : Room) mo Pm [.int (iI c), .int (iI r)] S ((lastByX S c r).1, (lastByX S c r).2) := by
  refine Ct_of (cc := cX8_lastBy) (own := RX8) [some (.ref mo), some (.int (iI c)), some (.int (iI r)), none, none] (by decide) rfl rfl (Nat.le_of_ble_eq_true rfl) (fun i9 v9 h9 => argL (.ref mo :: [.int (iI c), .int (iI r)]) 2 rfl i9 v9 h9) ?_
  intro p e s m9 args below meth c9 h0 sz hI C hr hlk hinit
  have hin : ∀ w ∈ wsX80, w ∈ wsX8_lastBy := by decide +kernel
  refine V_weak (I2 := MI cC cI h0 mo Pm S) (fun x hx => by subst hx; exact ⟨hI, Fr.refl⟩) ?_
  obtain ⟨hwp, hwl, hwh, hwr, hws, hwt⟩ := id hmw
  obtain ⟨hw1, hw2, hw3, hw4, hw5, hw6⟩ := id hwp
  refine V_aload0 (pc' := 1) C dX8_lastBy_0 rfl ?_
  refine V_iload1 (pc' := 2) C dX8_lastBy_1 rfl ?_
  refine V_iload2 (pc' := 3) C dX8_lastBy_2 rfl ?_
  refine mCallF2 (pc' := 6) C (kX8_isNoCell _ _ (by omega) (by omega)) gX8_lastBy_X8_isNoCell rfl ydX8_isNoCell ⟨Nat.le_of_ble_eq_true rfl, Nat.le_of_ble_eq_true rfl⟩ ⟨rfl, rfl⟩ (Nat.le_of_ble_eq_true rfl) dX8_lastBy_3 ⟨Nat.zero_le _, Nat.zero_le _⟩ rfl ?_
  refine V_ifeqB (tgt := 11) C dX8_lastBy_6 (by decide) rfl (fun c_6 => ?_) (fun c_6 => ?_)
  · have hx := atI_in (c := c) (r := r) (by simpa using c_6)
    have hl9 := HW_log hwh
    have hl8 := hwl.1
    refine V_weak (I2 := MI cC cI h0 mo Pm (uG S 31 0)) (fun h q => by rw [c_6] at q; exact q) ?_
    refine V_aload0 (pc' := 12) C dX8_lastBy_11 rfl ?_
    refine mGetA (pc' := 15) 2 C hin (by decide) (by decide +kernel) dX8_lastBy_12 rfl ?_
    refine V_iload1 (pc' := 16) C dX8_lastBy_15 rfl ?_
    refine V_iload2 (pc' := 17) C dX8_lastBy_16 rfl ?_
    refine sCall2 (pc' := 20) C (kX8_at _ _ ) gX8_lastBy_X8_at rfl ydX8_at ⟨Nat.le_of_ble_eq_true rfl, Nat.le_of_ble_eq_true rfl⟩ ⟨rfl, rfl⟩ (Nat.le_of_ble_eq_true rfl) dX8_lastBy_17 ⟨Nat.zero_le _, Nat.zero_le _⟩ rfl ?_
    refine mLd (pc' := 21) (n := 48) 2 C (by decide) rfl (by first | omega | (simp [uA, uG, thS] <;> omega)) dX8_lastBy_20 rfl ?_
    refine V_istore3 (pc' := 22) C dX8_lastBy_21 rfl (by decide) rfl ?_
    refine V_iconst (pc' := 23) C dX8_lastBy_22 rfl ?_
    refine V_istore4 (pc' := 25) C dX8_lastBy_23 rfl (by decide) rfl ?_
    refine V_for0 (N := (S.2 24).toNat) (fun j => MI cC cI h0 mo Pm (uG S 31 0)) (fun j => [some (.ref mo), some (.int (iI c)), some (.int (iI r)), some (.int (iI (lastN S (atI c r) j))), some (.int (iI j))]) (fun _ => True) trivial (fun h q => q) rfl (fun j hj hv hk => ?_) (fun hv => ?_)
    · have lk := hwl.2 j (by omega) (by omega)
      refine V_iload4 (pc' := 27) C dX8_lastBy_25 rfl ?_
      refine V_aload0 (pc' := 28) C dX8_lastBy_27 rfl ?_
      refine mGetI (pc' := 31) 24 C hin (by decide) (by decide +kernel) dX8_lastBy_28 rfl ?_
      refine V_icmpge (tgt := 67) C (by first | omega | (simp [uA, uG, thS] <;> omega)) dX8_lastBy_31 (by decide) rfl (fun c_31 => ?_) (fun c_31 => ?_)
      · exact absurd c_31 (by simp [uG]; omega)
      · refine V_aload0 (pc' := 35) C dX8_lastBy_34 rfl ?_
        refine mGetA (pc' := 38) 16 C hin (by decide) (by decide +kernel) dX8_lastBy_35 rfl ?_
        refine V_iload4 (pc' := 40) C dX8_lastBy_38 rfl ?_
        refine mLd (pc' := 41) (n := 2100) 16 C (by decide) rfl (by first | omega | (simp [uA, uG, thS] <;> omega)) dX8_lastBy_40 rfl ?_
        refine V_iload1 (pc' := 42) C dX8_lastBy_41 rfl ?_
        refine V_iload2 (pc' := 43) C dX8_lastBy_42 rfl ?_
        refine sCall2 (pc' := 46) C (kX8_at _ _ ) gX8_lastBy_X8_at rfl ydX8_at ⟨Nat.le_of_ble_eq_true rfl, Nat.le_of_ble_eq_true rfl⟩ ⟨rfl, rfl⟩ (Nat.le_of_ble_eq_true rfl) dX8_lastBy_43 ⟨Nat.zero_le _, Nat.zero_le _⟩ rfl ?_
        refine V_icmpne (tgt := 59) C (by show rI (S.1 16 j) ∧ rI (atI c r); omega) dX8_lastBy_46 (by decide) rfl (fun c_46 => ?_) (fun c_46 => ?_)
        · refine V_iload3 (pc' := 60) C dX8_lastBy_59 rfl ?_
          refine V_istore3 (pc' := 61) C dX8_lastBy_60 rfl (by decide) rfl ?_
          refine V_iinc4 (pc' := 64) C dX8_lastBy_61 rfl (by decide) rfl ?_
          refine V_goto (tgt := 25) C dX8_lastBy_64 (by decide) ?_
          exact V_conv (fun h q => q) (by simp_all [lastN, uG_1]) (hk trivial)
        · refine V_aload0 (pc' := 50) C dX8_lastBy_49 rfl ?_
          refine mGetA (pc' := 53) 18 C hin (by decide) (by decide +kernel) dX8_lastBy_50 rfl ?_
          refine V_iload4 (pc' := 55) C dX8_lastBy_53 rfl ?_
          refine mLd (pc' := 56) (n := 2100) 18 C (by decide) rfl (by first | omega | (simp [uA, uG, thS] <;> omega)) dX8_lastBy_55 rfl ?_
          refine V_goto (tgt := 60) C dX8_lastBy_56 (by decide) ?_
          refine V_istore3 (pc' := 61) C dX8_lastBy_60 rfl (by decide) rfl ?_
          refine V_iinc4 (pc' := 64) C dX8_lastBy_61 rfl (by decide) rfl ?_
          refine V_goto (tgt := 25) C dX8_lastBy_64 (by decide) ?_
          exact V_conv (fun h q => q) (by simp_all [lastN, uG_1]) (hk trivial)
    · have ln := lastN_in (hws.1 _ hx.1 hx.2) hwl (S.2 24).toNat (by omega)
      refine V_iload4 (pc' := 27) C dX8_lastBy_25 rfl ?_
      refine V_aload0 (pc' := 28) C dX8_lastBy_27 rfl ?_
      refine mGetI (pc' := 31) 24 C hin (by decide) (by decide +kernel) dX8_lastBy_28 rfl ?_
      refine V_icmpge (tgt := 67) C (by first | omega | (simp [uA, uG, thS] <;> omega)) dX8_lastBy_31 (by decide) rfl (fun c_31 => ?_) (fun c_31 => ?_)
      · refine V_aload0 (pc' := 68) C dX8_lastBy_67 rfl ?_
        refine V_iload3 (pc' := 69) C dX8_lastBy_68 rfl ?_
        refine V_bipush (pc' := 71) C dX8_lastBy_69 rfl (by decide) ?_
        refine V_icmpne (tgt := 78) C (by first | omega | (simp [uA, uG, thS] <;> omega)) dX8_lastBy_71 (by decide) rfl (fun c_71 => ?_) (fun c_71 => ?_)
        · refine V_iconst (pc' := 79) C dX8_lastBy_78 rfl ?_
          refine V_iconst (pc' := 80) C dX8_lastBy_79 rfl ?_
          refine mCallF2 (pc' := 83) C (kX8_isThrown false _ ) gX8_lastBy_X8_isThrown rfl ydX8_isThrown ⟨Nat.le_of_ble_eq_true rfl, Nat.le_of_ble_eq_true rfl⟩ ⟨rfl, rfl⟩ (Nat.le_of_ble_eq_true rfl) dX8_lastBy_80 ⟨Nat.zero_le _, Nat.zero_le _⟩ rfl ?_
          refine V_ifeqB (tgt := 90) C dX8_lastBy_83 (by decide) rfl (fun c_83 => ?_) (fun c_83 => ?_)
          · refine V_iload3 (pc' := 91) C dX8_lastBy_90 rfl ?_
            exact mEnd C hr hlk ⟨Nat.le_refl _, Nat.le_refl _⟩ dX8_lastBy_91 (by first | (have h9 : lastN S (atI c r) (S.2 24).toNat = -2 := (by omega); unfold lastByX; rw [if_neg (by simp_all), if_pos h9]; simp [thS, uG_uG]; done) | (have h9 : ¬ lastN S (atI c r) (S.2 24).toNat = -2 := (by omega); unfold lastByX; rw [if_neg (by simp_all), if_neg h9]; simp [thS, uG_uG]; done))
          · exact absurd c_83 (by decide)
        · refine V_iconst (pc' := 75) C dX8_lastBy_74 rfl ?_
          refine V_goto (tgt := 79) C dX8_lastBy_75 (by decide) ?_
          refine V_iconst (pc' := 80) C dX8_lastBy_79 rfl ?_
          refine mCallF2 (pc' := 83) C (kX8_isThrown true _ ) gX8_lastBy_X8_isThrown rfl ydX8_isThrown ⟨Nat.le_of_ble_eq_true rfl, Nat.le_of_ble_eq_true rfl⟩ ⟨rfl, rfl⟩ (Nat.le_of_ble_eq_true rfl) dX8_lastBy_80 ⟨Nat.zero_le _, Nat.zero_le _⟩ rfl ?_
          refine V_ifeqB (tgt := 90) C dX8_lastBy_83 (by decide) rfl (fun c_83 => ?_) (fun c_83 => ?_)
          · exact absurd c_83 (by decide)
          · refine V_iconst (pc' := 87) C dX8_lastBy_86 rfl ?_
            refine V_goto (tgt := 91) C dX8_lastBy_87 (by decide) ?_
            exact mEnd C hr hlk ⟨Nat.le_refl _, Nat.le_refl _⟩ dX8_lastBy_91 (by first | (have h9 : lastN S (atI c r) (S.2 24).toNat = -2 := (by omega); unfold lastByX; rw [if_neg (by simp_all), if_pos h9]; simp [thS, uG_uG]; done) | (have h9 : ¬ lastN S (atI c r) (S.2 24).toNat = -2 := (by omega); unfold lastByX; rw [if_neg (by simp_all), if_neg h9]; simp [thS, uG_uG]; done))
      · exact absurd c_31 (by simp [uG]; omega)
  · refine V_iconst (pc' := 10) C dX8_lastBy_9 rfl ?_
    exact mEnd C hr hlk ⟨Nat.le_refl _, Nat.le_refl _⟩ dX8_lastBy_10 (by simp_all [lastByX, thS])
set_option maxHeartbeats 4000000 in
set_option maxRecDepth 100000 in
theorem kX8_undo (hmw : MW S b) : Mf l D cB cC cI cO cJ cD ee yX8_undo wsX8_undo ({ frames := 1, cells := 0, slots := 0, locals := 22 } : Room) mo Pm [] S ((undoX S).1, (undoX S).2) := by
  refine Ct_of (cc := cX8_undo) (own := RX8) [some (.ref mo), none] (by decide) rfl rfl (Nat.le_of_ble_eq_true rfl) (fun i9 v9 h9 => argL (.ref mo :: []) 1 rfl i9 v9 h9) ?_
  intro p e s m9 args below meth c9 h0 sz hI C hr hlk hinit
  have hin : ∀ w ∈ wsX80, w ∈ wsX8_undo := by decide +kernel
  refine V_weak (I2 := MI cC cI h0 mo Pm S) (fun x hx => by subst hx; exact ⟨hI, Fr.refl⟩) ?_
  obtain ⟨hwp, hwl, hwh, hwr, hws, hwt⟩ := id hmw
  obtain ⟨hw1, hw2, hw3, hw4, hw5, hw6⟩ := id hwp
  have hz4 := hwh.1
  have hz5 := hwh.2.1
  refine V_aload0 (pc' := 1) C dX8_undo_0 rfl ?_
  refine V_aload0 (pc' := 2) C dX8_undo_1 rfl ?_
  refine mGetI (pc' := 5) 25 C hin (by decide) (by decide +kernel) dX8_undo_2 rfl ?_
  refine V_ifne (tgt := 12) C (by first | omega | (simp [uA, uG, thS] <;> omega)) dX8_undo_5 (by decide) rfl (fun c_5 => ?_) (fun c_5 => ?_)
  · refine V_iconst (pc' := 13) C dX8_undo_12 rfl ?_
    refine V_iconst (pc' := 14) C dX8_undo_13 rfl ?_
    refine mCallF2 (pc' := 17) C (kX8_isThrown false _ ) gX8_undo_X8_isThrown rfl ydX8_isThrown ⟨Nat.le_of_ble_eq_true rfl, Nat.le_of_ble_eq_true rfl⟩ ⟨rfl, rfl⟩ (Nat.le_of_ble_eq_true rfl) dX8_undo_14 ⟨Nat.zero_le _, Nat.zero_le _⟩ rfl ?_
    refine V_ifeqB (tgt := 22) C dX8_undo_17 (by decide) rfl (fun c_17 => ?_) (fun c_17 => ?_)
    · have hc9 : ¬ S.2 25 = 0 := c_5
      have hl9 := HW_log hwh
      have hl8 := hwl.1
      have hh := hwh.2.2.2.2 (S.2 25 - 1) (by have := hwh.1; omega) (by omega)
      have hh2 := HW_le hwh (S.2 25 - 1).toNat (by have := hwh.1; omega)
      have hh3 := hwh.2.2.2.1
      have hh4 := hwh.1
      have hh5 := hwh.2.1
      rw [show ((S.2 25 - 1).toNat : Int) = S.2 25 - 1 by omega] at hh2
      rw [show S.2 25 - 1 + 1 = S.2 25 by omega, hh3] at hh
      refine V_weak (I2 := MI cC cI h0 mo Pm (uG S 31 0)) (fun h q => by simpa [thS, uG_uG] using q) ?_
      refine V_aload0 (pc' := 23) C dX8_undo_22 rfl ?_
      refine V_dup (pc' := 24) C rfl dX8_undo_23 rfl ?_
      refine mGetI (pc' := 27) 25 C hin (by decide) (by decide +kernel) dX8_undo_24 rfl ?_
      refine V_iconst (pc' := 28) C dX8_undo_27 rfl ?_
      refine V_isub (pc' := 29) C dX8_undo_28 rfl ?_
      refine mPutI (pc' := 32) 25 C hin (by decide) (by decide +kernel) dX8_undo_29 rfl ?_
      refine V_aload0 (pc' := 33) C dX8_undo_32 rfl ?_
      refine mGetI (pc' := 36) 24 C hin (by decide) (by decide +kernel) dX8_undo_33 rfl ?_
      refine V_aload0 (pc' := 37) C dX8_undo_36 rfl ?_
      refine mGetA (pc' := 40) 20 C hin (by decide) (by decide +kernel) dX8_undo_37 rfl ?_
      refine V_aload0 (pc' := 41) C dX8_undo_40 rfl ?_
      refine mGetI (pc' := 44) 25 C hin (by decide) (by decide +kernel) dX8_undo_41 rfl ?_
      refine mLd (pc' := 45) (n := 9) 20 C (by decide) rfl (by first | omega | (simp [uA, uG, thS] <;> omega)) dX8_undo_44 rfl ?_
      refine V_isub (pc' := 46) C dX8_undo_45 rfl ?_
      refine V_istore1 (pc' := 47) C dX8_undo_46 rfl (by decide) rfl ?_
      refine V_for0 (N := (S.2 24 - S.1 20 (S.2 25 - 1)).toNat) (fun j => MI cC cI h0 mo Pm (unI (uG (uG S 31 0) 25 (S.2 25 - 1)) j)) (fun j => [some (.ref mo), some (.int (iI (S.2 24 - S.1 20 (S.2 25 - 1))))]) (fun _ => True) trivial (fun h q => q) rfl (fun j hj hv hk => ?_) (fun hv => ?_)
      · have e24 := unI_24 (uG (uG S 31 0) 25 (S.2 25 - 1)) j
        have e16 := unI_1 (uG (uG S 31 0) 25 (S.2 25 - 1)) 16 (by decide) j
        have e20 := unI_1 (uG (uG S 31 0) 25 (S.2 25 - 1)) 20 (by decide) j
        have e25 := unI_2 (uG (uG S 31 0) 25 (S.2 25 - 1)) 25 (by decide) j
        have f24 : (uG (uG S 31 0) 25 (S.2 25 - 1)).2 24 = S.2 24 := rfl
        have f25 : (uG (uG S 31 0) 25 (S.2 25 - 1)).2 25 = S.2 25 - 1 := rfl
        have f20 : (uG (uG S 31 0) 25 (S.2 25 - 1)).1 20 = S.1 20 := rfl
        have f16 : (uG (uG S 31 0) 25 (S.2 25 - 1)).1 16 = S.1 16 := rfl
        rw [f24] at e24
        rw [f25] at e25
        rw [f20] at e20
        rw [f16] at e16
        have lk := hwl.2 (S.2 24 - j - 1) (by omega) (by omega)
        refine V_aload0 (pc' := 48) C dX8_undo_47 rfl ?_
        refine mGetI (pc' := 51) 24 C hin (by decide) (by decide +kernel) dX8_undo_48 rfl ?_
        refine V_aload0 (pc' := 52) C dX8_undo_51 rfl ?_
        refine mGetA (pc' := 55) 20 C hin (by decide) (by decide +kernel) dX8_undo_52 rfl ?_
        refine V_aload0 (pc' := 56) C dX8_undo_55 rfl ?_
        refine mGetI (pc' := 59) 25 C hin (by decide) (by decide +kernel) dX8_undo_56 rfl ?_
        refine mLd (pc' := 60) (n := 9) 20 C (by decide) rfl (by rw [e25]; omega) dX8_undo_59 rfl ?_
        refine V_icmple (tgt := 99) C (by rw [e24, e25, e20]; omega) dX8_undo_60 (by decide) rfl (fun c_60 => ?_) (fun c_60 => ?_)
        · exact absurd c_60 (by rw [e24, e25, e20]; omega)
        · refine V_aload0 (pc' := 64) C dX8_undo_63 rfl ?_
          refine V_dup (pc' := 65) C rfl dX8_undo_64 rfl ?_
          refine mGetI (pc' := 68) 24 C hin (by decide) (by decide +kernel) dX8_undo_65 rfl ?_
          refine V_iconst (pc' := 69) C dX8_undo_68 rfl ?_
          refine V_isub (pc' := 70) C dX8_undo_69 rfl ?_
          refine mPutI (pc' := 73) 24 C hin (by decide) (by decide +kernel) dX8_undo_70 rfl ?_
          refine V_aload0 (pc' := 74) C dX8_undo_73 rfl ?_
          refine mGetA (pc' := 77) 0 C hin (by decide) (by decide +kernel) dX8_undo_74 rfl ?_
          refine V_aload0 (pc' := 78) C dX8_undo_77 rfl ?_
          refine mGetA (pc' := 81) 16 C hin (by decide) (by decide +kernel) dX8_undo_78 rfl ?_
          refine V_aload0 (pc' := 82) C dX8_undo_81 rfl ?_
          refine mGetI (pc' := 85) 24 C hin (by decide) (by decide +kernel) dX8_undo_82 rfl ?_
          refine mLd (pc' := 86) (n := 2100) 16 C (by decide) rfl (by show 0 ≤ (unI (uG (uG S 31 0) 25 (S.2 25 - 1)) j).2 24 - 1 ∧ (unI (uG (uG S 31 0) 25 (S.2 25 - 1)) j).2 24 - 1 < 2100 ∧ (unI (uG (uG S 31 0) 25 (S.2 25 - 1)) j).2 24 - 1 ≤ 2147483647; rw [e24]; omega) dX8_undo_85 rfl ?_
          refine V_aload0 (pc' := 87) C dX8_undo_86 rfl ?_
          refine mGetA (pc' := 90) 17 C hin (by decide) (by decide +kernel) dX8_undo_87 rfl ?_
          refine V_aload0 (pc' := 91) C dX8_undo_90 rfl ?_
          refine mGetI (pc' := 94) 24 C hin (by decide) (by decide +kernel) dX8_undo_91 rfl ?_
          refine mLd (pc' := 95) (n := 2100) 17 C (by decide) rfl (by show 0 ≤ (unI (uG (uG S 31 0) 25 (S.2 25 - 1)) j).2 24 - 1 ∧ (unI (uG (uG S 31 0) 25 (S.2 25 - 1)) j).2 24 - 1 < 2100 ∧ (unI (uG (uG S 31 0) 25 (S.2 25 - 1)) j).2 24 - 1 ≤ 2147483647; rw [e24]; omega) dX8_undo_94 rfl ?_
          refine mSt (pc' := 96) (n := 48) 0 C (by decide) rfl (by show 0 ≤ (unI (uG (uG S 31 0) 25 (S.2 25 - 1)) j).1 16 ((unI (uG (uG S 31 0) 25 (S.2 25 - 1)) j).2 24 - 1) ∧ (unI (uG (uG S 31 0) 25 (S.2 25 - 1)) j).1 16 ((unI (uG (uG S 31 0) 25 (S.2 25 - 1)) j).2 24 - 1) < 48 ∧ (unI (uG (uG S 31 0) 25 (S.2 25 - 1)) j).1 16 ((unI (uG (uG S 31 0) 25 (S.2 25 - 1)) j).2 24 - 1) ≤ 2147483647; rw [e24, e16]; omega) dX8_undo_95 rfl ?_
          refine V_goto (tgt := 47) C dX8_undo_96 (by decide) ?_
          exact V_conv (fun h q => q) rfl (hk trivial)
      · have e24 := unI_24 (uG (uG S 31 0) 25 (S.2 25 - 1)) (S.2 24 - S.1 20 (S.2 25 - 1)).toNat
        have e16 := unI_1 (uG (uG S 31 0) 25 (S.2 25 - 1)) 16 (by decide) (S.2 24 - S.1 20 (S.2 25 - 1)).toNat
        have e20 := unI_1 (uG (uG S 31 0) 25 (S.2 25 - 1)) 20 (by decide) (S.2 24 - S.1 20 (S.2 25 - 1)).toNat
        have e25 := unI_2 (uG (uG S 31 0) 25 (S.2 25 - 1)) 25 (by decide) (S.2 24 - S.1 20 (S.2 25 - 1)).toNat
        have f24 : (uG (uG S 31 0) 25 (S.2 25 - 1)).2 24 = S.2 24 := rfl
        have f25 : (uG (uG S 31 0) 25 (S.2 25 - 1)).2 25 = S.2 25 - 1 := rfl
        have f20 : (uG (uG S 31 0) 25 (S.2 25 - 1)).1 20 = S.1 20 := rfl
        have f16 : (uG (uG S 31 0) 25 (S.2 25 - 1)).1 16 = S.1 16 := rfl
        rw [f24] at e24
        rw [f25] at e25
        rw [f20] at e20
        rw [f16] at e16
        refine V_aload0 (pc' := 48) C dX8_undo_47 rfl ?_
        refine mGetI (pc' := 51) 24 C hin (by decide) (by decide +kernel) dX8_undo_48 rfl ?_
        refine V_aload0 (pc' := 52) C dX8_undo_51 rfl ?_
        refine mGetA (pc' := 55) 20 C hin (by decide) (by decide +kernel) dX8_undo_52 rfl ?_
        refine V_aload0 (pc' := 56) C dX8_undo_55 rfl ?_
        refine mGetI (pc' := 59) 25 C hin (by decide) (by decide +kernel) dX8_undo_56 rfl ?_
        refine mLd (pc' := 60) (n := 9) 20 C (by decide) rfl (by rw [e25]; omega) dX8_undo_59 rfl ?_
        refine V_icmple (tgt := 99) C (by rw [e24, e25, e20]; omega) dX8_undo_60 (by decide) rfl (fun c_60 => ?_) (fun c_60 => ?_)
        · refine V_iload1 (pc' := 100) C dX8_undo_99 rfl ?_
          exact mEnd C hr hlk ⟨Nat.le_refl _, Nat.le_refl _⟩ dX8_undo_100 (by unfold undoX; rw [if_neg hc9])
        · exact absurd c_60 (by rw [e24, e25, e20]; omega)
    · exact absurd c_17 (by decide)
  · refine V_iconst (pc' := 9) C dX8_undo_8 rfl ?_
    refine V_goto (tgt := 13) C dX8_undo_9 (by decide) ?_
    refine V_iconst (pc' := 14) C dX8_undo_13 rfl ?_
    refine mCallF2 (pc' := 17) C (kX8_isThrown true _ ) gX8_undo_X8_isThrown rfl ydX8_isThrown ⟨Nat.le_of_ble_eq_true rfl, Nat.le_of_ble_eq_true rfl⟩ ⟨rfl, rfl⟩ (Nat.le_of_ble_eq_true rfl) dX8_undo_14 ⟨Nat.zero_le _, Nat.zero_le _⟩ rfl ?_
    refine V_ifeqB (tgt := 22) C dX8_undo_17 (by decide) rfl (fun c_17 => ?_) (fun c_17 => ?_)
    · exact absurd c_17 (by decide)
    · refine V_iconst (pc' := 21) C dX8_undo_20 rfl ?_
      exact mEnd C hr hlk ⟨Nat.le_refl _, Nat.le_refl _⟩ dX8_undo_21 (by simp_all [undoX, thS])
set_option maxHeartbeats 4000000 in
set_option maxRecDepth 100000 in
theorem kX8_writes (ch : Int) (h1 : 0 ≤ S.2 30 ∧ S.2 30 < 40) (h2 : 0 ≤ ch ∧ ch < 65536) : Mv l D cB cC cI cO cJ cD ee yX8_writes wsX8_writes ({ frames := 0, cells := 0, slots := 0, locals := 0 } : Room) mo Pm [.int (iI ch)] S (wrS S ch) := by
  refine Ct_of (cc := cX8_writes) (own := RX8) [some (.ref mo), some (.int (iI ch))] (by decide) rfl rfl (Nat.le_of_ble_eq_true rfl) (fun i9 v9 h9 => argL (.ref mo :: [.int (iI ch)]) 0 rfl i9 v9 h9) ?_
  intro p e s m9 args below meth c9 h0 sz hI C hr hlk hinit
  have hin : ∀ w ∈ wsX80, w ∈ wsX8_writes := by decide +kernel
  refine V_weak (I2 := MI cC cI h0 mo Pm S) (fun x hx => by subst hx; exact ⟨hI, Fr.refl⟩) ?_
  refine V_aload0 (pc' := 1) C dX8_writes_0 rfl ?_
  refine mGetA (pc' := 4) 21 C hin (by decide) (by decide +kernel) dX8_writes_1 rfl ?_
  refine V_aload0 (pc' := 5) C dX8_writes_4 rfl ?_
  refine mGetI (pc' := 8) 30 C hin (by decide) (by decide +kernel) dX8_writes_5 rfl ?_
  refine V_iload1 (pc' := 9) C dX8_writes_8 rfl ?_
  refine mStC (pc' := 10) C (by omega) (by omega) dX8_writes_9 rfl ?_
  refine V_aload0 (pc' := 11) C dX8_writes_10 rfl ?_
  refine V_dup (pc' := 12) C rfl dX8_writes_11 rfl ?_
  refine mGetI (pc' := 15) 30 C hin (by decide) (by decide +kernel) dX8_writes_12 rfl ?_
  refine V_iconst (pc' := 16) C dX8_writes_15 rfl ?_
  refine V_iadd (pc' := 17) C dX8_writes_16 rfl ?_
  refine mPutI (pc' := 20) 30 C hin (by decide) (by decide +kernel) dX8_writes_17 rfl ?_
  exact mEndv C hr hlk ⟨Nat.le_refl _, Nat.le_refl _⟩ dX8_writes_20 (rfl)
set_option maxHeartbeats 4000000 in
set_option maxRecDepth 100000 in
theorem kX8_ends (fr : Int) (ha : AW S fr) : Mf l D cB cC cI cO cJ cD ee yX8_ends wsX8_ends ({ frames := 5, cells := 0, slots := 0, locals := 117 } : Room) mo Pm [.int (iI fr)] S ((endsS (chX S fr) fr ((chX S fr).2 24 - fr)).1, (endsS (chX S fr) fr ((chX S fr).2 24 - fr)).2) := by
  refine Ct_of (cc := cX8_ends) (own := RX8) [some (.ref mo), some (.int (iI fr)), none] (by decide) rfl rfl (Nat.le_of_ble_eq_true rfl) (fun i9 v9 h9 => argL (.ref mo :: [.int (iI fr)]) 1 rfl i9 v9 h9) ?_
  intro p e s m9 args below meth c9 h0 sz hI C hr hlk hinit
  have hin : ∀ w ∈ wsX80, w ∈ wsX8_ends := by decide +kernel
  refine V_weak (I2 := MI cC cI h0 mo Pm S) (fun x hx => by subst hx; exact ⟨hI, Fr.refl⟩) ?_
  obtain ⟨h1, h2, h3, h4, h5, h6, h7, h8, h9⟩ := id ha
  obtain ⟨w1, w2, w3, w4, w5, w6⟩ := AW_chX ha
  have e25 := w5 25 (by decide) (by decide)
  refine V_aload0 (pc' := 1) C dX8_ends_0 rfl ?_
  refine V_iload1 (pc' := 2) C dX8_ends_1 rfl ?_
  refine mCallF1 (pc' := 5) C (kX8_changesOf _ h1 h2 ⟨h3, by omega, by omega, by omega⟩) gX8_ends_X8_changesOf rfl ydX8_changesOf ⟨Nat.le_of_ble_eq_true rfl, Nat.le_of_ble_eq_true rfl⟩ ⟨rfl, rfl⟩ (Nat.le_of_ble_eq_true rfl) dX8_ends_2 ⟨Nat.zero_le _, Nat.zero_le _⟩ rfl ?_
  refine V_istore2 (pc' := 6) C dX8_ends_5 rfl (by decide) rfl ?_
  refine V_iload2 (pc' := 7) C dX8_ends_6 rfl ?_
  refine V_ifle (tgt := 69) C (by omega) dX8_ends_7 (by decide) rfl (fun c_7 => ?_) (fun c_7 => ?_)
  · refine V_iload2 (pc' := 70) C dX8_ends_69 rfl ?_
    exact mEnd C hr hlk ⟨Nat.le_refl _, Nat.le_refl _⟩ dX8_ends_70 (by first | (unfold endsS; rw [if_pos (by omega)]; done) | (unfold endsS; rw [if_neg (by omega)]; simp only [if_pos hc25]; rfl) | (unfold endsS; rw [if_neg (by omega)]; simp only [if_neg hc25]; rfl))
  · refine V_aload0 (pc' := 11) C dX8_ends_10 rfl ?_
    refine mGetI (pc' := 14) 25 C hin (by decide) (by decide +kernel) dX8_ends_11 rfl ?_
    refine V_bipush (pc' := 16) C dX8_ends_14 rfl (by decide) ?_
    refine V_icmpne (tgt := 31) C (by omega) dX8_ends_16 (by decide) rfl (fun c_16 => ?_) (fun c_16 => ?_)
    · first
        | (have hc25 : (chX S fr).2 25 = 8 := by omega
           have hs25 := setlS_25 (uA (chX S fr) 20 8 fr)
           have hs26 : (uA (chX S fr) 20 8 fr).2 25 = 8 := hc25)
        | have hc25 : ¬ (chX S fr).2 25 = 8 := by omega
      refine V_aload0 (pc' := 32) C dX8_ends_31 rfl ?_
      refine mGetA (pc' := 35) 20 C hin (by decide) (by decide +kernel) dX8_ends_32 rfl ?_
      refine V_aload0 (pc' := 36) C dX8_ends_35 rfl ?_
      refine mGetI (pc' := 39) 25 C hin (by decide) (by decide +kernel) dX8_ends_36 rfl ?_
      refine V_aload0 (pc' := 40) C dX8_ends_39 rfl ?_
      refine mGetI (pc' := 43) 24 C hin (by decide) (by decide +kernel) dX8_ends_40 rfl ?_
      refine V_iload2 (pc' := 44) C dX8_ends_43 rfl ?_
      refine V_isub (pc' := 45) C dX8_ends_44 rfl ?_
      refine mSt (pc' := 46) (n := 9) 20 C (by decide) rfl (by first | omega | (rw [hs25]; omega)) dX8_ends_45 rfl ?_
      refine V_aload0 (pc' := 47) C dX8_ends_46 rfl ?_
      refine V_dup (pc' := 48) C rfl dX8_ends_47 rfl ?_
      refine mGetI (pc' := 51) 25 C hin (by decide) (by decide +kernel) dX8_ends_48 rfl ?_
      refine V_iconst (pc' := 52) C dX8_ends_51 rfl ?_
      refine V_iadd (pc' := 53) C dX8_ends_52 rfl ?_
      refine mPutI (pc' := 56) 25 C hin (by decide) (by decide +kernel) dX8_ends_53 rfl ?_
      refine V_aload0 (pc' := 57) C dX8_ends_56 rfl ?_
      refine mGetA (pc' := 60) 20 C hin (by decide) (by decide +kernel) dX8_ends_57 rfl ?_
      refine V_aload0 (pc' := 61) C dX8_ends_60 rfl ?_
      refine mGetI (pc' := 64) 25 C hin (by decide) (by decide +kernel) dX8_ends_61 rfl ?_
      refine V_aload0 (pc' := 65) C dX8_ends_64 rfl ?_
      refine mGetI (pc' := 68) 24 C hin (by decide) (by decide +kernel) dX8_ends_65 rfl ?_
      refine mSt (pc' := 69) (n := 9) 20 C (by decide) rfl (by first | (simp [uA, uG]; omega) | (simp only [uG_s]; show 0 ≤ (setlS (uA (chX S fr) 20 8 fr)).2 25 + 1 ∧ (setlS (uA (chX S fr) 20 8 fr)).2 25 + 1 < 9 ∧ (setlS (uA (chX S fr) 20 8 fr)).2 25 + 1 ≤ 2147483647; rw [hs25]; omega)) dX8_ends_68 rfl ?_
      refine V_iload2 (pc' := 70) C dX8_ends_69 rfl ?_
      exact mEnd C hr hlk ⟨Nat.le_refl _, Nat.le_refl _⟩ dX8_ends_70 (by first | (unfold endsS; rw [if_pos (by omega)]; done) | (unfold endsS; rw [if_neg (by omega)]; simp only [if_pos hc25]; rfl) | (unfold endsS; rw [if_neg (by omega)]; simp only [if_neg hc25]; rfl))
    · refine V_aload0 (pc' := 20) C dX8_ends_19 rfl ?_
      refine mGetA (pc' := 23) 20 C hin (by decide) (by decide +kernel) dX8_ends_20 rfl ?_
      refine V_bipush (pc' := 25) C dX8_ends_23 rfl (by decide) ?_
      refine V_iload1 (pc' := 26) C dX8_ends_25 rfl ?_
      refine mSt (pc' := 27) (n := 9) 20 C (by decide) rfl (by omega) dX8_ends_26 rfl ?_
      refine V_aload0 (pc' := 28) C dX8_ends_27 rfl ?_
      have h10 := h9 (by omega)
      refine mCallV0 (pc' := 31) C (kX8_settles  ⟨w2.1, fun k h11 h12 => w2.2 k h11 h12⟩ (by show 0 ≤ (uA (chX S fr) 20 8 fr).1 20 1 ∧ (uA (chX S fr) 20 8 fr).1 20 1 ≤ (chX S fr).2 24 ∧ (chX S fr).2 24 ≤ 2100; rw [uA_s, upZ_n (by decide), w6]; omega) (by show (chX S fr).2 25 = 8; omega)) gX8_ends_X8_settles rfl ydX8_settles ⟨Nat.le_of_ble_eq_true rfl, Nat.le_of_ble_eq_true rfl⟩ ⟨rfl, rfl⟩ (Nat.le_of_ble_eq_true rfl) dX8_ends_28 ⟨Nat.zero_le _, Nat.zero_le _⟩ rfl ?_
      first
        | (have hc25 : (chX S fr).2 25 = 8 := by omega
           have hs25 := setlS_25 (uA (chX S fr) 20 8 fr)
           have hs26 : (uA (chX S fr) 20 8 fr).2 25 = 8 := hc25)
        | have hc25 : ¬ (chX S fr).2 25 = 8 := by omega
      refine V_aload0 (pc' := 32) C dX8_ends_31 rfl ?_
      refine mGetA (pc' := 35) 20 C hin (by decide) (by decide +kernel) dX8_ends_32 rfl ?_
      refine V_aload0 (pc' := 36) C dX8_ends_35 rfl ?_
      refine mGetI (pc' := 39) 25 C hin (by decide) (by decide +kernel) dX8_ends_36 rfl ?_
      refine V_aload0 (pc' := 40) C dX8_ends_39 rfl ?_
      refine mGetI (pc' := 43) 24 C hin (by decide) (by decide +kernel) dX8_ends_40 rfl ?_
      refine V_iload2 (pc' := 44) C dX8_ends_43 rfl ?_
      refine V_isub (pc' := 45) C dX8_ends_44 rfl ?_
      refine mSt (pc' := 46) (n := 9) 20 C (by decide) rfl (by first | omega | (rw [hs25]; omega)) dX8_ends_45 rfl ?_
      refine V_aload0 (pc' := 47) C dX8_ends_46 rfl ?_
      refine V_dup (pc' := 48) C rfl dX8_ends_47 rfl ?_
      refine mGetI (pc' := 51) 25 C hin (by decide) (by decide +kernel) dX8_ends_48 rfl ?_
      refine V_iconst (pc' := 52) C dX8_ends_51 rfl ?_
      refine V_iadd (pc' := 53) C dX8_ends_52 rfl ?_
      refine mPutI (pc' := 56) 25 C hin (by decide) (by decide +kernel) dX8_ends_53 rfl ?_
      refine V_aload0 (pc' := 57) C dX8_ends_56 rfl ?_
      refine mGetA (pc' := 60) 20 C hin (by decide) (by decide +kernel) dX8_ends_57 rfl ?_
      refine V_aload0 (pc' := 61) C dX8_ends_60 rfl ?_
      refine mGetI (pc' := 64) 25 C hin (by decide) (by decide +kernel) dX8_ends_61 rfl ?_
      refine V_aload0 (pc' := 65) C dX8_ends_64 rfl ?_
      refine mGetI (pc' := 68) 24 C hin (by decide) (by decide +kernel) dX8_ends_65 rfl ?_
      refine mSt (pc' := 69) (n := 9) 20 C (by decide) rfl (by first | (simp [uA, uG]; omega) | (simp only [uG_s]; show 0 ≤ (setlS (uA (chX S fr) 20 8 fr)).2 25 + 1 ∧ (setlS (uA (chX S fr) 20 8 fr)).2 25 + 1 < 9 ∧ (setlS (uA (chX S fr) 20 8 fr)).2 25 + 1 ≤ 2147483647; rw [hs25]; omega)) dX8_ends_68 rfl ?_
      refine V_iload2 (pc' := 70) C dX8_ends_69 rfl ?_
      exact mEnd C hr hlk ⟨Nat.le_refl _, Nat.le_refl _⟩ dX8_ends_70 (by first | (unfold endsS; rw [if_pos (by omega)]; done) | (unfold endsS; rw [if_neg (by omega)]; simp only [if_pos hc25]; rfl) | (unfold endsS; rw [if_neg (by omega)]; simp only [if_neg hc25]; rfl))
end

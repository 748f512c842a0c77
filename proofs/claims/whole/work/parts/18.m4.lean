/-! the reference's calls -/
theorem setA_2 (S : MSt) (k : Nat) (h : k ≠ 29) : (setA S).2 k = S.2 k := by
  unfold setA
  rw [uG_n _ h, sl1_2]
theorem setB_2 (S : MSt) (k : Nat) (h : k ≠ 29 ∧ k ≠ 24) : (setB S).2 k = S.2 k := by
  unfold setB
  rw [uG_n _ h.2, sl2_2, setA_2 S k h.1]
def isRangeB (c r lc lr : Int) : Bool := decide (c ≤ lc) && decide (r ≤ lr)
theorem thS_t (S : MSt) (a : Int) : thS S true a = uG S 31 a := rfl
theorem thS_f (S : MSt) (a : Int) : thS S false a = uG S 31 0 := rfl
def cellX (S : MSt) (c r : Int) : Int × MSt := if isCellB c r = false then (0, uG S 31 1) else (S.1 0 (atI c r), uG S 31 0)
def addMacroX (S : MSt) : Int × MSt := if S.2 22 = 6 then (0, uG S 31 1) else (S.2 22, uG (uG S 31 0) 22 (S.2 22 + 1))
def isMacB (S : MSt) (m : Int) : Bool := isInB m 0 (S.2 22 - 1)
def recordX (S : MSt) (m c r : Int) : Int × MSt := if isMacB S m = false ∨ isCellB c r = false then (0, uG S 31 1) else if 0 ≤ S.2 27 then (0, uG S 31 2) else (S.1 4 m, uG (uG (uA (uG S 31 0) 4 m 0) 27 m) 28 (atI c r))
def stopX (S : MSt) : Int × MSt := if S.2 27 < 0 then (0, uG S 31 1) else (S.1 4 (S.2 27), uG (uG S 31 0) 27 (-1))
def stepsX (S : MSt) (m : Int) : Int × MSt := if isMacB S m = false then (0, uG S 31 1) else (S.1 4 m, uG S 31 0)
def grantX (S : MSt) (m c r lc lr : Int) : Int × MSt := if isMacB S m = false ∨ isCellB c r = false ∨ isCellB lc lr = false then (0, uG S 31 1) else if isRangeB c r lc lr = false then (0, uG S 31 2) else if S.1 9 m = 4 then (0, uG S 31 3) else (S.1 9 m + 1, uA (uA (uA (uG S 31 0) 10 (4 * m + S.1 9 m) (atI c r)) 11 (4 * m + S.1 9 m) (atI lc lr)) 9 m (S.1 9 m + 1))
def takeX (S : MSt) (m : Int) : Int × MSt := if isMacB S m = false then (0, uG S 31 1) else (S.1 9 m, uA (uG S 31 0) 9 m 0)
def gcN (S : MSt) (x : Int) : Nat → Int
  | 0 => 0
  | n + 1 => gcN S x n + (if isGrantedB S n x = true then 1 else 0)
def grantedX (S : MSt) (c r : Int) : Int × MSt := if isCellB c r = false then (0, uG S 31 1) else (gcN S (atI c r) (S.2 22).toNat, uG S 31 0)
def reasonX (S : MSt) (m c r : Int) : Int × MSt := if isMacB S m = false ∨ isCellB c r = false then (45, uG S 31 1) else ((whyS (uG S 31 0) m (atI c r)).1, (whyS (uG S 31 0) m (atI c r)).2)
def setRankX (S : MSt) (q rank : Int) : Int × MSt := if isInB q 0 (S.2 23 - 1) = false then (0, uG S 31 1) else if isInB rank 0 9 = false then (0, uG S 31 2) else (S.1 15 q, uA (uG S 31 0) 15 q rank)
def addRuleX (S : MSt) (c r lc lr m rank : Int) : Int × MSt := if isCellB c r = false ∨ isCellB lc lr = false ∨ isMacB S m = false then (0, uG S 31 1) else if isRangeB c r lc lr = false ∨ isInB rank 0 9 = false then (0, uG S 31 2) else if S.2 23 = 6 then (0, uG S 31 3) else (S.2 23, uG (uA (uA (uA (uA (uG S 31 0) 12 (S.2 23) (atI c r)) 13 (S.2 23) (atI lc lr)) 14 (S.2 23) m) 15 (S.2 23) rank) 23 (S.2 23 + 1))
def ruleX (S : MSt) (c r : Int) : Int × MSt := if isCellB c r = false then (0, uG S 31 1) else if ruledI S (atI c r) < 0 then (0, uG S 31 2) else (ruledI S (atI c r), uG S 31 0)
theorem atI_in {c r : Int} (h : isCellB c r = true) : 0 ≤ atI c r ∧ atI c r < 48 := by
  simp only [isCellB, isInB, Bool.and_eq_true, decide_eq_true_eq] at h
  unfold atI
  omega
theorem isMac_in {S : MSt} {m : Int} (h : isMacB S m = true) (hw : S.2 22 ≤ 6) : 0 ≤ m ∧ m < 6 := by
  simp only [isMacB, isInB, Bool.and_eq_true, decide_eq_true_eq] at h
  omega

theorem ydX8_settles : yX8_settles.cls = RX8 ∧ yX8_settles.cls ≠ "java/lang/invoke/MethodHandle" ∧ yX8_settles.cls ≠ "java/lang/invoke/VarHandle" ∧ (parseMethodDescriptor yX8_settles.desc).map (fun d => d.parameters.length) = some 0 := by decide +kernel
section
variable {l : Launch} {D : va_G} {cB cC cI cO cJ cD : ClassId} {ee mo : Nat} {Pm : Nat → Nat} {S : MSt}
set_option maxHeartbeats 4000000 in
set_option maxRecDepth 100000 in
theorem kX8_settles (hl : WFl S) (h1 : 0 ≤ S.1 20 1 ∧ S.1 20 1 ≤ S.2 24 ∧ S.2 24 ≤ 2100) (h2 : S.2 25 = 8) : Mv l D cB cC cI cO cJ cD ee yX8_settles wsX8_settles ({ frames := 0, cells := 0, slots := 0, locals := 0 } : Room) mo Pm [] S (setlS S) := by
  refine Ct_of (cc := cX8_settles) (own := RX8) [some (.ref mo), none, none] (by decide) rfl rfl (Nat.le_of_ble_eq_true rfl) (fun i9 v9 h9 => argL (.ref mo :: []) 2 rfl i9 v9 h9) ?_
  intro p e s m9 args below meth c9 h0 sz hI C hr hlk hinit
  have hin : ∀ w ∈ wsX80, w ∈ wsX8_settles := by decide +kernel
  refine V_weak (I2 := MI cC cI h0 mo Pm S) (fun x hx => by subst hx; exact ⟨hI, Fr.refl⟩) ?_
  refine V_aload0 (pc' := 1) C dX8_settles_0 rfl ?_
  refine mGetA (pc' := 4) 20 C hin (by decide) (by decide +kernel) dX8_settles_1 rfl ?_
  refine V_iconst (pc' := 5) C dX8_settles_4 rfl ?_
  refine mLd (pc' := 6) (n := 9) 20 C (by decide) rfl (by omega) dX8_settles_5 rfl ?_
  refine V_istore1 (pc' := 7) C dX8_settles_6 rfl (by decide) rfl ?_
  refine V_iconst (pc' := 8) C dX8_settles_7 rfl ?_
  refine V_istore2 (pc' := 9) C dX8_settles_8 rfl (by decide) rfl ?_
  refine V_for0 (N := (S.1 20 1).toNat) (fun j => MI cC cI h0 mo Pm (sl1 S j)) (fun j => [some (.ref mo), some (.int (iI (S.1 20 1))), some (.int (iI j))]) (fun _ => True) trivial (fun h q => q) rfl (fun j hj hv hk => ?_) (fun hv => ?_)
  · have e16 := sl1_1 S 16 (by decide) j
    have e18 := sl1_1 S 18 (by decide) j
    have lk := hl.2 j (by omega) (by omega)
    refine V_iload2 (pc' := 10) C dX8_settles_9 rfl ?_
    refine V_iload1 (pc' := 11) C dX8_settles_10 rfl ?_
    refine V_icmpge (tgt := 54) C (by omega) dX8_settles_11 (by decide) rfl (fun c_11 => ?_) (fun c_11 => ?_)
    · exact absurd c_11 (by omega)
    · refine V_aload0 (pc' := 15) C dX8_settles_14 rfl ?_
      refine mGetA (pc' := 18) 3 C hin (by decide) (by decide +kernel) dX8_settles_15 rfl ?_
      refine V_aload0 (pc' := 19) C dX8_settles_18 rfl ?_
      refine mGetA (pc' := 22) 18 C hin (by decide) (by decide +kernel) dX8_settles_19 rfl ?_
      refine V_iload2 (pc' := 23) C dX8_settles_22 rfl ?_
      refine mLd (pc' := 24) (n := 2100) 18 C (by decide) rfl (by omega) dX8_settles_23 rfl ?_
      refine V_iconst (pc' := 25) C dX8_settles_24 rfl ?_
      refine V_iadd (pc' := 26) C dX8_settles_25 rfl ?_
      refine V_dup2 (pc' := 27) C rfl rfl dX8_settles_26 rfl ?_
      refine mLd (pc' := 28) (n := 7) 3 C (by decide) rfl (by rw [e18]; omega) dX8_settles_27 rfl ?_
      refine V_iconst (pc' := 29) C dX8_settles_28 rfl ?_
      refine V_iadd (pc' := 30) C dX8_settles_29 rfl ?_
      refine mSt (pc' := 31) (n := 7) 3 C (by decide) rfl (by rw [e18]; omega) dX8_settles_30 rfl ?_
      refine V_aload0 (pc' := 32) C dX8_settles_31 rfl ?_
      refine mGetA (pc' := 35) 2 C hin (by decide) (by decide +kernel) dX8_settles_32 rfl ?_
      refine V_aload0 (pc' := 36) C dX8_settles_35 rfl ?_
      refine mGetA (pc' := 39) 16 C hin (by decide) (by decide +kernel) dX8_settles_36 rfl ?_
      refine V_iload2 (pc' := 40) C dX8_settles_39 rfl ?_
      refine mLd (pc' := 41) (n := 2100) 16 C (by decide) rfl (by omega) dX8_settles_40 rfl ?_
      refine V_aload0 (pc' := 42) C dX8_settles_41 rfl ?_
      refine mGetA (pc' := 45) 18 C hin (by decide) (by decide +kernel) dX8_settles_42 rfl ?_
      refine V_iload2 (pc' := 46) C dX8_settles_45 rfl ?_
      refine mLd (pc' := 47) (n := 2100) 18 C (by decide) rfl (by omega) dX8_settles_46 rfl ?_
      refine mSt (pc' := 48) (n := 48) 2 C (by decide) rfl (by show 0 ≤ (sl1 S j).1 16 j ∧ (sl1 S j).1 16 j < 48 ∧ (sl1 S j).1 16 j ≤ 2147483647; rw [e16]; omega) dX8_settles_47 rfl ?_
      refine V_iinc2 (pc' := 51) C dX8_settles_48 rfl (by decide) rfl ?_
      refine V_goto (tgt := 9) C dX8_settles_51 (by decide) ?_
      exact V_conv (fun h q => q) (by simp) (hk trivial)
  · refine V_iload2 (pc' := 10) C dX8_settles_9 rfl ?_
    refine V_iload1 (pc' := 11) C dX8_settles_10 rfl ?_
    refine V_icmpge (tgt := 54) C (by omega) dX8_settles_11 (by decide) rfl (fun c_11 => ?_) (fun c_11 => ?_)
    · refine V_aload0 (pc' := 55) C dX8_settles_54 rfl ?_
      refine V_dup (pc' := 56) C rfl dX8_settles_55 rfl ?_
      refine mGetI (pc' := 59) 29 C hin (by decide) (by decide +kernel) dX8_settles_56 rfl ?_
      refine V_iload1 (pc' := 60) C dX8_settles_59 rfl ?_
      refine V_iadd (pc' := 61) C dX8_settles_60 rfl ?_
      refine mPutI (pc' := 64) 29 C hin (by decide) (by decide +kernel) dX8_settles_61 rfl ?_
      refine V_iload1 (pc' := 65) C dX8_settles_64 rfl ?_
      refine V_istore2 (pc' := 66) C dX8_settles_65 rfl (by decide) rfl ?_
      refine V_for0 (N := (S.2 24 - S.1 20 1).toNat) (fun j => MI cC cI h0 mo Pm (sl2 (setA S) (S.1 20 1) j)) (fun j => [some (.ref mo), some (.int (iI (S.1 20 1))), some (.int (iI (S.1 20 1 + j)))]) (fun _ => True) trivial (fun h q => by show MI cC cI h0 mo Pm (setA S) h; unfold setA; rw [sl1_2] at q; exact q) (by simp) (fun j hj hv hk => ?_) (fun hv => ?_)
      · have e24 : (sl2 (setA S) (S.1 20 1) j).2 24 = S.2 24 := by rw [sl2_2, setA_2 S 24 (by decide)]
        refine V_iload2 (pc' := 67) C dX8_settles_66 rfl ?_
        refine V_aload0 (pc' := 68) C dX8_settles_67 rfl ?_
        refine mGetI (pc' := 71) 24 C hin (by decide) (by decide +kernel) dX8_settles_68 rfl ?_
        refine V_icmpge (tgt := 136) C (by rw [e24]; omega) dX8_settles_71 (by decide) rfl (fun c_71 => ?_) (fun c_71 => ?_)
        · exact absurd c_71 (by rw [e24]; omega)
        · refine V_aload0 (pc' := 75) C dX8_settles_74 rfl ?_
          refine mGetA (pc' := 78) 16 C hin (by decide) (by decide +kernel) dX8_settles_75 rfl ?_
          refine V_iload2 (pc' := 79) C dX8_settles_78 rfl ?_
          refine V_iload1 (pc' := 80) C dX8_settles_79 rfl ?_
          refine V_isub (pc' := 81) C dX8_settles_80 rfl ?_
          refine V_aload0 (pc' := 82) C dX8_settles_81 rfl ?_
          refine mGetA (pc' := 85) 16 C hin (by decide) (by decide +kernel) dX8_settles_82 rfl ?_
          refine V_iload2 (pc' := 86) C dX8_settles_85 rfl ?_
          refine mLd (pc' := 87) (n := 2100) 16 C (by decide) rfl (by omega) dX8_settles_86 rfl ?_
          refine mSt (pc' := 88) (n := 2100) 16 C (by decide) rfl (by omega) dX8_settles_87 rfl ?_
          refine V_aload0 (pc' := 89) C dX8_settles_88 rfl ?_
          refine mGetA (pc' := 92) 17 C hin (by decide) (by decide +kernel) dX8_settles_89 rfl ?_
          refine V_iload2 (pc' := 93) C dX8_settles_92 rfl ?_
          refine V_iload1 (pc' := 94) C dX8_settles_93 rfl ?_
          refine V_isub (pc' := 95) C dX8_settles_94 rfl ?_
          refine V_aload0 (pc' := 96) C dX8_settles_95 rfl ?_
          refine mGetA (pc' := 99) 17 C hin (by decide) (by decide +kernel) dX8_settles_96 rfl ?_
          refine V_iload2 (pc' := 100) C dX8_settles_99 rfl ?_
          refine mLd (pc' := 101) (n := 2100) 17 C (by decide) rfl (by omega) dX8_settles_100 rfl ?_
          refine mSt (pc' := 102) (n := 2100) 17 C (by decide) rfl (by omega) dX8_settles_101 rfl ?_
          refine V_aload0 (pc' := 103) C dX8_settles_102 rfl ?_
          refine mGetA (pc' := 106) 18 C hin (by decide) (by decide +kernel) dX8_settles_103 rfl ?_
          refine V_iload2 (pc' := 107) C dX8_settles_106 rfl ?_
          refine V_iload1 (pc' := 108) C dX8_settles_107 rfl ?_
          refine V_isub (pc' := 109) C dX8_settles_108 rfl ?_
          refine V_aload0 (pc' := 110) C dX8_settles_109 rfl ?_
          refine mGetA (pc' := 113) 18 C hin (by decide) (by decide +kernel) dX8_settles_110 rfl ?_
          refine V_iload2 (pc' := 114) C dX8_settles_113 rfl ?_
          refine mLd (pc' := 115) (n := 2100) 18 C (by decide) rfl (by omega) dX8_settles_114 rfl ?_
          refine mSt (pc' := 116) (n := 2100) 18 C (by decide) rfl (by omega) dX8_settles_115 rfl ?_
          refine V_aload0 (pc' := 117) C dX8_settles_116 rfl ?_
          refine mGetA (pc' := 120) 19 C hin (by decide) (by decide +kernel) dX8_settles_117 rfl ?_
          refine V_iload2 (pc' := 121) C dX8_settles_120 rfl ?_
          refine V_iload1 (pc' := 122) C dX8_settles_121 rfl ?_
          refine V_isub (pc' := 123) C dX8_settles_122 rfl ?_
          refine V_aload0 (pc' := 124) C dX8_settles_123 rfl ?_
          refine mGetA (pc' := 127) 19 C hin (by decide) (by decide +kernel) dX8_settles_124 rfl ?_
          refine V_iload2 (pc' := 128) C dX8_settles_127 rfl ?_
          refine mLd (pc' := 129) (n := 2100) 19 C (by decide) rfl (by omega) dX8_settles_128 rfl ?_
          refine mSt (pc' := 130) (n := 2100) 19 C (by decide) rfl (by omega) dX8_settles_129 rfl ?_
          refine V_iinc2 (pc' := 133) C dX8_settles_130 rfl (by decide) rfl ?_
          refine V_goto (tgt := 66) C dX8_settles_133 (by decide) ?_
          exact V_conv (fun h q => q) (by simp [Int.add_assoc]) (hk trivial)
      · have e24 : (sl2 (setA S) (S.1 20 1) (S.2 24 - S.1 20 1).toNat).2 24 = S.2 24 := by rw [sl2_2, setA_2 S 24 (by decide)]
        refine V_iload2 (pc' := 67) C dX8_settles_66 rfl ?_
        refine V_aload0 (pc' := 68) C dX8_settles_67 rfl ?_
        refine mGetI (pc' := 71) 24 C hin (by decide) (by decide +kernel) dX8_settles_68 rfl ?_
        refine V_icmpge (tgt := 136) C (by rw [e24]; omega) dX8_settles_71 (by decide) rfl (fun c_71 => ?_) (fun c_71 => ?_)
        · refine V_aload0 (pc' := 137) C dX8_settles_136 rfl ?_
          refine V_dup (pc' := 138) C rfl dX8_settles_137 rfl ?_
          refine mGetI (pc' := 141) 24 C hin (by decide) (by decide +kernel) dX8_settles_138 rfl ?_
          refine V_iload1 (pc' := 142) C dX8_settles_141 rfl ?_
          refine V_isub (pc' := 143) C dX8_settles_142 rfl ?_
          refine mPutI (pc' := 146) 24 C hin (by decide) (by decide +kernel) dX8_settles_143 rfl ?_
          refine V_iconst (pc' := 147) C dX8_settles_146 rfl ?_
          refine V_istore2 (pc' := 148) C dX8_settles_147 rfl (by decide) rfl ?_
          refine V_for0 (N := (S.2 25).toNat) (fun j => MI cC cI h0 mo Pm (sl3 (setB S) (S.1 20 1) j)) (fun j => [some (.ref mo), some (.int (iI (S.1 20 1))), some (.int (iI j))]) (fun _ => True) trivial (fun h q => by show MI cC cI h0 mo Pm (setB S) h; unfold setB; rw [e24] at q; exact q) rfl (fun j hj hv hk => ?_) (fun hv => ?_)
          · have e25 : (sl3 (setB S) (S.1 20 1) j).2 25 = S.2 25 := by rw [sl3_2, setB_2 S 25 (by decide)]
            refine V_iload2 (pc' := 149) C dX8_settles_148 rfl ?_
            refine V_aload0 (pc' := 150) C dX8_settles_149 rfl ?_
            refine mGetI (pc' := 153) 25 C hin (by decide) (by decide +kernel) dX8_settles_150 rfl ?_
            refine V_icmpge (tgt := 178) C (by rw [e25]; omega) dX8_settles_153 (by decide) rfl (fun c_153 => ?_) (fun c_153 => ?_)
            · exact absurd c_153 (by rw [e25]; omega)
            · refine V_aload0 (pc' := 157) C dX8_settles_156 rfl ?_
              refine mGetA (pc' := 160) 20 C hin (by decide) (by decide +kernel) dX8_settles_157 rfl ?_
              refine V_iload2 (pc' := 161) C dX8_settles_160 rfl ?_
              refine V_aload0 (pc' := 162) C dX8_settles_161 rfl ?_
              refine mGetA (pc' := 165) 20 C hin (by decide) (by decide +kernel) dX8_settles_162 rfl ?_
              refine V_iload2 (pc' := 166) C dX8_settles_165 rfl ?_
              refine V_iconst (pc' := 167) C dX8_settles_166 rfl ?_
              refine V_iadd (pc' := 168) C dX8_settles_167 rfl ?_
              refine mLd (pc' := 169) (n := 9) 20 C (by decide) rfl (by omega) dX8_settles_168 rfl ?_
              refine V_iload1 (pc' := 170) C dX8_settles_169 rfl ?_
              refine V_isub (pc' := 171) C dX8_settles_170 rfl ?_
              refine mSt (pc' := 172) (n := 9) 20 C (by decide) rfl (by omega) dX8_settles_171 rfl ?_
              refine V_iinc2 (pc' := 175) C dX8_settles_172 rfl (by decide) rfl ?_
              refine V_goto (tgt := 148) C dX8_settles_175 (by decide) ?_
              exact V_conv (fun h q => q) (by simp) (hk trivial)
          · have e25 : (sl3 (setB S) (S.1 20 1) (S.2 25).toNat).2 25 = S.2 25 := by rw [sl3_2, setB_2 S 25 (by decide)]
            refine V_iload2 (pc' := 149) C dX8_settles_148 rfl ?_
            refine V_aload0 (pc' := 150) C dX8_settles_149 rfl ?_
            refine mGetI (pc' := 153) 25 C hin (by decide) (by decide +kernel) dX8_settles_150 rfl ?_
            refine V_icmpge (tgt := 178) C (by rw [e25]; omega) dX8_settles_153 (by decide) rfl (fun c_153 => ?_) (fun c_153 => ?_)
            · refine V_aload0 (pc' := 179) C dX8_settles_178 rfl ?_
              refine V_dup (pc' := 180) C rfl dX8_settles_179 rfl ?_
              refine mGetI (pc' := 183) 25 C hin (by decide) (by decide +kernel) dX8_settles_180 rfl ?_
              refine V_iconst (pc' := 184) C dX8_settles_183 rfl ?_
              refine V_isub (pc' := 185) C dX8_settles_184 rfl ?_
              refine mPutI (pc' := 188) 25 C hin (by decide) (by decide +kernel) dX8_settles_185 rfl ?_
              exact mEndv C hr hlk ⟨Nat.le_refl _, Nat.le_refl _⟩ dX8_settles_188 (by show uG (sl3 (setB S) (S.1 20 1) (S.2 25).toNat) 25 ((sl3 (setB S) (S.1 20 1) (S.2 25).toNat).2 25 - 1) = setlS S; rw [sl3_2, setB_2 S 25 (by decide)]; rfl)
            · exact absurd c_153 (by rw [e25]; omega)
        · exact absurd c_71 (by rw [e24]; omega)
    · exact absurd c_11 (by omega)
end

/-! the law's deeds: the class's world and the law's rows together -/
section
variable {cB cI cO : ClassId} {ee : Nat × Nat} {na nb : Nat} {P P2 : Nat → Nat} {S X S2 X2 : MSt} {f g f2 g2 : Int → Int} {h h' : Hp} {b : Int}
def WD (cB cI cO : ClassId) (ee : Nat × Nat) (na nb : Nat) (P : Nat → Nat) (S X : MSt) (f g : Int → Int) (h : Hp) : Prop := CW cI cO ee (TxH cB) P S X h ∧ NH cI na nb f g h
/-- what holds between two deeds, k behind -/
def WS (k : Nat) (S X : MSt) (f g : Int → Int) : Prop := INV S X (210 * (k : Int)) ∧ NR f g S ∧ f 55 ≤ k ∧ k ≤ 58 ∧ S.2 31 = 0 ∧ X.2 26 ≤ 13440
theorem CW_far {q t : Nat} {x y : va_E} (H : CW cI cO ee (TxH cB) P S X h) (hw : WFp S) (hrm : RM S) (hq : h q = some (t, x)) (ht : 900 ≤ t) : CW cI cO ee (TxH cB) P S X (hup h q (t, y)) := H.kp hw hrm (TxH_ok cB) (T := fun u => u = t) (Fr.refl.up hq rfl) (fun u hu => by have := usT_lo hw hu; omega) (fun u hu => by omega)
theorem CW_tN (H : CW cI cO ee (TxH cB) P S X h) (hw : WFp S) (hrm : RM S) (hF : Fr tN h h') : CW cI cO ee (TxH cB) P S X h' := H.kp hw hrm (TxH_ok cB) hF (fun u hu => by have := usT_lo hw hu; unfold tN; omega) (fun u hu => by unfold tN; omega)
theorem WD.a (H : WD cB cI cO ee na nb P S X f g h) (hI : INV S X b) : WD cB cI cO ee na nb P S X f2 g (hup h na (901, .inl (cI, 540, .inl (iF f2)))) := ⟨CW_far H.1 hI.1.1.1 hI.1.2.2.1 H.2.1 (by decide), hup_s, by rw [hup_n H.2.ne.symm]; exact H.2.2⟩
theorem WD.n (H : WD cB cI cO ee na nb P S X f g h) (hI : INV S X b) (hF : Fr tN h h') (hN : NH cI na nb f2 g2 h') : WD cB cI cO ee na nb P S X f2 g2 h' := ⟨CW_tN H.1 hI.1.1.1 hI.1.2.2.1 hF, hN⟩
theorem WD.k (H : WD cB cI cO ee na nb P S X f g h) (hF : Fr T7 h h') (hc : CW cI cO ee (TxH cB) P2 S2 X2 h') : WD cB cI cO ee na nb P2 S2 X2 f g h' := ⟨hc, H.2.fr hF (by unfold T7; omega) (by unfold T7; omega)⟩
def LOf (cB cI cO : ClassId) (ee : Nat × Nat) (na nb : Nat) (P : Nat → Nat) (S : MSt) (k : Nat) : Hp → Option Value → Hp → Prop := fun _ v9 h' => v9 = some (.int (iI 1)) ∧ ∃ P' S' X' f' g', WD cB cI cO ee na nb P' S' X' f' g' h' ∧ P' 1 = P 1 ∧ WS (k + 1) S' X' f' g' ∧ S'.2 22 = S.2 22
theorem LO_mk {k : Nat} {h0 : Hp} (hw : WD cB cI cO ee na nb P2 S2 X2 f2 g2 h') (hp : P2 1 = P 1) (hi : INV S2 X2 b) (hb : b ≤ 210 * (k : Int) + 210) (hx : X2.2 26 ≤ 13440) (h5 : f2 55 ≤ (k : Int) + 1) (hk : k ≤ 57) (e : NR f2 g2 S2) (h22 : S2.2 22 = S.2 22) : LOf cB cI cO ee na nb P S k h0 (some (.int (iI 1))) h' := ⟨rfl, P2, uG S2 31 0, X2, f2, g2, ⟨CW_u 0 hw.1, hw.2⟩, hp, ⟨INV_b (INV_u31 0 hi) (by omega) (by omega), e, by omega, by omega, uG_s _ _ _, hx⟩, h22⟩
/-- a deed of the law -/
def OKf (l : Launch) (D : va_G) (cB cC cI cO cJ cD : ClassId) (ee : Nat × Nat) (y : MethodName) (ws : List Cond) (As : List Value) (na nb : Nat) (P : Nat → Nat) (S X : MSt) (f g : Int → Int) (k : Nat) : Prop := Ct l y ws ({ frames := 21, cells := 240, slots := 64100, locals := 800 } : Room) D (tyL cB cC cI cO cJ cD) ee (.ref (P 1) :: As) (WD cB cI cO ee na nb P S X f g) (LOf cB cI cO ee na nb P S k) 240 64100
/-- how the audit's length grows -/
theorem len_b {k len' : Nat} (hI : INV S X (210 * (k : Int))) (hk : k ≤ 57) (hx : X.2 26 ≤ 13440) (h : len' = (X.2 26).toNat ∨ len' = lenG (X.2 25) (X.2 26).toNat) : len' ≤ 13440 ∧ len' ≤ (X.2 26).toNat + 6720 := by
  have hin := INV_len hI
  obtain ⟨e, he, hl⟩ := hI.1.2.2.2.2.2
  have h25 : X.2 25 = S.2 29 + S.2 24 := hI.1.2.2.2.1.1.1
  have hsw := hI.1.1.2.2.2.2.1.2
  rcases h with rfl | rfl
  · omega
  · unfold lenG
    split
    · omega
    · rename_i q
      have e5 : e ≤ 5 := Nat.le_of_not_lt (fun z => by
        have h3 : 2 ^ 6 ≤ 2 ^ e := Nat.pow_le_pow_right (by decide) z
        omega)
      have h4 : 2 ^ e ≤ 2 ^ 5 := Nat.pow_le_pow_right (by decide) e5
      omega
theorem byH_22 {a x v n : Int} (h : MW S b) (ha : 0 ≤ a ∧ a ≤ 200) (hx : 0 ≤ x ∧ x < 48) (hn : -9999 ≤ n ∧ n ≤ 9999) (hv : isValueB v = true) : (byHandS S a x v n).2.2 22 = S.2 22 := by
  have haw : AW (handS S a x v n) (S.2 24) := hand_wf h ha hx hn hv
  have c5 := (AW_chX haw).2.2.2.2.1
  exact ((endsS_2 _ _ _ 22 (by decide)).trans (c5 22 (by decide) (by decide))).trans (hand_2 S a x v n 22 (by decide))
theorem run_22 {m x : Int} (h : MW S b) (hm : 0 ≤ m ∧ m < 6) (hx : 0 ≤ x ∧ x < 48) (hok : (whyS S m x).1 = 45) : (runZ S m x).2.2 22 = S.2 22 := by
  have haw : AW (runS (uG (whyS S m x).2 31 0) m x 0) (S.2 24) := (run_pre3 (v := 0) h hm hx hok).2.2.2
  have c5 := (AW_chX haw).2.2.2.2.1
  exact ((endsS_2 _ _ _ 22 (by decide)).trans (c5 22 (by decide) (by decide))).trans (run_2 S m x 0 22 (by decide))
theorem ansL_0 {T : Int × MSt} (h : T.2.2 31 = 0) : ansL T = T.1 := if_pos h
theorem ansL_k {T : Int × MSt} {k : Int} (h : T.2.2 31 = k) (hk : k ≠ 0) : ansL T = -900000 - k := by
  unfold ansL
  rw [if_neg (by rw [h]; exact hk), h]
theorem cell_t {c r : Int} (hc : 0 ≤ c ∧ c < 6) (hr : 0 ≤ r ∧ r < 8) : isCellB c r = true := by
  simp [isCellB, isInB]
  omega
end
theorem ydL_set : yL_set.cls ≠ "java/lang/invoke/MethodHandle" ∧ yL_set.cls ≠ "java/lang/invoke/VarHandle" ∧ (parseMethodDescriptor yL_set.desc).map (fun d => d.parameters.length) = some 4 := by decide +kernel
theorem ydL_add : yL_add.cls ≠ "java/lang/invoke/MethodHandle" ∧ yL_add.cls ≠ "java/lang/invoke/VarHandle" ∧ (parseMethodDescriptor yL_add.desc).map (fun d => d.parameters.length) = some 4 := by decide +kernel
theorem ydL_copyBase : yL_copyBase.cls ≠ "java/lang/invoke/MethodHandle" ∧ yL_copyBase.cls ≠ "java/lang/invoke/VarHandle" ∧ (parseMethodDescriptor yL_copyBase.desc).map (fun d => d.parameters.length) = some 3 := by decide +kernel
theorem ydL_cell_ : yL_cell_.cls ≠ "java/lang/invoke/MethodHandle" ∧ yL_cell_.cls ≠ "java/lang/invoke/VarHandle" ∧ (parseMethodDescriptor yL_cell_.desc).map (fun d => d.parameters.length) = some 3 := by decide +kernel
theorem ydL_cellByAudit : yL_cellByAudit.cls ≠ "java/lang/invoke/MethodHandle" ∧ yL_cellByAudit.cls ≠ "java/lang/invoke/VarHandle" ∧ (parseMethodDescriptor yL_cellByAudit.desc).map (fun d => d.parameters.length) = some 3 := by decide +kernel
theorem ydL_addMacro : yL_addMacro.cls ≠ "java/lang/invoke/MethodHandle" ∧ yL_addMacro.cls ≠ "java/lang/invoke/VarHandle" ∧ (parseMethodDescriptor yL_addMacro.desc).map (fun d => d.parameters.length) = some 1 := by decide +kernel
theorem ydL_record : yL_record.cls ≠ "java/lang/invoke/MethodHandle" ∧ yL_record.cls ≠ "java/lang/invoke/VarHandle" ∧ (parseMethodDescriptor yL_record.desc).map (fun d => d.parameters.length) = some 4 := by decide +kernel
theorem ydL_stop : yL_stop.cls ≠ "java/lang/invoke/MethodHandle" ∧ yL_stop.cls ≠ "java/lang/invoke/VarHandle" ∧ (parseMethodDescriptor yL_stop.desc).map (fun d => d.parameters.length) = some 1 := by decide +kernel
theorem ydL_grant : yL_grant.cls ≠ "java/lang/invoke/MethodHandle" ∧ yL_grant.cls ≠ "java/lang/invoke/VarHandle" ∧ (parseMethodDescriptor yL_grant.desc).map (fun d => d.parameters.length) = some 6 := by decide +kernel
theorem ydL_takeGrants : yL_takeGrants.cls ≠ "java/lang/invoke/MethodHandle" ∧ yL_takeGrants.cls ≠ "java/lang/invoke/VarHandle" ∧ (parseMethodDescriptor yL_takeGrants.desc).map (fun d => d.parameters.length) = some 2 := by decide +kernel
theorem ydL_granted : yL_granted.cls ≠ "java/lang/invoke/MethodHandle" ∧ yL_granted.cls ≠ "java/lang/invoke/VarHandle" ∧ (parseMethodDescriptor yL_granted.desc).map (fun d => d.parameters.length) = some 3 := by decide +kernel
theorem ydL_reason : yL_reason.cls ≠ "java/lang/invoke/MethodHandle" ∧ yL_reason.cls ≠ "java/lang/invoke/VarHandle" ∧ (parseMethodDescriptor yL_reason.desc).map (fun d => d.parameters.length) = some 4 := by decide +kernel
theorem ydL_run : yL_run.cls ≠ "java/lang/invoke/MethodHandle" ∧ yL_run.cls ≠ "java/lang/invoke/VarHandle" ∧ (parseMethodDescriptor yL_run.desc).map (fun d => d.parameters.length) = some 4 := by decide +kernel
theorem ydL_addRule : yL_addRule.cls ≠ "java/lang/invoke/MethodHandle" ∧ yL_addRule.cls ≠ "java/lang/invoke/VarHandle" ∧ (parseMethodDescriptor yL_addRule.desc).map (fun d => d.parameters.length) = some 7 := by decide +kernel
theorem ydL_setRank : yL_setRank.cls ≠ "java/lang/invoke/MethodHandle" ∧ yL_setRank.cls ≠ "java/lang/invoke/VarHandle" ∧ (parseMethodDescriptor yL_setRank.desc).map (fun d => d.parameters.length) = some 3 := by decide +kernel
theorem ydL_rule : yL_rule.cls ≠ "java/lang/invoke/MethodHandle" ∧ yL_rule.cls ≠ "java/lang/invoke/VarHandle" ∧ (parseMethodDescriptor yL_rule.desc).map (fun d => d.parameters.length) = some 3 := by decide +kernel
theorem ydL_undo : yL_undo.cls ≠ "java/lang/invoke/MethodHandle" ∧ yL_undo.cls ≠ "java/lang/invoke/VarHandle" ∧ (parseMethodDescriptor yL_undo.desc).map (fun d => d.parameters.length) = some 1 := by decide +kernel
theorem ydL_meanValue : yL_meanValue.cls ≠ "java/lang/invoke/MethodHandle" ∧ yL_meanValue.cls ≠ "java/lang/invoke/VarHandle" ∧ (parseMethodDescriptor yL_meanValue.desc).map (fun d => d.parameters.length) = some 1 := by decide +kernel
section
variable {l : Launch} {D : va_G} {cB cC cI cO cJ cD : ClassId} {ee : Nat × Nat} {na nb : Nat} {P : Nat → Nat} {S X : MSt} {f g : Int → Int} {k : Nat}
set_option maxHeartbeats 8000000 in
set_option maxRecDepth 100000 in
theorem kO_isSet_s {c r n : Int} (hc9 : 0 ≤ c ∧ c < 6) (hr9 : 0 ≤ r ∧ r < 8) (hn : -20000 ≤ n ∧ n ≤ 20000) (hst : l.stackTraces = false) (hW : WS k S X f g) (hk : k ≤ 57) : OKf l D cB cC cI cO cJ cD ee yL_isSet wsL_isSet [.ref na, .ref nb, .int (iI 115), .int (iI c), .int (iI r), .int (iI n)] na nb P S X f g k := by
  obtain ⟨hIv, hnr, h55, hk9, h31, hlx⟩ := hW
  have h0s : uG S 31 0 = S := by rw [← h31]; exact uG_id S 31
  have hwp := hIv.1.1.1
  have hmw := hIv.1.1
  have w5 := hwp.2.2.2.2.1
  obtain ⟨n50, n51, n52, n53, n54, n56, n57⟩ := id hnr.2.2.2.2.1
  obtain ⟨ms9, len9, h8, h9, hM⟩ := KL_set (D := D) (cB := cB) (cC := cC) (cI := cI) (cO := cO) (cJ := cJ) (cD := cD) (ee := ee) (P := P) hIv (by omega) hst (c := c) (r := r) (v := n) ⟨by omega, by omega⟩ ⟨by omega, by omega⟩ ⟨by omega, by omega⟩
  have hlb := len_b hIv (by omega) hlx h9
  unfold OKf
  refine Ct_of (cc := cL_isSet) (own := RL) [some (.ref (P 1)), some (.ref na), some (.ref nb), some (.int (iI 115)), some (.int (iI c)), some (.int (iI r)), some (.int (iI n)), none, none, none] (by decide) rfl rfl (Nat.le_of_ble_eq_true rfl) (fun i9 v9 h9 => argL [.ref (P 1), .ref na, .ref nb, .int (iI 115), .int (iI c), .int (iI r), .int (iI n)] 3 rfl i9 v9 h9) ?_
  intro p e s m9 args below meth c9 h0 sz hI C hr hlk hinit
  refine V_weak (I2 := WD cB cI cO ee na nb P S X f g) (fun x hx => by rw [hx]; exact hI) ?_
  have hcl := cell_t hc9 hr9
  refine V_iload3 (pc' := 1) C dL_isSet_0 rfl ?_
  refine V_bipush (pc' := 3) C dL_isSet_1 rfl (by decide) ?_
  refine V_icmpne (tgt := 11) C (by decide) dL_isSet_3 (by decide) rfl (fun c_3 => ?_) (fun c_3 => ?_)
  · exact absurd c_3 (by decide)
  · refine V_iload6 (pc' := 8) C dL_isSet_6 rfl ?_
    refine V_goto (tgt := 37) C dL_isSet_8 (by decide) ?_
    refine V_istore7 (pc' := 39) C dL_isSet_37 rfl (by decide) rfl ?_
    refine V_iload3 (pc' := 40) C dL_isSet_39 rfl ?_
    refine V_bipush (pc' := 42) C dL_isSet_40 rfl (by decide) ?_
    refine V_icmpne (tgt := 88) C (by decide) dL_isSet_42 (by decide) rfl (fun c_42 => ?_) (fun c_42 => ?_)
    · refine V_iload6 (pc' := 90) C dL_isSet_88 rfl ?_
      refine V_sipush (pc' := 93) C dL_isSet_90 rfl (by decide) ?_
      refine V_icmplt (tgt := 124) C ⟨by omega, by decide⟩ dL_isSet_93 (by decide) rfl (fun c_93 => ?_) (fun c_93 => ?_)
      · have hv : isValueB n = false := by simp [isValueB, isInB]; omega
        have hT : setX S c r n = (0, uG S 31 2) := (if_neg (by rw [hcl]; decide)).trans (if_pos hv)
        have hans : ansL (setX S c r n) = -900002 := by rw [hT]; exact ansL_k (k := 2) (uG_s _ _ _) (by decide)
        refine V_iconst (pc' := 125) C dL_isSet_124 rfl ?_
        refine V_istore8 (pc' := 127) C dL_isSet_125 rfl (by decide) rfl ?_
        refine V_iload8 (pc' := 129) C dL_isSet_127 rfl ?_
        refine V_ifeq (tgt := 149) C (by omega) dL_isSet_129 (by decide) rfl (fun c_129 => ?_) (fun c_129 => ?_)
        · refine V_ldc (pc' := 151) (n := (-900002)) (v := (-900002)) C (by decide +kernel) dL_isSet_149 rfl (by decide) ?_
          refine V_istore9 (pc' := 153) C dL_isSet_151 rfl (by decide) rfl ?_
          refine V_iload3 (pc' := 154) C dL_isSet_153 rfl ?_
          refine V_bipush (pc' := 156) C dL_isSet_154 rfl (by decide) ?_
          refine V_icmpne (tgt := 172) C (by decide) dL_isSet_156 (by decide) rfl (fun c_156 => ?_) (fun c_156 => ?_)
          · exact absurd c_156 (by decide)
          · refine V_aload0 (pc' := 160) C dL_isSet_159 rfl ?_
            refine V_iload4 (pc' := 162) C dL_isSet_160 rfl ?_
            refine V_iload5 (pc' := 164) C dL_isSet_162 rfl ?_
            refine V_iload6 (pc' := 166) C dL_isSet_164 rfl ?_
            refine V_callSW (n := 4) [.ref (P 1), .int (iI c), .int (iI r), .int (iI n)] C hM gL_isSet_L_set rfl ydL_set ⟨Nat.le_of_ble_eq_true rfl, Nat.le_of_ble_eq_true rfl⟩ ⟨rfl, rfl⟩ rfl (fun h hh => hh.1) rfl (Nat.le_of_ble_eq_true rfl) dL_isSet_166 ⟨by dsimp only; omega, by dsimp only; omega⟩ (fun h v h' hh hj9 => ?_)
            obtain ⟨rfl, ⟨P2, X2, hc2, hp2, hi2, hx2⟩, hF2⟩ := hj9
            refine V_weak (I2 := WD cB cI cO ee na nb P2 ((setX S c r n).2) X2 f g) (fun x hx => by rw [hx]; exact hh.k hF2 hc2) ?_
            refine V_goto (tgt := 182) C dL_isSet_169 (by decide) ?_
            refine V_iload9 (pc' := 184) C dL_isSet_182 rfl ?_
            refine V_eq (st2 := [.int (iI ((-900002))), .int (iI ((-900002)))]) (by rw [hans] <;> rfl) ?_
            refine V_sameN (tgt := 191) C dL_isSet_184 (by decide) rfl ?_
            refine V_iconst (pc' := 188) C dL_isSet_187 rfl ?_
            refine V_goto (tgt := 192) C dL_isSet_188 (by decide) ?_
            exact V_endz (z := 1) C hr hlk (nar_z true) (fun h' hh => LO_mk hh hp2 hi2 (by omega) (by omega) (by omega) hk (by rw [hT]; exact hnr) (by rw [hT]; rfl)) ⟨by omega, by omega⟩ dL_isSet_192
        · exact absurd c_129 (by decide)
      · refine V_iload6 (pc' := 98) C dL_isSet_96 rfl ?_
        refine V_sipush (pc' := 101) C dL_isSet_98 rfl (by decide) ?_
        refine V_icmpgt (tgt := 124) C ⟨by omega, by decide⟩ dL_isSet_101 (by decide) rfl (fun c_101 => ?_) (fun c_101 => ?_)
        · have hv : isValueB n = false := by simp [isValueB, isInB]; omega
          have hT : setX S c r n = (0, uG S 31 2) := (if_neg (by rw [hcl]; decide)).trans (if_pos hv)
          have hans : ansL (setX S c r n) = -900002 := by rw [hT]; exact ansL_k (k := 2) (uG_s _ _ _) (by decide)
          refine V_iconst (pc' := 125) C dL_isSet_124 rfl ?_
          refine V_istore8 (pc' := 127) C dL_isSet_125 rfl (by decide) rfl ?_
          refine V_iload8 (pc' := 129) C dL_isSet_127 rfl ?_
          refine V_ifeq (tgt := 149) C (by omega) dL_isSet_129 (by decide) rfl (fun c_129 => ?_) (fun c_129 => ?_)
          · refine V_ldc (pc' := 151) (n := (-900002)) (v := (-900002)) C (by decide +kernel) dL_isSet_149 rfl (by decide) ?_
            refine V_istore9 (pc' := 153) C dL_isSet_151 rfl (by decide) rfl ?_
            refine V_iload3 (pc' := 154) C dL_isSet_153 rfl ?_
            refine V_bipush (pc' := 156) C dL_isSet_154 rfl (by decide) ?_
            refine V_icmpne (tgt := 172) C (by decide) dL_isSet_156 (by decide) rfl (fun c_156 => ?_) (fun c_156 => ?_)
            · exact absurd c_156 (by decide)
            · refine V_aload0 (pc' := 160) C dL_isSet_159 rfl ?_
              refine V_iload4 (pc' := 162) C dL_isSet_160 rfl ?_
              refine V_iload5 (pc' := 164) C dL_isSet_162 rfl ?_
              refine V_iload6 (pc' := 166) C dL_isSet_164 rfl ?_
              refine V_callSW (n := 4) [.ref (P 1), .int (iI c), .int (iI r), .int (iI n)] C hM gL_isSet_L_set rfl ydL_set ⟨Nat.le_of_ble_eq_true rfl, Nat.le_of_ble_eq_true rfl⟩ ⟨rfl, rfl⟩ rfl (fun h hh => hh.1) rfl (Nat.le_of_ble_eq_true rfl) dL_isSet_166 ⟨by dsimp only; omega, by dsimp only; omega⟩ (fun h v h' hh hj9 => ?_)
              obtain ⟨rfl, ⟨P2, X2, hc2, hp2, hi2, hx2⟩, hF2⟩ := hj9
              refine V_weak (I2 := WD cB cI cO ee na nb P2 ((setX S c r n).2) X2 f g) (fun x hx => by rw [hx]; exact hh.k hF2 hc2) ?_
              refine V_goto (tgt := 182) C dL_isSet_169 (by decide) ?_
              refine V_iload9 (pc' := 184) C dL_isSet_182 rfl ?_
              refine V_eq (st2 := [.int (iI ((-900002))), .int (iI ((-900002)))]) (by rw [hans] <;> rfl) ?_
              refine V_sameN (tgt := 191) C dL_isSet_184 (by decide) rfl ?_
              refine V_iconst (pc' := 188) C dL_isSet_187 rfl ?_
              refine V_goto (tgt := 192) C dL_isSet_188 (by decide) ?_
              exact V_endz (z := 1) C hr hlk (nar_z true) (fun h' hh => LO_mk hh hp2 hi2 (by omega) (by omega) (by omega) hk (by rw [hT]; exact hnr) (by rw [hT]; rfl)) ⟨by omega, by omega⟩ dL_isSet_192
          · exact absurd c_129 (by decide)
        · refine V_iload7 (pc' := 106) C dL_isSet_104 rfl ?_
          refine V_sipush (pc' := 109) C dL_isSet_106 rfl (by decide) ?_
          refine V_icmplt (tgt := 124) C ⟨by have := hwp.2.2.2.2.2 (6 * r + c) (by omega) (by omega); omega, by decide⟩ dL_isSet_109 (by decide) rfl (fun c_109 => ?_) (fun c_109 => ?_)
          · have hv : isValueB n = false := by simp [isValueB, isInB]; omega
            have hT : setX S c r n = (0, uG S 31 2) := (if_neg (by rw [hcl]; decide)).trans (if_pos hv)
            have hans : ansL (setX S c r n) = -900002 := by rw [hT]; exact ansL_k (k := 2) (uG_s _ _ _) (by decide)
            refine V_iconst (pc' := 125) C dL_isSet_124 rfl ?_
            refine V_istore8 (pc' := 127) C dL_isSet_125 rfl (by decide) rfl ?_
            refine V_iload8 (pc' := 129) C dL_isSet_127 rfl ?_
            refine V_ifeq (tgt := 149) C (by omega) dL_isSet_129 (by decide) rfl (fun c_129 => ?_) (fun c_129 => ?_)
            · refine V_ldc (pc' := 151) (n := (-900002)) (v := (-900002)) C (by decide +kernel) dL_isSet_149 rfl (by decide) ?_
              refine V_istore9 (pc' := 153) C dL_isSet_151 rfl (by decide) rfl ?_
              refine V_iload3 (pc' := 154) C dL_isSet_153 rfl ?_
              refine V_bipush (pc' := 156) C dL_isSet_154 rfl (by decide) ?_
              refine V_icmpne (tgt := 172) C (by decide) dL_isSet_156 (by decide) rfl (fun c_156 => ?_) (fun c_156 => ?_)
              · exact absurd c_156 (by decide)
              · refine V_aload0 (pc' := 160) C dL_isSet_159 rfl ?_
                refine V_iload4 (pc' := 162) C dL_isSet_160 rfl ?_
                refine V_iload5 (pc' := 164) C dL_isSet_162 rfl ?_
                refine V_iload6 (pc' := 166) C dL_isSet_164 rfl ?_
                refine V_callSW (n := 4) [.ref (P 1), .int (iI c), .int (iI r), .int (iI n)] C hM gL_isSet_L_set rfl ydL_set ⟨Nat.le_of_ble_eq_true rfl, Nat.le_of_ble_eq_true rfl⟩ ⟨rfl, rfl⟩ rfl (fun h hh => hh.1) rfl (Nat.le_of_ble_eq_true rfl) dL_isSet_166 ⟨by dsimp only; omega, by dsimp only; omega⟩ (fun h v h' hh hj9 => ?_)
                obtain ⟨rfl, ⟨P2, X2, hc2, hp2, hi2, hx2⟩, hF2⟩ := hj9
                refine V_weak (I2 := WD cB cI cO ee na nb P2 ((setX S c r n).2) X2 f g) (fun x hx => by rw [hx]; exact hh.k hF2 hc2) ?_
                refine V_goto (tgt := 182) C dL_isSet_169 (by decide) ?_
                refine V_iload9 (pc' := 184) C dL_isSet_182 rfl ?_
                refine V_eq (st2 := [.int (iI ((-900002))), .int (iI ((-900002)))]) (by rw [hans] <;> rfl) ?_
                refine V_sameN (tgt := 191) C dL_isSet_184 (by decide) rfl ?_
                refine V_iconst (pc' := 188) C dL_isSet_187 rfl ?_
                refine V_goto (tgt := 192) C dL_isSet_188 (by decide) ?_
                exact V_endz (z := 1) C hr hlk (nar_z true) (fun h' hh => LO_mk hh hp2 hi2 (by omega) (by omega) (by omega) hk (by rw [hT]; exact hnr) (by rw [hT]; rfl)) ⟨by omega, by omega⟩ dL_isSet_192
            · exact absurd c_129 (by decide)
          · refine V_iload7 (pc' := 114) C dL_isSet_112 rfl ?_
            refine V_sipush (pc' := 117) C dL_isSet_114 rfl (by decide) ?_
            refine V_icmpgt (tgt := 124) C ⟨by have := hwp.2.2.2.2.2 (6 * r + c) (by omega) (by omega); omega, by decide⟩ dL_isSet_117 (by decide) rfl (fun c_117 => ?_) (fun c_117 => ?_)
            · have hv : isValueB n = false := by simp [isValueB, isInB]; omega
              have hT : setX S c r n = (0, uG S 31 2) := (if_neg (by rw [hcl]; decide)).trans (if_pos hv)
              have hans : ansL (setX S c r n) = -900002 := by rw [hT]; exact ansL_k (k := 2) (uG_s _ _ _) (by decide)
              refine V_iconst (pc' := 125) C dL_isSet_124 rfl ?_
              refine V_istore8 (pc' := 127) C dL_isSet_125 rfl (by decide) rfl ?_
              refine V_iload8 (pc' := 129) C dL_isSet_127 rfl ?_
              refine V_ifeq (tgt := 149) C (by omega) dL_isSet_129 (by decide) rfl (fun c_129 => ?_) (fun c_129 => ?_)
              · refine V_ldc (pc' := 151) (n := (-900002)) (v := (-900002)) C (by decide +kernel) dL_isSet_149 rfl (by decide) ?_
                refine V_istore9 (pc' := 153) C dL_isSet_151 rfl (by decide) rfl ?_
                refine V_iload3 (pc' := 154) C dL_isSet_153 rfl ?_
                refine V_bipush (pc' := 156) C dL_isSet_154 rfl (by decide) ?_
                refine V_icmpne (tgt := 172) C (by decide) dL_isSet_156 (by decide) rfl (fun c_156 => ?_) (fun c_156 => ?_)
                · exact absurd c_156 (by decide)
                · refine V_aload0 (pc' := 160) C dL_isSet_159 rfl ?_
                  refine V_iload4 (pc' := 162) C dL_isSet_160 rfl ?_
                  refine V_iload5 (pc' := 164) C dL_isSet_162 rfl ?_
                  refine V_iload6 (pc' := 166) C dL_isSet_164 rfl ?_
                  refine V_callSW (n := 4) [.ref (P 1), .int (iI c), .int (iI r), .int (iI n)] C hM gL_isSet_L_set rfl ydL_set ⟨Nat.le_of_ble_eq_true rfl, Nat.le_of_ble_eq_true rfl⟩ ⟨rfl, rfl⟩ rfl (fun h hh => hh.1) rfl (Nat.le_of_ble_eq_true rfl) dL_isSet_166 ⟨by dsimp only; omega, by dsimp only; omega⟩ (fun h v h' hh hj9 => ?_)
                  obtain ⟨rfl, ⟨P2, X2, hc2, hp2, hi2, hx2⟩, hF2⟩ := hj9
                  refine V_weak (I2 := WD cB cI cO ee na nb P2 ((setX S c r n).2) X2 f g) (fun x hx => by rw [hx]; exact hh.k hF2 hc2) ?_
                  refine V_goto (tgt := 182) C dL_isSet_169 (by decide) ?_
                  refine V_iload9 (pc' := 184) C dL_isSet_182 rfl ?_
                  refine V_eq (st2 := [.int (iI ((-900002))), .int (iI ((-900002)))]) (by rw [hans] <;> rfl) ?_
                  refine V_sameN (tgt := 191) C dL_isSet_184 (by decide) rfl ?_
                  refine V_iconst (pc' := 188) C dL_isSet_187 rfl ?_
                  refine V_goto (tgt := 192) C dL_isSet_188 (by decide) ?_
                  exact V_endz (z := 1) C hr hlk (nar_z true) (fun h' hh => LO_mk hh hp2 hi2 (by omega) (by omega) (by omega) hk (by rw [hT]; exact hnr) (by rw [hT]; rfl)) ⟨by omega, by omega⟩ dL_isSet_192
              · exact absurd c_129 (by decide)
            · have hv : isValueB n = true := isValue_of.mpr (by omega)
              have hT : setX S c r n = byHandS S 115 (6 * r + c) n n := by
                rw [show setX S c r n = _ from (if_neg (by rw [hcl]; decide)).trans (if_neg (by rw [hv]; decide)), h0s]
                rfl
              have hans : ansL (setX S c r n) = (byHandS S 115 (6 * r + c) n n).1 := by rw [hT]; exact ansL_0 (by rw [byH_31 hmw (by decide) ⟨by omega, by omega⟩ (by omega) hv]; exact h31)
              refine V_iconst (pc' := 121) C dL_isSet_120 rfl ?_
              refine V_goto (tgt := 125) C dL_isSet_121 (by decide) ?_
              refine V_istore8 (pc' := 127) C dL_isSet_125 rfl (by decide) rfl ?_
              refine V_iload8 (pc' := 129) C dL_isSet_127 rfl ?_
              refine V_ifeq (tgt := 149) C (by omega) dL_isSet_129 (by decide) rfl (fun c_129 => ?_) (fun c_129 => ?_)
              · exact absurd c_129 (by decide)
              · refine V_aload1 (pc' := 133) C dL_isSet_132 rfl ?_
                refine V_aload2 (pc' := 134) C dL_isSet_133 rfl ?_
                refine V_iload3 (pc' := 135) C dL_isSet_134 rfl ?_
                refine V_iload4 (pc' := 137) C dL_isSet_135 rfl ?_
                refine V_iload5 (pc' := 139) C dL_isSet_137 rfl ?_
                refine V_iload7 (pc' := 141) C dL_isSet_139 rfl ?_
                refine V_iload6 (pc' := 143) C dL_isSet_141 rfl ?_
                refine V_callS (n := 7) [.ref na, .ref nb, .int (iI 115), .int (iI c), .int (iI r), .int (iI n), .int (iI n)] C (kL_byHand (S := S) (a := 115) (c := c) (r := r) (v := n) (n := n) (b := 210 * (k : Int)) hnr hmw (by omega) (by omega) (by decide) hc9 hr9 hv (by omega)) gL_isSet_L_byHand rfl ydL_byHand ⟨Nat.le_of_ble_eq_true rfl, Nat.le_of_ble_eq_true rfl⟩ ⟨rfl, rfl⟩ rfl (fun h hh => hh.2) rfl (Nat.le_of_ble_eq_true rfl) dL_isSet_143 ⟨by dsimp only; omega, by dsimp only; omega⟩ (fun h v h' hh hj9 => ?_)
                obtain ⟨rfl, ⟨f2, g2, hN2, hR2, h5a, h5b⟩, hF9⟩ := hj9
                refine V_weak (I2 := WD cB cI cO ee na nb P S X f2 g2) (fun x hx => by rw [hx]; exact hh.n hIv hF9 hN2) ?_
                refine V_goto (tgt := 151) C dL_isSet_146 (by decide) ?_
                refine V_istore9 (pc' := 153) C dL_isSet_151 rfl (by decide) rfl ?_
                refine V_iload3 (pc' := 154) C dL_isSet_153 rfl ?_
                refine V_bipush (pc' := 156) C dL_isSet_154 rfl (by decide) ?_
                refine V_icmpne (tgt := 172) C (by decide) dL_isSet_156 (by decide) rfl (fun c_156 => ?_) (fun c_156 => ?_)
                · exact absurd c_156 (by decide)
                · refine V_aload0 (pc' := 160) C dL_isSet_159 rfl ?_
                  refine V_iload4 (pc' := 162) C dL_isSet_160 rfl ?_
                  refine V_iload5 (pc' := 164) C dL_isSet_162 rfl ?_
                  refine V_iload6 (pc' := 166) C dL_isSet_164 rfl ?_
                  refine V_callSW (n := 4) [.ref (P 1), .int (iI c), .int (iI r), .int (iI n)] C hM gL_isSet_L_set rfl ydL_set ⟨Nat.le_of_ble_eq_true rfl, Nat.le_of_ble_eq_true rfl⟩ ⟨rfl, rfl⟩ rfl (fun h hh => hh.1) rfl (Nat.le_of_ble_eq_true rfl) dL_isSet_166 ⟨by dsimp only; omega, by dsimp only; omega⟩ (fun h v h' hh hj9 => ?_)
                  obtain ⟨rfl, ⟨P2, X2, hc2, hp2, hi2, hx2⟩, hF2⟩ := hj9
                  refine V_weak (I2 := WD cB cI cO ee na nb P2 ((setX S c r n).2) X2 f2 g2) (fun x hx => by rw [hx]; exact hh.k hF2 hc2) ?_
                  refine V_goto (tgt := 182) C dL_isSet_169 (by decide) ?_
                  refine V_iload9 (pc' := 184) C dL_isSet_182 rfl ?_
                  refine V_eq (st2 := [.int (iI ((byHandS S 115 (6 * r + c) n n).1)), .int (iI ((byHandS S 115 (6 * r + c) n n).1))]) (by rw [hans] <;> rfl) ?_
                  refine V_sameN (tgt := 191) C dL_isSet_184 (by decide) rfl ?_
                  refine V_iconst (pc' := 188) C dL_isSet_187 rfl ?_
                  refine V_goto (tgt := 192) C dL_isSet_188 (by decide) ?_
                  have h22 := byH_22 (v := n) (n := n) (a := 115) (x := (6 * r + c)) hmw (by decide) ⟨by omega, by omega⟩ (by omega) hv
                  exact V_endz (z := 1) C hr hlk (nar_z true) (fun h' hh => LO_mk hh hp2 hi2 (by omega) (by omega) (by omega) hk (by rw [hT]; exact hR2) (by rw [hT]; exact h22)) ⟨by omega, by omega⟩ dL_isSet_192
    · exact absurd c_42 (by decide)
set_option maxHeartbeats 8000000 in
set_option maxRecDepth 100000 in
theorem kO_isSet_a {c r n : Int} (hc9 : 0 ≤ c ∧ c < 6) (hr9 : 0 ≤ r ∧ r < 8) (hn : -20000 ≤ n ∧ n ≤ 20000) (hst : l.stackTraces = false) (hW : WS k S X f g) (hk : k ≤ 57) : OKf l D cB cC cI cO cJ cD ee yL_isSet wsL_isSet [.ref na, .ref nb, .int (iI 97), .int (iI c), .int (iI r), .int (iI n)] na nb P S X f g k := by
  obtain ⟨hIv, hnr, h55, hk9, h31, hlx⟩ := hW
  have h0s : uG S 31 0 = S := by rw [← h31]; exact uG_id S 31
  have hwp := hIv.1.1.1
  have hmw := hIv.1.1
  have w5 := hwp.2.2.2.2.1
  obtain ⟨n50, n51, n52, n53, n54, n56, n57⟩ := id hnr.2.2.2.2.1
  obtain ⟨ms9, len9, h8, h9, hM⟩ := KL_add (D := D) (cB := cB) (cC := cC) (cI := cI) (cO := cO) (cJ := cJ) (cD := cD) (ee := ee) (P := P) hIv (by omega) hst (c := c) (r := r) (v := n) ⟨by omega, by omega⟩ ⟨by omega, by omega⟩ ⟨by omega, by omega⟩
  have hlb := len_b hIv (by omega) hlx h9
  unfold OKf
  refine Ct_of (cc := cL_isSet) (own := RL) [some (.ref (P 1)), some (.ref na), some (.ref nb), some (.int (iI 97)), some (.int (iI c)), some (.int (iI r)), some (.int (iI n)), none, none, none] (by decide) rfl rfl (Nat.le_of_ble_eq_true rfl) (fun i9 v9 h9 => argL [.ref (P 1), .ref na, .ref nb, .int (iI 97), .int (iI c), .int (iI r), .int (iI n)] 3 rfl i9 v9 h9) ?_
  intro p e s m9 args below meth c9 h0 sz hI C hr hlk hinit
  refine V_weak (I2 := WD cB cI cO ee na nb P S X f g) (fun x hx => by rw [hx]; exact hI) ?_
  have hcl := cell_t hc9 hr9
  refine V_iload3 (pc' := 1) C dL_isSet_0 rfl ?_
  refine V_bipush (pc' := 3) C dL_isSet_1 rfl (by decide) ?_
  refine V_icmpne (tgt := 11) C (by decide) dL_isSet_3 (by decide) rfl (fun c_3 => ?_) (fun c_3 => ?_)
  · refine V_iload3 (pc' := 12) C dL_isSet_11 rfl ?_
    refine V_bipush (pc' := 14) C dL_isSet_12 rfl (by decide) ?_
    refine V_icmpne (tgt := 31) C (by decide) dL_isSet_14 (by decide) rfl (fun c_14 => ?_) (fun c_14 => ?_)
    · exact absurd c_14 (by decide)
    · refine V_aload1 (pc' := 18) C dL_isSet_17 rfl ?_
      refine V_iload4 (pc' := 20) C dL_isSet_18 rfl ?_
      refine V_iload5 (pc' := 22) C dL_isSet_20 rfl ?_
      refine V_callS (n := 3) [.ref na, .int (iI c), .int (iI r)] C (kL_value (c := c) (r := r) (f := f) (by omega) (by omega)) gL_isSet_L_value rfl ydL_value ⟨Nat.le_of_ble_eq_true rfl, Nat.le_of_ble_eq_true rfl⟩ ⟨rfl, rfl⟩ rfl (fun h hh => hh.2.1) rfl (Nat.le_of_ble_eq_true rfl) dL_isSet_22 ⟨by dsimp only; omega, by dsimp only; omega⟩ (fun h v h' hh hj9 => ?_)
      obtain ⟨r9, rfl, rfl, rfl⟩ := hj9
      rw [hnr.c hc9 hr9]
      refine V_weak (I2 := WD cB cI cO ee na nb P S X f g) (fun x hx => by rw [hx]; exact hh) ?_
      refine V_iload6 (pc' := 27) C dL_isSet_25 rfl ?_
      refine V_iadd (pc' := 28) C dL_isSet_27 rfl ?_
      refine V_goto (tgt := 37) C dL_isSet_28 (by decide) ?_
      refine V_istore7 (pc' := 39) C dL_isSet_37 rfl (by decide) rfl ?_
      refine V_iload3 (pc' := 40) C dL_isSet_39 rfl ?_
      refine V_bipush (pc' := 42) C dL_isSet_40 rfl (by decide) ?_
      refine V_icmpne (tgt := 88) C (by decide) dL_isSet_42 (by decide) rfl (fun c_42 => ?_) (fun c_42 => ?_)
      · refine V_iload6 (pc' := 90) C dL_isSet_88 rfl ?_
        refine V_sipush (pc' := 93) C dL_isSet_90 rfl (by decide) ?_
        refine V_icmplt (tgt := 124) C ⟨by omega, by decide⟩ dL_isSet_93 (by decide) rfl (fun c_93 => ?_) (fun c_93 => ?_)
        · have hv : isValueB n = false ∨ isValueB (S.1 0 (atI c r) + n) = false := by
            have e9 : S.1 0 (atI c r) = S.1 0 (6 * r + c) := rfl
            rw [e9]
            simp only [isValueB, isInB, Bool.and_eq_false_iff, decide_eq_false_iff_not]
            omega
          have hT : addX S c r n = (0, uG S 31 2) := (if_neg (by rw [hcl]; decide)).trans (if_pos hv)
          have hans : ansL (addX S c r n) = -900002 := by rw [hT]; exact ansL_k (k := 2) (uG_s _ _ _) (by decide)
          refine V_iconst (pc' := 125) C dL_isSet_124 rfl ?_
          refine V_istore8 (pc' := 127) C dL_isSet_125 rfl (by decide) rfl ?_
          refine V_iload8 (pc' := 129) C dL_isSet_127 rfl ?_
          refine V_ifeq (tgt := 149) C (by omega) dL_isSet_129 (by decide) rfl (fun c_129 => ?_) (fun c_129 => ?_)
          · refine V_ldc (pc' := 151) (n := (-900002)) (v := (-900002)) C (by decide +kernel) dL_isSet_149 rfl (by decide) ?_
            refine V_istore9 (pc' := 153) C dL_isSet_151 rfl (by decide) rfl ?_
            refine V_iload3 (pc' := 154) C dL_isSet_153 rfl ?_
            refine V_bipush (pc' := 156) C dL_isSet_154 rfl (by decide) ?_
            refine V_icmpne (tgt := 172) C (by decide) dL_isSet_156 (by decide) rfl (fun c_156 => ?_) (fun c_156 => ?_)
            · refine V_aload0 (pc' := 173) C dL_isSet_172 rfl ?_
              refine V_iload4 (pc' := 175) C dL_isSet_173 rfl ?_
              refine V_iload5 (pc' := 177) C dL_isSet_175 rfl ?_
              refine V_iload6 (pc' := 179) C dL_isSet_177 rfl ?_
              refine V_callSW (n := 4) [.ref (P 1), .int (iI c), .int (iI r), .int (iI n)] C hM gL_isSet_L_add rfl ydL_add ⟨Nat.le_of_ble_eq_true rfl, Nat.le_of_ble_eq_true rfl⟩ ⟨rfl, rfl⟩ rfl (fun h hh => hh.1) rfl (Nat.le_of_ble_eq_true rfl) dL_isSet_179 ⟨by dsimp only; omega, by dsimp only; omega⟩ (fun h v h' hh hj9 => ?_)
              obtain ⟨rfl, ⟨P2, X2, hc2, hp2, hi2, hx2⟩, hF2⟩ := hj9
              refine V_weak (I2 := WD cB cI cO ee na nb P2 ((addX S c r n).2) X2 f g) (fun x hx => by rw [hx]; exact hh.k hF2 hc2) ?_
              refine V_iload9 (pc' := 184) C dL_isSet_182 rfl ?_
              refine V_eq (st2 := [.int (iI ((-900002))), .int (iI ((-900002)))]) (by rw [hans] <;> rfl) ?_
              refine V_sameN (tgt := 191) C dL_isSet_184 (by decide) rfl ?_
              refine V_iconst (pc' := 188) C dL_isSet_187 rfl ?_
              refine V_goto (tgt := 192) C dL_isSet_188 (by decide) ?_
              exact V_endz (z := 1) C hr hlk (nar_z true) (fun h' hh => LO_mk hh hp2 hi2 (by omega) (by omega) (by omega) hk (by rw [hT]; exact hnr) (by rw [hT]; rfl)) ⟨by omega, by omega⟩ dL_isSet_192
            · exact absurd c_156 (by decide)
          · exact absurd c_129 (by decide)
        · refine V_iload6 (pc' := 98) C dL_isSet_96 rfl ?_
          refine V_sipush (pc' := 101) C dL_isSet_98 rfl (by decide) ?_
          refine V_icmpgt (tgt := 124) C ⟨by omega, by decide⟩ dL_isSet_101 (by decide) rfl (fun c_101 => ?_) (fun c_101 => ?_)
          · have hv : isValueB n = false ∨ isValueB (S.1 0 (atI c r) + n) = false := by
              have e9 : S.1 0 (atI c r) = S.1 0 (6 * r + c) := rfl
              rw [e9]
              simp only [isValueB, isInB, Bool.and_eq_false_iff, decide_eq_false_iff_not]
              omega
            have hT : addX S c r n = (0, uG S 31 2) := (if_neg (by rw [hcl]; decide)).trans (if_pos hv)
            have hans : ansL (addX S c r n) = -900002 := by rw [hT]; exact ansL_k (k := 2) (uG_s _ _ _) (by decide)
            refine V_iconst (pc' := 125) C dL_isSet_124 rfl ?_
            refine V_istore8 (pc' := 127) C dL_isSet_125 rfl (by decide) rfl ?_
            refine V_iload8 (pc' := 129) C dL_isSet_127 rfl ?_
            refine V_ifeq (tgt := 149) C (by omega) dL_isSet_129 (by decide) rfl (fun c_129 => ?_) (fun c_129 => ?_)
            · refine V_ldc (pc' := 151) (n := (-900002)) (v := (-900002)) C (by decide +kernel) dL_isSet_149 rfl (by decide) ?_
              refine V_istore9 (pc' := 153) C dL_isSet_151 rfl (by decide) rfl ?_
              refine V_iload3 (pc' := 154) C dL_isSet_153 rfl ?_
              refine V_bipush (pc' := 156) C dL_isSet_154 rfl (by decide) ?_
              refine V_icmpne (tgt := 172) C (by decide) dL_isSet_156 (by decide) rfl (fun c_156 => ?_) (fun c_156 => ?_)
              · refine V_aload0 (pc' := 173) C dL_isSet_172 rfl ?_
                refine V_iload4 (pc' := 175) C dL_isSet_173 rfl ?_
                refine V_iload5 (pc' := 177) C dL_isSet_175 rfl ?_
                refine V_iload6 (pc' := 179) C dL_isSet_177 rfl ?_
                refine V_callSW (n := 4) [.ref (P 1), .int (iI c), .int (iI r), .int (iI n)] C hM gL_isSet_L_add rfl ydL_add ⟨Nat.le_of_ble_eq_true rfl, Nat.le_of_ble_eq_true rfl⟩ ⟨rfl, rfl⟩ rfl (fun h hh => hh.1) rfl (Nat.le_of_ble_eq_true rfl) dL_isSet_179 ⟨by dsimp only; omega, by dsimp only; omega⟩ (fun h v h' hh hj9 => ?_)
                obtain ⟨rfl, ⟨P2, X2, hc2, hp2, hi2, hx2⟩, hF2⟩ := hj9
                refine V_weak (I2 := WD cB cI cO ee na nb P2 ((addX S c r n).2) X2 f g) (fun x hx => by rw [hx]; exact hh.k hF2 hc2) ?_
                refine V_iload9 (pc' := 184) C dL_isSet_182 rfl ?_
                refine V_eq (st2 := [.int (iI ((-900002))), .int (iI ((-900002)))]) (by rw [hans] <;> rfl) ?_
                refine V_sameN (tgt := 191) C dL_isSet_184 (by decide) rfl ?_
                refine V_iconst (pc' := 188) C dL_isSet_187 rfl ?_
                refine V_goto (tgt := 192) C dL_isSet_188 (by decide) ?_
                exact V_endz (z := 1) C hr hlk (nar_z true) (fun h' hh => LO_mk hh hp2 hi2 (by omega) (by omega) (by omega) hk (by rw [hT]; exact hnr) (by rw [hT]; rfl)) ⟨by omega, by omega⟩ dL_isSet_192
              · exact absurd c_156 (by decide)
            · exact absurd c_129 (by decide)
          · refine V_iload7 (pc' := 106) C dL_isSet_104 rfl ?_
            refine V_sipush (pc' := 109) C dL_isSet_106 rfl (by decide) ?_
            refine V_icmplt (tgt := 124) C ⟨by have := hwp.2.2.2.2.2 (6 * r + c) (by omega) (by omega); omega, by decide⟩ dL_isSet_109 (by decide) rfl (fun c_109 => ?_) (fun c_109 => ?_)
            · have hv : isValueB n = false ∨ isValueB (S.1 0 (atI c r) + n) = false := by
                have e9 : S.1 0 (atI c r) = S.1 0 (6 * r + c) := rfl
                rw [e9]
                simp only [isValueB, isInB, Bool.and_eq_false_iff, decide_eq_false_iff_not]
                omega
              have hT : addX S c r n = (0, uG S 31 2) := (if_neg (by rw [hcl]; decide)).trans (if_pos hv)
              have hans : ansL (addX S c r n) = -900002 := by rw [hT]; exact ansL_k (k := 2) (uG_s _ _ _) (by decide)
              refine V_iconst (pc' := 125) C dL_isSet_124 rfl ?_
              refine V_istore8 (pc' := 127) C dL_isSet_125 rfl (by decide) rfl ?_
              refine V_iload8 (pc' := 129) C dL_isSet_127 rfl ?_
              refine V_ifeq (tgt := 149) C (by omega) dL_isSet_129 (by decide) rfl (fun c_129 => ?_) (fun c_129 => ?_)
              · refine V_ldc (pc' := 151) (n := (-900002)) (v := (-900002)) C (by decide +kernel) dL_isSet_149 rfl (by decide) ?_
                refine V_istore9 (pc' := 153) C dL_isSet_151 rfl (by decide) rfl ?_
                refine V_iload3 (pc' := 154) C dL_isSet_153 rfl ?_
                refine V_bipush (pc' := 156) C dL_isSet_154 rfl (by decide) ?_
                refine V_icmpne (tgt := 172) C (by decide) dL_isSet_156 (by decide) rfl (fun c_156 => ?_) (fun c_156 => ?_)
                · refine V_aload0 (pc' := 173) C dL_isSet_172 rfl ?_
                  refine V_iload4 (pc' := 175) C dL_isSet_173 rfl ?_
                  refine V_iload5 (pc' := 177) C dL_isSet_175 rfl ?_
                  refine V_iload6 (pc' := 179) C dL_isSet_177 rfl ?_
                  refine V_callSW (n := 4) [.ref (P 1), .int (iI c), .int (iI r), .int (iI n)] C hM gL_isSet_L_add rfl ydL_add ⟨Nat.le_of_ble_eq_true rfl, Nat.le_of_ble_eq_true rfl⟩ ⟨rfl, rfl⟩ rfl (fun h hh => hh.1) rfl (Nat.le_of_ble_eq_true rfl) dL_isSet_179 ⟨by dsimp only; omega, by dsimp only; omega⟩ (fun h v h' hh hj9 => ?_)
                  obtain ⟨rfl, ⟨P2, X2, hc2, hp2, hi2, hx2⟩, hF2⟩ := hj9
                  refine V_weak (I2 := WD cB cI cO ee na nb P2 ((addX S c r n).2) X2 f g) (fun x hx => by rw [hx]; exact hh.k hF2 hc2) ?_
                  refine V_iload9 (pc' := 184) C dL_isSet_182 rfl ?_
                  refine V_eq (st2 := [.int (iI ((-900002))), .int (iI ((-900002)))]) (by rw [hans] <;> rfl) ?_
                  refine V_sameN (tgt := 191) C dL_isSet_184 (by decide) rfl ?_
                  refine V_iconst (pc' := 188) C dL_isSet_187 rfl ?_
                  refine V_goto (tgt := 192) C dL_isSet_188 (by decide) ?_
                  exact V_endz (z := 1) C hr hlk (nar_z true) (fun h' hh => LO_mk hh hp2 hi2 (by omega) (by omega) (by omega) hk (by rw [hT]; exact hnr) (by rw [hT]; rfl)) ⟨by omega, by omega⟩ dL_isSet_192
                · exact absurd c_156 (by decide)
              · exact absurd c_129 (by decide)
            · refine V_iload7 (pc' := 114) C dL_isSet_112 rfl ?_
              refine V_sipush (pc' := 117) C dL_isSet_114 rfl (by decide) ?_
              refine V_icmpgt (tgt := 124) C ⟨by have := hwp.2.2.2.2.2 (6 * r + c) (by omega) (by omega); omega, by decide⟩ dL_isSet_117 (by decide) rfl (fun c_117 => ?_) (fun c_117 => ?_)
              · have hv : isValueB n = false ∨ isValueB (S.1 0 (atI c r) + n) = false := by
                  have e9 : S.1 0 (atI c r) = S.1 0 (6 * r + c) := rfl
                  rw [e9]
                  simp only [isValueB, isInB, Bool.and_eq_false_iff, decide_eq_false_iff_not]
                  omega
                have hT : addX S c r n = (0, uG S 31 2) := (if_neg (by rw [hcl]; decide)).trans (if_pos hv)
                have hans : ansL (addX S c r n) = -900002 := by rw [hT]; exact ansL_k (k := 2) (uG_s _ _ _) (by decide)
                refine V_iconst (pc' := 125) C dL_isSet_124 rfl ?_
                refine V_istore8 (pc' := 127) C dL_isSet_125 rfl (by decide) rfl ?_
                refine V_iload8 (pc' := 129) C dL_isSet_127 rfl ?_
                refine V_ifeq (tgt := 149) C (by omega) dL_isSet_129 (by decide) rfl (fun c_129 => ?_) (fun c_129 => ?_)
                · refine V_ldc (pc' := 151) (n := (-900002)) (v := (-900002)) C (by decide +kernel) dL_isSet_149 rfl (by decide) ?_
                  refine V_istore9 (pc' := 153) C dL_isSet_151 rfl (by decide) rfl ?_
                  refine V_iload3 (pc' := 154) C dL_isSet_153 rfl ?_
                  refine V_bipush (pc' := 156) C dL_isSet_154 rfl (by decide) ?_
                  refine V_icmpne (tgt := 172) C (by decide) dL_isSet_156 (by decide) rfl (fun c_156 => ?_) (fun c_156 => ?_)
                  · refine V_aload0 (pc' := 173) C dL_isSet_172 rfl ?_
                    refine V_iload4 (pc' := 175) C dL_isSet_173 rfl ?_
                    refine V_iload5 (pc' := 177) C dL_isSet_175 rfl ?_
                    refine V_iload6 (pc' := 179) C dL_isSet_177 rfl ?_
                    refine V_callSW (n := 4) [.ref (P 1), .int (iI c), .int (iI r), .int (iI n)] C hM gL_isSet_L_add rfl ydL_add ⟨Nat.le_of_ble_eq_true rfl, Nat.le_of_ble_eq_true rfl⟩ ⟨rfl, rfl⟩ rfl (fun h hh => hh.1) rfl (Nat.le_of_ble_eq_true rfl) dL_isSet_179 ⟨by dsimp only; omega, by dsimp only; omega⟩ (fun h v h' hh hj9 => ?_)
                    obtain ⟨rfl, ⟨P2, X2, hc2, hp2, hi2, hx2⟩, hF2⟩ := hj9
                    refine V_weak (I2 := WD cB cI cO ee na nb P2 ((addX S c r n).2) X2 f g) (fun x hx => by rw [hx]; exact hh.k hF2 hc2) ?_
                    refine V_iload9 (pc' := 184) C dL_isSet_182 rfl ?_
                    refine V_eq (st2 := [.int (iI ((-900002))), .int (iI ((-900002)))]) (by rw [hans] <;> rfl) ?_
                    refine V_sameN (tgt := 191) C dL_isSet_184 (by decide) rfl ?_
                    refine V_iconst (pc' := 188) C dL_isSet_187 rfl ?_
                    refine V_goto (tgt := 192) C dL_isSet_188 (by decide) ?_
                    exact V_endz (z := 1) C hr hlk (nar_z true) (fun h' hh => LO_mk hh hp2 hi2 (by omega) (by omega) (by omega) hk (by rw [hT]; exact hnr) (by rw [hT]; rfl)) ⟨by omega, by omega⟩ dL_isSet_192
                  · exact absurd c_156 (by decide)
                · exact absurd c_129 (by decide)
              · have hv : isValueB (S.1 0 (6 * r + c) + n) = true := isValue_of.mpr (by omega)
                have hT : addX S c r n = byHandS S 97 (6 * r + c) (S.1 0 (6 * r + c) + n) n := by
                  rw [show addX S c r n = _ from (if_neg (by rw [hcl]; decide)).trans (if_neg (by rw [show isValueB n = true from isValue_of.mpr (by omega), show isValueB (S.1 0 (atI c r) + n) = true from hv]; decide)), h0s]
                  rfl
                have hans : ansL (addX S c r n) = (byHandS S 97 (6 * r + c) (S.1 0 (6 * r + c) + n) n).1 := by rw [hT]; exact ansL_0 (by rw [byH_31 hmw (by decide) ⟨by omega, by omega⟩ (by omega) hv]; exact h31)
                refine V_iconst (pc' := 121) C dL_isSet_120 rfl ?_
                refine V_goto (tgt := 125) C dL_isSet_121 (by decide) ?_
                refine V_istore8 (pc' := 127) C dL_isSet_125 rfl (by decide) rfl ?_
                refine V_iload8 (pc' := 129) C dL_isSet_127 rfl ?_
                refine V_ifeq (tgt := 149) C (by omega) dL_isSet_129 (by decide) rfl (fun c_129 => ?_) (fun c_129 => ?_)
                · exact absurd c_129 (by decide)
                · refine V_aload1 (pc' := 133) C dL_isSet_132 rfl ?_
                  refine V_aload2 (pc' := 134) C dL_isSet_133 rfl ?_
                  refine V_iload3 (pc' := 135) C dL_isSet_134 rfl ?_
                  refine V_iload4 (pc' := 137) C dL_isSet_135 rfl ?_
                  refine V_iload5 (pc' := 139) C dL_isSet_137 rfl ?_
                  refine V_iload7 (pc' := 141) C dL_isSet_139 rfl ?_
                  refine V_iload6 (pc' := 143) C dL_isSet_141 rfl ?_
                  refine V_callS (n := 7) [.ref na, .ref nb, .int (iI 97), .int (iI c), .int (iI r), .int (iI ((S.1 0 (6 * r + c)) + n)), .int (iI n)] C (kL_byHand (S := S) (a := 97) (c := c) (r := r) (v := (S.1 0 (6 * r + c) + n)) (n := n) (b := 210 * (k : Int)) hnr hmw (by omega) (by omega) (by decide) hc9 hr9 hv (by omega)) gL_isSet_L_byHand rfl ydL_byHand ⟨Nat.le_of_ble_eq_true rfl, Nat.le_of_ble_eq_true rfl⟩ ⟨rfl, rfl⟩ rfl (fun h hh => hh.2) rfl (Nat.le_of_ble_eq_true rfl) dL_isSet_143 ⟨by dsimp only; omega, by dsimp only; omega⟩ (fun h v h' hh hj9 => ?_)
                  obtain ⟨rfl, ⟨f2, g2, hN2, hR2, h5a, h5b⟩, hF9⟩ := hj9
                  refine V_weak (I2 := WD cB cI cO ee na nb P S X f2 g2) (fun x hx => by rw [hx]; exact hh.n hIv hF9 hN2) ?_
                  refine V_goto (tgt := 151) C dL_isSet_146 (by decide) ?_
                  refine V_istore9 (pc' := 153) C dL_isSet_151 rfl (by decide) rfl ?_
                  refine V_iload3 (pc' := 154) C dL_isSet_153 rfl ?_
                  refine V_bipush (pc' := 156) C dL_isSet_154 rfl (by decide) ?_
                  refine V_icmpne (tgt := 172) C (by decide) dL_isSet_156 (by decide) rfl (fun c_156 => ?_) (fun c_156 => ?_)
                  · refine V_aload0 (pc' := 173) C dL_isSet_172 rfl ?_
                    refine V_iload4 (pc' := 175) C dL_isSet_173 rfl ?_
                    refine V_iload5 (pc' := 177) C dL_isSet_175 rfl ?_
                    refine V_iload6 (pc' := 179) C dL_isSet_177 rfl ?_
                    refine V_callSW (n := 4) [.ref (P 1), .int (iI c), .int (iI r), .int (iI n)] C hM gL_isSet_L_add rfl ydL_add ⟨Nat.le_of_ble_eq_true rfl, Nat.le_of_ble_eq_true rfl⟩ ⟨rfl, rfl⟩ rfl (fun h hh => hh.1) rfl (Nat.le_of_ble_eq_true rfl) dL_isSet_179 ⟨by dsimp only; omega, by dsimp only; omega⟩ (fun h v h' hh hj9 => ?_)
                    obtain ⟨rfl, ⟨P2, X2, hc2, hp2, hi2, hx2⟩, hF2⟩ := hj9
                    refine V_weak (I2 := WD cB cI cO ee na nb P2 ((addX S c r n).2) X2 f2 g2) (fun x hx => by rw [hx]; exact hh.k hF2 hc2) ?_
                    refine V_iload9 (pc' := 184) C dL_isSet_182 rfl ?_
                    refine V_eq (st2 := [.int (iI ((byHandS S 97 (6 * r + c) (S.1 0 (6 * r + c) + n) n).1)), .int (iI ((byHandS S 97 (6 * r + c) (S.1 0 (6 * r + c) + n) n).1))]) (by rw [hans] <;> rfl) ?_
                    refine V_sameN (tgt := 191) C dL_isSet_184 (by decide) rfl ?_
                    refine V_iconst (pc' := 188) C dL_isSet_187 rfl ?_
                    refine V_goto (tgt := 192) C dL_isSet_188 (by decide) ?_
                    have h22 := byH_22 (v := (S.1 0 (6 * r + c) + n)) (n := n) (a := 97) (x := (6 * r + c)) hmw (by decide) ⟨by omega, by omega⟩ (by omega) hv
                    exact V_endz (z := 1) C hr hlk (nar_z true) (fun h' hh => LO_mk hh hp2 hi2 (by omega) (by omega) (by omega) hk (by rw [hT]; exact hR2) (by rw [hT]; exact h22)) ⟨by omega, by omega⟩ dL_isSet_192
                  · exact absurd c_156 (by decide)
      · exact absurd c_42 (by decide)
  · exact absurd c_3 (by decide)
set_option maxHeartbeats 8000000 in
set_option maxRecDepth 100000 in
theorem kO_isSet_c {c r n : Int} (hc9 : 0 ≤ c ∧ c < 6) (hr9 : 0 ≤ r ∧ r < 8) (hn : -20000 ≤ n ∧ n ≤ 20000) (hst : l.stackTraces = false) (hW : WS k S X f g) (hk : k ≤ 57) : OKf l D cB cC cI cO cJ cD ee yL_isSet wsL_isSet [.ref na, .ref nb, .int (iI 99), .int (iI c), .int (iI r), .int (iI n)] na nb P S X f g k := by
  obtain ⟨hIv, hnr, h55, hk9, h31, hlx⟩ := hW
  have h0s : uG S 31 0 = S := by rw [← h31]; exact uG_id S 31
  have hwp := hIv.1.1.1
  have hmw := hIv.1.1
  have w5 := hwp.2.2.2.2.1
  obtain ⟨n50, n51, n52, n53, n54, n56, n57⟩ := id hnr.2.2.2.2.1
  obtain ⟨ms9, len9, h8, h9, hM⟩ := KL_copyBase (D := D) (cB := cB) (cC := cC) (cI := cI) (cO := cO) (cJ := cJ) (cD := cD) (ee := ee) (P := P) hIv (by omega) hst (c := c) (r := r) ⟨by omega, by omega⟩ ⟨by omega, by omega⟩
  have hlb := len_b hIv (by omega) hlx h9
  unfold OKf
  refine Ct_of (cc := cL_isSet) (own := RL) [some (.ref (P 1)), some (.ref na), some (.ref nb), some (.int (iI 99)), some (.int (iI c)), some (.int (iI r)), some (.int (iI n)), none, none, none] (by decide) rfl rfl (Nat.le_of_ble_eq_true rfl) (fun i9 v9 h9 => argL [.ref (P 1), .ref na, .ref nb, .int (iI 99), .int (iI c), .int (iI r), .int (iI n)] 3 rfl i9 v9 h9) ?_
  intro p e s m9 args below meth c9 h0 sz hI C hr hlk hinit
  refine V_weak (I2 := WD cB cI cO ee na nb P S X f g) (fun x hx => by rw [hx]; exact hI) ?_
  have hcl := cell_t hc9 hr9
  refine V_iload3 (pc' := 1) C dL_isSet_0 rfl ?_
  refine V_bipush (pc' := 3) C dL_isSet_1 rfl (by decide) ?_
  refine V_icmpne (tgt := 11) C (by decide) dL_isSet_3 (by decide) rfl (fun c_3 => ?_) (fun c_3 => ?_)
  · refine V_iload3 (pc' := 12) C dL_isSet_11 rfl ?_
    refine V_bipush (pc' := 14) C dL_isSet_12 rfl (by decide) ?_
    refine V_icmpne (tgt := 31) C (by decide) dL_isSet_14 (by decide) rfl (fun c_14 => ?_) (fun c_14 => ?_)
    · refine V_aload1 (pc' := 32) C dL_isSet_31 rfl ?_
      refine V_aload1 (pc' := 33) C dL_isSet_32 rfl ?_
      refine V_bipush (pc' := 35) C dL_isSet_33 rfl (by decide) ?_
      refine V_ialdE (pc' := 36) (n := 540) (f := f) (v := (8 * (S.2 28 % 6) + S.2 28 / 6)) C 2 rfl (fun h hh => ⟨901, hh.2.1⟩) ⟨by omega, by omega, by omega⟩ (n53) dL_isSet_35 rfl ?_
      refine V_ialdE (pc' := 37) (n := 540) (f := f) (v := S.1 0 (S.2 28)) C 2 rfl (fun h hh => ⟨901, hh.2.1⟩) ⟨by omega, by omega, by omega⟩ (hnr.2.1 (S.2 28) (by omega) (by omega)) dL_isSet_36 rfl ?_
      refine V_istore7 (pc' := 39) C dL_isSet_37 rfl (by decide) rfl ?_
      refine V_iload3 (pc' := 40) C dL_isSet_39 rfl ?_
      refine V_bipush (pc' := 42) C dL_isSet_40 rfl (by decide) ?_
      refine V_icmpne (tgt := 88) C (by decide) dL_isSet_42 (by decide) rfl (fun c_42 => ?_) (fun c_42 => ?_)
      · exact absurd c_42 (by decide)
      · refine V_aload0 (pc' := 46) C dL_isSet_45 rfl ?_
        refine V_iload4 (pc' := 48) C dL_isSet_46 rfl ?_
        refine V_iload5 (pc' := 50) C dL_isSet_48 rfl ?_
        refine V_callSW (n := 3) [.ref (P 1), .int (iI c), .int (iI r)] C hM gL_isSet_L_copyBase rfl ydL_copyBase ⟨Nat.le_of_ble_eq_true rfl, Nat.le_of_ble_eq_true rfl⟩ ⟨rfl, rfl⟩ rfl (fun h hh => hh.1) rfl (Nat.le_of_ble_eq_true rfl) dL_isSet_50 ⟨by dsimp only; omega, by dsimp only; omega⟩ (fun h v h' hh hj9 => ?_)
        obtain ⟨rfl, ⟨P2, X2, hc2, hp2, hi2, hx2⟩, hF2⟩ := hj9
        refine V_weak (I2 := WD cB cI cO ee na nb P2 ((copyBaseX S c r).2) X2 f g) (fun x hx => by rw [hx]; exact hh.k hF2 hc2) ?_
        refine V_aload1 (pc' := 54) C dL_isSet_53 rfl ?_
        refine V_bipush (pc' := 56) C dL_isSet_54 rfl (by decide) ?_
        refine V_ialdE (pc' := 57) (n := 540) (f := f) (v := (S.2 27 + 1)) C 2 rfl (fun h hh => ⟨901, hh.2.1⟩) ⟨by omega, by omega, by omega⟩ (n52) dL_isSet_56 rfl ?_
        refine V_ifne (tgt := 65) C (by omega) dL_isSet_57 (by decide) rfl (fun c_57 => ?_) (fun c_57 => ?_)
        · have hv : isValueB (S.1 0 (S.2 28)) = true := isValue_of.mpr (hwp.2.2.2.2.2 _ (by omega) (by omega))
          have hT : copyBaseX S c r = byHandS S 99 (6 * r + c) (S.1 0 (S.2 28)) 0 := by
            rw [show copyBaseX S c r = _ from (if_neg (by rw [hcl]; decide)).trans (if_neg (by omega)), h0s]
            rfl
          have hans : ansL (copyBaseX S c r) = (byHandS S 99 (6 * r + c) (S.1 0 (S.2 28)) 0).1 := by rw [hT]; exact ansL_0 (by rw [byH_31 hmw (by decide) ⟨by omega, by omega⟩ (by omega) hv]; exact h31)
          refine V_aload1 (pc' := 66) C dL_isSet_65 rfl ?_
          refine V_aload2 (pc' := 67) C dL_isSet_66 rfl ?_
          refine V_bipush (pc' := 69) C dL_isSet_67 rfl (by decide) ?_
          refine V_iload4 (pc' := 71) C dL_isSet_69 rfl ?_
          refine V_iload5 (pc' := 73) C dL_isSet_71 rfl ?_
          refine V_iload7 (pc' := 75) C dL_isSet_73 rfl ?_
          refine V_iconst (pc' := 76) C dL_isSet_75 rfl ?_
          refine V_callS (n := 7) [.ref na, .ref nb, .int (iI 99), .int (iI c), .int (iI r), .int (iI (S.1 0 (S.2 28))), .int (iI 0)] C (kL_byHand (S := S) (a := 99) (c := c) (r := r) (v := (S.1 0 (S.2 28))) (n := 0) (b := 210 * (k : Int)) hnr hmw (by omega) (by omega) (by decide) hc9 hr9 hv (by omega)) gL_isSet_L_byHand rfl ydL_byHand ⟨Nat.le_of_ble_eq_true rfl, Nat.le_of_ble_eq_true rfl⟩ ⟨rfl, rfl⟩ rfl (fun h hh => hh.2) rfl (Nat.le_of_ble_eq_true rfl) dL_isSet_76 ⟨by dsimp only; omega, by dsimp only; omega⟩ (fun h v h' hh hj9 => ?_)
          obtain ⟨rfl, ⟨f2, g2, hN2, hR2, h5a, h5b⟩, hF9⟩ := hj9
          refine V_weak (I2 := WD cB cI cO ee na nb P2 ((copyBaseX S c r).2) X2 f2 g2) (fun x hx => by rw [hx]; exact hh.n hi2 hF9 hN2) ?_
          refine V_eq (st2 := [.int (iI ((byHandS S 99 (6 * r + c) (S.1 0 (S.2 28)) 0).1)), .int (iI ((byHandS S 99 (6 * r + c) (S.1 0 (S.2 28)) 0).1))]) (by rw [hans] <;> rfl) ?_
          refine V_sameN (tgt := 86) C dL_isSet_79 (by decide) rfl ?_
          refine V_iconst (pc' := 83) C dL_isSet_82 rfl ?_
          refine V_goto (tgt := 87) C dL_isSet_83 (by decide) ?_
          have h22 := byH_22 (v := (S.1 0 (S.2 28))) (n := 0) (a := 99) (x := (6 * r + c)) hmw (by decide) ⟨by omega, by omega⟩ (by omega) hv
          exact V_endz (z := 1) C hr hlk (nar_z true) (fun h' hh => LO_mk hh hp2 hi2 (by omega) (by omega) (by omega) hk (by rw [hT]; exact hR2) (by rw [hT]; exact h22)) ⟨by omega, by omega⟩ dL_isSet_87
        · have hT : copyBaseX S c r = (0, uG S 31 2) := (if_neg (by rw [hcl]; decide)).trans (if_pos (by omega))
          have hans : ansL (copyBaseX S c r) = -900002 := by rw [hT]; exact ansL_k (k := 2) (uG_s _ _ _) (by decide)
          refine V_ldc (pc' := 62) (n := (-900002)) (v := (-900002)) C (by decide +kernel) dL_isSet_60 rfl (by decide) ?_
          refine V_goto (tgt := 79) C dL_isSet_62 (by decide) ?_
          refine V_eq (st2 := [.int (iI ((-900002))), .int (iI ((-900002)))]) (by rw [hans] <;> rfl) ?_
          refine V_sameN (tgt := 86) C dL_isSet_79 (by decide) rfl ?_
          refine V_iconst (pc' := 83) C dL_isSet_82 rfl ?_
          refine V_goto (tgt := 87) C dL_isSet_83 (by decide) ?_
          exact V_endz (z := 1) C hr hlk (nar_z true) (fun h' hh => LO_mk hh hp2 hi2 (by omega) (by omega) (by omega) hk (by rw [hT]; exact hnr) (by rw [hT]; rfl)) ⟨by omega, by omega⟩ dL_isSet_87
    · exact absurd c_14 (by decide)
  · exact absurd c_3 (by decide)
set_option maxHeartbeats 8000000 in
set_option maxRecDepth 100000 in
theorem kO_isRange {q c r c2 r2 : Int} (hq : 0 ≤ q ∧ q < S.2 22) (hc9 : 0 ≤ c ∧ c < 6) (hr9 : 0 ≤ r ∧ r < 8) (hd9 : 0 ≤ c2 ∧ c2 < 6) (he9 : 0 ≤ r2 ∧ r2 < 8) (hst : l.stackTraces = false) (hW : WS k S X f g) (hk : k ≤ 57) : OKf l D cB cC cI cO cJ cD ee yL_isRange wsL_isRange [.ref na, .int (iI q), .int (iI c), .int (iI r), .int (iI c2), .int (iI r2)] na nb P S X f g k := by
  obtain ⟨hIv, hnr, h55, hk9, h31, hlx⟩ := hW
  have h0s : uG S 31 0 = S := by rw [← h31]; exact uG_id S 31
  have hwp := hIv.1.1.1
  have hmw := hIv.1.1
  have w5 := hwp.2.2.2.2.1
  obtain ⟨n50, n51, n52, n53, n54, n56, n57⟩ := id hnr.2.2.2.2.1
  obtain ⟨ms9, len9, h8, h9, hM⟩ := KL_grant (D := D) (cB := cB) (cC := cC) (cI := cI) (cO := cO) (cJ := cJ) (cD := cD) (ee := ee) (P := P) hIv hst (m := q) (c := c) (r := r) (c2 := c2) (r2 := r2) ⟨by omega, by omega⟩ ⟨by omega, by omega⟩ ⟨by omega, by omega⟩ ⟨by omega, by omega⟩ ⟨by omega, by omega⟩
  have hlb := len_b hIv (by omega) hlx h9
  unfold OKf
  refine Ct_of (cc := cL_isRange) (own := RL) [some (.ref (P 1)), some (.ref na), some (.int (iI q)), some (.int (iI c)), some (.int (iI r)), some (.int (iI c2)), some (.int (iI r2)), none, none, none] (by decide) rfl rfl (Nat.le_of_ble_eq_true rfl) (fun i9 v9 h9 => argL [.ref (P 1), .ref na, .int (iI q), .int (iI c), .int (iI r), .int (iI c2), .int (iI r2)] 3 rfl i9 v9 h9) ?_
  intro p e s m9 args below meth c9 h0 sz hI C hr hlk hinit
  refine V_weak (I2 := WD cB cI cO ee na nb P S X f g) (fun x hx => by rw [hx]; exact hI) ?_
  have hq9 : isMacB S q = true := isMac_t.mpr ⟨by omega, by omega⟩
  have hcl := cell_t hc9 hr9
  have hcl2 := cell_t hd9 he9
  have w9q := hwp.2.1 q (by omega) (by omega)
  obtain ⟨h1m, h2m, h3m, h4m⟩ := hnr.2.2.1 q (by omega) (by omega)
  have hno : ¬ (isMacB S q = false ∨ isCellB c r = false ∨ isCellB c2 r2 = false) := by rw [hq9, hcl, hcl2]; decide
  refine V_iload3 (pc' := 1) C dL_isRange_0 rfl ?_
  refine V_iload5 (pc' := 3) C dL_isRange_1 rfl ?_
  refine V_icmpgt (tgt := 17) C ⟨by omega, by omega⟩ dL_isRange_3 (by decide) rfl (fun c_3 => ?_) (fun c_3 => ?_)
  · refine V_iconst (pc' := 18) C dL_isRange_17 rfl ?_
    refine V_istore7 (pc' := 20) C dL_isRange_18 rfl (by decide) rfl ?_
    refine V_iload2 (pc' := 21) C dL_isRange_20 rfl ?_
    refine V_callS (n := 1) [.int (iI q)] C (kL_macroAt (q := q)) gL_isRange_L_macroAt rfl ydL_macroAt ⟨Nat.le_of_ble_eq_true rfl, Nat.le_of_ble_eq_true rfl⟩ ⟨rfl, rfl⟩ rfl (fun h hh => trivial) rfl (Nat.le_of_ble_eq_true rfl) dL_isRange_21 ⟨by dsimp only; omega, by dsimp only; omega⟩ (fun h v h' hh hj9 => ?_)
    obtain ⟨r9, rfl, rfl, rfl⟩ := hj9
    refine V_weak (I2 := WD cB cI cO ee na nb P S X f g) (fun x hx => by rw [hx]; exact hh) ?_
    refine V_istore8 (pc' := 26) C dL_isRange_24 rfl (by decide) rfl ?_
    refine V_iload7 (pc' := 28) C dL_isRange_26 rfl ?_
    refine V_ifeq (tgt := 41) C (by decide) dL_isRange_28 (by decide) rfl (fun c_28 => ?_) (fun c_28 => ?_)
    · have hg : isRangeB c r c2 r2 = false := by simp [isRangeB]; omega
      have hT : grantX S q c r c2 r2 = (0, uG S 31 2) := (if_neg hno).trans (if_pos hg)
      have hans : ansL (grantX S q c r c2 r2) = -900002 := by rw [hT]; exact ansL_k (k := 2) (uG_s _ _ _) (by decide)
      refine V_aload0 (pc' := 42) C dL_isRange_41 rfl ?_
      refine V_iload2 (pc' := 43) C dL_isRange_42 rfl ?_
      refine V_iload3 (pc' := 44) C dL_isRange_43 rfl ?_
      refine V_iload4 (pc' := 46) C dL_isRange_44 rfl ?_
      refine V_iload5 (pc' := 48) C dL_isRange_46 rfl ?_
      refine V_iload6 (pc' := 50) C dL_isRange_48 rfl ?_
      refine V_callSW (n := 6) [.ref (P 1), .int (iI q), .int (iI c), .int (iI r), .int (iI c2), .int (iI r2)] C hM gL_isRange_L_grant rfl ydL_grant ⟨Nat.le_of_ble_eq_true rfl, Nat.le_of_ble_eq_true rfl⟩ ⟨rfl, rfl⟩ rfl (fun h hh => hh.1) rfl (Nat.le_of_ble_eq_true rfl) dL_isRange_50 ⟨by dsimp only; omega, by dsimp only; omega⟩ (fun h v h' hh hj9 => ?_)
      obtain ⟨rfl, ⟨P2, X2, hc2, hp2, hi2, hx2⟩, hF2⟩ := hj9
      refine V_weak (I2 := WD cB cI cO ee na nb P2 ((grantX S q c r c2 r2).2) X2 f g) (fun x hx => by rw [hx]; exact hh.k hF2 hc2) ?_
      refine V_iload7 (pc' := 55) C dL_isRange_53 rfl ?_
      refine V_ifeq (tgt := 63) C (by decide) dL_isRange_55 (by decide) rfl (fun c_55 => ?_) (fun c_55 => ?_)
      · refine V_ldc (pc' := 65) (n := (-900002)) (v := (-900002)) C (by decide +kernel) dL_isRange_63 rfl (by decide) ?_
        refine V_eq (st2 := [.int (iI ((-900002))), .int (iI ((-900002)))]) (by rw [hans] <;> rfl) ?_
        refine V_sameN (tgt := 72) C dL_isRange_65 (by decide) rfl ?_
        refine V_iconst (pc' := 69) C dL_isRange_68 rfl ?_
        refine V_goto (tgt := 73) C dL_isRange_69 (by decide) ?_
        exact V_endz (z := 1) C hr hlk (nar_z true) (fun h' hh => LO_mk hh hp2 hi2 (by omega) (by omega) (by omega) hk (by rw [hT]; exact hnr) (by rw [hT]; rfl)) ⟨by omega, by omega⟩ dL_isRange_73
      · exact absurd c_55 (by decide)
    · exact absurd c_28 (by decide)
  · refine V_iload4 (pc' := 8) C dL_isRange_6 rfl ?_
    refine V_iload6 (pc' := 10) C dL_isRange_8 rfl ?_
    refine V_icmpgt (tgt := 17) C ⟨by omega, by omega⟩ dL_isRange_10 (by decide) rfl (fun c_10 => ?_) (fun c_10 => ?_)
    · refine V_iconst (pc' := 18) C dL_isRange_17 rfl ?_
      refine V_istore7 (pc' := 20) C dL_isRange_18 rfl (by decide) rfl ?_
      refine V_iload2 (pc' := 21) C dL_isRange_20 rfl ?_
      refine V_callS (n := 1) [.int (iI q)] C (kL_macroAt (q := q)) gL_isRange_L_macroAt rfl ydL_macroAt ⟨Nat.le_of_ble_eq_true rfl, Nat.le_of_ble_eq_true rfl⟩ ⟨rfl, rfl⟩ rfl (fun h hh => trivial) rfl (Nat.le_of_ble_eq_true rfl) dL_isRange_21 ⟨by dsimp only; omega, by dsimp only; omega⟩ (fun h v h' hh hj9 => ?_)
      obtain ⟨r9, rfl, rfl, rfl⟩ := hj9
      refine V_weak (I2 := WD cB cI cO ee na nb P S X f g) (fun x hx => by rw [hx]; exact hh) ?_
      refine V_istore8 (pc' := 26) C dL_isRange_24 rfl (by decide) rfl ?_
      refine V_iload7 (pc' := 28) C dL_isRange_26 rfl ?_
      refine V_ifeq (tgt := 41) C (by decide) dL_isRange_28 (by decide) rfl (fun c_28 => ?_) (fun c_28 => ?_)
      · have hg : isRangeB c r c2 r2 = false := by simp [isRangeB]; omega
        have hT : grantX S q c r c2 r2 = (0, uG S 31 2) := (if_neg hno).trans (if_pos hg)
        have hans : ansL (grantX S q c r c2 r2) = -900002 := by rw [hT]; exact ansL_k (k := 2) (uG_s _ _ _) (by decide)
        refine V_aload0 (pc' := 42) C dL_isRange_41 rfl ?_
        refine V_iload2 (pc' := 43) C dL_isRange_42 rfl ?_
        refine V_iload3 (pc' := 44) C dL_isRange_43 rfl ?_
        refine V_iload4 (pc' := 46) C dL_isRange_44 rfl ?_
        refine V_iload5 (pc' := 48) C dL_isRange_46 rfl ?_
        refine V_iload6 (pc' := 50) C dL_isRange_48 rfl ?_
        refine V_callSW (n := 6) [.ref (P 1), .int (iI q), .int (iI c), .int (iI r), .int (iI c2), .int (iI r2)] C hM gL_isRange_L_grant rfl ydL_grant ⟨Nat.le_of_ble_eq_true rfl, Nat.le_of_ble_eq_true rfl⟩ ⟨rfl, rfl⟩ rfl (fun h hh => hh.1) rfl (Nat.le_of_ble_eq_true rfl) dL_isRange_50 ⟨by dsimp only; omega, by dsimp only; omega⟩ (fun h v h' hh hj9 => ?_)
        obtain ⟨rfl, ⟨P2, X2, hc2, hp2, hi2, hx2⟩, hF2⟩ := hj9
        refine V_weak (I2 := WD cB cI cO ee na nb P2 ((grantX S q c r c2 r2).2) X2 f g) (fun x hx => by rw [hx]; exact hh.k hF2 hc2) ?_
        refine V_iload7 (pc' := 55) C dL_isRange_53 rfl ?_
        refine V_ifeq (tgt := 63) C (by decide) dL_isRange_55 (by decide) rfl (fun c_55 => ?_) (fun c_55 => ?_)
        · refine V_ldc (pc' := 65) (n := (-900002)) (v := (-900002)) C (by decide +kernel) dL_isRange_63 rfl (by decide) ?_
          refine V_eq (st2 := [.int (iI ((-900002))), .int (iI ((-900002)))]) (by rw [hans] <;> rfl) ?_
          refine V_sameN (tgt := 72) C dL_isRange_65 (by decide) rfl ?_
          refine V_iconst (pc' := 69) C dL_isRange_68 rfl ?_
          refine V_goto (tgt := 73) C dL_isRange_69 (by decide) ?_
          exact V_endz (z := 1) C hr hlk (nar_z true) (fun h' hh => LO_mk hh hp2 hi2 (by omega) (by omega) (by omega) hk (by rw [hT]; exact hnr) (by rw [hT]; rfl)) ⟨by omega, by omega⟩ dL_isRange_73
        · exact absurd c_55 (by decide)
      · exact absurd c_28 (by decide)
    · refine V_iconst (pc' := 14) C dL_isRange_13 rfl ?_
      refine V_goto (tgt := 18) C dL_isRange_14 (by decide) ?_
      refine V_istore7 (pc' := 20) C dL_isRange_18 rfl (by decide) rfl ?_
      refine V_iload2 (pc' := 21) C dL_isRange_20 rfl ?_
      refine V_callS (n := 1) [.int (iI q)] C (kL_macroAt (q := q)) gL_isRange_L_macroAt rfl ydL_macroAt ⟨Nat.le_of_ble_eq_true rfl, Nat.le_of_ble_eq_true rfl⟩ ⟨rfl, rfl⟩ rfl (fun h hh => trivial) rfl (Nat.le_of_ble_eq_true rfl) dL_isRange_21 ⟨by dsimp only; omega, by dsimp only; omega⟩ (fun h v h' hh hj9 => ?_)
      obtain ⟨r9, rfl, rfl, rfl⟩ := hj9
      refine V_weak (I2 := WD cB cI cO ee na nb P S X f g) (fun x hx => by rw [hx]; exact hh) ?_
      refine V_istore8 (pc' := 26) C dL_isRange_24 rfl (by decide) rfl ?_
      refine V_iload7 (pc' := 28) C dL_isRange_26 rfl ?_
      refine V_ifeq (tgt := 41) C (by decide) dL_isRange_28 (by decide) rfl (fun c_28 => ?_) (fun c_28 => ?_)
      · exact absurd c_28 (by decide)
      · refine V_aload1 (pc' := 32) C dL_isRange_31 rfl ?_
        refine V_iload8 (pc' := 34) C dL_isRange_32 rfl ?_
        refine V_iconst (pc' := 35) C dL_isRange_34 rfl ?_
        refine V_iadd (pc' := 36) C dL_isRange_35 rfl ?_
        refine V_ialdE (pc' := 37) (n := 540) (f := f) (v := S.1 9 q) C 2 rfl (fun h hh => ⟨901, hh.2.1⟩) ⟨by omega, by omega, by omega⟩ (h2m) dL_isRange_36 rfl ?_
        refine V_iconst (pc' := 38) C dL_isRange_37 rfl ?_
        refine V_icmpne (tgt := 74) C ⟨by omega, by decide⟩ dL_isRange_38 (by decide) rfl (fun c_38 => ?_) (fun c_38 => ?_)
        · have hg : isRangeB c r c2 r2 = true := by simp [isRangeB]; omega
          have hT : grantX S q c r c2 r2 = (S.1 9 q + 1, uA (uA (uA S 10 (4 * q + S.1 9 q) (6 * r + c)) 11 (4 * q + S.1 9 q) (6 * r2 + c2)) 9 q (S.1 9 q + 1)) := by
            rw [show grantX S q c r c2 r2 = _ from (if_neg hno).trans ((if_neg (by rw [hg]; decide)).trans (if_neg (by omega))), h0s]
            rfl
          have hans : ansL (grantX S q c r c2 r2) = S.1 9 q + 1 := by rw [hT]; exact ansL_0 h31
          have hR2 := hnr.grant (m := q) (c := c) (r := r) (c2 := c2) (r2 := r2) hwp (by omega) (by omega) hc9 hr9 hd9 he9
          refine V_iload8 (pc' := 76) C dL_isRange_74 rfl ?_
          refine V_bipush (pc' := 78) C dL_isRange_76 rfl (by decide) ?_
          refine V_iadd (pc' := 79) C dL_isRange_78 rfl ?_
          refine V_iconst (pc' := 80) C dL_isRange_79 rfl ?_
          refine V_aload1 (pc' := 81) C dL_isRange_80 rfl ?_
          refine V_iload8 (pc' := 83) C dL_isRange_81 rfl ?_
          refine V_iconst (pc' := 84) C dL_isRange_83 rfl ?_
          refine V_iadd (pc' := 85) C dL_isRange_84 rfl ?_
          refine V_ialdE (pc' := 86) (n := 540) (f := f) (v := S.1 9 q) C 2 rfl (fun h hh => ⟨901, hh.2.1⟩) ⟨by omega, by omega, by omega⟩ (h2m) dL_isRange_85 rfl ?_
          refine V_imul (pc' := 87) C dL_isRange_86 rfl ?_
          refine V_iadd (pc' := 88) C dL_isRange_87 rfl ?_
          refine V_istore9 (pc' := 90) C dL_isRange_88 rfl (by decide) rfl ?_
          refine V_aload1 (pc' := 91) C dL_isRange_90 rfl ?_
          refine V_iload9 (pc' := 93) C dL_isRange_91 rfl ?_
          refine V_iload3 (pc' := 94) C dL_isRange_93 rfl ?_
          refine V_iast (pc' := 95) (n := 540) (f := f) (I2 := WD cB cI cO ee na nb P S X (upZ f (((60 + 60 * q) + 42) + (4 * (S.1 9 q))) c) g) C 2 rfl (fun h hh => ⟨901, hh.2.1, hh.a hIv⟩) ⟨by omega, by omega, by omega⟩ dL_isRange_94 rfl ?_
          refine V_aload1 (pc' := 96) C dL_isRange_95 rfl ?_
          refine V_iload9 (pc' := 98) C dL_isRange_96 rfl ?_
          refine V_iconst (pc' := 99) C dL_isRange_98 rfl ?_
          refine V_iadd (pc' := 100) C dL_isRange_99 rfl ?_
          refine V_iload4 (pc' := 102) C dL_isRange_100 rfl ?_
          refine V_iast (pc' := 103) (n := 540) (f := upZ f (((60 + 60 * q) + 42) + (4 * (S.1 9 q))) c) (I2 := WD cB cI cO ee na nb P S X (upZ (upZ f (((60 + 60 * q) + 42) + (4 * (S.1 9 q))) c) ((((60 + 60 * q) + 42) + (4 * (S.1 9 q))) + 1) r) g) C 2 rfl (fun h hh => ⟨901, hh.2.1, hh.a hIv⟩) ⟨by omega, by omega, by omega⟩ dL_isRange_102 rfl ?_
          refine V_aload1 (pc' := 104) C dL_isRange_103 rfl ?_
          refine V_iload9 (pc' := 106) C dL_isRange_104 rfl ?_
          refine V_iconst (pc' := 107) C dL_isRange_106 rfl ?_
          refine V_iadd (pc' := 108) C dL_isRange_107 rfl ?_
          refine V_iload5 (pc' := 110) C dL_isRange_108 rfl ?_
          refine V_iast (pc' := 111) (n := 540) (f := upZ (upZ f (((60 + 60 * q) + 42) + (4 * (S.1 9 q))) c) ((((60 + 60 * q) + 42) + (4 * (S.1 9 q))) + 1) r) (I2 := WD cB cI cO ee na nb P S X (upZ (upZ (upZ f (((60 + 60 * q) + 42) + (4 * (S.1 9 q))) c) ((((60 + 60 * q) + 42) + (4 * (S.1 9 q))) + 1) r) ((((60 + 60 * q) + 42) + (4 * (S.1 9 q))) + 2) c2) g) C 2 rfl (fun h hh => ⟨901, hh.2.1, hh.a hIv⟩) ⟨by omega, by omega, by omega⟩ dL_isRange_110 rfl ?_
          refine V_aload1 (pc' := 112) C dL_isRange_111 rfl ?_
          refine V_iload9 (pc' := 114) C dL_isRange_112 rfl ?_
          refine V_iconst (pc' := 115) C dL_isRange_114 rfl ?_
          refine V_iadd (pc' := 116) C dL_isRange_115 rfl ?_
          refine V_iload6 (pc' := 118) C dL_isRange_116 rfl ?_
          refine V_iast (pc' := 119) (n := 540) (f := upZ (upZ (upZ f (((60 + 60 * q) + 42) + (4 * (S.1 9 q))) c) ((((60 + 60 * q) + 42) + (4 * (S.1 9 q))) + 1) r) ((((60 + 60 * q) + 42) + (4 * (S.1 9 q))) + 2) c2) (I2 := WD cB cI cO ee na nb P S X (upZ (upZ (upZ (upZ f (((60 + 60 * q) + 42) + (4 * (S.1 9 q))) c) ((((60 + 60 * q) + 42) + (4 * (S.1 9 q))) + 1) r) ((((60 + 60 * q) + 42) + (4 * (S.1 9 q))) + 2) c2) ((((60 + 60 * q) + 42) + (4 * (S.1 9 q))) + 3) r2) g) C 2 rfl (fun h hh => ⟨901, hh.2.1, hh.a hIv⟩) ⟨by omega, by omega, by omega⟩ dL_isRange_118 rfl ?_
          refine V_aload1 (pc' := 120) C dL_isRange_119 rfl ?_
          refine V_iload8 (pc' := 122) C dL_isRange_120 rfl ?_
          refine V_iconst (pc' := 123) C dL_isRange_122 rfl ?_
          refine V_iadd (pc' := 124) C dL_isRange_123 rfl ?_
          refine V_dup2 (pc' := 125) C rfl rfl dL_isRange_124 rfl ?_
          refine V_ialdE (pc' := 126) (n := 540) (f := upZ (upZ (upZ (upZ f (((60 + 60 * q) + 42) + (4 * (S.1 9 q))) c) ((((60 + 60 * q) + 42) + (4 * (S.1 9 q))) + 1) r) ((((60 + 60 * q) + 42) + (4 * (S.1 9 q))) + 2) c2) ((((60 + 60 * q) + 42) + (4 * (S.1 9 q))) + 3) r2) (v := S.1 9 q) C 2 rfl (fun h hh => ⟨901, hh.2.1⟩) ⟨by omega, by omega, by omega⟩ (by rw [upZ_n (by omega), upZ_n (by omega), upZ_n (by omega), upZ_n (by omega)]; exact h2m) dL_isRange_125 rfl ?_
          refine V_iconst (pc' := 127) C dL_isRange_126 rfl ?_
          refine V_iadd (pc' := 128) C dL_isRange_127 rfl ?_
          refine V_iast (pc' := 129) (n := 540) (f := upZ (upZ (upZ (upZ f (((60 + 60 * q) + 42) + (4 * (S.1 9 q))) c) ((((60 + 60 * q) + 42) + (4 * (S.1 9 q))) + 1) r) ((((60 + 60 * q) + 42) + (4 * (S.1 9 q))) + 2) c2) ((((60 + 60 * q) + 42) + (4 * (S.1 9 q))) + 3) r2) (I2 := WD cB cI cO ee na nb P S X (upZ (upZ (upZ (upZ (upZ f (((60 + 60 * q) + 42) + (4 * (S.1 9 q))) c) ((((60 + 60 * q) + 42) + (4 * (S.1 9 q))) + 1) r) ((((60 + 60 * q) + 42) + (4 * (S.1 9 q))) + 2) c2) ((((60 + 60 * q) + 42) + (4 * (S.1 9 q))) + 3) r2) ((60 + 60 * q) + 1) ((S.1 9 q) + 1)) g) C 2 rfl (fun h hh => ⟨901, hh.2.1, hh.a hIv⟩) ⟨by omega, by omega, by omega⟩ dL_isRange_128 rfl ?_
          refine V_aload0 (pc' := 130) C dL_isRange_129 rfl ?_
          refine V_iload2 (pc' := 131) C dL_isRange_130 rfl ?_
          refine V_iload3 (pc' := 132) C dL_isRange_131 rfl ?_
          refine V_iload4 (pc' := 134) C dL_isRange_132 rfl ?_
          refine V_iload5 (pc' := 136) C dL_isRange_134 rfl ?_
          refine V_iload6 (pc' := 138) C dL_isRange_136 rfl ?_
          refine V_callSW (n := 6) [.ref (P 1), .int (iI q), .int (iI c), .int (iI r), .int (iI c2), .int (iI r2)] C hM gL_isRange_L_grant rfl ydL_grant ⟨Nat.le_of_ble_eq_true rfl, Nat.le_of_ble_eq_true rfl⟩ ⟨rfl, rfl⟩ rfl (fun h hh => hh.1) rfl (Nat.le_of_ble_eq_true rfl) dL_isRange_138 ⟨by dsimp only; omega, by dsimp only; omega⟩ (fun h v h' hh hj9 => ?_)
          obtain ⟨rfl, ⟨P2, X2, hc2, hp2, hi2, hx2⟩, hF2⟩ := hj9
          refine V_weak (I2 := WD cB cI cO ee na nb P2 ((grantX S q c r c2 r2).2) X2 (upZ (upZ (upZ (upZ (upZ f (((60 + 60 * q) + 42) + (4 * (S.1 9 q))) c) ((((60 + 60 * q) + 42) + (4 * (S.1 9 q))) + 1) r) ((((60 + 60 * q) + 42) + (4 * (S.1 9 q))) + 2) c2) ((((60 + 60 * q) + 42) + (4 * (S.1 9 q))) + 3) r2) ((60 + 60 * q) + 1) ((S.1 9 q) + 1)) g) (fun x hx => by rw [hx]; exact hh.k hF2 hc2) ?_
          refine V_aload1 (pc' := 142) C dL_isRange_141 rfl ?_
          refine V_iload8 (pc' := 144) C dL_isRange_142 rfl ?_
          refine V_iconst (pc' := 145) C dL_isRange_144 rfl ?_
          refine V_iadd (pc' := 146) C dL_isRange_145 rfl ?_
          refine V_ialdE (pc' := 147) (n := 540) (f := upZ (upZ (upZ (upZ (upZ f (((60 + 60 * q) + 42) + (4 * (S.1 9 q))) c) ((((60 + 60 * q) + 42) + (4 * (S.1 9 q))) + 1) r) ((((60 + 60 * q) + 42) + (4 * (S.1 9 q))) + 2) c2) ((((60 + 60 * q) + 42) + (4 * (S.1 9 q))) + 3) r2) ((60 + 60 * q) + 1) ((S.1 9 q) + 1)) (v := (S.1 9 q + 1)) C 2 rfl (fun h hh => ⟨901, hh.2.1⟩) ⟨by omega, by omega, by omega⟩ (upZ_s) dL_isRange_146 rfl ?_
          refine V_eq (st2 := [.int (iI (S.1 9 q + 1)), .int (iI (S.1 9 q + 1))]) (by rw [hans] <;> rfl) ?_
          refine V_sameN (tgt := 154) C dL_isRange_147 (by decide) rfl ?_
          refine V_iconst (pc' := 151) C dL_isRange_150 rfl ?_
          refine V_goto (tgt := 155) C dL_isRange_151 (by decide) ?_
          exact V_endz (z := 1) C hr hlk (nar_z true) (fun h' hh => LO_mk hh hp2 hi2 (by omega) (by omega) (by rw [upZ_n (by omega), upZ_n (by omega), upZ_n (by omega), upZ_n (by omega), upZ_n (by omega)]; omega) hk (by rw [hT]; exact hR2) (by rw [hT]; rfl)) ⟨by omega, by omega⟩ dL_isRange_155
        · have hg : isRangeB c r c2 r2 = true := by simp [isRangeB]; omega
          have hT : grantX S q c r c2 r2 = (0, uG S 31 3) := (if_neg hno).trans ((if_neg (by rw [hg]; decide)).trans (if_pos (by omega)))
          have hans : ansL (grantX S q c r c2 r2) = -900003 := by rw [hT]; exact ansL_k (k := 3) (uG_s _ _ _) (by decide)
          refine V_aload0 (pc' := 42) C dL_isRange_41 rfl ?_
          refine V_iload2 (pc' := 43) C dL_isRange_42 rfl ?_
          refine V_iload3 (pc' := 44) C dL_isRange_43 rfl ?_
          refine V_iload4 (pc' := 46) C dL_isRange_44 rfl ?_
          refine V_iload5 (pc' := 48) C dL_isRange_46 rfl ?_
          refine V_iload6 (pc' := 50) C dL_isRange_48 rfl ?_
          refine V_callSW (n := 6) [.ref (P 1), .int (iI q), .int (iI c), .int (iI r), .int (iI c2), .int (iI r2)] C hM gL_isRange_L_grant rfl ydL_grant ⟨Nat.le_of_ble_eq_true rfl, Nat.le_of_ble_eq_true rfl⟩ ⟨rfl, rfl⟩ rfl (fun h hh => hh.1) rfl (Nat.le_of_ble_eq_true rfl) dL_isRange_50 ⟨by dsimp only; omega, by dsimp only; omega⟩ (fun h v h' hh hj9 => ?_)
          obtain ⟨rfl, ⟨P2, X2, hc2, hp2, hi2, hx2⟩, hF2⟩ := hj9
          refine V_weak (I2 := WD cB cI cO ee na nb P2 ((grantX S q c r c2 r2).2) X2 f g) (fun x hx => by rw [hx]; exact hh.k hF2 hc2) ?_
          refine V_iload7 (pc' := 55) C dL_isRange_53 rfl ?_
          refine V_ifeq (tgt := 63) C (by decide) dL_isRange_55 (by decide) rfl (fun c_55 => ?_) (fun c_55 => ?_)
          · exact absurd c_55 (by decide)
          · refine V_ldc (pc' := 60) (n := (-900003)) (v := (-900003)) C (by decide +kernel) dL_isRange_58 rfl (by decide) ?_
            refine V_goto (tgt := 65) C dL_isRange_60 (by decide) ?_
            refine V_eq (st2 := [.int (iI ((-900003))), .int (iI ((-900003)))]) (by rw [hans] <;> rfl) ?_
            refine V_sameN (tgt := 72) C dL_isRange_65 (by decide) rfl ?_
            refine V_iconst (pc' := 69) C dL_isRange_68 rfl ?_
            refine V_goto (tgt := 73) C dL_isRange_69 (by decide) ?_
            exact V_endz (z := 1) C hr hlk (nar_z true) (fun h' hh => LO_mk hh hp2 hi2 (by omega) (by omega) (by omega) hk (by rw [hT]; exact hnr) (by rw [hT]; rfl)) ⟨by omega, by omega⟩ dL_isRange_73
set_option maxHeartbeats 8000000 in
set_option maxRecDepth 100000 in
theorem kO_isRule {q t c r c2 r2 : Int} (hq : 0 ≤ q ∧ q < S.2 22) (ht9 : 0 ≤ t ∧ t ≤ 9) (hc9 : 0 ≤ c ∧ c < 6) (hr9 : 0 ≤ r ∧ r < 8) (hd9 : 0 ≤ c2 ∧ c2 < 6) (he9 : 0 ≤ r2 ∧ r2 < 8) (hst : l.stackTraces = false) (hW : WS k S X f g) (hk : k ≤ 57) : OKf l D cB cC cI cO cJ cD ee yL_isRule wsL_isRule [.ref na, .int (iI q), .int (iI t), .int (iI c), .int (iI r), .int (iI c2), .int (iI r2)] na nb P S X f g k := by
  obtain ⟨hIv, hnr, h55, hk9, h31, hlx⟩ := hW
  have h0s : uG S 31 0 = S := by rw [← h31]; exact uG_id S 31
  have hwp := hIv.1.1.1
  have hmw := hIv.1.1
  have w5 := hwp.2.2.2.2.1
  obtain ⟨n50, n51, n52, n53, n54, n56, n57⟩ := id hnr.2.2.2.2.1
  obtain ⟨ms9, len9, h8, h9, hM⟩ := KL_addRule (D := D) (cB := cB) (cC := cC) (cI := cI) (cO := cO) (cJ := cJ) (cD := cD) (ee := ee) (P := P) hIv hst (c := c) (r := r) (c2 := c2) (r2 := r2) (m := q) (k := t) ⟨by omega, by omega⟩ ⟨by omega, by omega⟩ ⟨by omega, by omega⟩ ⟨by omega, by omega⟩ ⟨by omega, by omega⟩ ⟨by omega, by omega⟩
  have hlb := len_b hIv (by omega) hlx h9
  unfold OKf
  refine Ct_of (cc := cL_isRule) (own := RL) [some (.ref (P 1)), some (.ref na), some (.int (iI q)), some (.int (iI t)), some (.int (iI c)), some (.int (iI r)), some (.int (iI c2)), some (.int (iI r2)), none, none] (by decide) rfl rfl (Nat.le_of_ble_eq_true rfl) (fun i9 v9 h9 => argL [.ref (P 1), .ref na, .int (iI q), .int (iI t), .int (iI c), .int (iI r), .int (iI c2), .int (iI r2)] 2 rfl i9 v9 h9) ?_
  intro p e s m9 args below meth c9 h0 sz hI C hr hlk hinit
  refine V_weak (I2 := WD cB cI cO ee na nb P S X f g) (fun x hx => by rw [hx]; exact hI) ?_
  have hq9 : isMacB S q = true := isMac_t.mpr ⟨by omega, by omega⟩
  have hcl := cell_t hc9 hr9
  have hcl2 := cell_t hd9 he9
  have hno : ¬ (isCellB c r = false ∨ isCellB c2 r2 = false ∨ isMacB S q = false) := by rw [hq9, hcl, hcl2]; decide
  have htk : isInB t 0 9 = true := by simp [isInB]; omega
  refine V_iload4 (pc' := 2) C dL_isRule_0 rfl ?_
  refine V_iload6 (pc' := 4) C dL_isRule_2 rfl ?_
  refine V_icmpgt (tgt := 18) C ⟨by omega, by omega⟩ dL_isRule_4 (by decide) rfl (fun c_4 => ?_) (fun c_4 => ?_)
  · refine V_iconst (pc' := 19) C dL_isRule_18 rfl ?_
    refine V_istore8 (pc' := 21) C dL_isRule_19 rfl (by decide) rfl ?_
    refine V_iload8 (pc' := 23) C dL_isRule_21 rfl ?_
    refine V_ifeq (tgt := 35) C (by decide) dL_isRule_23 (by decide) rfl (fun c_23 => ?_) (fun c_23 => ?_)
    · have hg : isRangeB c r c2 r2 = false := by simp [isRangeB]; omega
      have hT : addRuleX S c r c2 r2 q t = (0, uG S 31 2) := (if_neg hno).trans (if_pos (Or.inl hg))
      have hans : ansL (addRuleX S c r c2 r2 q t) = -900002 := by rw [hT]; exact ansL_k (k := 2) (uG_s _ _ _) (by decide)
      refine V_aload0 (pc' := 36) C dL_isRule_35 rfl ?_
      refine V_iload4 (pc' := 38) C dL_isRule_36 rfl ?_
      refine V_iload5 (pc' := 40) C dL_isRule_38 rfl ?_
      refine V_iload6 (pc' := 42) C dL_isRule_40 rfl ?_
      refine V_iload7 (pc' := 44) C dL_isRule_42 rfl ?_
      refine V_iload2 (pc' := 45) C dL_isRule_44 rfl ?_
      refine V_iload3 (pc' := 46) C dL_isRule_45 rfl ?_
      refine V_callSW (n := 7) [.ref (P 1), .int (iI c), .int (iI r), .int (iI c2), .int (iI r2), .int (iI q), .int (iI t)] C hM gL_isRule_L_addRule rfl ydL_addRule ⟨Nat.le_of_ble_eq_true rfl, Nat.le_of_ble_eq_true rfl⟩ ⟨rfl, rfl⟩ rfl (fun h hh => hh.1) rfl (Nat.le_of_ble_eq_true rfl) dL_isRule_46 ⟨by dsimp only; omega, by dsimp only; omega⟩ (fun h v h' hh hj9 => ?_)
      obtain ⟨rfl, ⟨P2, X2, hc2, hp2, hi2, hx2⟩, hF2⟩ := hj9
      refine V_weak (I2 := WD cB cI cO ee na nb P2 ((addRuleX S c r c2 r2 q t).2) X2 f g) (fun x hx => by rw [hx]; exact hh.k hF2 hc2) ?_
      refine V_iload8 (pc' := 51) C dL_isRule_49 rfl ?_
      refine V_ifeq (tgt := 59) C (by decide) dL_isRule_51 (by decide) rfl (fun c_51 => ?_) (fun c_51 => ?_)
      · refine V_ldc (pc' := 61) (n := (-900002)) (v := (-900002)) C (by decide +kernel) dL_isRule_59 rfl (by decide) ?_
        refine V_eq (st2 := [.int (iI ((-900002))), .int (iI ((-900002)))]) (by rw [hans] <;> rfl) ?_
        refine V_sameN (tgt := 68) C dL_isRule_61 (by decide) rfl ?_
        refine V_iconst (pc' := 65) C dL_isRule_64 rfl ?_
        refine V_goto (tgt := 69) C dL_isRule_65 (by decide) ?_
        exact V_endz (z := 1) C hr hlk (nar_z true) (fun h' hh => LO_mk hh hp2 hi2 (by omega) (by omega) (by omega) hk (by rw [hT]; exact hnr) (by rw [hT]; rfl)) ⟨by omega, by omega⟩ dL_isRule_69
      · exact absurd c_51 (by decide)
    · exact absurd c_23 (by decide)
  · refine V_iload5 (pc' := 9) C dL_isRule_7 rfl ?_
    refine V_iload7 (pc' := 11) C dL_isRule_9 rfl ?_
    refine V_icmpgt (tgt := 18) C ⟨by omega, by omega⟩ dL_isRule_11 (by decide) rfl (fun c_11 => ?_) (fun c_11 => ?_)
    · refine V_iconst (pc' := 19) C dL_isRule_18 rfl ?_
      refine V_istore8 (pc' := 21) C dL_isRule_19 rfl (by decide) rfl ?_
      refine V_iload8 (pc' := 23) C dL_isRule_21 rfl ?_
      refine V_ifeq (tgt := 35) C (by decide) dL_isRule_23 (by decide) rfl (fun c_23 => ?_) (fun c_23 => ?_)
      · have hg : isRangeB c r c2 r2 = false := by simp [isRangeB]; omega
        have hT : addRuleX S c r c2 r2 q t = (0, uG S 31 2) := (if_neg hno).trans (if_pos (Or.inl hg))
        have hans : ansL (addRuleX S c r c2 r2 q t) = -900002 := by rw [hT]; exact ansL_k (k := 2) (uG_s _ _ _) (by decide)
        refine V_aload0 (pc' := 36) C dL_isRule_35 rfl ?_
        refine V_iload4 (pc' := 38) C dL_isRule_36 rfl ?_
        refine V_iload5 (pc' := 40) C dL_isRule_38 rfl ?_
        refine V_iload6 (pc' := 42) C dL_isRule_40 rfl ?_
        refine V_iload7 (pc' := 44) C dL_isRule_42 rfl ?_
        refine V_iload2 (pc' := 45) C dL_isRule_44 rfl ?_
        refine V_iload3 (pc' := 46) C dL_isRule_45 rfl ?_
        refine V_callSW (n := 7) [.ref (P 1), .int (iI c), .int (iI r), .int (iI c2), .int (iI r2), .int (iI q), .int (iI t)] C hM gL_isRule_L_addRule rfl ydL_addRule ⟨Nat.le_of_ble_eq_true rfl, Nat.le_of_ble_eq_true rfl⟩ ⟨rfl, rfl⟩ rfl (fun h hh => hh.1) rfl (Nat.le_of_ble_eq_true rfl) dL_isRule_46 ⟨by dsimp only; omega, by dsimp only; omega⟩ (fun h v h' hh hj9 => ?_)
        obtain ⟨rfl, ⟨P2, X2, hc2, hp2, hi2, hx2⟩, hF2⟩ := hj9
        refine V_weak (I2 := WD cB cI cO ee na nb P2 ((addRuleX S c r c2 r2 q t).2) X2 f g) (fun x hx => by rw [hx]; exact hh.k hF2 hc2) ?_
        refine V_iload8 (pc' := 51) C dL_isRule_49 rfl ?_
        refine V_ifeq (tgt := 59) C (by decide) dL_isRule_51 (by decide) rfl (fun c_51 => ?_) (fun c_51 => ?_)
        · refine V_ldc (pc' := 61) (n := (-900002)) (v := (-900002)) C (by decide +kernel) dL_isRule_59 rfl (by decide) ?_
          refine V_eq (st2 := [.int (iI ((-900002))), .int (iI ((-900002)))]) (by rw [hans] <;> rfl) ?_
          refine V_sameN (tgt := 68) C dL_isRule_61 (by decide) rfl ?_
          refine V_iconst (pc' := 65) C dL_isRule_64 rfl ?_
          refine V_goto (tgt := 69) C dL_isRule_65 (by decide) ?_
          exact V_endz (z := 1) C hr hlk (nar_z true) (fun h' hh => LO_mk hh hp2 hi2 (by omega) (by omega) (by omega) hk (by rw [hT]; exact hnr) (by rw [hT]; rfl)) ⟨by omega, by omega⟩ dL_isRule_69
        · exact absurd c_51 (by decide)
      · exact absurd c_23 (by decide)
    · refine V_iconst (pc' := 15) C dL_isRule_14 rfl ?_
      refine V_goto (tgt := 19) C dL_isRule_15 (by decide) ?_
      refine V_istore8 (pc' := 21) C dL_isRule_19 rfl (by decide) rfl ?_
      refine V_iload8 (pc' := 23) C dL_isRule_21 rfl ?_
      refine V_ifeq (tgt := 35) C (by decide) dL_isRule_23 (by decide) rfl (fun c_23 => ?_) (fun c_23 => ?_)
      · exact absurd c_23 (by decide)
      · refine V_aload1 (pc' := 27) C dL_isRule_26 rfl ?_
        refine V_bipush (pc' := 29) C dL_isRule_27 rfl (by decide) ?_
        refine V_ialdE (pc' := 30) (n := 540) (f := f) (v := S.2 23) C 2 rfl (fun h hh => ⟨901, hh.2.1⟩) ⟨by omega, by omega, by omega⟩ (n51) dL_isRule_29 rfl ?_
        refine V_bipush (pc' := 32) C dL_isRule_30 rfl (by decide) ?_
        refine V_icmpne (tgt := 70) C ⟨by omega, by decide⟩ dL_isRule_32 (by decide) rfl (fun c_32 => ?_) (fun c_32 => ?_)
        · have hg : isRangeB c r c2 r2 = true := by simp [isRangeB]; omega
          have hg2 : ¬ (isRangeB c r c2 r2 = false ∨ isInB t 0 9 = false) := by rw [hg, htk]; decide
          have hT : addRuleX S c r c2 r2 q t = (S.2 23, uG (uA (uA (uA (uA S 12 (S.2 23) (6 * r + c)) 13 (S.2 23) (6 * r2 + c2)) 14 (S.2 23) q) 15 (S.2 23) t) 23 (S.2 23 + 1)) := by
            rw [show addRuleX S c r c2 r2 q t = _ from (if_neg hno).trans ((if_neg hg2).trans (if_neg (by omega))), h0s]
            rfl
          have hans : ansL (addRuleX S c r c2 r2 q t) = S.2 23 := by rw [hT]; exact ansL_0 h31
          have hR2 := hnr.rule (m := q) (k := t) (c := c) (r := r) (c2 := c2) (r2 := r2) hwp (by omega) (by omega) (by omega) hc9 hr9 hd9 he9
          refine V_sipush (pc' := 73) C dL_isRule_70 rfl (by decide) ?_
          refine V_bipush (pc' := 75) C dL_isRule_73 rfl (by decide) ?_
          refine V_aload1 (pc' := 76) C dL_isRule_75 rfl ?_
          refine V_bipush (pc' := 78) C dL_isRule_76 rfl (by decide) ?_
          refine V_ialdE (pc' := 79) (n := 540) (f := f) (v := S.2 23) C 2 rfl (fun h hh => ⟨901, hh.2.1⟩) ⟨by omega, by omega, by omega⟩ (n51) dL_isRule_78 rfl ?_
          refine V_imul (pc' := 80) C dL_isRule_79 rfl ?_
          refine V_iadd (pc' := 81) C dL_isRule_80 rfl ?_
          refine V_istore9 (pc' := 83) C dL_isRule_81 rfl (by decide) rfl ?_
          refine V_aload1 (pc' := 84) C dL_isRule_83 rfl ?_
          refine V_iload9 (pc' := 86) C dL_isRule_84 rfl ?_
          refine V_iload4 (pc' := 88) C dL_isRule_86 rfl ?_
          refine V_iast (pc' := 89) (n := 540) (f := f) (I2 := WD cB cI cO ee na nb P S X (upZ f (420 + (6 * (S.2 23))) c) g) C 2 rfl (fun h hh => ⟨901, hh.2.1, hh.a hIv⟩) ⟨by omega, by omega, by omega⟩ dL_isRule_88 rfl ?_
          refine V_aload1 (pc' := 90) C dL_isRule_89 rfl ?_
          refine V_iload9 (pc' := 92) C dL_isRule_90 rfl ?_
          refine V_iconst (pc' := 93) C dL_isRule_92 rfl ?_
          refine V_iadd (pc' := 94) C dL_isRule_93 rfl ?_
          refine V_iload5 (pc' := 96) C dL_isRule_94 rfl ?_
          refine V_iast (pc' := 97) (n := 540) (f := upZ f (420 + (6 * (S.2 23))) c) (I2 := WD cB cI cO ee na nb P S X (upZ (upZ f (420 + (6 * (S.2 23))) c) ((420 + (6 * (S.2 23))) + 1) r) g) C 2 rfl (fun h hh => ⟨901, hh.2.1, hh.a hIv⟩) ⟨by omega, by omega, by omega⟩ dL_isRule_96 rfl ?_
          refine V_aload1 (pc' := 98) C dL_isRule_97 rfl ?_
          refine V_iload9 (pc' := 100) C dL_isRule_98 rfl ?_
          refine V_iconst (pc' := 101) C dL_isRule_100 rfl ?_
          refine V_iadd (pc' := 102) C dL_isRule_101 rfl ?_
          refine V_iload6 (pc' := 104) C dL_isRule_102 rfl ?_
          refine V_iast (pc' := 105) (n := 540) (f := upZ (upZ f (420 + (6 * (S.2 23))) c) ((420 + (6 * (S.2 23))) + 1) r) (I2 := WD cB cI cO ee na nb P S X (upZ (upZ (upZ f (420 + (6 * (S.2 23))) c) ((420 + (6 * (S.2 23))) + 1) r) ((420 + (6 * (S.2 23))) + 2) c2) g) C 2 rfl (fun h hh => ⟨901, hh.2.1, hh.a hIv⟩) ⟨by omega, by omega, by omega⟩ dL_isRule_104 rfl ?_
          refine V_aload1 (pc' := 106) C dL_isRule_105 rfl ?_
          refine V_iload9 (pc' := 108) C dL_isRule_106 rfl ?_
          refine V_iconst (pc' := 109) C dL_isRule_108 rfl ?_
          refine V_iadd (pc' := 110) C dL_isRule_109 rfl ?_
          refine V_iload7 (pc' := 112) C dL_isRule_110 rfl ?_
          refine V_iast (pc' := 113) (n := 540) (f := upZ (upZ (upZ f (420 + (6 * (S.2 23))) c) ((420 + (6 * (S.2 23))) + 1) r) ((420 + (6 * (S.2 23))) + 2) c2) (I2 := WD cB cI cO ee na nb P S X (upZ (upZ (upZ (upZ f (420 + (6 * (S.2 23))) c) ((420 + (6 * (S.2 23))) + 1) r) ((420 + (6 * (S.2 23))) + 2) c2) ((420 + (6 * (S.2 23))) + 3) r2) g) C 2 rfl (fun h hh => ⟨901, hh.2.1, hh.a hIv⟩) ⟨by omega, by omega, by omega⟩ dL_isRule_112 rfl ?_
          refine V_aload1 (pc' := 114) C dL_isRule_113 rfl ?_
          refine V_iload9 (pc' := 116) C dL_isRule_114 rfl ?_
          refine V_iconst (pc' := 117) C dL_isRule_116 rfl ?_
          refine V_iadd (pc' := 118) C dL_isRule_117 rfl ?_
          refine V_iload2 (pc' := 119) C dL_isRule_118 rfl ?_
          refine V_iast (pc' := 120) (n := 540) (f := upZ (upZ (upZ (upZ f (420 + (6 * (S.2 23))) c) ((420 + (6 * (S.2 23))) + 1) r) ((420 + (6 * (S.2 23))) + 2) c2) ((420 + (6 * (S.2 23))) + 3) r2) (I2 := WD cB cI cO ee na nb P S X (upZ (upZ (upZ (upZ (upZ f (420 + (6 * (S.2 23))) c) ((420 + (6 * (S.2 23))) + 1) r) ((420 + (6 * (S.2 23))) + 2) c2) ((420 + (6 * (S.2 23))) + 3) r2) ((420 + (6 * (S.2 23))) + 4) q) g) C 2 rfl (fun h hh => ⟨901, hh.2.1, hh.a hIv⟩) ⟨by omega, by omega, by omega⟩ dL_isRule_119 rfl ?_
          refine V_aload1 (pc' := 121) C dL_isRule_120 rfl ?_
          refine V_iload9 (pc' := 123) C dL_isRule_121 rfl ?_
          refine V_iconst (pc' := 124) C dL_isRule_123 rfl ?_
          refine V_iadd (pc' := 125) C dL_isRule_124 rfl ?_
          refine V_iload3 (pc' := 126) C dL_isRule_125 rfl ?_
          refine V_iast (pc' := 127) (n := 540) (f := upZ (upZ (upZ (upZ (upZ f (420 + (6 * (S.2 23))) c) ((420 + (6 * (S.2 23))) + 1) r) ((420 + (6 * (S.2 23))) + 2) c2) ((420 + (6 * (S.2 23))) + 3) r2) ((420 + (6 * (S.2 23))) + 4) q) (I2 := WD cB cI cO ee na nb P S X (upZ (upZ (upZ (upZ (upZ (upZ f (420 + (6 * (S.2 23))) c) ((420 + (6 * (S.2 23))) + 1) r) ((420 + (6 * (S.2 23))) + 2) c2) ((420 + (6 * (S.2 23))) + 3) r2) ((420 + (6 * (S.2 23))) + 4) q) ((420 + (6 * (S.2 23))) + 5) t) g) C 2 rfl (fun h hh => ⟨901, hh.2.1, hh.a hIv⟩) ⟨by omega, by omega, by omega⟩ dL_isRule_126 rfl ?_
          refine V_aload1 (pc' := 128) C dL_isRule_127 rfl ?_
          refine V_bipush (pc' := 130) C dL_isRule_128 rfl (by decide) ?_
          refine V_dup2 (pc' := 131) C rfl rfl dL_isRule_130 rfl ?_
          refine V_ialdE (pc' := 132) (n := 540) (f := upZ (upZ (upZ (upZ (upZ (upZ f (420 + (6 * (S.2 23))) c) ((420 + (6 * (S.2 23))) + 1) r) ((420 + (6 * (S.2 23))) + 2) c2) ((420 + (6 * (S.2 23))) + 3) r2) ((420 + (6 * (S.2 23))) + 4) q) ((420 + (6 * (S.2 23))) + 5) t) (v := S.2 23) C 2 rfl (fun h hh => ⟨901, hh.2.1⟩) ⟨by omega, by omega, by omega⟩ (by rw [upZ_n (by omega), upZ_n (by omega), upZ_n (by omega), upZ_n (by omega), upZ_n (by omega), upZ_n (by omega)]; exact n51) dL_isRule_131 rfl ?_
          refine V_iconst (pc' := 133) C dL_isRule_132 rfl ?_
          refine V_iadd (pc' := 134) C dL_isRule_133 rfl ?_
          refine V_iast (pc' := 135) (n := 540) (f := upZ (upZ (upZ (upZ (upZ (upZ f (420 + (6 * (S.2 23))) c) ((420 + (6 * (S.2 23))) + 1) r) ((420 + (6 * (S.2 23))) + 2) c2) ((420 + (6 * (S.2 23))) + 3) r2) ((420 + (6 * (S.2 23))) + 4) q) ((420 + (6 * (S.2 23))) + 5) t) (I2 := WD cB cI cO ee na nb P S X (upZ (upZ (upZ (upZ (upZ (upZ (upZ f (420 + (6 * (S.2 23))) c) ((420 + (6 * (S.2 23))) + 1) r) ((420 + (6 * (S.2 23))) + 2) c2) ((420 + (6 * (S.2 23))) + 3) r2) ((420 + (6 * (S.2 23))) + 4) q) ((420 + (6 * (S.2 23))) + 5) t) 51 ((S.2 23) + 1)) g) C 2 rfl (fun h hh => ⟨901, hh.2.1, hh.a hIv⟩) ⟨by omega, by omega, by omega⟩ dL_isRule_134 rfl ?_
          refine V_aload0 (pc' := 136) C dL_isRule_135 rfl ?_
          refine V_iload4 (pc' := 138) C dL_isRule_136 rfl ?_
          refine V_iload5 (pc' := 140) C dL_isRule_138 rfl ?_
          refine V_iload6 (pc' := 142) C dL_isRule_140 rfl ?_
          refine V_iload7 (pc' := 144) C dL_isRule_142 rfl ?_
          refine V_iload2 (pc' := 145) C dL_isRule_144 rfl ?_
          refine V_iload3 (pc' := 146) C dL_isRule_145 rfl ?_
          refine V_callSW (n := 7) [.ref (P 1), .int (iI c), .int (iI r), .int (iI c2), .int (iI r2), .int (iI q), .int (iI t)] C hM gL_isRule_L_addRule rfl ydL_addRule ⟨Nat.le_of_ble_eq_true rfl, Nat.le_of_ble_eq_true rfl⟩ ⟨rfl, rfl⟩ rfl (fun h hh => hh.1) rfl (Nat.le_of_ble_eq_true rfl) dL_isRule_146 ⟨by dsimp only; omega, by dsimp only; omega⟩ (fun h v h' hh hj9 => ?_)
          obtain ⟨rfl, ⟨P2, X2, hc2, hp2, hi2, hx2⟩, hF2⟩ := hj9
          refine V_weak (I2 := WD cB cI cO ee na nb P2 ((addRuleX S c r c2 r2 q t).2) X2 (upZ (upZ (upZ (upZ (upZ (upZ (upZ f (420 + (6 * (S.2 23))) c) ((420 + (6 * (S.2 23))) + 1) r) ((420 + (6 * (S.2 23))) + 2) c2) ((420 + (6 * (S.2 23))) + 3) r2) ((420 + (6 * (S.2 23))) + 4) q) ((420 + (6 * (S.2 23))) + 5) t) 51 ((S.2 23) + 1)) g) (fun x hx => by rw [hx]; exact hh.k hF2 hc2) ?_
          refine V_aload1 (pc' := 150) C dL_isRule_149 rfl ?_
          refine V_bipush (pc' := 152) C dL_isRule_150 rfl (by decide) ?_
          refine V_ialdE (pc' := 153) (n := 540) (f := upZ (upZ (upZ (upZ (upZ (upZ (upZ f (420 + (6 * (S.2 23))) c) ((420 + (6 * (S.2 23))) + 1) r) ((420 + (6 * (S.2 23))) + 2) c2) ((420 + (6 * (S.2 23))) + 3) r2) ((420 + (6 * (S.2 23))) + 4) q) ((420 + (6 * (S.2 23))) + 5) t) 51 ((S.2 23) + 1)) (v := (S.2 23 + 1)) C 2 rfl (fun h hh => ⟨901, hh.2.1⟩) ⟨by omega, by omega, by omega⟩ (upZ_s) dL_isRule_152 rfl ?_
          refine V_iconst (pc' := 154) C dL_isRule_153 rfl ?_
          refine V_isubE (pc' := 155) (v := S.2 23) C (by omega) dL_isRule_154 rfl ?_
          refine V_eq (st2 := [.int (iI (S.2 23)), .int (iI (S.2 23))]) (by rw [hans] <;> rfl) ?_
          refine V_sameN (tgt := 162) C dL_isRule_155 (by decide) rfl ?_
          refine V_iconst (pc' := 159) C dL_isRule_158 rfl ?_
          refine V_goto (tgt := 163) C dL_isRule_159 (by decide) ?_
          exact V_endz (z := 1) C hr hlk (nar_z true) (fun h' hh => LO_mk hh hp2 hi2 (by omega) (by omega) (by rw [upZ_n (by omega), upZ_n (by omega), upZ_n (by omega), upZ_n (by omega), upZ_n (by omega), upZ_n (by omega), upZ_n (by omega)]; omega) hk (by rw [hT]; exact hR2) (by rw [hT]; rfl)) ⟨by omega, by omega⟩ dL_isRule_163
        · have hg : isRangeB c r c2 r2 = true := by simp [isRangeB]; omega
          have hg2 : ¬ (isRangeB c r c2 r2 = false ∨ isInB t 0 9 = false) := by rw [hg, htk]; decide
          have hT : addRuleX S c r c2 r2 q t = (0, uG S 31 3) := (if_neg hno).trans ((if_neg hg2).trans (if_pos (by omega)))
          have hans : ansL (addRuleX S c r c2 r2 q t) = -900003 := by rw [hT]; exact ansL_k (k := 3) (uG_s _ _ _) (by decide)
          refine V_aload0 (pc' := 36) C dL_isRule_35 rfl ?_
          refine V_iload4 (pc' := 38) C dL_isRule_36 rfl ?_
          refine V_iload5 (pc' := 40) C dL_isRule_38 rfl ?_
          refine V_iload6 (pc' := 42) C dL_isRule_40 rfl ?_
          refine V_iload7 (pc' := 44) C dL_isRule_42 rfl ?_
          refine V_iload2 (pc' := 45) C dL_isRule_44 rfl ?_
          refine V_iload3 (pc' := 46) C dL_isRule_45 rfl ?_
          refine V_callSW (n := 7) [.ref (P 1), .int (iI c), .int (iI r), .int (iI c2), .int (iI r2), .int (iI q), .int (iI t)] C hM gL_isRule_L_addRule rfl ydL_addRule ⟨Nat.le_of_ble_eq_true rfl, Nat.le_of_ble_eq_true rfl⟩ ⟨rfl, rfl⟩ rfl (fun h hh => hh.1) rfl (Nat.le_of_ble_eq_true rfl) dL_isRule_46 ⟨by dsimp only; omega, by dsimp only; omega⟩ (fun h v h' hh hj9 => ?_)
          obtain ⟨rfl, ⟨P2, X2, hc2, hp2, hi2, hx2⟩, hF2⟩ := hj9
          refine V_weak (I2 := WD cB cI cO ee na nb P2 ((addRuleX S c r c2 r2 q t).2) X2 f g) (fun x hx => by rw [hx]; exact hh.k hF2 hc2) ?_
          refine V_iload8 (pc' := 51) C dL_isRule_49 rfl ?_
          refine V_ifeq (tgt := 59) C (by decide) dL_isRule_51 (by decide) rfl (fun c_51 => ?_) (fun c_51 => ?_)
          · exact absurd c_51 (by decide)
          · refine V_ldc (pc' := 56) (n := (-900003)) (v := (-900003)) C (by decide +kernel) dL_isRule_54 rfl (by decide) ?_
            refine V_goto (tgt := 61) C dL_isRule_56 (by decide) ?_
            refine V_eq (st2 := [.int (iI ((-900003))), .int (iI ((-900003)))]) (by rw [hans] <;> rfl) ?_
            refine V_sameN (tgt := 68) C dL_isRule_61 (by decide) rfl ?_
            refine V_iconst (pc' := 65) C dL_isRule_64 rfl ?_
            refine V_goto (tgt := 69) C dL_isRule_65 (by decide) ?_
            exact V_endz (z := 1) C hr hlk (nar_z true) (fun h' hh => LO_mk hh hp2 hi2 (by omega) (by omega) (by omega) hk (by rw [hT]; exact hnr) (by rw [hT]; rfl)) ⟨by omega, by omega⟩ dL_isRule_69
set_option maxHeartbeats 8000000 in
set_option maxRecDepth 100000 in
theorem kO_isRecorded {q c r : Int} (hq : 0 ≤ q ∧ q < S.2 22) (hc9 : 0 ≤ c ∧ c < 6) (hr9 : 0 ≤ r ∧ r < 8) (hst : l.stackTraces = false) (hW : WS k S X f g) (hk : k ≤ 57) : OKf l D cB cC cI cO cJ cD ee yL_isRecorded wsL_isRecorded [.ref na, .int (iI q), .int (iI c), .int (iI r)] na nb P S X f g k := by
  obtain ⟨hIv, hnr, h55, hk9, h31, hlx⟩ := hW
  have h0s : uG S 31 0 = S := by rw [← h31]; exact uG_id S 31
  have hwp := hIv.1.1.1
  have hmw := hIv.1.1
  have w5 := hwp.2.2.2.2.1
  obtain ⟨n50, n51, n52, n53, n54, n56, n57⟩ := id hnr.2.2.2.2.1
  obtain ⟨ms9, len9, h8, h9, hM⟩ := KL_record (D := D) (cB := cB) (cC := cC) (cI := cI) (cO := cO) (cJ := cJ) (cD := cD) (ee := ee) (P := P) hIv hst (m := q) (c := c) (r := r) ⟨by omega, by omega⟩ ⟨by omega, by omega⟩ ⟨by omega, by omega⟩
  have hlb := len_b hIv (by omega) hlx h9
  unfold OKf
  refine Ct_of (cc := cL_isRecorded) (own := RL) [some (.ref (P 1)), some (.ref na), some (.int (iI q)), some (.int (iI c)), some (.int (iI r)), none] (by decide) rfl rfl (Nat.le_of_ble_eq_true rfl) (fun i9 v9 h9 => argL [.ref (P 1), .ref na, .int (iI q), .int (iI c), .int (iI r)] 1 rfl i9 v9 h9) ?_
  intro p e s m9 args below meth c9 h0 sz hI C hr hlk hinit
  refine V_weak (I2 := WD cB cI cO ee na nb P S X f g) (fun x hx => by rw [hx]; exact hI) ?_
  have hq9 : isMacB S q = true := isMac_t.mpr ⟨by omega, by omega⟩
  have hcl := cell_t hc9 hr9
  have w9q := hwp.2.1 q (by omega) (by omega)
  obtain ⟨h1m, h2m, h3m, h4m⟩ := hnr.2.2.1 q (by omega) (by omega)
  have hno : ¬ (isMacB S q = false ∨ isCellB c r = false) := by rw [hq9, hcl]; decide
  refine V_aload1 (pc' := 1) C dL_isRecorded_0 rfl ?_
  refine V_bipush (pc' := 3) C dL_isRecorded_1 rfl (by decide) ?_
  refine V_ialdE (pc' := 4) (n := 540) (f := f) (v := (S.2 27 + 1)) C 2 rfl (fun h hh => ⟨901, hh.2.1⟩) ⟨by omega, by omega, by omega⟩ (n52) dL_isRecorded_3 rfl ?_
  refine V_ifle (tgt := 26) C (by omega) dL_isRecorded_4 (by decide) rfl (fun c_4 => ?_) (fun c_4 => ?_)
  · have hT : recordX S q c r = (S.1 4 q, uG (uG (uA S 4 q 0) 27 q) 28 (6 * r + c)) := by
      rw [show recordX S q c r = _ from (if_neg hno).trans (if_neg (by omega)), h0s]
      rfl
    have hans : ansL (recordX S q c r) = S.1 4 q := by rw [hT]; exact ansL_0 h31
    have hR2 := ((hnr.drop (m := q) hwp (by omega)).s27 (w := q) (v := q + 1) (WFp_4 hwp) rfl (by omega)).s28 (x := 6 * r + c) (v := 8 * c + r) (WFp_27m (WFp_4 hwp) ⟨by omega, by omega⟩) ⟨by omega, by omega⟩ (by omega)
    refine V_aload1 (pc' := 27) C dL_isRecorded_26 rfl ?_
    refine V_iload2 (pc' := 28) C dL_isRecorded_27 rfl ?_
    refine V_callS (n := 1) [.int (iI q)] C (kL_macroAt (q := q)) gL_isRecorded_L_macroAt rfl ydL_macroAt ⟨Nat.le_of_ble_eq_true rfl, Nat.le_of_ble_eq_true rfl⟩ ⟨rfl, rfl⟩ rfl (fun h hh => trivial) rfl (Nat.le_of_ble_eq_true rfl) dL_isRecorded_28 ⟨by dsimp only; omega, by dsimp only; omega⟩ (fun h v h' hh hj9 => ?_)
    obtain ⟨r9, rfl, rfl, rfl⟩ := hj9
    refine V_weak (I2 := WD cB cI cO ee na nb P S X f g) (fun x hx => by rw [hx]; exact hh) ?_
    refine V_ialdE (pc' := 32) (n := 540) (f := f) (v := S.1 4 q) C 2 rfl (fun h hh => ⟨901, hh.2.1⟩) ⟨by omega, by omega, by omega⟩ (h1m) dL_isRecorded_31 rfl ?_
    refine V_istore5 (pc' := 34) C dL_isRecorded_32 rfl (by decide) rfl ?_
    refine V_aload1 (pc' := 35) C dL_isRecorded_34 rfl ?_
    refine V_iload2 (pc' := 36) C dL_isRecorded_35 rfl ?_
    refine V_callS (n := 1) [.int (iI q)] C (kL_macroAt (q := q)) gL_isRecorded_L_macroAt rfl ydL_macroAt ⟨Nat.le_of_ble_eq_true rfl, Nat.le_of_ble_eq_true rfl⟩ ⟨rfl, rfl⟩ rfl (fun h hh => trivial) rfl (Nat.le_of_ble_eq_true rfl) dL_isRecorded_36 ⟨by dsimp only; omega, by dsimp only; omega⟩ (fun h v h' hh hj9 => ?_)
    obtain ⟨r9, rfl, rfl, rfl⟩ := hj9
    refine V_weak (I2 := WD cB cI cO ee na nb P S X f g) (fun x hx => by rw [hx]; exact hh) ?_
    refine V_iconst (pc' := 40) C dL_isRecorded_39 rfl ?_
    refine V_iast (pc' := 41) (n := 540) (f := f) (I2 := WD cB cI cO ee na nb P S X (upZ f (60 + 60 * q) 0) g) C 2 rfl (fun h hh => ⟨901, hh.2.1, hh.a hIv⟩) ⟨by omega, by omega, by omega⟩ dL_isRecorded_40 rfl ?_
    refine V_aload1 (pc' := 42) C dL_isRecorded_41 rfl ?_
    refine V_bipush (pc' := 44) C dL_isRecorded_42 rfl (by decide) ?_
    refine V_iload2 (pc' := 45) C dL_isRecorded_44 rfl ?_
    refine V_iconst (pc' := 46) C dL_isRecorded_45 rfl ?_
    refine V_iadd (pc' := 47) C dL_isRecorded_46 rfl ?_
    refine V_iast (pc' := 48) (n := 540) (f := upZ f (60 + 60 * q) 0) (I2 := WD cB cI cO ee na nb P S X (upZ (upZ f (60 + 60 * q) 0) 52 (q + 1)) g) C 2 rfl (fun h hh => ⟨901, hh.2.1, hh.a hIv⟩) ⟨by omega, by omega, by omega⟩ dL_isRecorded_47 rfl ?_
    refine V_aload1 (pc' := 49) C dL_isRecorded_48 rfl ?_
    refine V_bipush (pc' := 51) C dL_isRecorded_49 rfl (by decide) ?_
    refine V_bipush (pc' := 53) C dL_isRecorded_51 rfl (by decide) ?_
    refine V_iload3 (pc' := 54) C dL_isRecorded_53 rfl ?_
    refine V_imul (pc' := 55) C dL_isRecorded_54 rfl ?_
    refine V_iload4 (pc' := 57) C dL_isRecorded_55 rfl ?_
    refine V_iadd (pc' := 58) C dL_isRecorded_57 rfl ?_
    refine V_iast (pc' := 59) (n := 540) (f := upZ (upZ f (60 + 60 * q) 0) 52 (q + 1)) (I2 := WD cB cI cO ee na nb P S X (upZ (upZ (upZ f (60 + 60 * q) 0) 52 (q + 1)) 53 ((8 * c) + r)) g) C 2 rfl (fun h hh => ⟨901, hh.2.1, hh.a hIv⟩) ⟨by omega, by omega, by omega⟩ dL_isRecorded_58 rfl ?_
    refine V_aload0 (pc' := 60) C dL_isRecorded_59 rfl ?_
    refine V_iload2 (pc' := 61) C dL_isRecorded_60 rfl ?_
    refine V_iload3 (pc' := 62) C dL_isRecorded_61 rfl ?_
    refine V_iload4 (pc' := 64) C dL_isRecorded_62 rfl ?_
    refine V_callSW (n := 4) [.ref (P 1), .int (iI q), .int (iI c), .int (iI r)] C hM gL_isRecorded_L_record rfl ydL_record ⟨Nat.le_of_ble_eq_true rfl, Nat.le_of_ble_eq_true rfl⟩ ⟨rfl, rfl⟩ rfl (fun h hh => hh.1) rfl (Nat.le_of_ble_eq_true rfl) dL_isRecorded_64 ⟨by dsimp only; omega, by dsimp only; omega⟩ (fun h v h' hh hj9 => ?_)
    obtain ⟨rfl, ⟨P2, X2, hc2, hp2, hi2, hx2⟩, hF2⟩ := hj9
    refine V_weak (I2 := WD cB cI cO ee na nb P2 ((recordX S q c r).2) X2 (upZ (upZ (upZ f (60 + 60 * q) 0) 52 (q + 1)) 53 ((8 * c) + r)) g) (fun x hx => by rw [hx]; exact hh.k hF2 hc2) ?_
    refine V_iload5 (pc' := 69) C dL_isRecorded_67 rfl ?_
    refine V_eq (st2 := [.int (iI (S.1 4 q)), .int (iI (S.1 4 q))]) (by rw [hans] <;> rfl) ?_
    refine V_sameN (tgt := 76) C dL_isRecorded_69 (by decide) rfl ?_
    refine V_iconst (pc' := 73) C dL_isRecorded_72 rfl ?_
    refine V_goto (tgt := 77) C dL_isRecorded_73 (by decide) ?_
    exact V_endz (z := 1) C hr hlk (nar_z true) (fun h' hh => LO_mk hh hp2 hi2 (by omega) (by omega) (by rw [upZ_n (by omega), upZ_n (by omega), upZ_n (by omega)]; omega) hk (by rw [hT]; exact hR2) (by rw [hT]; rfl)) ⟨by omega, by omega⟩ dL_isRecorded_77
  · have hT : recordX S q c r = (0, uG S 31 2) := (if_neg hno).trans (if_pos (by omega))
    have hans : ansL (recordX S q c r) = -900002 := by rw [hT]; exact ansL_k (k := 2) (uG_s _ _ _) (by decide)
    refine V_aload0 (pc' := 8) C dL_isRecorded_7 rfl ?_
    refine V_iload2 (pc' := 9) C dL_isRecorded_8 rfl ?_
    refine V_iload3 (pc' := 10) C dL_isRecorded_9 rfl ?_
    refine V_iload4 (pc' := 12) C dL_isRecorded_10 rfl ?_
    refine V_callSW (n := 4) [.ref (P 1), .int (iI q), .int (iI c), .int (iI r)] C hM gL_isRecorded_L_record rfl ydL_record ⟨Nat.le_of_ble_eq_true rfl, Nat.le_of_ble_eq_true rfl⟩ ⟨rfl, rfl⟩ rfl (fun h hh => hh.1) rfl (Nat.le_of_ble_eq_true rfl) dL_isRecorded_12 ⟨by dsimp only; omega, by dsimp only; omega⟩ (fun h v h' hh hj9 => ?_)
    obtain ⟨rfl, ⟨P2, X2, hc2, hp2, hi2, hx2⟩, hF2⟩ := hj9
    refine V_weak (I2 := WD cB cI cO ee na nb P2 ((recordX S q c r).2) X2 f g) (fun x hx => by rw [hx]; exact hh.k hF2 hc2) ?_
    refine V_ldc (pc' := 17) (n := (-900002)) (v := (-900002)) C (by decide +kernel) dL_isRecorded_15 rfl (by decide) ?_
    refine V_eq (st2 := [.int (iI ((-900002))), .int (iI ((-900002)))]) (by rw [hans] <;> rfl) ?_
    refine V_sameN (tgt := 24) C dL_isRecorded_17 (by decide) rfl ?_
    refine V_iconst (pc' := 21) C dL_isRecorded_20 rfl ?_
    refine V_goto (tgt := 25) C dL_isRecorded_21 (by decide) ?_
    exact V_endz (z := 1) C hr hlk (nar_z true) (fun h' hh => LO_mk hh hp2 hi2 (by omega) (by omega) (by omega) hk (by rw [hT]; exact hnr) (by rw [hT]; rfl)) ⟨by omega, by omega⟩ dL_isRecorded_25
set_option maxHeartbeats 8000000 in
set_option maxRecDepth 100000 in
theorem kO_isStopped (hst : l.stackTraces = false) (hW : WS k S X f g) (hk : k ≤ 57) : OKf l D cB cC cI cO cJ cD ee yL_isStopped wsL_isStopped [.ref na] na nb P S X f g k := by
  obtain ⟨hIv, hnr, h55, hk9, h31, hlx⟩ := hW
  have h0s : uG S 31 0 = S := by rw [← h31]; exact uG_id S 31
  have hwp := hIv.1.1.1
  have hmw := hIv.1.1
  have w5 := hwp.2.2.2.2.1
  obtain ⟨n50, n51, n52, n53, n54, n56, n57⟩ := id hnr.2.2.2.2.1
  obtain ⟨ms9, len9, h8, h9, hM⟩ := KL_stop (D := D) (cB := cB) (cC := cC) (cI := cI) (cO := cO) (cJ := cJ) (cD := cD) (ee := ee) (P := P) hIv hst
  have hlb := len_b hIv (by omega) hlx h9
  unfold OKf
  refine Ct_of (cc := cL_isStopped) (own := RL) [some (.ref (P 1)), some (.ref na), none] (by decide) rfl rfl (Nat.le_of_ble_eq_true rfl) (fun i9 v9 h9 => argL [.ref (P 1), .ref na] 1 rfl i9 v9 h9) ?_
  intro p e s m9 args below meth c9 h0 sz hI C hr hlk hinit
  refine V_weak (I2 := WD cB cI cO ee na nb P S X f g) (fun x hx => by rw [hx]; exact hI) ?_
  have hR2 := hnr.s27 (w := -1) (v := 0) hwp (by decide) (by decide)
  refine V_aload1 (pc' := 1) C dL_isStopped_0 rfl ?_
  refine V_bipush (pc' := 3) C dL_isStopped_1 rfl (by decide) ?_
  refine V_ialdE (pc' := 4) (n := 540) (f := f) (v := (S.2 27 + 1)) C 2 rfl (fun h hh => ⟨901, hh.2.1⟩) ⟨by omega, by omega, by omega⟩ (n52) dL_isStopped_3 rfl ?_
  refine V_ifne (tgt := 12) C (by omega) dL_isStopped_4 (by decide) rfl (fun c_4 => ?_) (fun c_4 => ?_)
  · have hT : stopX S = (S.1 4 (S.2 27), uG S 27 (-1)) := by
      rw [show stopX S = _ from if_neg (by omega), h0s]
    have hans : ansL (stopX S) = S.1 4 (S.2 27) := by rw [hT]; exact ansL_0 h31
    have hrw := hmw.2.2.2.1 (by omega)
    refine V_aload1 (pc' := 13) C dL_isStopped_12 rfl ?_
    refine V_aload1 (pc' := 14) C dL_isStopped_13 rfl ?_
    refine V_bipush (pc' := 16) C dL_isStopped_14 rfl (by decide) ?_
    refine V_ialdE (pc' := 17) (n := 540) (f := f) (v := (S.2 27 + 1)) C 2 rfl (fun h hh => ⟨901, hh.2.1⟩) ⟨by omega, by omega, by omega⟩ (n52) dL_isStopped_16 rfl ?_
    refine V_iconst (pc' := 18) C dL_isStopped_17 rfl ?_
    refine V_isubE (pc' := 19) (v := S.2 27) C (by omega) dL_isStopped_18 rfl ?_
    refine V_callS (n := 1) [.int (iI (S.2 27))] C (kL_macroAt (q := (S.2 27))) gL_isStopped_L_macroAt rfl ydL_macroAt ⟨Nat.le_of_ble_eq_true rfl, Nat.le_of_ble_eq_true rfl⟩ ⟨rfl, rfl⟩ rfl (fun h hh => trivial) rfl (Nat.le_of_ble_eq_true rfl) dL_isStopped_19 ⟨by dsimp only; omega, by dsimp only; omega⟩ (fun h v h' hh hj9 => ?_)
    obtain ⟨r9, rfl, rfl, rfl⟩ := hj9
    refine V_weak (I2 := WD cB cI cO ee na nb P S X f g) (fun x hx => by rw [hx]; exact hh) ?_
    refine V_ialdE (pc' := 23) (n := 540) (f := f) (v := S.1 4 (S.2 27)) C 2 rfl (fun h hh => ⟨901, hh.2.1⟩) ⟨by omega, by omega, by omega⟩ ((hnr.2.2.1 (S.2 27) (by omega) (by omega)).1) dL_isStopped_22 rfl ?_
    refine V_istore2 (pc' := 24) C dL_isStopped_23 rfl (by decide) rfl ?_
    refine V_aload1 (pc' := 25) C dL_isStopped_24 rfl ?_
    refine V_bipush (pc' := 27) C dL_isStopped_25 rfl (by decide) ?_
    refine V_iconst (pc' := 28) C dL_isStopped_27 rfl ?_
    refine V_iast (pc' := 29) (n := 540) (f := f) (I2 := WD cB cI cO ee na nb P S X (upZ f 52 0) g) C 2 rfl (fun h hh => ⟨901, hh.2.1, hh.a hIv⟩) ⟨by omega, by omega, by omega⟩ dL_isStopped_28 rfl ?_
    refine V_aload0 (pc' := 30) C dL_isStopped_29 rfl ?_
    refine V_callSW (n := 1) [.ref (P 1)] C hM gL_isStopped_L_stop rfl ydL_stop ⟨Nat.le_of_ble_eq_true rfl, Nat.le_of_ble_eq_true rfl⟩ ⟨rfl, rfl⟩ rfl (fun h hh => hh.1) rfl (Nat.le_of_ble_eq_true rfl) dL_isStopped_30 ⟨by dsimp only; omega, by dsimp only; omega⟩ (fun h v h' hh hj9 => ?_)
    obtain ⟨rfl, ⟨P2, X2, hc2, hp2, hi2, hx2⟩, hF2⟩ := hj9
    refine V_weak (I2 := WD cB cI cO ee na nb P2 ((stopX S).2) X2 (upZ f 52 0) g) (fun x hx => by rw [hx]; exact hh.k hF2 hc2) ?_
    refine V_iload2 (pc' := 34) C dL_isStopped_33 rfl ?_
    refine V_eq (st2 := [.int (iI (S.1 4 (S.2 27))), .int (iI (S.1 4 (S.2 27)))]) (by rw [hans] <;> rfl) ?_
    refine V_sameN (tgt := 41) C dL_isStopped_34 (by decide) rfl ?_
    refine V_iconst (pc' := 38) C dL_isStopped_37 rfl ?_
    refine V_goto (tgt := 42) C dL_isStopped_38 (by decide) ?_
    exact V_endz (z := 1) C hr hlk (nar_z true) (fun h' hh => LO_mk hh hp2 hi2 (by omega) (by omega) (by rw [upZ_n (by omega)]; omega) hk (by rw [hT]; exact hR2) (by rw [hT]; rfl)) ⟨by omega, by omega⟩ dL_isStopped_42
  · have hT : stopX S = (0, uG S 31 1) := if_pos (by omega)
    have hans : ansL (stopX S) = -900001 := by rw [hT]; exact ansL_k (k := 1) (uG_s _ _ _) (by decide)
    have e27 : uG S 27 (-1) = S := by rw [show (-1 : Int) = S.2 27 by omega]; exact uG_id S 27
    refine V_ldc (pc' := 9) (n := (-900001)) (v := (-900001)) C (by decide +kernel) dL_isStopped_7 rfl (by decide) ?_
    refine V_goto (tgt := 23) C dL_isStopped_9 (by decide) ?_
    refine V_istore2 (pc' := 24) C dL_isStopped_23 rfl (by decide) rfl ?_
    refine V_aload1 (pc' := 25) C dL_isStopped_24 rfl ?_
    refine V_bipush (pc' := 27) C dL_isStopped_25 rfl (by decide) ?_
    refine V_iconst (pc' := 28) C dL_isStopped_27 rfl ?_
    refine V_iast (pc' := 29) (n := 540) (f := f) (I2 := WD cB cI cO ee na nb P S X (upZ f 52 0) g) C 2 rfl (fun h hh => ⟨901, hh.2.1, hh.a hIv⟩) ⟨by omega, by omega, by omega⟩ dL_isStopped_28 rfl ?_
    refine V_aload0 (pc' := 30) C dL_isStopped_29 rfl ?_
    refine V_callSW (n := 1) [.ref (P 1)] C hM gL_isStopped_L_stop rfl ydL_stop ⟨Nat.le_of_ble_eq_true rfl, Nat.le_of_ble_eq_true rfl⟩ ⟨rfl, rfl⟩ rfl (fun h hh => hh.1) rfl (Nat.le_of_ble_eq_true rfl) dL_isStopped_30 ⟨by dsimp only; omega, by dsimp only; omega⟩ (fun h v h' hh hj9 => ?_)
    obtain ⟨rfl, ⟨P2, X2, hc2, hp2, hi2, hx2⟩, hF2⟩ := hj9
    refine V_weak (I2 := WD cB cI cO ee na nb P2 ((stopX S).2) X2 (upZ f 52 0) g) (fun x hx => by rw [hx]; exact hh.k hF2 hc2) ?_
    refine V_iload2 (pc' := 34) C dL_isStopped_33 rfl ?_
    refine V_eq (st2 := [.int (iI ((-900001))), .int (iI ((-900001)))]) (by rw [hans] <;> rfl) ?_
    refine V_sameN (tgt := 41) C dL_isStopped_34 (by decide) rfl ?_
    refine V_iconst (pc' := 38) C dL_isStopped_37 rfl ?_
    refine V_goto (tgt := 42) C dL_isStopped_38 (by decide) ?_
    exact V_endz (z := 1) C hr hlk (nar_z true) (fun h' hh => LO_mk hh hp2 hi2 (by omega) (by omega) (by rw [upZ_n (by omega)]; omega) hk (by rw [hT]; rw [e27] at hR2; exact hR2) (by rw [hT]; rfl)) ⟨by omega, by omega⟩ dL_isStopped_42
set_option maxHeartbeats 8000000 in
set_option maxRecDepth 100000 in
theorem kO_isUndone (hst : l.stackTraces = false) (hW : WS k S X f g) (hk : k ≤ 57) : OKf l D cB cC cI cO cJ cD ee yL_isUndone wsL_isUndone [.ref na, .ref nb] na nb P S X f g k := by
  obtain ⟨hIv, hnr, h55, hk9, h31, hlx⟩ := hW
  have h0s : uG S 31 0 = S := by rw [← h31]; exact uG_id S 31
  have hwp := hIv.1.1.1
  have hmw := hIv.1.1
  have w5 := hwp.2.2.2.2.1
  obtain ⟨n50, n51, n52, n53, n54, n56, n57⟩ := id hnr.2.2.2.2.1
  obtain ⟨ms9, len9, h8, h9, hM⟩ := KL_undo (D := D) (cB := cB) (cC := cC) (cI := cI) (cO := cO) (cJ := cJ) (cD := cD) (ee := ee) (P := P) hIv hst
  have hlb := len_b hIv (by omega) hlx h9
  unfold OKf
  refine Ct_of (cc := cL_isUndone) (own := RL) [some (.ref (P 1)), some (.ref na), some (.ref nb), none, none, none] (by decide) rfl rfl (Nat.le_of_ble_eq_true rfl) (fun i9 v9 h9 => argL [.ref (P 1), .ref na, .ref nb] 3 rfl i9 v9 h9) ?_
  intro p e s m9 args below meth c9 h0 sz hI C hr hlk hinit
  refine V_weak (I2 := WD cB cI cO ee na nb P S X f g) (fun x hx => by rw [hx]; exact hI) ?_
  refine V_aload1 (pc' := 1) C dL_isUndone_0 rfl ?_
  refine V_bipush (pc' := 3) C dL_isUndone_1 rfl (by decide) ?_
  refine V_ialdE (pc' := 4) (n := 540) (f := f) (v := S.2 25) C 2 rfl (fun h hh => ⟨901, hh.2.1⟩) ⟨by omega, by omega, by omega⟩ (n57) dL_isUndone_3 rfl ?_
  refine V_ifne (tgt := 22) C (by have := hmw.2.2.1.1; have := hmw.2.2.1.2.1; omega) dL_isUndone_4 (by decide) rfl (fun c_4 => ?_) (fun c_4 => ?_)
  · have hh9 := hmw.2.2.1
    have h25 : 0 < S.2 25 := by have := hh9.1; omega
    have hT : undoX S = (S.2 24 - S.1 20 (S.2 25 - 1), unI (uG S 25 (S.2 25 - 1)) (S.2 24 - S.1 20 (S.2 25 - 1)).toNat) := by
      rw [show undoX S = _ from if_neg (by omega), h0s]
    have hans : ansL (undoX S) = S.2 24 - S.1 20 (S.2 25 - 1) := by
      rw [hT]
      exact ansL_0 (by rw [unI_2 _ 31 (by decide)]; exact h31)
    have hf1 := hnr.un0 hwp h25 (by omega) hh9.2.1
    have hst1 := hnr.2.2.2.2.2.1.2 (S.2 25 - 1) (by omega) (by omega)
    rw [show 460 + f 55 - S.2 25 + (S.2 25 - 1) = 460 + (f 55 - 1) by omega] at hst1
    have hlo := HWo_lo (HW_o hh9) (S.2 25 - 1).toNat (by omega)
    rw [show (((S.2 25 - 1).toNat : Nat) : Int) = S.2 25 - 1 by omega] at hlo
    have hls := HWo_le (HW_o hh9) (S.2 25).toNat (by omega) (S.2 25 - 1).toNat (by omega)
    rw [show (((S.2 25 - 1).toNat : Nat) : Int) = S.2 25 - 1 by omega, show (((S.2 25).toNat : Nat) : Int) = S.2 25 by omega, hh9.2.2.2.1] at hls
    have hsw2 := hmw.2.2.2.2.1.2
    have hl0 := hmw.2.1.1
    have hrL : RelL (uG S 25 (S.2 25 - 1)) X := hIv.1.2.2.2.1.e rfl rfl rfl rfl rfl rfl rfl rfl rfl rfl rfl rfl rfl
    have i57 := hnr.2.2.2.2.2.1.1
    refine V_aload1 (pc' := 23) C dL_isUndone_22 rfl ?_
    refine V_bipush (pc' := 25) C dL_isUndone_23 rfl (by decide) ?_
    refine V_dup2 (pc' := 26) C rfl rfl dL_isUndone_25 rfl ?_
    refine V_ialdE (pc' := 27) (n := 540) (f := f) (v := f 57) C 2 rfl (fun h hh => ⟨901, hh.2.1⟩) ⟨by omega, by omega, by omega⟩ (rfl) dL_isUndone_26 rfl ?_
    refine V_iconst (pc' := 28) C dL_isUndone_27 rfl ?_
    refine V_isub (pc' := 29) C dL_isUndone_28 rfl ?_
    refine V_iast (pc' := 30) (n := 540) (f := f) (I2 := WD cB cI cO ee na nb P S X (upZ f 57 ((f 57) - 1)) g) C 2 rfl (fun h hh => ⟨901, hh.2.1, hh.a hIv⟩) ⟨by omega, by omega, by omega⟩ dL_isUndone_29 rfl ?_
    refine V_aload1 (pc' := 31) C dL_isUndone_30 rfl ?_
    refine V_bipush (pc' := 33) C dL_isUndone_31 rfl (by decide) ?_
    refine V_dup2 (pc' := 34) C rfl rfl dL_isUndone_33 rfl ?_
    refine V_ialdE (pc' := 35) (n := 540) (f := upZ f 57 ((f 57) - 1)) (v := f 55) C 2 rfl (fun h hh => ⟨901, hh.2.1⟩) ⟨by omega, by omega, by omega⟩ (upZ_n (by omega)) dL_isUndone_34 rfl ?_
    refine V_iconst (pc' := 36) C dL_isUndone_35 rfl ?_
    refine V_isub (pc' := 37) C dL_isUndone_36 rfl ?_
    refine V_iast (pc' := 38) (n := 540) (f := upZ f 57 ((f 57) - 1)) (I2 := WD cB cI cO ee na nb P S X (upZ (upZ f 57 ((f 57) - 1)) 55 ((f 55) - 1)) g) C 2 rfl (fun h hh => ⟨901, hh.2.1, hh.a hIv⟩) ⟨by omega, by omega, by omega⟩ dL_isUndone_37 rfl ?_
    refine V_aload1 (pc' := 39) C dL_isUndone_38 rfl ?_
    refine V_sipush (pc' := 42) C dL_isUndone_39 rfl (by decide) ?_
    refine V_aload1 (pc' := 43) C dL_isUndone_42 rfl ?_
    refine V_bipush (pc' := 45) C dL_isUndone_43 rfl (by decide) ?_
    refine V_ialdE (pc' := 46) (n := 540) (f := upZ (upZ f 57 ((f 57) - 1)) 55 ((f 55) - 1)) (v := (f 55 - 1)) C 2 rfl (fun h hh => ⟨901, hh.2.1⟩) ⟨by omega, by omega, by omega⟩ (upZ_s) dL_isUndone_45 rfl ?_
    refine V_iadd (pc' := 47) C dL_isUndone_46 rfl ?_
    refine V_ialdE (pc' := 48) (n := 540) (f := upZ (upZ f 57 ((f 57) - 1)) 55 ((f 55) - 1)) (v := (S.2 29 + S.1 20 (S.2 25 - 1))) C 2 rfl (fun h hh => ⟨901, hh.2.1⟩) ⟨by omega, by omega, by omega⟩ (by rw [upZ_n (by omega), upZ_n (by omega)]; exact hst1) dL_isUndone_47 rfl ?_
    refine V_istore3 (pc' := 49) C dL_isUndone_48 rfl (by decide) rfl ?_
    refine V_aload1 (pc' := 50) C dL_isUndone_49 rfl ?_
    refine V_bipush (pc' := 52) C dL_isUndone_50 rfl (by decide) ?_
    refine V_ialdE (pc' := 53) (n := 540) (f := upZ (upZ f 57 ((f 57) - 1)) 55 ((f 55) - 1)) (v := (S.2 29 + S.2 24)) C 2 rfl (fun h hh => ⟨901, hh.2.1⟩) ⟨by omega, by omega, by omega⟩ (by rw [upZ_n (by omega), upZ_n (by omega)]; exact n56) dL_isUndone_52 rfl ?_
    refine V_iload3 (pc' := 54) C dL_isUndone_53 rfl ?_
    refine V_isubE (pc' := 55) (v := S.2 24 - S.1 20 (S.2 25 - 1)) C (by omega) dL_isUndone_54 rfl ?_
    refine V_istore4 (pc' := 57) C dL_isUndone_55 rfl (by decide) rfl ?_
    refine V_aload1 (pc' := 58) C dL_isUndone_57 rfl ?_
    refine V_bipush (pc' := 60) C dL_isUndone_58 rfl (by decide) ?_
    refine V_ialdE (pc' := 61) (n := 540) (f := upZ (upZ f 57 ((f 57) - 1)) 55 ((f 55) - 1)) (v := (S.2 29 + S.2 24)) C 2 rfl (fun h hh => ⟨901, hh.2.1⟩) ⟨by omega, by omega, by omega⟩ (by rw [upZ_n (by omega), upZ_n (by omega)]; exact n56) dL_isUndone_60 rfl ?_
    refine V_iconst (pc' := 62) C dL_isUndone_61 rfl ?_
    refine V_isub (pc' := 63) C dL_isUndone_62 rfl ?_
    refine V_istore5 (pc' := 65) C dL_isUndone_63 rfl (by decide) rfl ?_
    refine V_for0 (N := (S.2 24 - S.1 20 (S.2 25 - 1)).toNat) (fun j => fun x => ∃ f', WD cB cI cO ee na nb P S X f' g x ∧ NR (upZ f' 56 ((uG S 25 (S.2 25 - 1)).2 29 + (unI (uG S 25 (S.2 25 - 1)) j).2 24)) g (unI (uG S 25 (S.2 25 - 1)) j) ∧ f' 56 = S.2 29 + S.2 24 ∧ f' 55 = f 55 - 1) (fun j => [some (.ref (P 1)), some (.ref na), some (.ref nb), some (.int (iI (S.2 29 + S.1 20 (S.2 25 - 1)))), some (.int (iI (S.2 24 - S.1 20 (S.2 25 - 1)))), some (.int (iI (S.2 29 + S.2 24 - 1 - (j : Int))))]) (fun _ => True) trivial (fun x hx => ⟨_, hx, by rw [show (uG S 25 (S.2 25 - 1)).2 29 + (unI (uG S 25 (S.2 25 - 1)) 0).2 24 = (upZ (upZ f 57 (f 57 - 1)) 55 (f 55 - 1)) 56 by rw [upZ_n (by omega), upZ_n (by omega)]; exact n56.symm, upZ_self]; exact hf1, by rw [upZ_n (by omega), upZ_n (by omega)]; exact n56, upZ_s⟩) (by simp) (fun j hj hv hk => ?_) (fun hv => ?_)
    · refine V_fix (fun h9 hh9 => ?_)
      obtain ⟨f', hW9, hR9, h56, h559⟩ := hh9
      have u24 := unI_24 (uG S 25 (S.2 25 - 1)) j
      have u29 := unI_2 (uG S 25 (S.2 25 - 1)) 29 (by decide) j
      replace u24 : (unI (uG S 25 (S.2 25 - 1)) j).2 24 = S.2 24 - (j : Nat) := u24
      replace u29 : (unI (uG S 25 (S.2 25 - 1)) j).2 29 = S.2 29 := u29
      refine V_weak (I2 := WD cB cI cO ee na nb P S X f' g) (fun x hx => by rw [hx]; exact hW9) ?_
      have hwj : WFp (unI (uG S 25 (S.2 25 - 1)) j) := WFp_un (S := (uG S 25 (S.2 25 - 1))) hwp hrL (by show (j : Int) ≤ S.2 24; omega)
      have hlj : WFl (unI (uG S 25 (S.2 25 - 1)) j) := by
        unfold WFl
        rw [u24, unI_1 _ 16 (by decide), unI_1 _ 18 (by decide), unI_1 _ 19 (by decide)]
        exact ⟨by omega, fun z z0 z1 => hmw.2.1.2 z z0 (by omega)⟩
      rw [show (uG S 25 (S.2 25 - 1)).2 29 = (unI (uG S 25 (S.2 25 - 1)) j).2 29 from u29.symm] at hR9
      obtain ⟨b1, b2, b3, b4⟩ := hR9.un1 hwj hlj (by omega) (by omega)
      obtain ⟨x0, x1, -⟩ := hlj.2 ((unI (uG S 25 (S.2 25 - 1)) j).2 24 - 1) (by omega) (by omega)
      have ei : 4 * ((unI (uG S 25 (S.2 25 - 1)) j).2 29 + ((unI (uG S 25 (S.2 25 - 1)) j).2 24 - 1)) = 4 * (S.2 29 + S.2 24 - 1 - (j : Int)) := by omega
      rw [ei] at b2 b3
      generalize hx9 : (unI (uG S 25 (S.2 25 - 1)) j).1 16 ((unI (uG S 25 (S.2 25 - 1)) j).2 24 - 1) = x9 at *
      generalize hy9 : (unI (uG S 25 (S.2 25 - 1)) j).1 17 ((unI (uG S 25 (S.2 25 - 1)) j).2 24 - 1) = y9 at *
      refine V_iload5 (pc' := 67) C dL_isUndone_65 rfl ?_
      refine V_iload3 (pc' := 68) C dL_isUndone_67 rfl ?_
      refine V_icmplt (tgt := 93) C ⟨by omega, by omega⟩ dL_isUndone_68 (by decide) rfl (fun c_68 => ?_) (fun c_68 => ?_)
      · exact absurd c_68 (by omega)
      · refine V_aload1 (pc' := 72) C dL_isUndone_71 rfl ?_
        refine V_aload2 (pc' := 73) C dL_isUndone_72 rfl ?_
        refine V_iconst (pc' := 74) C dL_isUndone_73 rfl ?_
        refine V_iload5 (pc' := 76) C dL_isUndone_74 rfl ?_
        refine V_imul (pc' := 77) C dL_isUndone_76 rfl ?_
        refine V_ialdE (pc' := 78) (n := 60000) (f := g) (v := (8 * (x9 % 6) + x9 / 6)) C 2 rfl (fun h hh => ⟨902, hh.2.2⟩) ⟨by omega, by omega, by omega⟩ (b2) dL_isUndone_77 rfl ?_
        refine V_aload2 (pc' := 79) C dL_isUndone_78 rfl ?_
        refine V_iconst (pc' := 80) C dL_isUndone_79 rfl ?_
        refine V_iload5 (pc' := 82) C dL_isUndone_80 rfl ?_
        refine V_imul (pc' := 83) C dL_isUndone_82 rfl ?_
        refine V_iconst (pc' := 84) C dL_isUndone_83 rfl ?_
        refine V_iadd (pc' := 85) C dL_isUndone_84 rfl ?_
        refine V_ialdE (pc' := 86) (n := 60000) (f := g) (v := y9) C 2 rfl (fun h hh => ⟨902, hh.2.2⟩) ⟨by omega, by omega, by omega⟩ (b3) dL_isUndone_85 rfl ?_
        refine V_iast (pc' := 87) (n := 540) (f := f') (I2 := WD cB cI cO ee na nb P S X (upZ f' (8 * (x9 % 6) + x9 / 6) y9) g) C 2 rfl (fun h hh => ⟨901, hh.2.1, hh.a hIv⟩) ⟨by omega, by omega, by omega⟩ dL_isUndone_86 rfl ?_
        refine V_iinc5 (pc' := 90) C dL_isUndone_87 rfl (by decide) rfl ?_
        refine V_goto (tgt := 65) C dL_isUndone_90 (by decide) ?_
        have enx : unI (uG S 25 (S.2 25 - 1)) (j + 1) = uA (uG (unI (uG S 25 (S.2 25 - 1)) j) 24 ((unI (uG S 25 (S.2 25 - 1)) j).2 24 - 1)) 0 x9 y9 := by rw [unI, hx9, hy9]
        refine V_locals (L2 := [some (.ref (P 1)), some (.ref na), some (.ref nb), some (.int (iI (S.2 29 + S.1 20 (S.2 25 - 1)))), some (.int (iI (S.2 24 - S.1 20 (S.2 25 - 1)))), some (.int (iI (S.2 29 + S.2 24 - 1 - ((j + 1 : Nat) : Int))))]) (fun i v hv => ?_) (V_weak (fun z hz => ?_) (hk trivial))
        · rcases i with _ | _ | _ | _ | _ | _ | i
          all_goals (first | exact hv | (rw [show S.2 29 + S.2 24 - 1 - ((j + 1 : Nat) : Int) = S.2 29 + S.2 24 - 1 - (j : Int) + (-1) by omega] at hv; exact hv) | (simpa using hv; done) | (cases hv; done))
        · refine ⟨_, hz, ?_, by rw [upZ_n (by omega)]; exact h56, by rw [upZ_n (by omega)]; exact h559⟩
          rw [enx]
          have e2 : (uG S 25 (S.2 25 - 1)).2 29 + (uA (uG (unI (uG S 25 (S.2 25 - 1)) j) 24 ((unI (uG S 25 (S.2 25 - 1)) j).2 24 - 1)) 0 x9 y9).2 24 = (unI (uG S 25 (S.2 25 - 1)) j).2 29 + ((unI (uG S 25 (S.2 25 - 1)) j).2 24 - 1) := by rw [u29]; rfl
          rw [e2]
          exact b4
    · refine V_fix (fun h9 hh9 => ?_)
      obtain ⟨f', hW9, hR9, h56, h559⟩ := hh9
      have u24 := unI_24 (uG S 25 (S.2 25 - 1)) (S.2 24 - S.1 20 (S.2 25 - 1)).toNat
      have u29 := unI_2 (uG S 25 (S.2 25 - 1)) 29 (by decide) (S.2 24 - S.1 20 (S.2 25 - 1)).toNat
      replace u24 : (unI (uG S 25 (S.2 25 - 1)) (S.2 24 - S.1 20 (S.2 25 - 1)).toNat).2 24 = S.2 24 - ((S.2 24 - S.1 20 (S.2 25 - 1)).toNat : Nat) := u24
      replace u29 : (unI (uG S 25 (S.2 25 - 1)) (S.2 24 - S.1 20 (S.2 25 - 1)).toNat).2 29 = S.2 29 := u29
      refine V_weak (I2 := WD cB cI cO ee na nb P S X f' g) (fun x hx => by rw [hx]; exact hW9) ?_
      refine V_iload5 (pc' := 67) C dL_isUndone_65 rfl ?_
      refine V_iload3 (pc' := 68) C dL_isUndone_67 rfl ?_
      refine V_icmplt (tgt := 93) C ⟨by omega, by omega⟩ dL_isUndone_68 (by decide) rfl (fun c_68 => ?_) (fun c_68 => ?_)
      · have hfin : NR (upZ f' 56 (S.2 29 + S.1 20 (S.2 25 - 1))) g (unI (uG S 25 (S.2 25 - 1)) (S.2 24 - S.1 20 (S.2 25 - 1)).toNat) := by
          rw [u24] at hR9
          rw [show (uG S 25 (S.2 25 - 1)).2 29 + (S.2 24 - (((S.2 24 - S.1 20 (S.2 25 - 1)).toNat : Nat) : Int)) = S.2 29 + S.1 20 (S.2 25 - 1) by show S.2 29 + _ = _; omega] at hR9
          exact hR9
        refine V_aload1 (pc' := 94) C dL_isUndone_93 rfl ?_
        refine V_bipush (pc' := 96) C dL_isUndone_94 rfl (by decide) ?_
        refine V_iload3 (pc' := 97) C dL_isUndone_96 rfl ?_
        refine V_iast (pc' := 98) (n := 540) (f := f') (I2 := WD cB cI cO ee na nb P S X (upZ f' 56 (S.2 29 + S.1 20 (S.2 25 - 1))) g) C 2 rfl (fun h hh => ⟨901, hh.2.1, hh.a hIv⟩) ⟨by omega, by omega, by omega⟩ dL_isUndone_97 rfl ?_
        refine V_aload0 (pc' := 99) C dL_isUndone_98 rfl ?_
        refine V_callSW (n := 1) [.ref (P 1)] C hM gL_isUndone_L_undo rfl ydL_undo ⟨Nat.le_of_ble_eq_true rfl, Nat.le_of_ble_eq_true rfl⟩ ⟨rfl, rfl⟩ rfl (fun h hh => hh.1) rfl (Nat.le_of_ble_eq_true rfl) dL_isUndone_99 ⟨by dsimp only; omega, by dsimp only; omega⟩ (fun h v h' hh hj9 => ?_)
        obtain ⟨rfl, ⟨P2, X2, hc2, hp2, hi2, hx2⟩, hF2⟩ := hj9
        refine V_weak (I2 := WD cB cI cO ee na nb P2 ((undoX S).2) X2 (upZ f' 56 (S.2 29 + S.1 20 (S.2 25 - 1))) g) (fun x hx => by rw [hx]; exact hh.k hF2 hc2) ?_
        refine V_iload4 (pc' := 104) C dL_isUndone_102 rfl ?_
        refine V_eq (st2 := [.int (iI (S.2 24 - S.1 20 (S.2 25 - 1))), .int (iI (S.2 24 - S.1 20 (S.2 25 - 1)))]) (by rw [hans] <;> rfl) ?_
        refine V_sameN (tgt := 111) C dL_isUndone_104 (by decide) rfl ?_
        refine V_iconst (pc' := 108) C dL_isUndone_107 rfl ?_
        refine V_goto (tgt := 112) C dL_isUndone_108 (by decide) ?_
        exact V_endz (z := 1) C hr hlk (nar_z true) (fun h' hh => LO_mk hh hp2 hi2 (by omega) (by omega) (by rw [upZ_n (by omega), h559]; omega) hk (by rw [hT]; exact hfin) (by rw [hT]; exact unI_2 _ 22 (by decide) _)) ⟨by omega, by omega⟩ dL_isUndone_112
      · exact absurd c_68 (by omega)
  · have hT : undoX S = (0, uG S 31 1) := if_pos (by omega)
    have hans : ansL (undoX S) = -900001 := by rw [hT]; exact ansL_k (k := 1) (uG_s _ _ _) (by decide)
    refine V_aload0 (pc' := 8) C dL_isUndone_7 rfl ?_
    refine V_callSW (n := 1) [.ref (P 1)] C hM gL_isUndone_L_undo rfl ydL_undo ⟨Nat.le_of_ble_eq_true rfl, Nat.le_of_ble_eq_true rfl⟩ ⟨rfl, rfl⟩ rfl (fun h hh => hh.1) rfl (Nat.le_of_ble_eq_true rfl) dL_isUndone_8 ⟨by dsimp only; omega, by dsimp only; omega⟩ (fun h v h' hh hj9 => ?_)
    obtain ⟨rfl, ⟨P2, X2, hc2, hp2, hi2, hx2⟩, hF2⟩ := hj9
    refine V_weak (I2 := WD cB cI cO ee na nb P2 ((undoX S).2) X2 f g) (fun x hx => by rw [hx]; exact hh.k hF2 hc2) ?_
    refine V_ldc (pc' := 13) (n := (-900001)) (v := (-900001)) C (by decide +kernel) dL_isUndone_11 rfl (by decide) ?_
    refine V_eq (st2 := [.int (iI ((-900001))), .int (iI ((-900001)))]) (by rw [hans] <;> rfl) ?_
    refine V_sameN (tgt := 20) C dL_isUndone_13 (by decide) rfl ?_
    refine V_iconst (pc' := 17) C dL_isUndone_16 rfl ?_
    refine V_goto (tgt := 21) C dL_isUndone_17 (by decide) ?_
    exact V_endz (z := 1) C hr hlk (nar_z true) (fun h' hh => LO_mk hh hp2 hi2 (by omega) (by omega) (by omega) hk (by rw [hT]; exact hnr) (by rw [hT]; rfl)) ⟨by omega, by omega⟩ dL_isUndone_21
end

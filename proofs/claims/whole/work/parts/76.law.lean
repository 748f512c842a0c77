/-! the law: one call of a script -/
theorem RC1 : room_1.cells = 603072 ∧ room_1.slots = 7215210 := ⟨rfl, rfl⟩
theorem MS.fr {cC cI : ClassId} {mo : Nat} {Pm : Nat → Nat} {S : MSt} {h h' : Hp} {T : Nat → Prop} (H : MS cC cI mo Pm S h) (hF : Fr T h h') (hT : ∀ u, 1000 ≤ u → u < 1100 → ¬ T u) : MS cC cI mo Pm S h' := ⟨hF _ _ _ H.1 (hT _ (by decide) (by decide)), fun k hk => hF _ _ _ (H.2 k hk) (hT _ (by omega) (by omega))⟩
theorem lg_self (x : Int64) : lg_cmp x x = iI 0 := by
  unfold lg_cmp
  rw [if_neg (by exact Int64.lt_irrefl), if_pos rfl]
  rfl
section
variable {p : Program} {l : Launch} {e : Env} {R : Room} {s : State} {m : MethodId} {args : Array Value} {below : List Frame} {meth : Method} {c : Code} {cells slots : Nat} {Q : State → Prop} {D : va_G} {tys : List (ClassId × FieldType)} {A : Nat → Prop} {nL : Nat} {cc : ByteArray} {Ts : List Cond} {own : String} {ee : Nat}
variable {I : Hp → Prop} {pc pc' : Nat} {L : List (Option Value)} {st : List Value}
theorem V_same {z : Int} {off : Int} {tgt : Nat} (C : Cx p m c cc nL s args Ts own D tys A ee) (d : decode cc pc = .ok (.if_icmp .eq off, 3)) (ht : (pc : Int) + off = (tgt : Int)) (k : Vx p l e R s m args below meth c cells slots Q D A nL I tgt L st) : Vx p l e R s m args below meth c cells slots Q D A nL I pc L (.int (iI z) :: .int (iI z) :: st) := by
  refine V_eq (st2 := .int (iI (iI z).toInt) :: .int (iI (iI z).toInt) :: st) (by rw [iI_of]) ?_
  exact V_icmpeq C ⟨rI_of _, rI_of _⟩ d ht rfl (fun _ => k) (fun q => absurd rfl q)
theorem V_ifneX {z : Int} {off : Int} {tgt : Nat} (C : Cx p m c cc nL s args Ts own D tys A ee) (d : decode cc pc = .ok (.ifCond .ne off, 3)) (ht : (pc : Int) + off = (tgt : Int)) (e0 : pc + 3 = pc') (k1 : Vx p l e R s m args below meth c cells slots Q D A nL I tgt L st) (k2 : iI z = 0 → Vx p l e R s m args below meth c cells slots Q D A nL I pc' L st) : Vx p l e R s m args below meth c cells slots Q D A nL I pc L (.int (iI z) :: st) := by
  refine V_eq (st2 := .int (iI (iI z).toInt) :: st) (by rw [iI_of]) ?_
  refine V_ifne C (rI_of _) d ht e0 (fun _ => k1) (fun q => k2 ?_)
  have q2 : (iI z).toInt = 0 := Classical.not_not.mp q
  rw [← iI_of (iI z), q2]
  rfl
end
def OI (cJ cD : ClassId) (ou od : Nat) (T : Int × MSt) : Hp → Prop := fun h => (∃ f : Nat → Int64, h ou = some (901, .inl (cJ, 1, .inr (.inl f))) ∧ (iI (T.2.2 31) = 0 → f 0 = lI T.1)) ∧ ODf cD od h
def OD (cJ cD : ClassId) (ou od : Nat) (k : Int) (ans : UInt64) : Hp → Prop := fun h => OLf cJ ou h ∧ ∃ f : Nat → UInt64, h od = some (902, .inl (cD, 1, .inr (.inr (.inr (.inl f))))) ∧ (iI k = 0 → f 0 = ans)
def ON (cJ cD : ClassId) (ou od : Nat) : Hp → Prop := fun h => OLf cJ ou h ∧ ODf cD od h
def LJ (cB cC cI cO : ClassId) (ee mo : Nat) (Pm P : Nat → Nat) (S X Sm : MSt) (O : Hp → Prop) : Hp → Prop := fun h => CW cI cO ee (TxH cB) P S X h ∧ MS cC cI mo Pm Sm h ∧ O h
section
variable {cB cC cI cO cJ cD : ClassId} {ee mo ou od : Nat} {Pm P : Nat → Nat} {S X Sm S3 : MSt} {h h' : Hp} {O : Hp → Prop} {b : Int} {T : Int × MSt} {len' : Nat} {v : Option Value}
theorem OI_fr {T : Int × MSt} : ∀ h h', OI cJ cD ou od T h → Fr tM h h' → OI cJ cD ou od T h' := fun h h' ⟨⟨f, a, b⟩, g, c⟩ hF => ⟨⟨f, hF _ _ _ a (by unfold tM; omega), b⟩, g, hF _ _ _ c (by unfold tM; omega)⟩
theorem OD_fr {k : Int} {ans : UInt64} : ∀ h h', OD cJ cD ou od k ans h → Fr tM h h' → OD cJ cD ou od k ans h' := fun h h' ⟨⟨f, a⟩, g, c, d⟩ hF => ⟨⟨f, hF _ _ _ a (by unfold tM; omega)⟩, g, hF _ _ _ c (by unfold tM; omega), d⟩
theorem ON_fr : ∀ h h', ON cJ cD ou od h → Fr tM h h' → ON cJ cD ou od h' := fun h h' ⟨⟨f, a⟩, g, c⟩ hF => ⟨⟨f, hF _ _ _ a (by unfold tM; omega)⟩, g, hF _ _ _ c (by unfold tM; omega)⟩
theorem OI_n {T : Int × MSt} (H : OI cJ cD ou od T h) : ON cJ cD ou od h := ⟨⟨H.1.choose, H.1.choose_spec.1⟩, H.2⟩
theorem OD_n {k : Int} {ans : UInt64} (H : OD cJ cD ou od k ans h) : ON cJ cD ou od h := ⟨H.1, ⟨H.2.choose, H.2.choose_spec.1⟩⟩
theorem LJ_1 (hh : LJ cB cC cI cO ee mo Pm P S X S (ON cJ cD ou od) h) (hj : LWo cB cI cO cJ ee P ou b T len' h v h') : ∃ P' X', v = some (.int (iI (T.2.2 31))) ∧ LJ cB cC cI cO ee mo Pm P' T.2 X' S (OI cJ cD ou od T) h' ∧ P' 1 = P 1 ∧ INV T.2 X' (b + 210) ∧ X'.2 26 = (len' : Int) := by
  obtain ⟨e1, ⟨P', X', hc, hp, hi, hx⟩, ⟨f, hf, hf0⟩, hF⟩ := hj
  obtain ⟨g, hg⟩ := hh.2.2.2
  exact ⟨P', X', e1, ⟨hc, hh.2.1.fr hF (fun u a b => by unfold T8; omega), ⟨f, hf, hf0⟩, g, hF _ _ _ hg (by unfold T8; omega)⟩, hp, hi, hx⟩
theorem LJ_d {k : Int} {ans : UInt64} {S' : MSt} (hh : LJ cB cC cI cO ee mo Pm P S X S (ON cJ cD ou od) h) (hj : LWd cB cI cO cD ee P od b k ans S' len' h v h') : ∃ P' X', v = some (.int (iI k)) ∧ LJ cB cC cI cO ee mo Pm P' S' X' S (OD cJ cD ou od k ans) h' ∧ P' 1 = P 1 ∧ INV S' X' (b + 210) ∧ X'.2 26 = (len' : Int) := by
  obtain ⟨e1, ⟨P', X', hc, hp, hi, hx⟩, ⟨f, hf, hf0⟩, hF⟩ := hj
  obtain ⟨g, hg⟩ := hh.2.2.1
  exact ⟨P', X', e1, ⟨hc, hh.2.1.fr hF (fun u a b => by unfold T9d; omega), ⟨g, hF _ _ _ hg (by unfold T9d; omega)⟩, f, hf, hf0⟩, hp, hi, hx⟩
theorem LJ_2 {V : Int} (hh : LJ cB cC cI cO ee mo Pm P S X Sm O h) (hw : WFp S) (hrm : RM S) (hO : ∀ h h', O h → Fr tM h h' → O h') (hj : (Ji fun h z h' => z = V ∧ MS cC cI mo Pm S3 h' ∧ Fr tM h h') h v h') : v = some (.int (iI V)) ∧ LJ cB cC cI cO ee mo Pm P S X S3 O h' := by
  obtain ⟨z, hz, rfl, hm, hF⟩ := hj
  exact ⟨hz, hh.1.kp hw hrm (TxH_ok cB) hF (fun u hu => by have := usT_lo hw hu; unfold tM; omega) (fun u hu => by unfold tM; omega), hm, hO _ _ hh.2.2 hF⟩
theorem LJ_w {V : Value} (hh : LJ cB cC cI cO ee mo Pm P S X Sm O h) (hw : WFp S) (hrm : RM S) (hO : ∀ h h', O h → Fr tM h h' → O h') (hj : v = some V ∧ MS cC cI mo Pm S3 h' ∧ Fr tM h h') : v = some V ∧ LJ cB cC cI cO ee mo Pm P S X S3 O h' := by
  obtain ⟨hz, hm, hF⟩ := hj
  exact ⟨hz, hh.1.kp hw hrm (TxH_ok cB) hF (fun u hu => by have := usT_lo hw hu; unfold tM; omega) (fun u hu => by unfold tM; omega), hm, hO _ _ hh.2.2 hF⟩
end
theorem ydL_set : yL_set.cls ≠ "java/lang/invoke/MethodHandle" ∧ yL_set.cls ≠ "java/lang/invoke/VarHandle" ∧ (parseMethodDescriptor yL_set.desc).map (fun d => d.parameters.length) = some 5 := by decide +kernel
theorem ydL_add : yL_add.cls ≠ "java/lang/invoke/MethodHandle" ∧ yL_add.cls ≠ "java/lang/invoke/VarHandle" ∧ (parseMethodDescriptor yL_add.desc).map (fun d => d.parameters.length) = some 5 := by decide +kernel
theorem ydL_copyBase : yL_copyBase.cls ≠ "java/lang/invoke/MethodHandle" ∧ yL_copyBase.cls ≠ "java/lang/invoke/VarHandle" ∧ (parseMethodDescriptor yL_copyBase.desc).map (fun d => d.parameters.length) = some 4 := by decide +kernel
theorem ydL_cell : yL_cell.cls ≠ "java/lang/invoke/MethodHandle" ∧ yL_cell.cls ≠ "java/lang/invoke/VarHandle" ∧ (parseMethodDescriptor yL_cell.desc).map (fun d => d.parameters.length) = some 4 := by decide +kernel
theorem ydL_cellByAudit : yL_cellByAudit.cls ≠ "java/lang/invoke/MethodHandle" ∧ yL_cellByAudit.cls ≠ "java/lang/invoke/VarHandle" ∧ (parseMethodDescriptor yL_cellByAudit.desc).map (fun d => d.parameters.length) = some 4 := by decide +kernel
theorem ydL_addMacro : yL_addMacro.cls ≠ "java/lang/invoke/MethodHandle" ∧ yL_addMacro.cls ≠ "java/lang/invoke/VarHandle" ∧ (parseMethodDescriptor yL_addMacro.desc).map (fun d => d.parameters.length) = some 2 := by decide +kernel
theorem ydL_record : yL_record.cls ≠ "java/lang/invoke/MethodHandle" ∧ yL_record.cls ≠ "java/lang/invoke/VarHandle" ∧ (parseMethodDescriptor yL_record.desc).map (fun d => d.parameters.length) = some 5 := by decide +kernel
theorem ydL_stop : yL_stop.cls ≠ "java/lang/invoke/MethodHandle" ∧ yL_stop.cls ≠ "java/lang/invoke/VarHandle" ∧ (parseMethodDescriptor yL_stop.desc).map (fun d => d.parameters.length) = some 2 := by decide +kernel
theorem ydL_steps : yL_steps.cls ≠ "java/lang/invoke/MethodHandle" ∧ yL_steps.cls ≠ "java/lang/invoke/VarHandle" ∧ (parseMethodDescriptor yL_steps.desc).map (fun d => d.parameters.length) = some 3 := by decide +kernel
theorem ydL_grant : yL_grant.cls ≠ "java/lang/invoke/MethodHandle" ∧ yL_grant.cls ≠ "java/lang/invoke/VarHandle" ∧ (parseMethodDescriptor yL_grant.desc).map (fun d => d.parameters.length) = some 7 := by decide +kernel
theorem ydL_takeGrants : yL_takeGrants.cls ≠ "java/lang/invoke/MethodHandle" ∧ yL_takeGrants.cls ≠ "java/lang/invoke/VarHandle" ∧ (parseMethodDescriptor yL_takeGrants.desc).map (fun d => d.parameters.length) = some 3 := by decide +kernel
theorem ydL_granted : yL_granted.cls ≠ "java/lang/invoke/MethodHandle" ∧ yL_granted.cls ≠ "java/lang/invoke/VarHandle" ∧ (parseMethodDescriptor yL_granted.desc).map (fun d => d.parameters.length) = some 4 := by decide +kernel
theorem ydL_reason : yL_reason.cls ≠ "java/lang/invoke/MethodHandle" ∧ yL_reason.cls ≠ "java/lang/invoke/VarHandle" ∧ (parseMethodDescriptor yL_reason.desc).map (fun d => d.parameters.length) = some 5 := by decide +kernel
theorem ydL_run : yL_run.cls ≠ "java/lang/invoke/MethodHandle" ∧ yL_run.cls ≠ "java/lang/invoke/VarHandle" ∧ (parseMethodDescriptor yL_run.desc).map (fun d => d.parameters.length) = some 5 := by decide +kernel
theorem ydL_addRule : yL_addRule.cls ≠ "java/lang/invoke/MethodHandle" ∧ yL_addRule.cls ≠ "java/lang/invoke/VarHandle" ∧ (parseMethodDescriptor yL_addRule.desc).map (fun d => d.parameters.length) = some 8 := by decide +kernel
theorem ydL_setRank : yL_setRank.cls ≠ "java/lang/invoke/MethodHandle" ∧ yL_setRank.cls ≠ "java/lang/invoke/VarHandle" ∧ (parseMethodDescriptor yL_setRank.desc).map (fun d => d.parameters.length) = some 4 := by decide +kernel
theorem ydL_rule : yL_rule.cls ≠ "java/lang/invoke/MethodHandle" ∧ yL_rule.cls ≠ "java/lang/invoke/VarHandle" ∧ (parseMethodDescriptor yL_rule.desc).map (fun d => d.parameters.length) = some 4 := by decide +kernel
theorem ydL_undo : yL_undo.cls ≠ "java/lang/invoke/MethodHandle" ∧ yL_undo.cls ≠ "java/lang/invoke/VarHandle" ∧ (parseMethodDescriptor yL_undo.desc).map (fun d => d.parameters.length) = some 2 := by decide +kernel
theorem ydL_entriesOf : yL_entriesOf.cls ≠ "java/lang/invoke/MethodHandle" ∧ yL_entriesOf.cls ≠ "java/lang/invoke/VarHandle" ∧ (parseMethodDescriptor yL_entriesOf.desc).map (fun d => d.parameters.length) = some 3 := by decide +kernel
theorem ydL_lastBy : yL_lastBy.cls ≠ "java/lang/invoke/MethodHandle" ∧ yL_lastBy.cls ≠ "java/lang/invoke/VarHandle" ∧ (parseMethodDescriptor yL_lastBy.desc).map (fun d => d.parameters.length) = some 4 := by decide +kernel
theorem ydL_writeStep : yL_writeStep.cls ≠ "java/lang/invoke/MethodHandle" ∧ yL_writeStep.cls ≠ "java/lang/invoke/VarHandle" ∧ (parseMethodDescriptor yL_writeStep.desc).map (fun d => d.parameters.length) = some 4 := by decide +kernel
theorem ydL_textAt : yL_textAt.cls ≠ "java/lang/invoke/MethodHandle" ∧ yL_textAt.cls ≠ "java/lang/invoke/VarHandle" ∧ (parseMethodDescriptor yL_textAt.desc).map (fun d => d.parameters.length) = some 3 := by decide +kernel
theorem ydL_macroShare : yL_macroShare.cls ≠ "java/lang/invoke/MethodHandle" ∧ yL_macroShare.cls ≠ "java/lang/invoke/VarHandle" ∧ (parseMethodDescriptor yL_macroShare.desc).map (fun d => d.parameters.length) = some 2 := by decide +kernel
theorem ydL_meanValue : yL_meanValue.cls ≠ "java/lang/invoke/MethodHandle" ∧ yL_meanValue.cls ≠ "java/lang/invoke/VarHandle" ∧ (parseMethodDescriptor yL_meanValue.desc).map (fun d => d.parameters.length) = some 2 := by decide +kernel
section
variable {p : Program} {l : Launch} {e : Env} {s : State} {m : MethodId} {args : Array Value} {below : List Frame} {meth : Method} {c : Code} {c9 s9 : Nat} {Q : State → Prop} {D : va_G} {A : Nat → Prop} {cB cC cI cO cJ cD : ClassId} {ee b N mo ou od : Nat} {xs' : Int → Int} {Pm P : Nat → Nat} {S X : MSt} {k : Nat}
set_option maxHeartbeats 4000000 in
set_option maxRecDepth 100000 in
theorem law_0 (C : Cx p m c code 9 s args wsL_law RL D (tyL cB cC cI cO cJ cD) A ee) (hX : va_X b N (iF xs') s s.heap) (hbl : b < s.heap.size) (hbA : ¬ A b) (hst : l.stackTraces = false) (hxs : ∀ z, rI (xs' z)) (hI : INV S X (210 * (k : Int))) (hk : 7 * (k : Int) + 7 ≤ N) (hN : N ≤ 3584) (h1 : c9 ≤ 100 + 12 * k) (h2 : s9 ≤ 20000 + 40 * k + 8 * (X.2 26).toNat) (next : ∀ (P' : Nat → Nat) (S' X' : MSt) (c' s' : Nat), INV S' X' (210 * (k : Int) + 210) → P' 1 = P 1 → c' ≤ 100 + 12 * (k + 1) → s' ≤ 20000 + 40 * (k + 1) + 8 * (X'.2 26).toNat → Vx p l e room_1 s m args below meth c (c') (s') Q D A 9 (LJ cB cC cI cO ee mo Pm P' S' X' S' (ON cJ cD ou od)) 1843 [some (.ref b), some (.ref (P 1)), some (.ref mo), some (.ref ou), some (.ref od), some (.int (iI (7 * (k : Int)))), none, none, none] []) : Vx p l e room_1 s m args below meth c (c9) (s9) Q D A 9 (LJ cB cC cI cO ee mo Pm P S X S (ON cJ cD ou od)) 164 [some (.ref b), some (.ref (P 1)), some (.ref mo), some (.ref ou), some (.ref od), some (.int (iI (7 * (k : Int)))), none, none, none] [] := by
  have hn := INV_len hI
  refine V_aload1 (pc' := 165) C dL_law_164 rfl ?_
  refine V_aload0 (pc' := 166) C dL_law_165 rfl ?_
  refine V_iload5 (pc' := 168) C dL_law_166 rfl ?_
  refine V_iconst (pc' := 169) C dL_law_168 rfl ?_
  refine V_iadd (pc' := 170) C dL_law_169 rfl ?_
  refine V_sld (pc' := 171) C hX hbl hbA ⟨by omega, by omega, by omega⟩ dL_law_170 rfl ?_
  refine V_aload0 (pc' := 172) C dL_law_171 rfl ?_
  refine V_iload5 (pc' := 174) C dL_law_172 rfl ?_
  refine V_iconst (pc' := 175) C dL_law_174 rfl ?_
  refine V_iadd (pc' := 176) C dL_law_175 rfl ?_
  refine V_sld (pc' := 177) C hX hbl hbA ⟨by omega, by omega, by omega⟩ dL_law_176 rfl ?_
  refine V_aload0 (pc' := 178) C dL_law_177 rfl ?_
  refine V_iload5 (pc' := 180) C dL_law_178 rfl ?_
  refine V_iconst (pc' := 181) C dL_law_180 rfl ?_
  refine V_iadd (pc' := 182) C dL_law_181 rfl ?_
  refine V_sld (pc' := 183) C hX hbl hbA ⟨by omega, by omega, by omega⟩ dL_law_182 rfl ?_
  refine V_aload3 (pc' := 184) C dL_law_183 rfl ?_
  obtain ⟨ms9, len9, h8, h9, hM⟩ := KL_set (D := D) (cB := cB) (cC := cC) (cI := cI) (cO := cO) (cJ := cJ) (cD := cD) (ee := ee) (P := P) (ou := ou) hI (by omega) hst (hxs (7 * (k : Int) + 1)) (hxs (7 * (k : Int) + 2)) (hxs (7 * (k : Int) + 3))
  refine V_callSW (n := 5) [.ref (P 1), .int (iI (xs' (7 * (k : Int) + 1))), .int (iI (xs' (7 * (k : Int) + 2))), .int (iI (xs' (7 * (k : Int) + 3))), .ref ou] C hM gL_law_L_set rfl ydL_set ⟨Nat.le_of_ble_eq_true rfl, Nat.le_of_ble_eq_true rfl⟩ ⟨rfl, rfl⟩ rfl (fun h hh => ⟨hh.1, hh.2.2.1⟩) rfl (Nat.le_of_ble_eq_true rfl) dL_law_184 ⟨by rw [RC1.1]; omega, by rw [RC1.2]; omega⟩ (fun h v h' hh hj9 => ?_)
  obtain ⟨P2, X2, rfl, hl2, hp2, hi2, hx2⟩ := LJ_1 hh hj9
  refine V_weak (I2 := LJ cB cC cI cO ee mo Pm P2 ((setX S (xs' (7 * (k : Int) + 1)) (xs' (7 * (k : Int) + 2)) (xs' (7 * (k : Int) + 3))).2) X2 S (OI cJ cD ou od (setX S (xs' (7 * (k : Int) + 1)) (xs' (7 * (k : Int) + 2)) (xs' (7 * (k : Int) + 3))))) (fun z hz => by rw [hz]; exact hl2) ?_
  refine V_istore6 (pc' := 189) C dL_law_187 rfl (by decide) rfl ?_
  refine V_aload2 (pc' := 190) C dL_law_189 rfl ?_
  refine V_aload0 (pc' := 191) C dL_law_190 rfl ?_
  refine V_iload5 (pc' := 193) C dL_law_191 rfl ?_
  refine V_iconst (pc' := 194) C dL_law_193 rfl ?_
  refine V_iadd (pc' := 195) C dL_law_194 rfl ?_
  refine V_sld (pc' := 196) C hX hbl hbA ⟨by omega, by omega, by omega⟩ dL_law_195 rfl ?_
  refine V_aload0 (pc' := 197) C dL_law_196 rfl ?_
  refine V_iload5 (pc' := 199) C dL_law_197 rfl ?_
  refine V_iconst (pc' := 200) C dL_law_199 rfl ?_
  refine V_iadd (pc' := 201) C dL_law_200 rfl ?_
  refine V_sld (pc' := 202) C hX hbl hbA ⟨by omega, by omega, by omega⟩ dL_law_201 rfl ?_
  refine V_aload0 (pc' := 203) C dL_law_202 rfl ?_
  refine V_iload5 (pc' := 205) C dL_law_203 rfl ?_
  refine V_iconst (pc' := 206) C dL_law_205 rfl ?_
  refine V_iadd (pc' := 207) C dL_law_206 rfl ?_
  refine V_sld (pc' := 208) C hX hbl hbA ⟨by omega, by omega, by omega⟩ dL_law_207 rfl ?_
  refine V_callV (ci := 13) (n := 3) [.int (iI (xs' (7 * (k : Int) + 1))), .int (iI (xs' (7 * (k : Int) + 2))), .int (iI (xs' (7 * (k : Int) + 3)))] C (kX8_set (mo := mo) (Pm := Pm) (xs' (7 * (k : Int) + 1)) (xs' (7 * (k : Int) + 2)) (xs' (7 * (k : Int) + 3)) hI.1.1 (hxs (7 * (k : Int) + 1)) (hxs (7 * (k : Int) + 2)) (hxs (7 * (k : Int) + 3))) gL_law_X8_set rfl ydX8_set ⟨Nat.le_of_ble_eq_true rfl, Nat.le_of_ble_eq_true rfl⟩ ⟨rfl, rfl⟩ rfl rfl (fun h hh => ⟨1000, _, hh.2.1.1⟩) (fun h hh => hh.2.1) rfl (Nat.le_of_ble_eq_true rfl) dL_law_208 ⟨by rw [RC1.1]; omega, by rw [RC1.2]; omega⟩ (fun h v h' hh hj9 => ?_)
  obtain ⟨rfl, hl3⟩ := LJ_2 (V := (setX S (xs' (7 * (k : Int) + 1)) (xs' (7 * (k : Int) + 2)) (xs' (7 * (k : Int) + 3))).1) (S3 := (setX S (xs' (7 * (k : Int) + 1)) (xs' (7 * (k : Int) + 2)) (xs' (7 * (k : Int) + 3))).2) hh hi2.1.1.1 hi2.1.2.2.1 OI_fr hj9
  refine V_weak (I2 := LJ cB cC cI cO ee mo Pm P2 ((setX S (xs' (7 * (k : Int) + 1)) (xs' (7 * (k : Int) + 2)) (xs' (7 * (k : Int) + 3))).2) X2 ((setX S (xs' (7 * (k : Int) + 1)) (xs' (7 * (k : Int) + 2)) (xs' (7 * (k : Int) + 3))).2) (OI cJ cD ou od (setX S (xs' (7 * (k : Int) + 1)) (xs' (7 * (k : Int) + 2)) (xs' (7 * (k : Int) + 3))))) (fun z hz => by rw [hz]; exact hl3) ?_
  refine V_istore7 (pc' := 213) C dL_law_211 rfl (by decide) rfl ?_
  refine V_aload2 (pc' := 214) C dL_law_213 rfl ?_
  refine V_callV (ci := 13) (n := 0) [] C (kX8_thrown (mo := mo) (Pm := Pm) (S := (setX S (xs' (7 * (k : Int) + 1)) (xs' (7 * (k : Int) + 2)) (xs' (7 * (k : Int) + 3))).2)) gL_law_X8_thrown rfl ydX8_thrown ⟨Nat.le_of_ble_eq_true rfl, Nat.le_of_ble_eq_true rfl⟩ ⟨rfl, rfl⟩ rfl rfl (fun h hh => ⟨1000, _, hh.2.1.1⟩) (fun h hh => hh.2.1) rfl (Nat.le_of_ble_eq_true rfl) dL_law_214 ⟨by rw [RC1.1]; omega, by rw [RC1.2]; omega⟩ (fun h v h' hh hj9 => ?_)
  obtain ⟨rfl, hl4⟩ := LJ_2 (V := (setX S (xs' (7 * (k : Int) + 1)) (xs' (7 * (k : Int) + 2)) (xs' (7 * (k : Int) + 3))).2.2 31) (S3 := (setX S (xs' (7 * (k : Int) + 1)) (xs' (7 * (k : Int) + 2)) (xs' (7 * (k : Int) + 3))).2) hh hi2.1.1.1 hi2.1.2.2.1 OI_fr hj9
  refine V_weak (I2 := LJ cB cC cI cO ee mo Pm P2 ((setX S (xs' (7 * (k : Int) + 1)) (xs' (7 * (k : Int) + 2)) (xs' (7 * (k : Int) + 3))).2) X2 ((setX S (xs' (7 * (k : Int) + 1)) (xs' (7 * (k : Int) + 2)) (xs' (7 * (k : Int) + 3))).2) (OI cJ cD ou od (setX S (xs' (7 * (k : Int) + 1)) (xs' (7 * (k : Int) + 2)) (xs' (7 * (k : Int) + 3))))) (fun z hz => by rw [hz]; exact hl4) ?_
  refine V_iload6 (pc' := 219) C dL_law_217 rfl ?_
  refine V_same (tgt := 224) C dL_law_219 (by decide) ?_
  refine V_iload6 (pc' := 226) C dL_law_224 rfl ?_
  refine V_ifneX (pc' := 229) (tgt := 241) C dL_law_226 (by decide) rfl ?_ (fun c_0 => ?_)
  · refine V_goto (tgt := 1843) C dL_law_241 (by decide) ?_
    exact V_locals (L2 := [some (.ref b), some (.ref (P 1)), some (.ref mo), some (.ref ou), some (.ref od), some (.int (iI (7 * (k : Int)))), none, none, none]) (fun i v hv => by
        rcases i with _ | _ | _ | _ | _ | _ | _ | _ | _ | i
        all_goals (first | exact hv | (cases hv; done) | cases hv))
        (V_weak (fun z hz => ⟨hz.1, hz.2.1, OI_n hz.2.2⟩) (next P2 _ X2 _ _ hi2 hp2 (by omega) (by omega)))
  · refine V_aload3 (pc' := 230) C dL_law_229 rfl ?_
    refine V_iconst (pc' := 231) C dL_law_230 rfl ?_
    refine V_lald1 (pc' := 232) (v := lI (setX S (xs' (7 * (k : Int) + 1)) (xs' (7 * (k : Int) + 2)) (xs' (7 * (k : Int) + 3))).1) C 4 rfl (fun h hh => by obtain ⟨f9, hf9, hf8⟩ := hh.2.2.1; exact ⟨901, f9, hf8 c_0, hf9⟩) dL_law_231 rfl ?_
    refine V_iload7 (pc' := 234) C dL_law_232 rfl ?_
    refine V_i2l (pc' := 235) C dL_law_234 rfl ?_
    refine V_lcmp (pc' := 236) C dL_law_235 rfl ?_
    refine V_eq (st2 := [.int (iI 0)]) (by rw [lg_self]; rfl) ?_
    refine V_ifeq (tgt := 241) C (by decide) dL_law_236 (by decide) rfl (fun c_236 => ?_) (fun c_236 => ?_)
    · refine V_goto (tgt := 1843) C dL_law_241 (by decide) ?_
      exact V_locals (L2 := [some (.ref b), some (.ref (P 1)), some (.ref mo), some (.ref ou), some (.ref od), some (.int (iI (7 * (k : Int)))), none, none, none]) (fun i v hv => by
          rcases i with _ | _ | _ | _ | _ | _ | _ | _ | _ | i
          all_goals (first | exact hv | (cases hv; done) | cases hv))
          (V_weak (fun z hz => ⟨hz.1, hz.2.1, OI_n hz.2.2⟩) (next P2 _ X2 _ _ hi2 hp2 (by omega) (by omega)))
    · exact absurd c_236 (by decide)
set_option maxHeartbeats 4000000 in
set_option maxRecDepth 100000 in
theorem law_1 (C : Cx p m c code 9 s args wsL_law RL D (tyL cB cC cI cO cJ cD) A ee) (hX : va_X b N (iF xs') s s.heap) (hbl : b < s.heap.size) (hbA : ¬ A b) (hst : l.stackTraces = false) (hxs : ∀ z, rI (xs' z)) (hI : INV S X (210 * (k : Int))) (hk : 7 * (k : Int) + 7 ≤ N) (hN : N ≤ 3584) (h1 : c9 ≤ 100 + 12 * k) (h2 : s9 ≤ 20000 + 40 * k + 8 * (X.2 26).toNat) (next : ∀ (P' : Nat → Nat) (S' X' : MSt) (c' s' : Nat), INV S' X' (210 * (k : Int) + 210) → P' 1 = P 1 → c' ≤ 100 + 12 * (k + 1) → s' ≤ 20000 + 40 * (k + 1) + 8 * (X'.2 26).toNat → Vx p l e room_1 s m args below meth c (c') (s') Q D A 9 (LJ cB cC cI cO ee mo Pm P' S' X' S' (ON cJ cD ou od)) 1843 [some (.ref b), some (.ref (P 1)), some (.ref mo), some (.ref ou), some (.ref od), some (.int (iI (7 * (k : Int)))), none, none, none] []) : Vx p l e room_1 s m args below meth c (c9) (s9) Q D A 9 (LJ cB cC cI cO ee mo Pm P S X S (ON cJ cD ou od)) 244 [some (.ref b), some (.ref (P 1)), some (.ref mo), some (.ref ou), some (.ref od), some (.int (iI (7 * (k : Int)))), none, none, none] [] := by
  have hn := INV_len hI
  refine V_aload1 (pc' := 245) C dL_law_244 rfl ?_
  refine V_aload0 (pc' := 246) C dL_law_245 rfl ?_
  refine V_iload5 (pc' := 248) C dL_law_246 rfl ?_
  refine V_iconst (pc' := 249) C dL_law_248 rfl ?_
  refine V_iadd (pc' := 250) C dL_law_249 rfl ?_
  refine V_sld (pc' := 251) C hX hbl hbA ⟨by omega, by omega, by omega⟩ dL_law_250 rfl ?_
  refine V_aload0 (pc' := 252) C dL_law_251 rfl ?_
  refine V_iload5 (pc' := 254) C dL_law_252 rfl ?_
  refine V_iconst (pc' := 255) C dL_law_254 rfl ?_
  refine V_iadd (pc' := 256) C dL_law_255 rfl ?_
  refine V_sld (pc' := 257) C hX hbl hbA ⟨by omega, by omega, by omega⟩ dL_law_256 rfl ?_
  refine V_aload0 (pc' := 258) C dL_law_257 rfl ?_
  refine V_iload5 (pc' := 260) C dL_law_258 rfl ?_
  refine V_iconst (pc' := 261) C dL_law_260 rfl ?_
  refine V_iadd (pc' := 262) C dL_law_261 rfl ?_
  refine V_sld (pc' := 263) C hX hbl hbA ⟨by omega, by omega, by omega⟩ dL_law_262 rfl ?_
  refine V_aload3 (pc' := 264) C dL_law_263 rfl ?_
  obtain ⟨ms9, len9, h8, h9, hM⟩ := KL_add (D := D) (cB := cB) (cC := cC) (cI := cI) (cO := cO) (cJ := cJ) (cD := cD) (ee := ee) (P := P) (ou := ou) hI (by omega) hst (hxs (7 * (k : Int) + 1)) (hxs (7 * (k : Int) + 2)) (hxs (7 * (k : Int) + 3))
  refine V_callSW (n := 5) [.ref (P 1), .int (iI (xs' (7 * (k : Int) + 1))), .int (iI (xs' (7 * (k : Int) + 2))), .int (iI (xs' (7 * (k : Int) + 3))), .ref ou] C hM gL_law_L_add rfl ydL_add ⟨Nat.le_of_ble_eq_true rfl, Nat.le_of_ble_eq_true rfl⟩ ⟨rfl, rfl⟩ rfl (fun h hh => ⟨hh.1, hh.2.2.1⟩) rfl (Nat.le_of_ble_eq_true rfl) dL_law_264 ⟨by rw [RC1.1]; omega, by rw [RC1.2]; omega⟩ (fun h v h' hh hj9 => ?_)
  obtain ⟨P2, X2, rfl, hl2, hp2, hi2, hx2⟩ := LJ_1 hh hj9
  refine V_weak (I2 := LJ cB cC cI cO ee mo Pm P2 ((addX S (xs' (7 * (k : Int) + 1)) (xs' (7 * (k : Int) + 2)) (xs' (7 * (k : Int) + 3))).2) X2 S (OI cJ cD ou od (addX S (xs' (7 * (k : Int) + 1)) (xs' (7 * (k : Int) + 2)) (xs' (7 * (k : Int) + 3))))) (fun z hz => by rw [hz]; exact hl2) ?_
  refine V_istore6 (pc' := 269) C dL_law_267 rfl (by decide) rfl ?_
  refine V_aload2 (pc' := 270) C dL_law_269 rfl ?_
  refine V_aload0 (pc' := 271) C dL_law_270 rfl ?_
  refine V_iload5 (pc' := 273) C dL_law_271 rfl ?_
  refine V_iconst (pc' := 274) C dL_law_273 rfl ?_
  refine V_iadd (pc' := 275) C dL_law_274 rfl ?_
  refine V_sld (pc' := 276) C hX hbl hbA ⟨by omega, by omega, by omega⟩ dL_law_275 rfl ?_
  refine V_aload0 (pc' := 277) C dL_law_276 rfl ?_
  refine V_iload5 (pc' := 279) C dL_law_277 rfl ?_
  refine V_iconst (pc' := 280) C dL_law_279 rfl ?_
  refine V_iadd (pc' := 281) C dL_law_280 rfl ?_
  refine V_sld (pc' := 282) C hX hbl hbA ⟨by omega, by omega, by omega⟩ dL_law_281 rfl ?_
  refine V_aload0 (pc' := 283) C dL_law_282 rfl ?_
  refine V_iload5 (pc' := 285) C dL_law_283 rfl ?_
  refine V_iconst (pc' := 286) C dL_law_285 rfl ?_
  refine V_iadd (pc' := 287) C dL_law_286 rfl ?_
  refine V_sld (pc' := 288) C hX hbl hbA ⟨by omega, by omega, by omega⟩ dL_law_287 rfl ?_
  refine V_callV (ci := 13) (n := 3) [.int (iI (xs' (7 * (k : Int) + 1))), .int (iI (xs' (7 * (k : Int) + 2))), .int (iI (xs' (7 * (k : Int) + 3)))] C (kX8_add (mo := mo) (Pm := Pm) (xs' (7 * (k : Int) + 1)) (xs' (7 * (k : Int) + 2)) (xs' (7 * (k : Int) + 3)) hI.1.1 (hxs (7 * (k : Int) + 1)) (hxs (7 * (k : Int) + 2)) (hxs (7 * (k : Int) + 3))) gL_law_X8_add rfl ydX8_add ⟨Nat.le_of_ble_eq_true rfl, Nat.le_of_ble_eq_true rfl⟩ ⟨rfl, rfl⟩ rfl rfl (fun h hh => ⟨1000, _, hh.2.1.1⟩) (fun h hh => hh.2.1) rfl (Nat.le_of_ble_eq_true rfl) dL_law_288 ⟨by rw [RC1.1]; omega, by rw [RC1.2]; omega⟩ (fun h v h' hh hj9 => ?_)
  obtain ⟨rfl, hl3⟩ := LJ_2 (V := (addX S (xs' (7 * (k : Int) + 1)) (xs' (7 * (k : Int) + 2)) (xs' (7 * (k : Int) + 3))).1) (S3 := (addX S (xs' (7 * (k : Int) + 1)) (xs' (7 * (k : Int) + 2)) (xs' (7 * (k : Int) + 3))).2) hh hi2.1.1.1 hi2.1.2.2.1 OI_fr hj9
  refine V_weak (I2 := LJ cB cC cI cO ee mo Pm P2 ((addX S (xs' (7 * (k : Int) + 1)) (xs' (7 * (k : Int) + 2)) (xs' (7 * (k : Int) + 3))).2) X2 ((addX S (xs' (7 * (k : Int) + 1)) (xs' (7 * (k : Int) + 2)) (xs' (7 * (k : Int) + 3))).2) (OI cJ cD ou od (addX S (xs' (7 * (k : Int) + 1)) (xs' (7 * (k : Int) + 2)) (xs' (7 * (k : Int) + 3))))) (fun z hz => by rw [hz]; exact hl3) ?_
  refine V_istore7 (pc' := 293) C dL_law_291 rfl (by decide) rfl ?_
  refine V_aload2 (pc' := 294) C dL_law_293 rfl ?_
  refine V_callV (ci := 13) (n := 0) [] C (kX8_thrown (mo := mo) (Pm := Pm) (S := (addX S (xs' (7 * (k : Int) + 1)) (xs' (7 * (k : Int) + 2)) (xs' (7 * (k : Int) + 3))).2)) gL_law_X8_thrown rfl ydX8_thrown ⟨Nat.le_of_ble_eq_true rfl, Nat.le_of_ble_eq_true rfl⟩ ⟨rfl, rfl⟩ rfl rfl (fun h hh => ⟨1000, _, hh.2.1.1⟩) (fun h hh => hh.2.1) rfl (Nat.le_of_ble_eq_true rfl) dL_law_294 ⟨by rw [RC1.1]; omega, by rw [RC1.2]; omega⟩ (fun h v h' hh hj9 => ?_)
  obtain ⟨rfl, hl4⟩ := LJ_2 (V := (addX S (xs' (7 * (k : Int) + 1)) (xs' (7 * (k : Int) + 2)) (xs' (7 * (k : Int) + 3))).2.2 31) (S3 := (addX S (xs' (7 * (k : Int) + 1)) (xs' (7 * (k : Int) + 2)) (xs' (7 * (k : Int) + 3))).2) hh hi2.1.1.1 hi2.1.2.2.1 OI_fr hj9
  refine V_weak (I2 := LJ cB cC cI cO ee mo Pm P2 ((addX S (xs' (7 * (k : Int) + 1)) (xs' (7 * (k : Int) + 2)) (xs' (7 * (k : Int) + 3))).2) X2 ((addX S (xs' (7 * (k : Int) + 1)) (xs' (7 * (k : Int) + 2)) (xs' (7 * (k : Int) + 3))).2) (OI cJ cD ou od (addX S (xs' (7 * (k : Int) + 1)) (xs' (7 * (k : Int) + 2)) (xs' (7 * (k : Int) + 3))))) (fun z hz => by rw [hz]; exact hl4) ?_
  refine V_iload6 (pc' := 299) C dL_law_297 rfl ?_
  refine V_same (tgt := 304) C dL_law_299 (by decide) ?_
  refine V_iload6 (pc' := 306) C dL_law_304 rfl ?_
  refine V_ifneX (pc' := 309) (tgt := 321) C dL_law_306 (by decide) rfl ?_ (fun c_0 => ?_)
  · refine V_goto (tgt := 1843) C dL_law_321 (by decide) ?_
    exact V_locals (L2 := [some (.ref b), some (.ref (P 1)), some (.ref mo), some (.ref ou), some (.ref od), some (.int (iI (7 * (k : Int)))), none, none, none]) (fun i v hv => by
        rcases i with _ | _ | _ | _ | _ | _ | _ | _ | _ | i
        all_goals (first | exact hv | (cases hv; done) | cases hv))
        (V_weak (fun z hz => ⟨hz.1, hz.2.1, OI_n hz.2.2⟩) (next P2 _ X2 _ _ hi2 hp2 (by omega) (by omega)))
  · refine V_aload3 (pc' := 310) C dL_law_309 rfl ?_
    refine V_iconst (pc' := 311) C dL_law_310 rfl ?_
    refine V_lald1 (pc' := 312) (v := lI (addX S (xs' (7 * (k : Int) + 1)) (xs' (7 * (k : Int) + 2)) (xs' (7 * (k : Int) + 3))).1) C 4 rfl (fun h hh => by obtain ⟨f9, hf9, hf8⟩ := hh.2.2.1; exact ⟨901, f9, hf8 c_0, hf9⟩) dL_law_311 rfl ?_
    refine V_iload7 (pc' := 314) C dL_law_312 rfl ?_
    refine V_i2l (pc' := 315) C dL_law_314 rfl ?_
    refine V_lcmp (pc' := 316) C dL_law_315 rfl ?_
    refine V_eq (st2 := [.int (iI 0)]) (by rw [lg_self]; rfl) ?_
    refine V_ifeq (tgt := 321) C (by decide) dL_law_316 (by decide) rfl (fun c_316 => ?_) (fun c_316 => ?_)
    · refine V_goto (tgt := 1843) C dL_law_321 (by decide) ?_
      exact V_locals (L2 := [some (.ref b), some (.ref (P 1)), some (.ref mo), some (.ref ou), some (.ref od), some (.int (iI (7 * (k : Int)))), none, none, none]) (fun i v hv => by
          rcases i with _ | _ | _ | _ | _ | _ | _ | _ | _ | i
          all_goals (first | exact hv | (cases hv; done) | cases hv))
          (V_weak (fun z hz => ⟨hz.1, hz.2.1, OI_n hz.2.2⟩) (next P2 _ X2 _ _ hi2 hp2 (by omega) (by omega)))
    · exact absurd c_316 (by decide)
set_option maxHeartbeats 4000000 in
set_option maxRecDepth 100000 in
theorem law_2 (C : Cx p m c code 9 s args wsL_law RL D (tyL cB cC cI cO cJ cD) A ee) (hX : va_X b N (iF xs') s s.heap) (hbl : b < s.heap.size) (hbA : ¬ A b) (hst : l.stackTraces = false) (hxs : ∀ z, rI (xs' z)) (hI : INV S X (210 * (k : Int))) (hk : 7 * (k : Int) + 7 ≤ N) (hN : N ≤ 3584) (h1 : c9 ≤ 100 + 12 * k) (h2 : s9 ≤ 20000 + 40 * k + 8 * (X.2 26).toNat) (next : ∀ (P' : Nat → Nat) (S' X' : MSt) (c' s' : Nat), INV S' X' (210 * (k : Int) + 210) → P' 1 = P 1 → c' ≤ 100 + 12 * (k + 1) → s' ≤ 20000 + 40 * (k + 1) + 8 * (X'.2 26).toNat → Vx p l e room_1 s m args below meth c (c') (s') Q D A 9 (LJ cB cC cI cO ee mo Pm P' S' X' S' (ON cJ cD ou od)) 1843 [some (.ref b), some (.ref (P 1)), some (.ref mo), some (.ref ou), some (.ref od), some (.int (iI (7 * (k : Int)))), none, none, none] []) : Vx p l e room_1 s m args below meth c (c9) (s9) Q D A 9 (LJ cB cC cI cO ee mo Pm P S X S (ON cJ cD ou od)) 324 [some (.ref b), some (.ref (P 1)), some (.ref mo), some (.ref ou), some (.ref od), some (.int (iI (7 * (k : Int)))), none, none, none] [] := by
  have hn := INV_len hI
  refine V_aload1 (pc' := 325) C dL_law_324 rfl ?_
  refine V_aload0 (pc' := 326) C dL_law_325 rfl ?_
  refine V_iload5 (pc' := 328) C dL_law_326 rfl ?_
  refine V_iconst (pc' := 329) C dL_law_328 rfl ?_
  refine V_iadd (pc' := 330) C dL_law_329 rfl ?_
  refine V_sld (pc' := 331) C hX hbl hbA ⟨by omega, by omega, by omega⟩ dL_law_330 rfl ?_
  refine V_aload0 (pc' := 332) C dL_law_331 rfl ?_
  refine V_iload5 (pc' := 334) C dL_law_332 rfl ?_
  refine V_iconst (pc' := 335) C dL_law_334 rfl ?_
  refine V_iadd (pc' := 336) C dL_law_335 rfl ?_
  refine V_sld (pc' := 337) C hX hbl hbA ⟨by omega, by omega, by omega⟩ dL_law_336 rfl ?_
  refine V_aload3 (pc' := 338) C dL_law_337 rfl ?_
  obtain ⟨ms9, len9, h8, h9, hM⟩ := KL_copyBase (D := D) (cB := cB) (cC := cC) (cI := cI) (cO := cO) (cJ := cJ) (cD := cD) (ee := ee) (P := P) (ou := ou) hI (by omega) hst (hxs (7 * (k : Int) + 1)) (hxs (7 * (k : Int) + 2))
  refine V_callSW (n := 4) [.ref (P 1), .int (iI (xs' (7 * (k : Int) + 1))), .int (iI (xs' (7 * (k : Int) + 2))), .ref ou] C hM gL_law_L_copyBase rfl ydL_copyBase ⟨Nat.le_of_ble_eq_true rfl, Nat.le_of_ble_eq_true rfl⟩ ⟨rfl, rfl⟩ rfl (fun h hh => ⟨hh.1, hh.2.2.1⟩) rfl (Nat.le_of_ble_eq_true rfl) dL_law_338 ⟨by rw [RC1.1]; omega, by rw [RC1.2]; omega⟩ (fun h v h' hh hj9 => ?_)
  obtain ⟨P2, X2, rfl, hl2, hp2, hi2, hx2⟩ := LJ_1 hh hj9
  refine V_weak (I2 := LJ cB cC cI cO ee mo Pm P2 ((copyBaseX S (xs' (7 * (k : Int) + 1)) (xs' (7 * (k : Int) + 2))).2) X2 S (OI cJ cD ou od (copyBaseX S (xs' (7 * (k : Int) + 1)) (xs' (7 * (k : Int) + 2))))) (fun z hz => by rw [hz]; exact hl2) ?_
  refine V_istore6 (pc' := 343) C dL_law_341 rfl (by decide) rfl ?_
  refine V_aload2 (pc' := 344) C dL_law_343 rfl ?_
  refine V_aload0 (pc' := 345) C dL_law_344 rfl ?_
  refine V_iload5 (pc' := 347) C dL_law_345 rfl ?_
  refine V_iconst (pc' := 348) C dL_law_347 rfl ?_
  refine V_iadd (pc' := 349) C dL_law_348 rfl ?_
  refine V_sld (pc' := 350) C hX hbl hbA ⟨by omega, by omega, by omega⟩ dL_law_349 rfl ?_
  refine V_aload0 (pc' := 351) C dL_law_350 rfl ?_
  refine V_iload5 (pc' := 353) C dL_law_351 rfl ?_
  refine V_iconst (pc' := 354) C dL_law_353 rfl ?_
  refine V_iadd (pc' := 355) C dL_law_354 rfl ?_
  refine V_sld (pc' := 356) C hX hbl hbA ⟨by omega, by omega, by omega⟩ dL_law_355 rfl ?_
  refine V_callV (ci := 13) (n := 2) [.int (iI (xs' (7 * (k : Int) + 1))), .int (iI (xs' (7 * (k : Int) + 2)))] C (kX8_copyBase (mo := mo) (Pm := Pm) (xs' (7 * (k : Int) + 1)) (xs' (7 * (k : Int) + 2)) hI.1.1 (hxs (7 * (k : Int) + 1)) (hxs (7 * (k : Int) + 2))) gL_law_X8_copyBase rfl ydX8_copyBase ⟨Nat.le_of_ble_eq_true rfl, Nat.le_of_ble_eq_true rfl⟩ ⟨rfl, rfl⟩ rfl rfl (fun h hh => ⟨1000, _, hh.2.1.1⟩) (fun h hh => hh.2.1) rfl (Nat.le_of_ble_eq_true rfl) dL_law_356 ⟨by rw [RC1.1]; omega, by rw [RC1.2]; omega⟩ (fun h v h' hh hj9 => ?_)
  obtain ⟨rfl, hl3⟩ := LJ_2 (V := (copyBaseX S (xs' (7 * (k : Int) + 1)) (xs' (7 * (k : Int) + 2))).1) (S3 := (copyBaseX S (xs' (7 * (k : Int) + 1)) (xs' (7 * (k : Int) + 2))).2) hh hi2.1.1.1 hi2.1.2.2.1 OI_fr hj9
  refine V_weak (I2 := LJ cB cC cI cO ee mo Pm P2 ((copyBaseX S (xs' (7 * (k : Int) + 1)) (xs' (7 * (k : Int) + 2))).2) X2 ((copyBaseX S (xs' (7 * (k : Int) + 1)) (xs' (7 * (k : Int) + 2))).2) (OI cJ cD ou od (copyBaseX S (xs' (7 * (k : Int) + 1)) (xs' (7 * (k : Int) + 2))))) (fun z hz => by rw [hz]; exact hl3) ?_
  refine V_istore7 (pc' := 361) C dL_law_359 rfl (by decide) rfl ?_
  refine V_aload2 (pc' := 362) C dL_law_361 rfl ?_
  refine V_callV (ci := 13) (n := 0) [] C (kX8_thrown (mo := mo) (Pm := Pm) (S := (copyBaseX S (xs' (7 * (k : Int) + 1)) (xs' (7 * (k : Int) + 2))).2)) gL_law_X8_thrown rfl ydX8_thrown ⟨Nat.le_of_ble_eq_true rfl, Nat.le_of_ble_eq_true rfl⟩ ⟨rfl, rfl⟩ rfl rfl (fun h hh => ⟨1000, _, hh.2.1.1⟩) (fun h hh => hh.2.1) rfl (Nat.le_of_ble_eq_true rfl) dL_law_362 ⟨by rw [RC1.1]; omega, by rw [RC1.2]; omega⟩ (fun h v h' hh hj9 => ?_)
  obtain ⟨rfl, hl4⟩ := LJ_2 (V := (copyBaseX S (xs' (7 * (k : Int) + 1)) (xs' (7 * (k : Int) + 2))).2.2 31) (S3 := (copyBaseX S (xs' (7 * (k : Int) + 1)) (xs' (7 * (k : Int) + 2))).2) hh hi2.1.1.1 hi2.1.2.2.1 OI_fr hj9
  refine V_weak (I2 := LJ cB cC cI cO ee mo Pm P2 ((copyBaseX S (xs' (7 * (k : Int) + 1)) (xs' (7 * (k : Int) + 2))).2) X2 ((copyBaseX S (xs' (7 * (k : Int) + 1)) (xs' (7 * (k : Int) + 2))).2) (OI cJ cD ou od (copyBaseX S (xs' (7 * (k : Int) + 1)) (xs' (7 * (k : Int) + 2))))) (fun z hz => by rw [hz]; exact hl4) ?_
  refine V_iload6 (pc' := 367) C dL_law_365 rfl ?_
  refine V_same (tgt := 372) C dL_law_367 (by decide) ?_
  refine V_iload6 (pc' := 374) C dL_law_372 rfl ?_
  refine V_ifneX (pc' := 377) (tgt := 389) C dL_law_374 (by decide) rfl ?_ (fun c_0 => ?_)
  · refine V_goto (tgt := 1843) C dL_law_389 (by decide) ?_
    exact V_locals (L2 := [some (.ref b), some (.ref (P 1)), some (.ref mo), some (.ref ou), some (.ref od), some (.int (iI (7 * (k : Int)))), none, none, none]) (fun i v hv => by
        rcases i with _ | _ | _ | _ | _ | _ | _ | _ | _ | i
        all_goals (first | exact hv | (cases hv; done) | cases hv))
        (V_weak (fun z hz => ⟨hz.1, hz.2.1, OI_n hz.2.2⟩) (next P2 _ X2 _ _ hi2 hp2 (by omega) (by omega)))
  · refine V_aload3 (pc' := 378) C dL_law_377 rfl ?_
    refine V_iconst (pc' := 379) C dL_law_378 rfl ?_
    refine V_lald1 (pc' := 380) (v := lI (copyBaseX S (xs' (7 * (k : Int) + 1)) (xs' (7 * (k : Int) + 2))).1) C 4 rfl (fun h hh => by obtain ⟨f9, hf9, hf8⟩ := hh.2.2.1; exact ⟨901, f9, hf8 c_0, hf9⟩) dL_law_379 rfl ?_
    refine V_iload7 (pc' := 382) C dL_law_380 rfl ?_
    refine V_i2l (pc' := 383) C dL_law_382 rfl ?_
    refine V_lcmp (pc' := 384) C dL_law_383 rfl ?_
    refine V_eq (st2 := [.int (iI 0)]) (by rw [lg_self]; rfl) ?_
    refine V_ifeq (tgt := 389) C (by decide) dL_law_384 (by decide) rfl (fun c_384 => ?_) (fun c_384 => ?_)
    · refine V_goto (tgt := 1843) C dL_law_389 (by decide) ?_
      exact V_locals (L2 := [some (.ref b), some (.ref (P 1)), some (.ref mo), some (.ref ou), some (.ref od), some (.int (iI (7 * (k : Int)))), none, none, none]) (fun i v hv => by
          rcases i with _ | _ | _ | _ | _ | _ | _ | _ | _ | i
          all_goals (first | exact hv | (cases hv; done) | cases hv))
          (V_weak (fun z hz => ⟨hz.1, hz.2.1, OI_n hz.2.2⟩) (next P2 _ X2 _ _ hi2 hp2 (by omega) (by omega)))
    · exact absurd c_384 (by decide)
set_option maxHeartbeats 4000000 in
set_option maxRecDepth 100000 in
theorem law_3 (C : Cx p m c code 9 s args wsL_law RL D (tyL cB cC cI cO cJ cD) A ee) (hX : va_X b N (iF xs') s s.heap) (hbl : b < s.heap.size) (hbA : ¬ A b) (hst : l.stackTraces = false) (hxs : ∀ z, rI (xs' z)) (hI : INV S X (210 * (k : Int))) (hk : 7 * (k : Int) + 7 ≤ N) (hN : N ≤ 3584) (h1 : c9 ≤ 100 + 12 * k) (h2 : s9 ≤ 20000 + 40 * k + 8 * (X.2 26).toNat) (next : ∀ (P' : Nat → Nat) (S' X' : MSt) (c' s' : Nat), INV S' X' (210 * (k : Int) + 210) → P' 1 = P 1 → c' ≤ 100 + 12 * (k + 1) → s' ≤ 20000 + 40 * (k + 1) + 8 * (X'.2 26).toNat → Vx p l e room_1 s m args below meth c (c') (s') Q D A 9 (LJ cB cC cI cO ee mo Pm P' S' X' S' (ON cJ cD ou od)) 1843 [some (.ref b), some (.ref (P 1)), some (.ref mo), some (.ref ou), some (.ref od), some (.int (iI (7 * (k : Int)))), none, none, none] []) : Vx p l e room_1 s m args below meth c (c9) (s9) Q D A 9 (LJ cB cC cI cO ee mo Pm P S X S (ON cJ cD ou od)) 392 [some (.ref b), some (.ref (P 1)), some (.ref mo), some (.ref ou), some (.ref od), some (.int (iI (7 * (k : Int)))), none, none, none] [] := by
  have hn := INV_len hI
  refine V_aload1 (pc' := 393) C dL_law_392 rfl ?_
  refine V_aload0 (pc' := 394) C dL_law_393 rfl ?_
  refine V_iload5 (pc' := 396) C dL_law_394 rfl ?_
  refine V_iconst (pc' := 397) C dL_law_396 rfl ?_
  refine V_iadd (pc' := 398) C dL_law_397 rfl ?_
  refine V_sld (pc' := 399) C hX hbl hbA ⟨by omega, by omega, by omega⟩ dL_law_398 rfl ?_
  refine V_aload0 (pc' := 400) C dL_law_399 rfl ?_
  refine V_iload5 (pc' := 402) C dL_law_400 rfl ?_
  refine V_iconst (pc' := 403) C dL_law_402 rfl ?_
  refine V_iadd (pc' := 404) C dL_law_403 rfl ?_
  refine V_sld (pc' := 405) C hX hbl hbA ⟨by omega, by omega, by omega⟩ dL_law_404 rfl ?_
  refine V_aload3 (pc' := 406) C dL_law_405 rfl ?_
  obtain ⟨ms9, len9, h8, h9, hM⟩ := KL_cell (D := D) (cB := cB) (cC := cC) (cI := cI) (cO := cO) (cJ := cJ) (cD := cD) (ee := ee) (P := P) (ou := ou) hI (by omega) hst (hxs (7 * (k : Int) + 1)) (hxs (7 * (k : Int) + 2))
  refine V_callSW (n := 4) [.ref (P 1), .int (iI (xs' (7 * (k : Int) + 1))), .int (iI (xs' (7 * (k : Int) + 2))), .ref ou] C hM gL_law_L_cell rfl ydL_cell ⟨Nat.le_of_ble_eq_true rfl, Nat.le_of_ble_eq_true rfl⟩ ⟨rfl, rfl⟩ rfl (fun h hh => ⟨hh.1, hh.2.2.1⟩) rfl (Nat.le_of_ble_eq_true rfl) dL_law_406 ⟨by rw [RC1.1]; omega, by rw [RC1.2]; omega⟩ (fun h v h' hh hj9 => ?_)
  obtain ⟨P2, X2, rfl, hl2, hp2, hi2, hx2⟩ := LJ_1 hh hj9
  refine V_weak (I2 := LJ cB cC cI cO ee mo Pm P2 ((cellX S (xs' (7 * (k : Int) + 1)) (xs' (7 * (k : Int) + 2))).2) X2 S (OI cJ cD ou od (cellX S (xs' (7 * (k : Int) + 1)) (xs' (7 * (k : Int) + 2))))) (fun z hz => by rw [hz]; exact hl2) ?_
  refine V_istore6 (pc' := 411) C dL_law_409 rfl (by decide) rfl ?_
  refine V_aload2 (pc' := 412) C dL_law_411 rfl ?_
  refine V_aload0 (pc' := 413) C dL_law_412 rfl ?_
  refine V_iload5 (pc' := 415) C dL_law_413 rfl ?_
  refine V_iconst (pc' := 416) C dL_law_415 rfl ?_
  refine V_iadd (pc' := 417) C dL_law_416 rfl ?_
  refine V_sld (pc' := 418) C hX hbl hbA ⟨by omega, by omega, by omega⟩ dL_law_417 rfl ?_
  refine V_aload0 (pc' := 419) C dL_law_418 rfl ?_
  refine V_iload5 (pc' := 421) C dL_law_419 rfl ?_
  refine V_iconst (pc' := 422) C dL_law_421 rfl ?_
  refine V_iadd (pc' := 423) C dL_law_422 rfl ?_
  refine V_sld (pc' := 424) C hX hbl hbA ⟨by omega, by omega, by omega⟩ dL_law_423 rfl ?_
  refine V_callV (ci := 13) (n := 2) [.int (iI (xs' (7 * (k : Int) + 1))), .int (iI (xs' (7 * (k : Int) + 2)))] C (kX8_cell (mo := mo) (Pm := Pm) (xs' (7 * (k : Int) + 1)) (xs' (7 * (k : Int) + 2)) hI.1.1 (hxs (7 * (k : Int) + 1)) (hxs (7 * (k : Int) + 2))) gL_law_X8_cell rfl ydX8_cell ⟨Nat.le_of_ble_eq_true rfl, Nat.le_of_ble_eq_true rfl⟩ ⟨rfl, rfl⟩ rfl rfl (fun h hh => ⟨1000, _, hh.2.1.1⟩) (fun h hh => hh.2.1) rfl (Nat.le_of_ble_eq_true rfl) dL_law_424 ⟨by rw [RC1.1]; omega, by rw [RC1.2]; omega⟩ (fun h v h' hh hj9 => ?_)
  obtain ⟨rfl, hl3⟩ := LJ_2 (V := (cellX S (xs' (7 * (k : Int) + 1)) (xs' (7 * (k : Int) + 2))).1) (S3 := (cellX S (xs' (7 * (k : Int) + 1)) (xs' (7 * (k : Int) + 2))).2) hh hi2.1.1.1 hi2.1.2.2.1 OI_fr hj9
  refine V_weak (I2 := LJ cB cC cI cO ee mo Pm P2 ((cellX S (xs' (7 * (k : Int) + 1)) (xs' (7 * (k : Int) + 2))).2) X2 ((cellX S (xs' (7 * (k : Int) + 1)) (xs' (7 * (k : Int) + 2))).2) (OI cJ cD ou od (cellX S (xs' (7 * (k : Int) + 1)) (xs' (7 * (k : Int) + 2))))) (fun z hz => by rw [hz]; exact hl3) ?_
  refine V_istore7 (pc' := 429) C dL_law_427 rfl (by decide) rfl ?_
  refine V_aload2 (pc' := 430) C dL_law_429 rfl ?_
  refine V_callV (ci := 13) (n := 0) [] C (kX8_thrown (mo := mo) (Pm := Pm) (S := (cellX S (xs' (7 * (k : Int) + 1)) (xs' (7 * (k : Int) + 2))).2)) gL_law_X8_thrown rfl ydX8_thrown ⟨Nat.le_of_ble_eq_true rfl, Nat.le_of_ble_eq_true rfl⟩ ⟨rfl, rfl⟩ rfl rfl (fun h hh => ⟨1000, _, hh.2.1.1⟩) (fun h hh => hh.2.1) rfl (Nat.le_of_ble_eq_true rfl) dL_law_430 ⟨by rw [RC1.1]; omega, by rw [RC1.2]; omega⟩ (fun h v h' hh hj9 => ?_)
  obtain ⟨rfl, hl4⟩ := LJ_2 (V := (cellX S (xs' (7 * (k : Int) + 1)) (xs' (7 * (k : Int) + 2))).2.2 31) (S3 := (cellX S (xs' (7 * (k : Int) + 1)) (xs' (7 * (k : Int) + 2))).2) hh hi2.1.1.1 hi2.1.2.2.1 OI_fr hj9
  refine V_weak (I2 := LJ cB cC cI cO ee mo Pm P2 ((cellX S (xs' (7 * (k : Int) + 1)) (xs' (7 * (k : Int) + 2))).2) X2 ((cellX S (xs' (7 * (k : Int) + 1)) (xs' (7 * (k : Int) + 2))).2) (OI cJ cD ou od (cellX S (xs' (7 * (k : Int) + 1)) (xs' (7 * (k : Int) + 2))))) (fun z hz => by rw [hz]; exact hl4) ?_
  refine V_iload6 (pc' := 435) C dL_law_433 rfl ?_
  refine V_same (tgt := 440) C dL_law_435 (by decide) ?_
  refine V_iload6 (pc' := 442) C dL_law_440 rfl ?_
  refine V_ifneX (pc' := 445) (tgt := 457) C dL_law_442 (by decide) rfl ?_ (fun c_0 => ?_)
  · refine V_goto (tgt := 1843) C dL_law_457 (by decide) ?_
    exact V_locals (L2 := [some (.ref b), some (.ref (P 1)), some (.ref mo), some (.ref ou), some (.ref od), some (.int (iI (7 * (k : Int)))), none, none, none]) (fun i v hv => by
        rcases i with _ | _ | _ | _ | _ | _ | _ | _ | _ | i
        all_goals (first | exact hv | (cases hv; done) | cases hv))
        (V_weak (fun z hz => ⟨hz.1, hz.2.1, OI_n hz.2.2⟩) (next P2 _ X2 _ _ hi2 hp2 (by omega) (by omega)))
  · refine V_aload3 (pc' := 446) C dL_law_445 rfl ?_
    refine V_iconst (pc' := 447) C dL_law_446 rfl ?_
    refine V_lald1 (pc' := 448) (v := lI (cellX S (xs' (7 * (k : Int) + 1)) (xs' (7 * (k : Int) + 2))).1) C 4 rfl (fun h hh => by obtain ⟨f9, hf9, hf8⟩ := hh.2.2.1; exact ⟨901, f9, hf8 c_0, hf9⟩) dL_law_447 rfl ?_
    refine V_iload7 (pc' := 450) C dL_law_448 rfl ?_
    refine V_i2l (pc' := 451) C dL_law_450 rfl ?_
    refine V_lcmp (pc' := 452) C dL_law_451 rfl ?_
    refine V_eq (st2 := [.int (iI 0)]) (by rw [lg_self]; rfl) ?_
    refine V_ifeq (tgt := 457) C (by decide) dL_law_452 (by decide) rfl (fun c_452 => ?_) (fun c_452 => ?_)
    · refine V_goto (tgt := 1843) C dL_law_457 (by decide) ?_
      exact V_locals (L2 := [some (.ref b), some (.ref (P 1)), some (.ref mo), some (.ref ou), some (.ref od), some (.int (iI (7 * (k : Int)))), none, none, none]) (fun i v hv => by
          rcases i with _ | _ | _ | _ | _ | _ | _ | _ | _ | i
          all_goals (first | exact hv | (cases hv; done) | cases hv))
          (V_weak (fun z hz => ⟨hz.1, hz.2.1, OI_n hz.2.2⟩) (next P2 _ X2 _ _ hi2 hp2 (by omega) (by omega)))
    · exact absurd c_452 (by decide)
set_option maxHeartbeats 4000000 in
set_option maxRecDepth 100000 in
theorem law_4 (C : Cx p m c code 9 s args wsL_law RL D (tyL cB cC cI cO cJ cD) A ee) (hX : va_X b N (iF xs') s s.heap) (hbl : b < s.heap.size) (hbA : ¬ A b) (hst : l.stackTraces = false) (hxs : ∀ z, rI (xs' z)) (hI : INV S X (210 * (k : Int))) (hk : 7 * (k : Int) + 7 ≤ N) (hN : N ≤ 3584) (h1 : c9 ≤ 100 + 12 * k) (h2 : s9 ≤ 20000 + 40 * k + 8 * (X.2 26).toNat) (next : ∀ (P' : Nat → Nat) (S' X' : MSt) (c' s' : Nat), INV S' X' (210 * (k : Int) + 210) → P' 1 = P 1 → c' ≤ 100 + 12 * (k + 1) → s' ≤ 20000 + 40 * (k + 1) + 8 * (X'.2 26).toNat → Vx p l e room_1 s m args below meth c (c') (s') Q D A 9 (LJ cB cC cI cO ee mo Pm P' S' X' S' (ON cJ cD ou od)) 1843 [some (.ref b), some (.ref (P 1)), some (.ref mo), some (.ref ou), some (.ref od), some (.int (iI (7 * (k : Int)))), none, none, none] []) : Vx p l e room_1 s m args below meth c (c9) (s9) Q D A 9 (LJ cB cC cI cO ee mo Pm P S X S (ON cJ cD ou od)) 460 [some (.ref b), some (.ref (P 1)), some (.ref mo), some (.ref ou), some (.ref od), some (.int (iI (7 * (k : Int)))), none, none, none] [] := by
  have hn := INV_len hI
  refine V_aload1 (pc' := 461) C dL_law_460 rfl ?_
  refine V_aload0 (pc' := 462) C dL_law_461 rfl ?_
  refine V_iload5 (pc' := 464) C dL_law_462 rfl ?_
  refine V_iconst (pc' := 465) C dL_law_464 rfl ?_
  refine V_iadd (pc' := 466) C dL_law_465 rfl ?_
  refine V_sld (pc' := 467) C hX hbl hbA ⟨by omega, by omega, by omega⟩ dL_law_466 rfl ?_
  refine V_aload0 (pc' := 468) C dL_law_467 rfl ?_
  refine V_iload5 (pc' := 470) C dL_law_468 rfl ?_
  refine V_iconst (pc' := 471) C dL_law_470 rfl ?_
  refine V_iadd (pc' := 472) C dL_law_471 rfl ?_
  refine V_sld (pc' := 473) C hX hbl hbA ⟨by omega, by omega, by omega⟩ dL_law_472 rfl ?_
  refine V_aload3 (pc' := 474) C dL_law_473 rfl ?_
  obtain ⟨ms9, len9, h8, h9, hM⟩ := KL_cellByAudit (D := D) (cB := cB) (cC := cC) (cI := cI) (cO := cO) (cJ := cJ) (cD := cD) (ee := ee) (P := P) (ou := ou) hI (by omega) hst (hxs (7 * (k : Int) + 1)) (hxs (7 * (k : Int) + 2))
  refine V_callSW (n := 4) [.ref (P 1), .int (iI (xs' (7 * (k : Int) + 1))), .int (iI (xs' (7 * (k : Int) + 2))), .ref ou] C hM gL_law_L_cellByAudit rfl ydL_cellByAudit ⟨Nat.le_of_ble_eq_true rfl, Nat.le_of_ble_eq_true rfl⟩ ⟨rfl, rfl⟩ rfl (fun h hh => ⟨hh.1, hh.2.2.1⟩) rfl (Nat.le_of_ble_eq_true rfl) dL_law_474 ⟨by rw [RC1.1]; omega, by rw [RC1.2]; omega⟩ (fun h v h' hh hj9 => ?_)
  obtain ⟨P2, X2, rfl, hl2, hp2, hi2, hx2⟩ := LJ_1 hh hj9
  refine V_weak (I2 := LJ cB cC cI cO ee mo Pm P2 ((cellX S (xs' (7 * (k : Int) + 1)) (xs' (7 * (k : Int) + 2))).2) X2 S (OI cJ cD ou od (cellX S (xs' (7 * (k : Int) + 1)) (xs' (7 * (k : Int) + 2))))) (fun z hz => by rw [hz]; exact hl2) ?_
  refine V_istore6 (pc' := 479) C dL_law_477 rfl (by decide) rfl ?_
  refine V_aload2 (pc' := 480) C dL_law_479 rfl ?_
  refine V_aload0 (pc' := 481) C dL_law_480 rfl ?_
  refine V_iload5 (pc' := 483) C dL_law_481 rfl ?_
  refine V_iconst (pc' := 484) C dL_law_483 rfl ?_
  refine V_iadd (pc' := 485) C dL_law_484 rfl ?_
  refine V_sld (pc' := 486) C hX hbl hbA ⟨by omega, by omega, by omega⟩ dL_law_485 rfl ?_
  refine V_aload0 (pc' := 487) C dL_law_486 rfl ?_
  refine V_iload5 (pc' := 489) C dL_law_487 rfl ?_
  refine V_iconst (pc' := 490) C dL_law_489 rfl ?_
  refine V_iadd (pc' := 491) C dL_law_490 rfl ?_
  refine V_sld (pc' := 492) C hX hbl hbA ⟨by omega, by omega, by omega⟩ dL_law_491 rfl ?_
  refine V_callV (ci := 13) (n := 2) [.int (iI (xs' (7 * (k : Int) + 1))), .int (iI (xs' (7 * (k : Int) + 2)))] C (kX8_cellByAudit (mo := mo) (Pm := Pm) (xs' (7 * (k : Int) + 1)) (xs' (7 * (k : Int) + 2)) hI.1.1 (hxs (7 * (k : Int) + 1)) (hxs (7 * (k : Int) + 2))) gL_law_X8_cellByAudit rfl ydX8_cellByAudit ⟨Nat.le_of_ble_eq_true rfl, Nat.le_of_ble_eq_true rfl⟩ ⟨rfl, rfl⟩ rfl rfl (fun h hh => ⟨1000, _, hh.2.1.1⟩) (fun h hh => hh.2.1) rfl (Nat.le_of_ble_eq_true rfl) dL_law_492 ⟨by rw [RC1.1]; omega, by rw [RC1.2]; omega⟩ (fun h v h' hh hj9 => ?_)
  obtain ⟨rfl, hl3⟩ := LJ_2 (V := (cellX S (xs' (7 * (k : Int) + 1)) (xs' (7 * (k : Int) + 2))).1) (S3 := (cellX S (xs' (7 * (k : Int) + 1)) (xs' (7 * (k : Int) + 2))).2) hh hi2.1.1.1 hi2.1.2.2.1 OI_fr hj9
  refine V_weak (I2 := LJ cB cC cI cO ee mo Pm P2 ((cellX S (xs' (7 * (k : Int) + 1)) (xs' (7 * (k : Int) + 2))).2) X2 ((cellX S (xs' (7 * (k : Int) + 1)) (xs' (7 * (k : Int) + 2))).2) (OI cJ cD ou od (cellX S (xs' (7 * (k : Int) + 1)) (xs' (7 * (k : Int) + 2))))) (fun z hz => by rw [hz]; exact hl3) ?_
  refine V_istore7 (pc' := 497) C dL_law_495 rfl (by decide) rfl ?_
  refine V_aload2 (pc' := 498) C dL_law_497 rfl ?_
  refine V_callV (ci := 13) (n := 0) [] C (kX8_thrown (mo := mo) (Pm := Pm) (S := (cellX S (xs' (7 * (k : Int) + 1)) (xs' (7 * (k : Int) + 2))).2)) gL_law_X8_thrown rfl ydX8_thrown ⟨Nat.le_of_ble_eq_true rfl, Nat.le_of_ble_eq_true rfl⟩ ⟨rfl, rfl⟩ rfl rfl (fun h hh => ⟨1000, _, hh.2.1.1⟩) (fun h hh => hh.2.1) rfl (Nat.le_of_ble_eq_true rfl) dL_law_498 ⟨by rw [RC1.1]; omega, by rw [RC1.2]; omega⟩ (fun h v h' hh hj9 => ?_)
  obtain ⟨rfl, hl4⟩ := LJ_2 (V := (cellX S (xs' (7 * (k : Int) + 1)) (xs' (7 * (k : Int) + 2))).2.2 31) (S3 := (cellX S (xs' (7 * (k : Int) + 1)) (xs' (7 * (k : Int) + 2))).2) hh hi2.1.1.1 hi2.1.2.2.1 OI_fr hj9
  refine V_weak (I2 := LJ cB cC cI cO ee mo Pm P2 ((cellX S (xs' (7 * (k : Int) + 1)) (xs' (7 * (k : Int) + 2))).2) X2 ((cellX S (xs' (7 * (k : Int) + 1)) (xs' (7 * (k : Int) + 2))).2) (OI cJ cD ou od (cellX S (xs' (7 * (k : Int) + 1)) (xs' (7 * (k : Int) + 2))))) (fun z hz => by rw [hz]; exact hl4) ?_
  refine V_iload6 (pc' := 503) C dL_law_501 rfl ?_
  refine V_same (tgt := 508) C dL_law_503 (by decide) ?_
  refine V_iload6 (pc' := 510) C dL_law_508 rfl ?_
  refine V_ifneX (pc' := 513) (tgt := 525) C dL_law_510 (by decide) rfl ?_ (fun c_0 => ?_)
  · refine V_goto (tgt := 1843) C dL_law_525 (by decide) ?_
    exact V_locals (L2 := [some (.ref b), some (.ref (P 1)), some (.ref mo), some (.ref ou), some (.ref od), some (.int (iI (7 * (k : Int)))), none, none, none]) (fun i v hv => by
        rcases i with _ | _ | _ | _ | _ | _ | _ | _ | _ | i
        all_goals (first | exact hv | (cases hv; done) | cases hv))
        (V_weak (fun z hz => ⟨hz.1, hz.2.1, OI_n hz.2.2⟩) (next P2 _ X2 _ _ hi2 hp2 (by omega) (by omega)))
  · refine V_aload3 (pc' := 514) C dL_law_513 rfl ?_
    refine V_iconst (pc' := 515) C dL_law_514 rfl ?_
    refine V_lald1 (pc' := 516) (v := lI (cellX S (xs' (7 * (k : Int) + 1)) (xs' (7 * (k : Int) + 2))).1) C 4 rfl (fun h hh => by obtain ⟨f9, hf9, hf8⟩ := hh.2.2.1; exact ⟨901, f9, hf8 c_0, hf9⟩) dL_law_515 rfl ?_
    refine V_iload7 (pc' := 518) C dL_law_516 rfl ?_
    refine V_i2l (pc' := 519) C dL_law_518 rfl ?_
    refine V_lcmp (pc' := 520) C dL_law_519 rfl ?_
    refine V_eq (st2 := [.int (iI 0)]) (by rw [lg_self]; rfl) ?_
    refine V_ifeq (tgt := 525) C (by decide) dL_law_520 (by decide) rfl (fun c_520 => ?_) (fun c_520 => ?_)
    · refine V_goto (tgt := 1843) C dL_law_525 (by decide) ?_
      exact V_locals (L2 := [some (.ref b), some (.ref (P 1)), some (.ref mo), some (.ref ou), some (.ref od), some (.int (iI (7 * (k : Int)))), none, none, none]) (fun i v hv => by
          rcases i with _ | _ | _ | _ | _ | _ | _ | _ | _ | i
          all_goals (first | exact hv | (cases hv; done) | cases hv))
          (V_weak (fun z hz => ⟨hz.1, hz.2.1, OI_n hz.2.2⟩) (next P2 _ X2 _ _ hi2 hp2 (by omega) (by omega)))
    · exact absurd c_520 (by decide)
set_option maxHeartbeats 4000000 in
set_option maxRecDepth 100000 in
theorem law_5 (C : Cx p m c code 9 s args wsL_law RL D (tyL cB cC cI cO cJ cD) A ee) (hX : va_X b N (iF xs') s s.heap) (hbl : b < s.heap.size) (hbA : ¬ A b) (hst : l.stackTraces = false) (hxs : ∀ z, rI (xs' z)) (hI : INV S X (210 * (k : Int))) (hk : 7 * (k : Int) + 7 ≤ N) (hN : N ≤ 3584) (h1 : c9 ≤ 100 + 12 * k) (h2 : s9 ≤ 20000 + 40 * k + 8 * (X.2 26).toNat) (next : ∀ (P' : Nat → Nat) (S' X' : MSt) (c' s' : Nat), INV S' X' (210 * (k : Int) + 210) → P' 1 = P 1 → c' ≤ 100 + 12 * (k + 1) → s' ≤ 20000 + 40 * (k + 1) + 8 * (X'.2 26).toNat → Vx p l e room_1 s m args below meth c (c') (s') Q D A 9 (LJ cB cC cI cO ee mo Pm P' S' X' S' (ON cJ cD ou od)) 1843 [some (.ref b), some (.ref (P 1)), some (.ref mo), some (.ref ou), some (.ref od), some (.int (iI (7 * (k : Int)))), none, none, none] []) : Vx p l e room_1 s m args below meth c (c9) (s9) Q D A 9 (LJ cB cC cI cO ee mo Pm P S X S (ON cJ cD ou od)) 528 [some (.ref b), some (.ref (P 1)), some (.ref mo), some (.ref ou), some (.ref od), some (.int (iI (7 * (k : Int)))), none, none, none] [] := by
  have hn := INV_len hI
  refine V_aload1 (pc' := 529) C dL_law_528 rfl ?_
  refine V_aload3 (pc' := 530) C dL_law_529 rfl ?_
  obtain ⟨ms9, len9, h8, h9, hM⟩ := KL_addMacro (D := D) (cB := cB) (cC := cC) (cI := cI) (cO := cO) (cJ := cJ) (cD := cD) (ee := ee) (P := P) (ou := ou) hI (by omega) hst
  refine V_callSW (n := 2) [.ref (P 1), .ref ou] C hM gL_law_L_addMacro rfl ydL_addMacro ⟨Nat.le_of_ble_eq_true rfl, Nat.le_of_ble_eq_true rfl⟩ ⟨rfl, rfl⟩ rfl (fun h hh => ⟨hh.1, hh.2.2.1⟩) rfl (Nat.le_of_ble_eq_true rfl) dL_law_530 ⟨by rw [RC1.1]; omega, by rw [RC1.2]; omega⟩ (fun h v h' hh hj9 => ?_)
  obtain ⟨P2, X2, rfl, hl2, hp2, hi2, hx2⟩ := LJ_1 hh hj9
  refine V_weak (I2 := LJ cB cC cI cO ee mo Pm P2 ((addMacroX S).2) X2 S (OI cJ cD ou od (addMacroX S))) (fun z hz => by rw [hz]; exact hl2) ?_
  refine V_istore6 (pc' := 535) C dL_law_533 rfl (by decide) rfl ?_
  refine V_aload2 (pc' := 536) C dL_law_535 rfl ?_
  refine V_callV (ci := 13) (n := 0) [] C (kX8_addMacro (mo := mo) (Pm := Pm) hI.1.1) gL_law_X8_addMacro rfl ydX8_addMacro ⟨Nat.le_of_ble_eq_true rfl, Nat.le_of_ble_eq_true rfl⟩ ⟨rfl, rfl⟩ rfl rfl (fun h hh => ⟨1000, _, hh.2.1.1⟩) (fun h hh => hh.2.1) rfl (Nat.le_of_ble_eq_true rfl) dL_law_536 ⟨by rw [RC1.1]; omega, by rw [RC1.2]; omega⟩ (fun h v h' hh hj9 => ?_)
  obtain ⟨rfl, hl3⟩ := LJ_2 (V := (addMacroX S).1) (S3 := (addMacroX S).2) hh hi2.1.1.1 hi2.1.2.2.1 OI_fr hj9
  refine V_weak (I2 := LJ cB cC cI cO ee mo Pm P2 ((addMacroX S).2) X2 ((addMacroX S).2) (OI cJ cD ou od (addMacroX S))) (fun z hz => by rw [hz]; exact hl3) ?_
  refine V_istore7 (pc' := 541) C dL_law_539 rfl (by decide) rfl ?_
  refine V_aload2 (pc' := 542) C dL_law_541 rfl ?_
  refine V_callV (ci := 13) (n := 0) [] C (kX8_thrown (mo := mo) (Pm := Pm) (S := (addMacroX S).2)) gL_law_X8_thrown rfl ydX8_thrown ⟨Nat.le_of_ble_eq_true rfl, Nat.le_of_ble_eq_true rfl⟩ ⟨rfl, rfl⟩ rfl rfl (fun h hh => ⟨1000, _, hh.2.1.1⟩) (fun h hh => hh.2.1) rfl (Nat.le_of_ble_eq_true rfl) dL_law_542 ⟨by rw [RC1.1]; omega, by rw [RC1.2]; omega⟩ (fun h v h' hh hj9 => ?_)
  obtain ⟨rfl, hl4⟩ := LJ_2 (V := (addMacroX S).2.2 31) (S3 := (addMacroX S).2) hh hi2.1.1.1 hi2.1.2.2.1 OI_fr hj9
  refine V_weak (I2 := LJ cB cC cI cO ee mo Pm P2 ((addMacroX S).2) X2 ((addMacroX S).2) (OI cJ cD ou od (addMacroX S))) (fun z hz => by rw [hz]; exact hl4) ?_
  refine V_iload6 (pc' := 547) C dL_law_545 rfl ?_
  refine V_same (tgt := 552) C dL_law_547 (by decide) ?_
  refine V_iload6 (pc' := 554) C dL_law_552 rfl ?_
  refine V_ifneX (pc' := 557) (tgt := 569) C dL_law_554 (by decide) rfl ?_ (fun c_0 => ?_)
  · refine V_goto (tgt := 1843) C dL_law_569 (by decide) ?_
    exact V_locals (L2 := [some (.ref b), some (.ref (P 1)), some (.ref mo), some (.ref ou), some (.ref od), some (.int (iI (7 * (k : Int)))), none, none, none]) (fun i v hv => by
        rcases i with _ | _ | _ | _ | _ | _ | _ | _ | _ | i
        all_goals (first | exact hv | (cases hv; done) | cases hv))
        (V_weak (fun z hz => ⟨hz.1, hz.2.1, OI_n hz.2.2⟩) (next P2 _ X2 _ _ hi2 hp2 (by omega) (by omega)))
  · refine V_aload3 (pc' := 558) C dL_law_557 rfl ?_
    refine V_iconst (pc' := 559) C dL_law_558 rfl ?_
    refine V_lald1 (pc' := 560) (v := lI (addMacroX S).1) C 4 rfl (fun h hh => by obtain ⟨f9, hf9, hf8⟩ := hh.2.2.1; exact ⟨901, f9, hf8 c_0, hf9⟩) dL_law_559 rfl ?_
    refine V_iload7 (pc' := 562) C dL_law_560 rfl ?_
    refine V_i2l (pc' := 563) C dL_law_562 rfl ?_
    refine V_lcmp (pc' := 564) C dL_law_563 rfl ?_
    refine V_eq (st2 := [.int (iI 0)]) (by rw [lg_self]; rfl) ?_
    refine V_ifeq (tgt := 569) C (by decide) dL_law_564 (by decide) rfl (fun c_564 => ?_) (fun c_564 => ?_)
    · refine V_goto (tgt := 1843) C dL_law_569 (by decide) ?_
      exact V_locals (L2 := [some (.ref b), some (.ref (P 1)), some (.ref mo), some (.ref ou), some (.ref od), some (.int (iI (7 * (k : Int)))), none, none, none]) (fun i v hv => by
          rcases i with _ | _ | _ | _ | _ | _ | _ | _ | _ | i
          all_goals (first | exact hv | (cases hv; done) | cases hv))
          (V_weak (fun z hz => ⟨hz.1, hz.2.1, OI_n hz.2.2⟩) (next P2 _ X2 _ _ hi2 hp2 (by omega) (by omega)))
    · exact absurd c_564 (by decide)
set_option maxHeartbeats 4000000 in
set_option maxRecDepth 100000 in
theorem law_6 (C : Cx p m c code 9 s args wsL_law RL D (tyL cB cC cI cO cJ cD) A ee) (hX : va_X b N (iF xs') s s.heap) (hbl : b < s.heap.size) (hbA : ¬ A b) (hst : l.stackTraces = false) (hxs : ∀ z, rI (xs' z)) (hI : INV S X (210 * (k : Int))) (hk : 7 * (k : Int) + 7 ≤ N) (hN : N ≤ 3584) (h1 : c9 ≤ 100 + 12 * k) (h2 : s9 ≤ 20000 + 40 * k + 8 * (X.2 26).toNat) (next : ∀ (P' : Nat → Nat) (S' X' : MSt) (c' s' : Nat), INV S' X' (210 * (k : Int) + 210) → P' 1 = P 1 → c' ≤ 100 + 12 * (k + 1) → s' ≤ 20000 + 40 * (k + 1) + 8 * (X'.2 26).toNat → Vx p l e room_1 s m args below meth c (c') (s') Q D A 9 (LJ cB cC cI cO ee mo Pm P' S' X' S' (ON cJ cD ou od)) 1843 [some (.ref b), some (.ref (P 1)), some (.ref mo), some (.ref ou), some (.ref od), some (.int (iI (7 * (k : Int)))), none, none, none] []) : Vx p l e room_1 s m args below meth c (c9) (s9) Q D A 9 (LJ cB cC cI cO ee mo Pm P S X S (ON cJ cD ou od)) 572 [some (.ref b), some (.ref (P 1)), some (.ref mo), some (.ref ou), some (.ref od), some (.int (iI (7 * (k : Int)))), none, none, none] [] := by
  have hn := INV_len hI
  refine V_aload1 (pc' := 573) C dL_law_572 rfl ?_
  refine V_aload0 (pc' := 574) C dL_law_573 rfl ?_
  refine V_iload5 (pc' := 576) C dL_law_574 rfl ?_
  refine V_iconst (pc' := 577) C dL_law_576 rfl ?_
  refine V_iadd (pc' := 578) C dL_law_577 rfl ?_
  refine V_sld (pc' := 579) C hX hbl hbA ⟨by omega, by omega, by omega⟩ dL_law_578 rfl ?_
  refine V_aload0 (pc' := 580) C dL_law_579 rfl ?_
  refine V_iload5 (pc' := 582) C dL_law_580 rfl ?_
  refine V_iconst (pc' := 583) C dL_law_582 rfl ?_
  refine V_iadd (pc' := 584) C dL_law_583 rfl ?_
  refine V_sld (pc' := 585) C hX hbl hbA ⟨by omega, by omega, by omega⟩ dL_law_584 rfl ?_
  refine V_aload0 (pc' := 586) C dL_law_585 rfl ?_
  refine V_iload5 (pc' := 588) C dL_law_586 rfl ?_
  refine V_iconst (pc' := 589) C dL_law_588 rfl ?_
  refine V_iadd (pc' := 590) C dL_law_589 rfl ?_
  refine V_sld (pc' := 591) C hX hbl hbA ⟨by omega, by omega, by omega⟩ dL_law_590 rfl ?_
  refine V_aload3 (pc' := 592) C dL_law_591 rfl ?_
  obtain ⟨ms9, len9, h8, h9, hM⟩ := KL_record (D := D) (cB := cB) (cC := cC) (cI := cI) (cO := cO) (cJ := cJ) (cD := cD) (ee := ee) (P := P) (ou := ou) hI (by omega) hst (hxs (7 * (k : Int) + 1)) (hxs (7 * (k : Int) + 2)) (hxs (7 * (k : Int) + 3))
  refine V_callSW (n := 5) [.ref (P 1), .int (iI (xs' (7 * (k : Int) + 1))), .int (iI (xs' (7 * (k : Int) + 2))), .int (iI (xs' (7 * (k : Int) + 3))), .ref ou] C hM gL_law_L_record rfl ydL_record ⟨Nat.le_of_ble_eq_true rfl, Nat.le_of_ble_eq_true rfl⟩ ⟨rfl, rfl⟩ rfl (fun h hh => ⟨hh.1, hh.2.2.1⟩) rfl (Nat.le_of_ble_eq_true rfl) dL_law_592 ⟨by rw [RC1.1]; omega, by rw [RC1.2]; omega⟩ (fun h v h' hh hj9 => ?_)
  obtain ⟨P2, X2, rfl, hl2, hp2, hi2, hx2⟩ := LJ_1 hh hj9
  refine V_weak (I2 := LJ cB cC cI cO ee mo Pm P2 ((recordX S (xs' (7 * (k : Int) + 1)) (xs' (7 * (k : Int) + 2)) (xs' (7 * (k : Int) + 3))).2) X2 S (OI cJ cD ou od (recordX S (xs' (7 * (k : Int) + 1)) (xs' (7 * (k : Int) + 2)) (xs' (7 * (k : Int) + 3))))) (fun z hz => by rw [hz]; exact hl2) ?_
  refine V_istore6 (pc' := 597) C dL_law_595 rfl (by decide) rfl ?_
  refine V_aload2 (pc' := 598) C dL_law_597 rfl ?_
  refine V_aload0 (pc' := 599) C dL_law_598 rfl ?_
  refine V_iload5 (pc' := 601) C dL_law_599 rfl ?_
  refine V_iconst (pc' := 602) C dL_law_601 rfl ?_
  refine V_iadd (pc' := 603) C dL_law_602 rfl ?_
  refine V_sld (pc' := 604) C hX hbl hbA ⟨by omega, by omega, by omega⟩ dL_law_603 rfl ?_
  refine V_aload0 (pc' := 605) C dL_law_604 rfl ?_
  refine V_iload5 (pc' := 607) C dL_law_605 rfl ?_
  refine V_iconst (pc' := 608) C dL_law_607 rfl ?_
  refine V_iadd (pc' := 609) C dL_law_608 rfl ?_
  refine V_sld (pc' := 610) C hX hbl hbA ⟨by omega, by omega, by omega⟩ dL_law_609 rfl ?_
  refine V_aload0 (pc' := 611) C dL_law_610 rfl ?_
  refine V_iload5 (pc' := 613) C dL_law_611 rfl ?_
  refine V_iconst (pc' := 614) C dL_law_613 rfl ?_
  refine V_iadd (pc' := 615) C dL_law_614 rfl ?_
  refine V_sld (pc' := 616) C hX hbl hbA ⟨by omega, by omega, by omega⟩ dL_law_615 rfl ?_
  refine V_callV (ci := 13) (n := 3) [.int (iI (xs' (7 * (k : Int) + 1))), .int (iI (xs' (7 * (k : Int) + 2))), .int (iI (xs' (7 * (k : Int) + 3)))] C (kX8_record (mo := mo) (Pm := Pm) (xs' (7 * (k : Int) + 1)) (xs' (7 * (k : Int) + 2)) (xs' (7 * (k : Int) + 3)) hI.1.1 (hxs (7 * (k : Int) + 1)) (hxs (7 * (k : Int) + 2)) (hxs (7 * (k : Int) + 3))) gL_law_X8_record rfl ydX8_record ⟨Nat.le_of_ble_eq_true rfl, Nat.le_of_ble_eq_true rfl⟩ ⟨rfl, rfl⟩ rfl rfl (fun h hh => ⟨1000, _, hh.2.1.1⟩) (fun h hh => hh.2.1) rfl (Nat.le_of_ble_eq_true rfl) dL_law_616 ⟨by rw [RC1.1]; omega, by rw [RC1.2]; omega⟩ (fun h v h' hh hj9 => ?_)
  obtain ⟨rfl, hl3⟩ := LJ_2 (V := (recordX S (xs' (7 * (k : Int) + 1)) (xs' (7 * (k : Int) + 2)) (xs' (7 * (k : Int) + 3))).1) (S3 := (recordX S (xs' (7 * (k : Int) + 1)) (xs' (7 * (k : Int) + 2)) (xs' (7 * (k : Int) + 3))).2) hh hi2.1.1.1 hi2.1.2.2.1 OI_fr hj9
  refine V_weak (I2 := LJ cB cC cI cO ee mo Pm P2 ((recordX S (xs' (7 * (k : Int) + 1)) (xs' (7 * (k : Int) + 2)) (xs' (7 * (k : Int) + 3))).2) X2 ((recordX S (xs' (7 * (k : Int) + 1)) (xs' (7 * (k : Int) + 2)) (xs' (7 * (k : Int) + 3))).2) (OI cJ cD ou od (recordX S (xs' (7 * (k : Int) + 1)) (xs' (7 * (k : Int) + 2)) (xs' (7 * (k : Int) + 3))))) (fun z hz => by rw [hz]; exact hl3) ?_
  refine V_istore7 (pc' := 621) C dL_law_619 rfl (by decide) rfl ?_
  refine V_aload2 (pc' := 622) C dL_law_621 rfl ?_
  refine V_callV (ci := 13) (n := 0) [] C (kX8_thrown (mo := mo) (Pm := Pm) (S := (recordX S (xs' (7 * (k : Int) + 1)) (xs' (7 * (k : Int) + 2)) (xs' (7 * (k : Int) + 3))).2)) gL_law_X8_thrown rfl ydX8_thrown ⟨Nat.le_of_ble_eq_true rfl, Nat.le_of_ble_eq_true rfl⟩ ⟨rfl, rfl⟩ rfl rfl (fun h hh => ⟨1000, _, hh.2.1.1⟩) (fun h hh => hh.2.1) rfl (Nat.le_of_ble_eq_true rfl) dL_law_622 ⟨by rw [RC1.1]; omega, by rw [RC1.2]; omega⟩ (fun h v h' hh hj9 => ?_)
  obtain ⟨rfl, hl4⟩ := LJ_2 (V := (recordX S (xs' (7 * (k : Int) + 1)) (xs' (7 * (k : Int) + 2)) (xs' (7 * (k : Int) + 3))).2.2 31) (S3 := (recordX S (xs' (7 * (k : Int) + 1)) (xs' (7 * (k : Int) + 2)) (xs' (7 * (k : Int) + 3))).2) hh hi2.1.1.1 hi2.1.2.2.1 OI_fr hj9
  refine V_weak (I2 := LJ cB cC cI cO ee mo Pm P2 ((recordX S (xs' (7 * (k : Int) + 1)) (xs' (7 * (k : Int) + 2)) (xs' (7 * (k : Int) + 3))).2) X2 ((recordX S (xs' (7 * (k : Int) + 1)) (xs' (7 * (k : Int) + 2)) (xs' (7 * (k : Int) + 3))).2) (OI cJ cD ou od (recordX S (xs' (7 * (k : Int) + 1)) (xs' (7 * (k : Int) + 2)) (xs' (7 * (k : Int) + 3))))) (fun z hz => by rw [hz]; exact hl4) ?_
  refine V_iload6 (pc' := 627) C dL_law_625 rfl ?_
  refine V_same (tgt := 632) C dL_law_627 (by decide) ?_
  refine V_iload6 (pc' := 634) C dL_law_632 rfl ?_
  refine V_ifneX (pc' := 637) (tgt := 649) C dL_law_634 (by decide) rfl ?_ (fun c_0 => ?_)
  · refine V_goto (tgt := 1843) C dL_law_649 (by decide) ?_
    exact V_locals (L2 := [some (.ref b), some (.ref (P 1)), some (.ref mo), some (.ref ou), some (.ref od), some (.int (iI (7 * (k : Int)))), none, none, none]) (fun i v hv => by
        rcases i with _ | _ | _ | _ | _ | _ | _ | _ | _ | i
        all_goals (first | exact hv | (cases hv; done) | cases hv))
        (V_weak (fun z hz => ⟨hz.1, hz.2.1, OI_n hz.2.2⟩) (next P2 _ X2 _ _ hi2 hp2 (by omega) (by omega)))
  · refine V_aload3 (pc' := 638) C dL_law_637 rfl ?_
    refine V_iconst (pc' := 639) C dL_law_638 rfl ?_
    refine V_lald1 (pc' := 640) (v := lI (recordX S (xs' (7 * (k : Int) + 1)) (xs' (7 * (k : Int) + 2)) (xs' (7 * (k : Int) + 3))).1) C 4 rfl (fun h hh => by obtain ⟨f9, hf9, hf8⟩ := hh.2.2.1; exact ⟨901, f9, hf8 c_0, hf9⟩) dL_law_639 rfl ?_
    refine V_iload7 (pc' := 642) C dL_law_640 rfl ?_
    refine V_i2l (pc' := 643) C dL_law_642 rfl ?_
    refine V_lcmp (pc' := 644) C dL_law_643 rfl ?_
    refine V_eq (st2 := [.int (iI 0)]) (by rw [lg_self]; rfl) ?_
    refine V_ifeq (tgt := 649) C (by decide) dL_law_644 (by decide) rfl (fun c_644 => ?_) (fun c_644 => ?_)
    · refine V_goto (tgt := 1843) C dL_law_649 (by decide) ?_
      exact V_locals (L2 := [some (.ref b), some (.ref (P 1)), some (.ref mo), some (.ref ou), some (.ref od), some (.int (iI (7 * (k : Int)))), none, none, none]) (fun i v hv => by
          rcases i with _ | _ | _ | _ | _ | _ | _ | _ | _ | i
          all_goals (first | exact hv | (cases hv; done) | cases hv))
          (V_weak (fun z hz => ⟨hz.1, hz.2.1, OI_n hz.2.2⟩) (next P2 _ X2 _ _ hi2 hp2 (by omega) (by omega)))
    · exact absurd c_644 (by decide)
set_option maxHeartbeats 4000000 in
set_option maxRecDepth 100000 in
theorem law_7 (C : Cx p m c code 9 s args wsL_law RL D (tyL cB cC cI cO cJ cD) A ee) (hX : va_X b N (iF xs') s s.heap) (hbl : b < s.heap.size) (hbA : ¬ A b) (hst : l.stackTraces = false) (hxs : ∀ z, rI (xs' z)) (hI : INV S X (210 * (k : Int))) (hk : 7 * (k : Int) + 7 ≤ N) (hN : N ≤ 3584) (h1 : c9 ≤ 100 + 12 * k) (h2 : s9 ≤ 20000 + 40 * k + 8 * (X.2 26).toNat) (next : ∀ (P' : Nat → Nat) (S' X' : MSt) (c' s' : Nat), INV S' X' (210 * (k : Int) + 210) → P' 1 = P 1 → c' ≤ 100 + 12 * (k + 1) → s' ≤ 20000 + 40 * (k + 1) + 8 * (X'.2 26).toNat → Vx p l e room_1 s m args below meth c (c') (s') Q D A 9 (LJ cB cC cI cO ee mo Pm P' S' X' S' (ON cJ cD ou od)) 1843 [some (.ref b), some (.ref (P 1)), some (.ref mo), some (.ref ou), some (.ref od), some (.int (iI (7 * (k : Int)))), none, none, none] []) : Vx p l e room_1 s m args below meth c (c9) (s9) Q D A 9 (LJ cB cC cI cO ee mo Pm P S X S (ON cJ cD ou od)) 652 [some (.ref b), some (.ref (P 1)), some (.ref mo), some (.ref ou), some (.ref od), some (.int (iI (7 * (k : Int)))), none, none, none] [] := by
  have hn := INV_len hI
  refine V_aload1 (pc' := 653) C dL_law_652 rfl ?_
  refine V_aload3 (pc' := 654) C dL_law_653 rfl ?_
  obtain ⟨ms9, len9, h8, h9, hM⟩ := KL_stop (D := D) (cB := cB) (cC := cC) (cI := cI) (cO := cO) (cJ := cJ) (cD := cD) (ee := ee) (P := P) (ou := ou) hI (by omega) hst
  refine V_callSW (n := 2) [.ref (P 1), .ref ou] C hM gL_law_L_stop rfl ydL_stop ⟨Nat.le_of_ble_eq_true rfl, Nat.le_of_ble_eq_true rfl⟩ ⟨rfl, rfl⟩ rfl (fun h hh => ⟨hh.1, hh.2.2.1⟩) rfl (Nat.le_of_ble_eq_true rfl) dL_law_654 ⟨by rw [RC1.1]; omega, by rw [RC1.2]; omega⟩ (fun h v h' hh hj9 => ?_)
  obtain ⟨P2, X2, rfl, hl2, hp2, hi2, hx2⟩ := LJ_1 hh hj9
  refine V_weak (I2 := LJ cB cC cI cO ee mo Pm P2 ((stopX S).2) X2 S (OI cJ cD ou od (stopX S))) (fun z hz => by rw [hz]; exact hl2) ?_
  refine V_istore6 (pc' := 659) C dL_law_657 rfl (by decide) rfl ?_
  refine V_aload2 (pc' := 660) C dL_law_659 rfl ?_
  refine V_callV (ci := 13) (n := 0) [] C (kX8_stop (mo := mo) (Pm := Pm) hI.1.1) gL_law_X8_stop rfl ydX8_stop ⟨Nat.le_of_ble_eq_true rfl, Nat.le_of_ble_eq_true rfl⟩ ⟨rfl, rfl⟩ rfl rfl (fun h hh => ⟨1000, _, hh.2.1.1⟩) (fun h hh => hh.2.1) rfl (Nat.le_of_ble_eq_true rfl) dL_law_660 ⟨by rw [RC1.1]; omega, by rw [RC1.2]; omega⟩ (fun h v h' hh hj9 => ?_)
  obtain ⟨rfl, hl3⟩ := LJ_2 (V := (stopX S).1) (S3 := (stopX S).2) hh hi2.1.1.1 hi2.1.2.2.1 OI_fr hj9
  refine V_weak (I2 := LJ cB cC cI cO ee mo Pm P2 ((stopX S).2) X2 ((stopX S).2) (OI cJ cD ou od (stopX S))) (fun z hz => by rw [hz]; exact hl3) ?_
  refine V_istore7 (pc' := 665) C dL_law_663 rfl (by decide) rfl ?_
  refine V_aload2 (pc' := 666) C dL_law_665 rfl ?_
  refine V_callV (ci := 13) (n := 0) [] C (kX8_thrown (mo := mo) (Pm := Pm) (S := (stopX S).2)) gL_law_X8_thrown rfl ydX8_thrown ⟨Nat.le_of_ble_eq_true rfl, Nat.le_of_ble_eq_true rfl⟩ ⟨rfl, rfl⟩ rfl rfl (fun h hh => ⟨1000, _, hh.2.1.1⟩) (fun h hh => hh.2.1) rfl (Nat.le_of_ble_eq_true rfl) dL_law_666 ⟨by rw [RC1.1]; omega, by rw [RC1.2]; omega⟩ (fun h v h' hh hj9 => ?_)
  obtain ⟨rfl, hl4⟩ := LJ_2 (V := (stopX S).2.2 31) (S3 := (stopX S).2) hh hi2.1.1.1 hi2.1.2.2.1 OI_fr hj9
  refine V_weak (I2 := LJ cB cC cI cO ee mo Pm P2 ((stopX S).2) X2 ((stopX S).2) (OI cJ cD ou od (stopX S))) (fun z hz => by rw [hz]; exact hl4) ?_
  refine V_iload6 (pc' := 671) C dL_law_669 rfl ?_
  refine V_same (tgt := 676) C dL_law_671 (by decide) ?_
  refine V_iload6 (pc' := 678) C dL_law_676 rfl ?_
  refine V_ifneX (pc' := 681) (tgt := 693) C dL_law_678 (by decide) rfl ?_ (fun c_0 => ?_)
  · refine V_goto (tgt := 1843) C dL_law_693 (by decide) ?_
    exact V_locals (L2 := [some (.ref b), some (.ref (P 1)), some (.ref mo), some (.ref ou), some (.ref od), some (.int (iI (7 * (k : Int)))), none, none, none]) (fun i v hv => by
        rcases i with _ | _ | _ | _ | _ | _ | _ | _ | _ | i
        all_goals (first | exact hv | (cases hv; done) | cases hv))
        (V_weak (fun z hz => ⟨hz.1, hz.2.1, OI_n hz.2.2⟩) (next P2 _ X2 _ _ hi2 hp2 (by omega) (by omega)))
  · refine V_aload3 (pc' := 682) C dL_law_681 rfl ?_
    refine V_iconst (pc' := 683) C dL_law_682 rfl ?_
    refine V_lald1 (pc' := 684) (v := lI (stopX S).1) C 4 rfl (fun h hh => by obtain ⟨f9, hf9, hf8⟩ := hh.2.2.1; exact ⟨901, f9, hf8 c_0, hf9⟩) dL_law_683 rfl ?_
    refine V_iload7 (pc' := 686) C dL_law_684 rfl ?_
    refine V_i2l (pc' := 687) C dL_law_686 rfl ?_
    refine V_lcmp (pc' := 688) C dL_law_687 rfl ?_
    refine V_eq (st2 := [.int (iI 0)]) (by rw [lg_self]; rfl) ?_
    refine V_ifeq (tgt := 693) C (by decide) dL_law_688 (by decide) rfl (fun c_688 => ?_) (fun c_688 => ?_)
    · refine V_goto (tgt := 1843) C dL_law_693 (by decide) ?_
      exact V_locals (L2 := [some (.ref b), some (.ref (P 1)), some (.ref mo), some (.ref ou), some (.ref od), some (.int (iI (7 * (k : Int)))), none, none, none]) (fun i v hv => by
          rcases i with _ | _ | _ | _ | _ | _ | _ | _ | _ | i
          all_goals (first | exact hv | (cases hv; done) | cases hv))
          (V_weak (fun z hz => ⟨hz.1, hz.2.1, OI_n hz.2.2⟩) (next P2 _ X2 _ _ hi2 hp2 (by omega) (by omega)))
    · exact absurd c_688 (by decide)
set_option maxHeartbeats 4000000 in
set_option maxRecDepth 100000 in
theorem law_8 (C : Cx p m c code 9 s args wsL_law RL D (tyL cB cC cI cO cJ cD) A ee) (hX : va_X b N (iF xs') s s.heap) (hbl : b < s.heap.size) (hbA : ¬ A b) (hst : l.stackTraces = false) (hxs : ∀ z, rI (xs' z)) (hI : INV S X (210 * (k : Int))) (hk : 7 * (k : Int) + 7 ≤ N) (hN : N ≤ 3584) (h1 : c9 ≤ 100 + 12 * k) (h2 : s9 ≤ 20000 + 40 * k + 8 * (X.2 26).toNat) (next : ∀ (P' : Nat → Nat) (S' X' : MSt) (c' s' : Nat), INV S' X' (210 * (k : Int) + 210) → P' 1 = P 1 → c' ≤ 100 + 12 * (k + 1) → s' ≤ 20000 + 40 * (k + 1) + 8 * (X'.2 26).toNat → Vx p l e room_1 s m args below meth c (c') (s') Q D A 9 (LJ cB cC cI cO ee mo Pm P' S' X' S' (ON cJ cD ou od)) 1843 [some (.ref b), some (.ref (P 1)), some (.ref mo), some (.ref ou), some (.ref od), some (.int (iI (7 * (k : Int)))), none, none, none] []) : Vx p l e room_1 s m args below meth c (c9) (s9) Q D A 9 (LJ cB cC cI cO ee mo Pm P S X S (ON cJ cD ou od)) 696 [some (.ref b), some (.ref (P 1)), some (.ref mo), some (.ref ou), some (.ref od), some (.int (iI (7 * (k : Int)))), none, none, none] [] := by
  have hn := INV_len hI
  refine V_aload1 (pc' := 697) C dL_law_696 rfl ?_
  refine V_aload0 (pc' := 698) C dL_law_697 rfl ?_
  refine V_iload5 (pc' := 700) C dL_law_698 rfl ?_
  refine V_iconst (pc' := 701) C dL_law_700 rfl ?_
  refine V_iadd (pc' := 702) C dL_law_701 rfl ?_
  refine V_sld (pc' := 703) C hX hbl hbA ⟨by omega, by omega, by omega⟩ dL_law_702 rfl ?_
  refine V_aload3 (pc' := 704) C dL_law_703 rfl ?_
  obtain ⟨ms9, len9, h8, h9, hM⟩ := KL_steps (D := D) (cB := cB) (cC := cC) (cI := cI) (cO := cO) (cJ := cJ) (cD := cD) (ee := ee) (P := P) (ou := ou) hI (by omega) hst (hxs (7 * (k : Int) + 1))
  refine V_callSW (n := 3) [.ref (P 1), .int (iI (xs' (7 * (k : Int) + 1))), .ref ou] C hM gL_law_L_steps rfl ydL_steps ⟨Nat.le_of_ble_eq_true rfl, Nat.le_of_ble_eq_true rfl⟩ ⟨rfl, rfl⟩ rfl (fun h hh => ⟨hh.1, hh.2.2.1⟩) rfl (Nat.le_of_ble_eq_true rfl) dL_law_704 ⟨by rw [RC1.1]; omega, by rw [RC1.2]; omega⟩ (fun h v h' hh hj9 => ?_)
  obtain ⟨P2, X2, rfl, hl2, hp2, hi2, hx2⟩ := LJ_1 hh hj9
  refine V_weak (I2 := LJ cB cC cI cO ee mo Pm P2 ((stepsX S (xs' (7 * (k : Int) + 1))).2) X2 S (OI cJ cD ou od (stepsX S (xs' (7 * (k : Int) + 1))))) (fun z hz => by rw [hz]; exact hl2) ?_
  refine V_istore6 (pc' := 709) C dL_law_707 rfl (by decide) rfl ?_
  refine V_aload2 (pc' := 710) C dL_law_709 rfl ?_
  refine V_aload0 (pc' := 711) C dL_law_710 rfl ?_
  refine V_iload5 (pc' := 713) C dL_law_711 rfl ?_
  refine V_iconst (pc' := 714) C dL_law_713 rfl ?_
  refine V_iadd (pc' := 715) C dL_law_714 rfl ?_
  refine V_sld (pc' := 716) C hX hbl hbA ⟨by omega, by omega, by omega⟩ dL_law_715 rfl ?_
  refine V_callV (ci := 13) (n := 1) [.int (iI (xs' (7 * (k : Int) + 1)))] C (kX8_steps (mo := mo) (Pm := Pm) (xs' (7 * (k : Int) + 1)) hI.1.1 (hxs (7 * (k : Int) + 1))) gL_law_X8_steps rfl ydX8_steps ⟨Nat.le_of_ble_eq_true rfl, Nat.le_of_ble_eq_true rfl⟩ ⟨rfl, rfl⟩ rfl rfl (fun h hh => ⟨1000, _, hh.2.1.1⟩) (fun h hh => hh.2.1) rfl (Nat.le_of_ble_eq_true rfl) dL_law_716 ⟨by rw [RC1.1]; omega, by rw [RC1.2]; omega⟩ (fun h v h' hh hj9 => ?_)
  obtain ⟨rfl, hl3⟩ := LJ_2 (V := (stepsX S (xs' (7 * (k : Int) + 1))).1) (S3 := (stepsX S (xs' (7 * (k : Int) + 1))).2) hh hi2.1.1.1 hi2.1.2.2.1 OI_fr hj9
  refine V_weak (I2 := LJ cB cC cI cO ee mo Pm P2 ((stepsX S (xs' (7 * (k : Int) + 1))).2) X2 ((stepsX S (xs' (7 * (k : Int) + 1))).2) (OI cJ cD ou od (stepsX S (xs' (7 * (k : Int) + 1))))) (fun z hz => by rw [hz]; exact hl3) ?_
  refine V_istore7 (pc' := 721) C dL_law_719 rfl (by decide) rfl ?_
  refine V_aload2 (pc' := 722) C dL_law_721 rfl ?_
  refine V_callV (ci := 13) (n := 0) [] C (kX8_thrown (mo := mo) (Pm := Pm) (S := (stepsX S (xs' (7 * (k : Int) + 1))).2)) gL_law_X8_thrown rfl ydX8_thrown ⟨Nat.le_of_ble_eq_true rfl, Nat.le_of_ble_eq_true rfl⟩ ⟨rfl, rfl⟩ rfl rfl (fun h hh => ⟨1000, _, hh.2.1.1⟩) (fun h hh => hh.2.1) rfl (Nat.le_of_ble_eq_true rfl) dL_law_722 ⟨by rw [RC1.1]; omega, by rw [RC1.2]; omega⟩ (fun h v h' hh hj9 => ?_)
  obtain ⟨rfl, hl4⟩ := LJ_2 (V := (stepsX S (xs' (7 * (k : Int) + 1))).2.2 31) (S3 := (stepsX S (xs' (7 * (k : Int) + 1))).2) hh hi2.1.1.1 hi2.1.2.2.1 OI_fr hj9
  refine V_weak (I2 := LJ cB cC cI cO ee mo Pm P2 ((stepsX S (xs' (7 * (k : Int) + 1))).2) X2 ((stepsX S (xs' (7 * (k : Int) + 1))).2) (OI cJ cD ou od (stepsX S (xs' (7 * (k : Int) + 1))))) (fun z hz => by rw [hz]; exact hl4) ?_
  refine V_iload6 (pc' := 727) C dL_law_725 rfl ?_
  refine V_same (tgt := 732) C dL_law_727 (by decide) ?_
  refine V_iload6 (pc' := 734) C dL_law_732 rfl ?_
  refine V_ifneX (pc' := 737) (tgt := 749) C dL_law_734 (by decide) rfl ?_ (fun c_0 => ?_)
  · refine V_goto (tgt := 1843) C dL_law_749 (by decide) ?_
    exact V_locals (L2 := [some (.ref b), some (.ref (P 1)), some (.ref mo), some (.ref ou), some (.ref od), some (.int (iI (7 * (k : Int)))), none, none, none]) (fun i v hv => by
        rcases i with _ | _ | _ | _ | _ | _ | _ | _ | _ | i
        all_goals (first | exact hv | (cases hv; done) | cases hv))
        (V_weak (fun z hz => ⟨hz.1, hz.2.1, OI_n hz.2.2⟩) (next P2 _ X2 _ _ hi2 hp2 (by omega) (by omega)))
  · refine V_aload3 (pc' := 738) C dL_law_737 rfl ?_
    refine V_iconst (pc' := 739) C dL_law_738 rfl ?_
    refine V_lald1 (pc' := 740) (v := lI (stepsX S (xs' (7 * (k : Int) + 1))).1) C 4 rfl (fun h hh => by obtain ⟨f9, hf9, hf8⟩ := hh.2.2.1; exact ⟨901, f9, hf8 c_0, hf9⟩) dL_law_739 rfl ?_
    refine V_iload7 (pc' := 742) C dL_law_740 rfl ?_
    refine V_i2l (pc' := 743) C dL_law_742 rfl ?_
    refine V_lcmp (pc' := 744) C dL_law_743 rfl ?_
    refine V_eq (st2 := [.int (iI 0)]) (by rw [lg_self]; rfl) ?_
    refine V_ifeq (tgt := 749) C (by decide) dL_law_744 (by decide) rfl (fun c_744 => ?_) (fun c_744 => ?_)
    · refine V_goto (tgt := 1843) C dL_law_749 (by decide) ?_
      exact V_locals (L2 := [some (.ref b), some (.ref (P 1)), some (.ref mo), some (.ref ou), some (.ref od), some (.int (iI (7 * (k : Int)))), none, none, none]) (fun i v hv => by
          rcases i with _ | _ | _ | _ | _ | _ | _ | _ | _ | i
          all_goals (first | exact hv | (cases hv; done) | cases hv))
          (V_weak (fun z hz => ⟨hz.1, hz.2.1, OI_n hz.2.2⟩) (next P2 _ X2 _ _ hi2 hp2 (by omega) (by omega)))
    · exact absurd c_744 (by decide)
set_option maxHeartbeats 4000000 in
set_option maxRecDepth 100000 in
theorem law_9 (C : Cx p m c code 9 s args wsL_law RL D (tyL cB cC cI cO cJ cD) A ee) (hX : va_X b N (iF xs') s s.heap) (hbl : b < s.heap.size) (hbA : ¬ A b) (hst : l.stackTraces = false) (hxs : ∀ z, rI (xs' z)) (hI : INV S X (210 * (k : Int))) (hk : 7 * (k : Int) + 7 ≤ N) (hN : N ≤ 3584) (h1 : c9 ≤ 100 + 12 * k) (h2 : s9 ≤ 20000 + 40 * k + 8 * (X.2 26).toNat) (next : ∀ (P' : Nat → Nat) (S' X' : MSt) (c' s' : Nat), INV S' X' (210 * (k : Int) + 210) → P' 1 = P 1 → c' ≤ 100 + 12 * (k + 1) → s' ≤ 20000 + 40 * (k + 1) + 8 * (X'.2 26).toNat → Vx p l e room_1 s m args below meth c (c') (s') Q D A 9 (LJ cB cC cI cO ee mo Pm P' S' X' S' (ON cJ cD ou od)) 1843 [some (.ref b), some (.ref (P 1)), some (.ref mo), some (.ref ou), some (.ref od), some (.int (iI (7 * (k : Int)))), none, none, none] []) : Vx p l e room_1 s m args below meth c (c9) (s9) Q D A 9 (LJ cB cC cI cO ee mo Pm P S X S (ON cJ cD ou od)) 752 [some (.ref b), some (.ref (P 1)), some (.ref mo), some (.ref ou), some (.ref od), some (.int (iI (7 * (k : Int)))), none, none, none] [] := by
  have hn := INV_len hI
  refine V_aload1 (pc' := 753) C dL_law_752 rfl ?_
  refine V_aload0 (pc' := 754) C dL_law_753 rfl ?_
  refine V_iload5 (pc' := 756) C dL_law_754 rfl ?_
  refine V_iconst (pc' := 757) C dL_law_756 rfl ?_
  refine V_iadd (pc' := 758) C dL_law_757 rfl ?_
  refine V_sld (pc' := 759) C hX hbl hbA ⟨by omega, by omega, by omega⟩ dL_law_758 rfl ?_
  refine V_aload0 (pc' := 760) C dL_law_759 rfl ?_
  refine V_iload5 (pc' := 762) C dL_law_760 rfl ?_
  refine V_iconst (pc' := 763) C dL_law_762 rfl ?_
  refine V_iadd (pc' := 764) C dL_law_763 rfl ?_
  refine V_sld (pc' := 765) C hX hbl hbA ⟨by omega, by omega, by omega⟩ dL_law_764 rfl ?_
  refine V_aload0 (pc' := 766) C dL_law_765 rfl ?_
  refine V_iload5 (pc' := 768) C dL_law_766 rfl ?_
  refine V_iconst (pc' := 769) C dL_law_768 rfl ?_
  refine V_iadd (pc' := 770) C dL_law_769 rfl ?_
  refine V_sld (pc' := 771) C hX hbl hbA ⟨by omega, by omega, by omega⟩ dL_law_770 rfl ?_
  refine V_aload0 (pc' := 772) C dL_law_771 rfl ?_
  refine V_iload5 (pc' := 774) C dL_law_772 rfl ?_
  refine V_iconst (pc' := 775) C dL_law_774 rfl ?_
  refine V_iadd (pc' := 776) C dL_law_775 rfl ?_
  refine V_sld (pc' := 777) C hX hbl hbA ⟨by omega, by omega, by omega⟩ dL_law_776 rfl ?_
  refine V_aload0 (pc' := 778) C dL_law_777 rfl ?_
  refine V_iload5 (pc' := 780) C dL_law_778 rfl ?_
  refine V_iconst (pc' := 781) C dL_law_780 rfl ?_
  refine V_iadd (pc' := 782) C dL_law_781 rfl ?_
  refine V_sld (pc' := 783) C hX hbl hbA ⟨by omega, by omega, by omega⟩ dL_law_782 rfl ?_
  refine V_aload3 (pc' := 784) C dL_law_783 rfl ?_
  obtain ⟨ms9, len9, h8, h9, hM⟩ := KL_grant (D := D) (cB := cB) (cC := cC) (cI := cI) (cO := cO) (cJ := cJ) (cD := cD) (ee := ee) (P := P) (ou := ou) hI (by omega) hst (hxs (7 * (k : Int) + 1)) (hxs (7 * (k : Int) + 2)) (hxs (7 * (k : Int) + 3)) (hxs (7 * (k : Int) + 4)) (hxs (7 * (k : Int) + 5))
  refine V_callSW (n := 7) [.ref (P 1), .int (iI (xs' (7 * (k : Int) + 1))), .int (iI (xs' (7 * (k : Int) + 2))), .int (iI (xs' (7 * (k : Int) + 3))), .int (iI (xs' (7 * (k : Int) + 4))), .int (iI (xs' (7 * (k : Int) + 5))), .ref ou] C hM gL_law_L_grant rfl ydL_grant ⟨Nat.le_of_ble_eq_true rfl, Nat.le_of_ble_eq_true rfl⟩ ⟨rfl, rfl⟩ rfl (fun h hh => ⟨hh.1, hh.2.2.1⟩) rfl (Nat.le_of_ble_eq_true rfl) dL_law_784 ⟨by rw [RC1.1]; omega, by rw [RC1.2]; omega⟩ (fun h v h' hh hj9 => ?_)
  obtain ⟨P2, X2, rfl, hl2, hp2, hi2, hx2⟩ := LJ_1 hh hj9
  refine V_weak (I2 := LJ cB cC cI cO ee mo Pm P2 ((grantX S (xs' (7 * (k : Int) + 1)) (xs' (7 * (k : Int) + 2)) (xs' (7 * (k : Int) + 3)) (xs' (7 * (k : Int) + 4)) (xs' (7 * (k : Int) + 5))).2) X2 S (OI cJ cD ou od (grantX S (xs' (7 * (k : Int) + 1)) (xs' (7 * (k : Int) + 2)) (xs' (7 * (k : Int) + 3)) (xs' (7 * (k : Int) + 4)) (xs' (7 * (k : Int) + 5))))) (fun z hz => by rw [hz]; exact hl2) ?_
  refine V_istore6 (pc' := 789) C dL_law_787 rfl (by decide) rfl ?_
  refine V_aload2 (pc' := 790) C dL_law_789 rfl ?_
  refine V_aload0 (pc' := 791) C dL_law_790 rfl ?_
  refine V_iload5 (pc' := 793) C dL_law_791 rfl ?_
  refine V_iconst (pc' := 794) C dL_law_793 rfl ?_
  refine V_iadd (pc' := 795) C dL_law_794 rfl ?_
  refine V_sld (pc' := 796) C hX hbl hbA ⟨by omega, by omega, by omega⟩ dL_law_795 rfl ?_
  refine V_aload0 (pc' := 797) C dL_law_796 rfl ?_
  refine V_iload5 (pc' := 799) C dL_law_797 rfl ?_
  refine V_iconst (pc' := 800) C dL_law_799 rfl ?_
  refine V_iadd (pc' := 801) C dL_law_800 rfl ?_
  refine V_sld (pc' := 802) C hX hbl hbA ⟨by omega, by omega, by omega⟩ dL_law_801 rfl ?_
  refine V_aload0 (pc' := 803) C dL_law_802 rfl ?_
  refine V_iload5 (pc' := 805) C dL_law_803 rfl ?_
  refine V_iconst (pc' := 806) C dL_law_805 rfl ?_
  refine V_iadd (pc' := 807) C dL_law_806 rfl ?_
  refine V_sld (pc' := 808) C hX hbl hbA ⟨by omega, by omega, by omega⟩ dL_law_807 rfl ?_
  refine V_aload0 (pc' := 809) C dL_law_808 rfl ?_
  refine V_iload5 (pc' := 811) C dL_law_809 rfl ?_
  refine V_iconst (pc' := 812) C dL_law_811 rfl ?_
  refine V_iadd (pc' := 813) C dL_law_812 rfl ?_
  refine V_sld (pc' := 814) C hX hbl hbA ⟨by omega, by omega, by omega⟩ dL_law_813 rfl ?_
  refine V_aload0 (pc' := 815) C dL_law_814 rfl ?_
  refine V_iload5 (pc' := 817) C dL_law_815 rfl ?_
  refine V_iconst (pc' := 818) C dL_law_817 rfl ?_
  refine V_iadd (pc' := 819) C dL_law_818 rfl ?_
  refine V_sld (pc' := 820) C hX hbl hbA ⟨by omega, by omega, by omega⟩ dL_law_819 rfl ?_
  refine V_callV (ci := 13) (n := 5) [.int (iI (xs' (7 * (k : Int) + 1))), .int (iI (xs' (7 * (k : Int) + 2))), .int (iI (xs' (7 * (k : Int) + 3))), .int (iI (xs' (7 * (k : Int) + 4))), .int (iI (xs' (7 * (k : Int) + 5)))] C (kX8_grant (mo := mo) (Pm := Pm) (xs' (7 * (k : Int) + 1)) (xs' (7 * (k : Int) + 2)) (xs' (7 * (k : Int) + 3)) (xs' (7 * (k : Int) + 4)) (xs' (7 * (k : Int) + 5)) hI.1.1 (hxs (7 * (k : Int) + 1)) (hxs (7 * (k : Int) + 2)) (hxs (7 * (k : Int) + 3)) (hxs (7 * (k : Int) + 4)) (hxs (7 * (k : Int) + 5))) gL_law_X8_grant rfl ydX8_grant ⟨Nat.le_of_ble_eq_true rfl, Nat.le_of_ble_eq_true rfl⟩ ⟨rfl, rfl⟩ rfl rfl (fun h hh => ⟨1000, _, hh.2.1.1⟩) (fun h hh => hh.2.1) rfl (Nat.le_of_ble_eq_true rfl) dL_law_820 ⟨by rw [RC1.1]; omega, by rw [RC1.2]; omega⟩ (fun h v h' hh hj9 => ?_)
  obtain ⟨rfl, hl3⟩ := LJ_2 (V := (grantX S (xs' (7 * (k : Int) + 1)) (xs' (7 * (k : Int) + 2)) (xs' (7 * (k : Int) + 3)) (xs' (7 * (k : Int) + 4)) (xs' (7 * (k : Int) + 5))).1) (S3 := (grantX S (xs' (7 * (k : Int) + 1)) (xs' (7 * (k : Int) + 2)) (xs' (7 * (k : Int) + 3)) (xs' (7 * (k : Int) + 4)) (xs' (7 * (k : Int) + 5))).2) hh hi2.1.1.1 hi2.1.2.2.1 OI_fr hj9
  refine V_weak (I2 := LJ cB cC cI cO ee mo Pm P2 ((grantX S (xs' (7 * (k : Int) + 1)) (xs' (7 * (k : Int) + 2)) (xs' (7 * (k : Int) + 3)) (xs' (7 * (k : Int) + 4)) (xs' (7 * (k : Int) + 5))).2) X2 ((grantX S (xs' (7 * (k : Int) + 1)) (xs' (7 * (k : Int) + 2)) (xs' (7 * (k : Int) + 3)) (xs' (7 * (k : Int) + 4)) (xs' (7 * (k : Int) + 5))).2) (OI cJ cD ou od (grantX S (xs' (7 * (k : Int) + 1)) (xs' (7 * (k : Int) + 2)) (xs' (7 * (k : Int) + 3)) (xs' (7 * (k : Int) + 4)) (xs' (7 * (k : Int) + 5))))) (fun z hz => by rw [hz]; exact hl3) ?_
  refine V_istore7 (pc' := 825) C dL_law_823 rfl (by decide) rfl ?_
  refine V_aload2 (pc' := 826) C dL_law_825 rfl ?_
  refine V_callV (ci := 13) (n := 0) [] C (kX8_thrown (mo := mo) (Pm := Pm) (S := (grantX S (xs' (7 * (k : Int) + 1)) (xs' (7 * (k : Int) + 2)) (xs' (7 * (k : Int) + 3)) (xs' (7 * (k : Int) + 4)) (xs' (7 * (k : Int) + 5))).2)) gL_law_X8_thrown rfl ydX8_thrown ⟨Nat.le_of_ble_eq_true rfl, Nat.le_of_ble_eq_true rfl⟩ ⟨rfl, rfl⟩ rfl rfl (fun h hh => ⟨1000, _, hh.2.1.1⟩) (fun h hh => hh.2.1) rfl (Nat.le_of_ble_eq_true rfl) dL_law_826 ⟨by rw [RC1.1]; omega, by rw [RC1.2]; omega⟩ (fun h v h' hh hj9 => ?_)
  obtain ⟨rfl, hl4⟩ := LJ_2 (V := (grantX S (xs' (7 * (k : Int) + 1)) (xs' (7 * (k : Int) + 2)) (xs' (7 * (k : Int) + 3)) (xs' (7 * (k : Int) + 4)) (xs' (7 * (k : Int) + 5))).2.2 31) (S3 := (grantX S (xs' (7 * (k : Int) + 1)) (xs' (7 * (k : Int) + 2)) (xs' (7 * (k : Int) + 3)) (xs' (7 * (k : Int) + 4)) (xs' (7 * (k : Int) + 5))).2) hh hi2.1.1.1 hi2.1.2.2.1 OI_fr hj9
  refine V_weak (I2 := LJ cB cC cI cO ee mo Pm P2 ((grantX S (xs' (7 * (k : Int) + 1)) (xs' (7 * (k : Int) + 2)) (xs' (7 * (k : Int) + 3)) (xs' (7 * (k : Int) + 4)) (xs' (7 * (k : Int) + 5))).2) X2 ((grantX S (xs' (7 * (k : Int) + 1)) (xs' (7 * (k : Int) + 2)) (xs' (7 * (k : Int) + 3)) (xs' (7 * (k : Int) + 4)) (xs' (7 * (k : Int) + 5))).2) (OI cJ cD ou od (grantX S (xs' (7 * (k : Int) + 1)) (xs' (7 * (k : Int) + 2)) (xs' (7 * (k : Int) + 3)) (xs' (7 * (k : Int) + 4)) (xs' (7 * (k : Int) + 5))))) (fun z hz => by rw [hz]; exact hl4) ?_
  refine V_iload6 (pc' := 831) C dL_law_829 rfl ?_
  refine V_same (tgt := 836) C dL_law_831 (by decide) ?_
  refine V_iload6 (pc' := 838) C dL_law_836 rfl ?_
  refine V_ifneX (pc' := 841) (tgt := 853) C dL_law_838 (by decide) rfl ?_ (fun c_0 => ?_)
  · refine V_goto (tgt := 1843) C dL_law_853 (by decide) ?_
    exact V_locals (L2 := [some (.ref b), some (.ref (P 1)), some (.ref mo), some (.ref ou), some (.ref od), some (.int (iI (7 * (k : Int)))), none, none, none]) (fun i v hv => by
        rcases i with _ | _ | _ | _ | _ | _ | _ | _ | _ | i
        all_goals (first | exact hv | (cases hv; done) | cases hv))
        (V_weak (fun z hz => ⟨hz.1, hz.2.1, OI_n hz.2.2⟩) (next P2 _ X2 _ _ hi2 hp2 (by omega) (by omega)))
  · refine V_aload3 (pc' := 842) C dL_law_841 rfl ?_
    refine V_iconst (pc' := 843) C dL_law_842 rfl ?_
    refine V_lald1 (pc' := 844) (v := lI (grantX S (xs' (7 * (k : Int) + 1)) (xs' (7 * (k : Int) + 2)) (xs' (7 * (k : Int) + 3)) (xs' (7 * (k : Int) + 4)) (xs' (7 * (k : Int) + 5))).1) C 4 rfl (fun h hh => by obtain ⟨f9, hf9, hf8⟩ := hh.2.2.1; exact ⟨901, f9, hf8 c_0, hf9⟩) dL_law_843 rfl ?_
    refine V_iload7 (pc' := 846) C dL_law_844 rfl ?_
    refine V_i2l (pc' := 847) C dL_law_846 rfl ?_
    refine V_lcmp (pc' := 848) C dL_law_847 rfl ?_
    refine V_eq (st2 := [.int (iI 0)]) (by rw [lg_self]; rfl) ?_
    refine V_ifeq (tgt := 853) C (by decide) dL_law_848 (by decide) rfl (fun c_848 => ?_) (fun c_848 => ?_)
    · refine V_goto (tgt := 1843) C dL_law_853 (by decide) ?_
      exact V_locals (L2 := [some (.ref b), some (.ref (P 1)), some (.ref mo), some (.ref ou), some (.ref od), some (.int (iI (7 * (k : Int)))), none, none, none]) (fun i v hv => by
          rcases i with _ | _ | _ | _ | _ | _ | _ | _ | _ | i
          all_goals (first | exact hv | (cases hv; done) | cases hv))
          (V_weak (fun z hz => ⟨hz.1, hz.2.1, OI_n hz.2.2⟩) (next P2 _ X2 _ _ hi2 hp2 (by omega) (by omega)))
    · exact absurd c_848 (by decide)
set_option maxHeartbeats 4000000 in
set_option maxRecDepth 100000 in
theorem law_10 (C : Cx p m c code 9 s args wsL_law RL D (tyL cB cC cI cO cJ cD) A ee) (hX : va_X b N (iF xs') s s.heap) (hbl : b < s.heap.size) (hbA : ¬ A b) (hst : l.stackTraces = false) (hxs : ∀ z, rI (xs' z)) (hI : INV S X (210 * (k : Int))) (hk : 7 * (k : Int) + 7 ≤ N) (hN : N ≤ 3584) (h1 : c9 ≤ 100 + 12 * k) (h2 : s9 ≤ 20000 + 40 * k + 8 * (X.2 26).toNat) (next : ∀ (P' : Nat → Nat) (S' X' : MSt) (c' s' : Nat), INV S' X' (210 * (k : Int) + 210) → P' 1 = P 1 → c' ≤ 100 + 12 * (k + 1) → s' ≤ 20000 + 40 * (k + 1) + 8 * (X'.2 26).toNat → Vx p l e room_1 s m args below meth c (c') (s') Q D A 9 (LJ cB cC cI cO ee mo Pm P' S' X' S' (ON cJ cD ou od)) 1843 [some (.ref b), some (.ref (P 1)), some (.ref mo), some (.ref ou), some (.ref od), some (.int (iI (7 * (k : Int)))), none, none, none] []) : Vx p l e room_1 s m args below meth c (c9) (s9) Q D A 9 (LJ cB cC cI cO ee mo Pm P S X S (ON cJ cD ou od)) 856 [some (.ref b), some (.ref (P 1)), some (.ref mo), some (.ref ou), some (.ref od), some (.int (iI (7 * (k : Int)))), none, none, none] [] := by
  have hn := INV_len hI
  refine V_aload1 (pc' := 857) C dL_law_856 rfl ?_
  refine V_aload0 (pc' := 858) C dL_law_857 rfl ?_
  refine V_iload5 (pc' := 860) C dL_law_858 rfl ?_
  refine V_iconst (pc' := 861) C dL_law_860 rfl ?_
  refine V_iadd (pc' := 862) C dL_law_861 rfl ?_
  refine V_sld (pc' := 863) C hX hbl hbA ⟨by omega, by omega, by omega⟩ dL_law_862 rfl ?_
  refine V_aload3 (pc' := 864) C dL_law_863 rfl ?_
  obtain ⟨ms9, len9, h8, h9, hM⟩ := KL_takeGrants (D := D) (cB := cB) (cC := cC) (cI := cI) (cO := cO) (cJ := cJ) (cD := cD) (ee := ee) (P := P) (ou := ou) hI (by omega) hst (hxs (7 * (k : Int) + 1))
  refine V_callSW (n := 3) [.ref (P 1), .int (iI (xs' (7 * (k : Int) + 1))), .ref ou] C hM gL_law_L_takeGrants rfl ydL_takeGrants ⟨Nat.le_of_ble_eq_true rfl, Nat.le_of_ble_eq_true rfl⟩ ⟨rfl, rfl⟩ rfl (fun h hh => ⟨hh.1, hh.2.2.1⟩) rfl (Nat.le_of_ble_eq_true rfl) dL_law_864 ⟨by rw [RC1.1]; omega, by rw [RC1.2]; omega⟩ (fun h v h' hh hj9 => ?_)
  obtain ⟨P2, X2, rfl, hl2, hp2, hi2, hx2⟩ := LJ_1 hh hj9
  refine V_weak (I2 := LJ cB cC cI cO ee mo Pm P2 ((takeX S (xs' (7 * (k : Int) + 1))).2) X2 S (OI cJ cD ou od (takeX S (xs' (7 * (k : Int) + 1))))) (fun z hz => by rw [hz]; exact hl2) ?_
  refine V_istore6 (pc' := 869) C dL_law_867 rfl (by decide) rfl ?_
  refine V_aload2 (pc' := 870) C dL_law_869 rfl ?_
  refine V_aload0 (pc' := 871) C dL_law_870 rfl ?_
  refine V_iload5 (pc' := 873) C dL_law_871 rfl ?_
  refine V_iconst (pc' := 874) C dL_law_873 rfl ?_
  refine V_iadd (pc' := 875) C dL_law_874 rfl ?_
  refine V_sld (pc' := 876) C hX hbl hbA ⟨by omega, by omega, by omega⟩ dL_law_875 rfl ?_
  refine V_callV (ci := 13) (n := 1) [.int (iI (xs' (7 * (k : Int) + 1)))] C (kX8_takeGrants (mo := mo) (Pm := Pm) (xs' (7 * (k : Int) + 1)) hI.1.1 (hxs (7 * (k : Int) + 1))) gL_law_X8_takeGrants rfl ydX8_takeGrants ⟨Nat.le_of_ble_eq_true rfl, Nat.le_of_ble_eq_true rfl⟩ ⟨rfl, rfl⟩ rfl rfl (fun h hh => ⟨1000, _, hh.2.1.1⟩) (fun h hh => hh.2.1) rfl (Nat.le_of_ble_eq_true rfl) dL_law_876 ⟨by rw [RC1.1]; omega, by rw [RC1.2]; omega⟩ (fun h v h' hh hj9 => ?_)
  obtain ⟨rfl, hl3⟩ := LJ_2 (V := (takeX S (xs' (7 * (k : Int) + 1))).1) (S3 := (takeX S (xs' (7 * (k : Int) + 1))).2) hh hi2.1.1.1 hi2.1.2.2.1 OI_fr hj9
  refine V_weak (I2 := LJ cB cC cI cO ee mo Pm P2 ((takeX S (xs' (7 * (k : Int) + 1))).2) X2 ((takeX S (xs' (7 * (k : Int) + 1))).2) (OI cJ cD ou od (takeX S (xs' (7 * (k : Int) + 1))))) (fun z hz => by rw [hz]; exact hl3) ?_
  refine V_istore7 (pc' := 881) C dL_law_879 rfl (by decide) rfl ?_
  refine V_aload2 (pc' := 882) C dL_law_881 rfl ?_
  refine V_callV (ci := 13) (n := 0) [] C (kX8_thrown (mo := mo) (Pm := Pm) (S := (takeX S (xs' (7 * (k : Int) + 1))).2)) gL_law_X8_thrown rfl ydX8_thrown ⟨Nat.le_of_ble_eq_true rfl, Nat.le_of_ble_eq_true rfl⟩ ⟨rfl, rfl⟩ rfl rfl (fun h hh => ⟨1000, _, hh.2.1.1⟩) (fun h hh => hh.2.1) rfl (Nat.le_of_ble_eq_true rfl) dL_law_882 ⟨by rw [RC1.1]; omega, by rw [RC1.2]; omega⟩ (fun h v h' hh hj9 => ?_)
  obtain ⟨rfl, hl4⟩ := LJ_2 (V := (takeX S (xs' (7 * (k : Int) + 1))).2.2 31) (S3 := (takeX S (xs' (7 * (k : Int) + 1))).2) hh hi2.1.1.1 hi2.1.2.2.1 OI_fr hj9
  refine V_weak (I2 := LJ cB cC cI cO ee mo Pm P2 ((takeX S (xs' (7 * (k : Int) + 1))).2) X2 ((takeX S (xs' (7 * (k : Int) + 1))).2) (OI cJ cD ou od (takeX S (xs' (7 * (k : Int) + 1))))) (fun z hz => by rw [hz]; exact hl4) ?_
  refine V_iload6 (pc' := 887) C dL_law_885 rfl ?_
  refine V_same (tgt := 892) C dL_law_887 (by decide) ?_
  refine V_iload6 (pc' := 894) C dL_law_892 rfl ?_
  refine V_ifneX (pc' := 897) (tgt := 909) C dL_law_894 (by decide) rfl ?_ (fun c_0 => ?_)
  · refine V_goto (tgt := 1843) C dL_law_909 (by decide) ?_
    exact V_locals (L2 := [some (.ref b), some (.ref (P 1)), some (.ref mo), some (.ref ou), some (.ref od), some (.int (iI (7 * (k : Int)))), none, none, none]) (fun i v hv => by
        rcases i with _ | _ | _ | _ | _ | _ | _ | _ | _ | i
        all_goals (first | exact hv | (cases hv; done) | cases hv))
        (V_weak (fun z hz => ⟨hz.1, hz.2.1, OI_n hz.2.2⟩) (next P2 _ X2 _ _ hi2 hp2 (by omega) (by omega)))
  · refine V_aload3 (pc' := 898) C dL_law_897 rfl ?_
    refine V_iconst (pc' := 899) C dL_law_898 rfl ?_
    refine V_lald1 (pc' := 900) (v := lI (takeX S (xs' (7 * (k : Int) + 1))).1) C 4 rfl (fun h hh => by obtain ⟨f9, hf9, hf8⟩ := hh.2.2.1; exact ⟨901, f9, hf8 c_0, hf9⟩) dL_law_899 rfl ?_
    refine V_iload7 (pc' := 902) C dL_law_900 rfl ?_
    refine V_i2l (pc' := 903) C dL_law_902 rfl ?_
    refine V_lcmp (pc' := 904) C dL_law_903 rfl ?_
    refine V_eq (st2 := [.int (iI 0)]) (by rw [lg_self]; rfl) ?_
    refine V_ifeq (tgt := 909) C (by decide) dL_law_904 (by decide) rfl (fun c_904 => ?_) (fun c_904 => ?_)
    · refine V_goto (tgt := 1843) C dL_law_909 (by decide) ?_
      exact V_locals (L2 := [some (.ref b), some (.ref (P 1)), some (.ref mo), some (.ref ou), some (.ref od), some (.int (iI (7 * (k : Int)))), none, none, none]) (fun i v hv => by
          rcases i with _ | _ | _ | _ | _ | _ | _ | _ | _ | i
          all_goals (first | exact hv | (cases hv; done) | cases hv))
          (V_weak (fun z hz => ⟨hz.1, hz.2.1, OI_n hz.2.2⟩) (next P2 _ X2 _ _ hi2 hp2 (by omega) (by omega)))
    · exact absurd c_904 (by decide)
set_option maxHeartbeats 4000000 in
set_option maxRecDepth 100000 in
theorem law_11 (C : Cx p m c code 9 s args wsL_law RL D (tyL cB cC cI cO cJ cD) A ee) (hX : va_X b N (iF xs') s s.heap) (hbl : b < s.heap.size) (hbA : ¬ A b) (hst : l.stackTraces = false) (hxs : ∀ z, rI (xs' z)) (hI : INV S X (210 * (k : Int))) (hk : 7 * (k : Int) + 7 ≤ N) (hN : N ≤ 3584) (h1 : c9 ≤ 100 + 12 * k) (h2 : s9 ≤ 20000 + 40 * k + 8 * (X.2 26).toNat) (next : ∀ (P' : Nat → Nat) (S' X' : MSt) (c' s' : Nat), INV S' X' (210 * (k : Int) + 210) → P' 1 = P 1 → c' ≤ 100 + 12 * (k + 1) → s' ≤ 20000 + 40 * (k + 1) + 8 * (X'.2 26).toNat → Vx p l e room_1 s m args below meth c (c') (s') Q D A 9 (LJ cB cC cI cO ee mo Pm P' S' X' S' (ON cJ cD ou od)) 1843 [some (.ref b), some (.ref (P 1)), some (.ref mo), some (.ref ou), some (.ref od), some (.int (iI (7 * (k : Int)))), none, none, none] []) : Vx p l e room_1 s m args below meth c (c9) (s9) Q D A 9 (LJ cB cC cI cO ee mo Pm P S X S (ON cJ cD ou od)) 912 [some (.ref b), some (.ref (P 1)), some (.ref mo), some (.ref ou), some (.ref od), some (.int (iI (7 * (k : Int)))), none, none, none] [] := by
  have hn := INV_len hI
  refine V_aload1 (pc' := 913) C dL_law_912 rfl ?_
  refine V_aload0 (pc' := 914) C dL_law_913 rfl ?_
  refine V_iload5 (pc' := 916) C dL_law_914 rfl ?_
  refine V_iconst (pc' := 917) C dL_law_916 rfl ?_
  refine V_iadd (pc' := 918) C dL_law_917 rfl ?_
  refine V_sld (pc' := 919) C hX hbl hbA ⟨by omega, by omega, by omega⟩ dL_law_918 rfl ?_
  refine V_aload0 (pc' := 920) C dL_law_919 rfl ?_
  refine V_iload5 (pc' := 922) C dL_law_920 rfl ?_
  refine V_iconst (pc' := 923) C dL_law_922 rfl ?_
  refine V_iadd (pc' := 924) C dL_law_923 rfl ?_
  refine V_sld (pc' := 925) C hX hbl hbA ⟨by omega, by omega, by omega⟩ dL_law_924 rfl ?_
  refine V_aload3 (pc' := 926) C dL_law_925 rfl ?_
  obtain ⟨ms9, len9, h8, h9, hM⟩ := KL_granted (D := D) (cB := cB) (cC := cC) (cI := cI) (cO := cO) (cJ := cJ) (cD := cD) (ee := ee) (P := P) (ou := ou) hI (by omega) hst (hxs (7 * (k : Int) + 1)) (hxs (7 * (k : Int) + 2))
  refine V_callSW (n := 4) [.ref (P 1), .int (iI (xs' (7 * (k : Int) + 1))), .int (iI (xs' (7 * (k : Int) + 2))), .ref ou] C hM gL_law_L_granted rfl ydL_granted ⟨Nat.le_of_ble_eq_true rfl, Nat.le_of_ble_eq_true rfl⟩ ⟨rfl, rfl⟩ rfl (fun h hh => ⟨hh.1, hh.2.2.1⟩) rfl (Nat.le_of_ble_eq_true rfl) dL_law_926 ⟨by rw [RC1.1]; omega, by rw [RC1.2]; omega⟩ (fun h v h' hh hj9 => ?_)
  obtain ⟨P2, X2, rfl, hl2, hp2, hi2, hx2⟩ := LJ_1 hh hj9
  refine V_weak (I2 := LJ cB cC cI cO ee mo Pm P2 ((grantedX S (xs' (7 * (k : Int) + 1)) (xs' (7 * (k : Int) + 2))).2) X2 S (OI cJ cD ou od (grantedX S (xs' (7 * (k : Int) + 1)) (xs' (7 * (k : Int) + 2))))) (fun z hz => by rw [hz]; exact hl2) ?_
  refine V_istore6 (pc' := 931) C dL_law_929 rfl (by decide) rfl ?_
  refine V_aload2 (pc' := 932) C dL_law_931 rfl ?_
  refine V_aload0 (pc' := 933) C dL_law_932 rfl ?_
  refine V_iload5 (pc' := 935) C dL_law_933 rfl ?_
  refine V_iconst (pc' := 936) C dL_law_935 rfl ?_
  refine V_iadd (pc' := 937) C dL_law_936 rfl ?_
  refine V_sld (pc' := 938) C hX hbl hbA ⟨by omega, by omega, by omega⟩ dL_law_937 rfl ?_
  refine V_aload0 (pc' := 939) C dL_law_938 rfl ?_
  refine V_iload5 (pc' := 941) C dL_law_939 rfl ?_
  refine V_iconst (pc' := 942) C dL_law_941 rfl ?_
  refine V_iadd (pc' := 943) C dL_law_942 rfl ?_
  refine V_sld (pc' := 944) C hX hbl hbA ⟨by omega, by omega, by omega⟩ dL_law_943 rfl ?_
  refine V_callV (ci := 13) (n := 2) [.int (iI (xs' (7 * (k : Int) + 1))), .int (iI (xs' (7 * (k : Int) + 2)))] C (kX8_granted (mo := mo) (Pm := Pm) (xs' (7 * (k : Int) + 1)) (xs' (7 * (k : Int) + 2)) hI.1.1 (hxs (7 * (k : Int) + 1)) (hxs (7 * (k : Int) + 2))) gL_law_X8_granted rfl ydX8_granted ⟨Nat.le_of_ble_eq_true rfl, Nat.le_of_ble_eq_true rfl⟩ ⟨rfl, rfl⟩ rfl rfl (fun h hh => ⟨1000, _, hh.2.1.1⟩) (fun h hh => hh.2.1) rfl (Nat.le_of_ble_eq_true rfl) dL_law_944 ⟨by rw [RC1.1]; omega, by rw [RC1.2]; omega⟩ (fun h v h' hh hj9 => ?_)
  obtain ⟨rfl, hl3⟩ := LJ_2 (V := (grantedX S (xs' (7 * (k : Int) + 1)) (xs' (7 * (k : Int) + 2))).1) (S3 := (grantedX S (xs' (7 * (k : Int) + 1)) (xs' (7 * (k : Int) + 2))).2) hh hi2.1.1.1 hi2.1.2.2.1 OI_fr hj9
  refine V_weak (I2 := LJ cB cC cI cO ee mo Pm P2 ((grantedX S (xs' (7 * (k : Int) + 1)) (xs' (7 * (k : Int) + 2))).2) X2 ((grantedX S (xs' (7 * (k : Int) + 1)) (xs' (7 * (k : Int) + 2))).2) (OI cJ cD ou od (grantedX S (xs' (7 * (k : Int) + 1)) (xs' (7 * (k : Int) + 2))))) (fun z hz => by rw [hz]; exact hl3) ?_
  refine V_istore7 (pc' := 949) C dL_law_947 rfl (by decide) rfl ?_
  refine V_aload2 (pc' := 950) C dL_law_949 rfl ?_
  refine V_callV (ci := 13) (n := 0) [] C (kX8_thrown (mo := mo) (Pm := Pm) (S := (grantedX S (xs' (7 * (k : Int) + 1)) (xs' (7 * (k : Int) + 2))).2)) gL_law_X8_thrown rfl ydX8_thrown ⟨Nat.le_of_ble_eq_true rfl, Nat.le_of_ble_eq_true rfl⟩ ⟨rfl, rfl⟩ rfl rfl (fun h hh => ⟨1000, _, hh.2.1.1⟩) (fun h hh => hh.2.1) rfl (Nat.le_of_ble_eq_true rfl) dL_law_950 ⟨by rw [RC1.1]; omega, by rw [RC1.2]; omega⟩ (fun h v h' hh hj9 => ?_)
  obtain ⟨rfl, hl4⟩ := LJ_2 (V := (grantedX S (xs' (7 * (k : Int) + 1)) (xs' (7 * (k : Int) + 2))).2.2 31) (S3 := (grantedX S (xs' (7 * (k : Int) + 1)) (xs' (7 * (k : Int) + 2))).2) hh hi2.1.1.1 hi2.1.2.2.1 OI_fr hj9
  refine V_weak (I2 := LJ cB cC cI cO ee mo Pm P2 ((grantedX S (xs' (7 * (k : Int) + 1)) (xs' (7 * (k : Int) + 2))).2) X2 ((grantedX S (xs' (7 * (k : Int) + 1)) (xs' (7 * (k : Int) + 2))).2) (OI cJ cD ou od (grantedX S (xs' (7 * (k : Int) + 1)) (xs' (7 * (k : Int) + 2))))) (fun z hz => by rw [hz]; exact hl4) ?_
  refine V_iload6 (pc' := 955) C dL_law_953 rfl ?_
  refine V_same (tgt := 960) C dL_law_955 (by decide) ?_
  refine V_iload6 (pc' := 962) C dL_law_960 rfl ?_
  refine V_ifneX (pc' := 965) (tgt := 977) C dL_law_962 (by decide) rfl ?_ (fun c_0 => ?_)
  · refine V_goto (tgt := 1843) C dL_law_977 (by decide) ?_
    exact V_locals (L2 := [some (.ref b), some (.ref (P 1)), some (.ref mo), some (.ref ou), some (.ref od), some (.int (iI (7 * (k : Int)))), none, none, none]) (fun i v hv => by
        rcases i with _ | _ | _ | _ | _ | _ | _ | _ | _ | i
        all_goals (first | exact hv | (cases hv; done) | cases hv))
        (V_weak (fun z hz => ⟨hz.1, hz.2.1, OI_n hz.2.2⟩) (next P2 _ X2 _ _ hi2 hp2 (by omega) (by omega)))
  · refine V_aload3 (pc' := 966) C dL_law_965 rfl ?_
    refine V_iconst (pc' := 967) C dL_law_966 rfl ?_
    refine V_lald1 (pc' := 968) (v := lI (grantedX S (xs' (7 * (k : Int) + 1)) (xs' (7 * (k : Int) + 2))).1) C 4 rfl (fun h hh => by obtain ⟨f9, hf9, hf8⟩ := hh.2.2.1; exact ⟨901, f9, hf8 c_0, hf9⟩) dL_law_967 rfl ?_
    refine V_iload7 (pc' := 970) C dL_law_968 rfl ?_
    refine V_i2l (pc' := 971) C dL_law_970 rfl ?_
    refine V_lcmp (pc' := 972) C dL_law_971 rfl ?_
    refine V_eq (st2 := [.int (iI 0)]) (by rw [lg_self]; rfl) ?_
    refine V_ifeq (tgt := 977) C (by decide) dL_law_972 (by decide) rfl (fun c_972 => ?_) (fun c_972 => ?_)
    · refine V_goto (tgt := 1843) C dL_law_977 (by decide) ?_
      exact V_locals (L2 := [some (.ref b), some (.ref (P 1)), some (.ref mo), some (.ref ou), some (.ref od), some (.int (iI (7 * (k : Int)))), none, none, none]) (fun i v hv => by
          rcases i with _ | _ | _ | _ | _ | _ | _ | _ | _ | i
          all_goals (first | exact hv | (cases hv; done) | cases hv))
          (V_weak (fun z hz => ⟨hz.1, hz.2.1, OI_n hz.2.2⟩) (next P2 _ X2 _ _ hi2 hp2 (by omega) (by omega)))
    · exact absurd c_972 (by decide)
set_option maxHeartbeats 4000000 in
set_option maxRecDepth 100000 in
theorem law_12 (C : Cx p m c code 9 s args wsL_law RL D (tyL cB cC cI cO cJ cD) A ee) (hX : va_X b N (iF xs') s s.heap) (hbl : b < s.heap.size) (hbA : ¬ A b) (hst : l.stackTraces = false) (hxs : ∀ z, rI (xs' z)) (hI : INV S X (210 * (k : Int))) (hk : 7 * (k : Int) + 7 ≤ N) (hN : N ≤ 3584) (h1 : c9 ≤ 100 + 12 * k) (h2 : s9 ≤ 20000 + 40 * k + 8 * (X.2 26).toNat) (next : ∀ (P' : Nat → Nat) (S' X' : MSt) (c' s' : Nat), INV S' X' (210 * (k : Int) + 210) → P' 1 = P 1 → c' ≤ 100 + 12 * (k + 1) → s' ≤ 20000 + 40 * (k + 1) + 8 * (X'.2 26).toNat → Vx p l e room_1 s m args below meth c (c') (s') Q D A 9 (LJ cB cC cI cO ee mo Pm P' S' X' S' (ON cJ cD ou od)) 1843 [some (.ref b), some (.ref (P 1)), some (.ref mo), some (.ref ou), some (.ref od), some (.int (iI (7 * (k : Int)))), none, none, none] []) : Vx p l e room_1 s m args below meth c (c9) (s9) Q D A 9 (LJ cB cC cI cO ee mo Pm P S X S (ON cJ cD ou od)) 980 [some (.ref b), some (.ref (P 1)), some (.ref mo), some (.ref ou), some (.ref od), some (.int (iI (7 * (k : Int)))), none, none, none] [] := by
  have hn := INV_len hI
  refine V_aload1 (pc' := 981) C dL_law_980 rfl ?_
  refine V_aload0 (pc' := 982) C dL_law_981 rfl ?_
  refine V_iload5 (pc' := 984) C dL_law_982 rfl ?_
  refine V_iconst (pc' := 985) C dL_law_984 rfl ?_
  refine V_iadd (pc' := 986) C dL_law_985 rfl ?_
  refine V_sld (pc' := 987) C hX hbl hbA ⟨by omega, by omega, by omega⟩ dL_law_986 rfl ?_
  refine V_aload0 (pc' := 988) C dL_law_987 rfl ?_
  refine V_iload5 (pc' := 990) C dL_law_988 rfl ?_
  refine V_iconst (pc' := 991) C dL_law_990 rfl ?_
  refine V_iadd (pc' := 992) C dL_law_991 rfl ?_
  refine V_sld (pc' := 993) C hX hbl hbA ⟨by omega, by omega, by omega⟩ dL_law_992 rfl ?_
  refine V_aload0 (pc' := 994) C dL_law_993 rfl ?_
  refine V_iload5 (pc' := 996) C dL_law_994 rfl ?_
  refine V_iconst (pc' := 997) C dL_law_996 rfl ?_
  refine V_iadd (pc' := 998) C dL_law_997 rfl ?_
  refine V_sld (pc' := 999) C hX hbl hbA ⟨by omega, by omega, by omega⟩ dL_law_998 rfl ?_
  refine V_aload3 (pc' := 1000) C dL_law_999 rfl ?_
  obtain ⟨ms9, len9, h8, h9, hM⟩ := KL_reason (D := D) (cB := cB) (cC := cC) (cI := cI) (cO := cO) (cJ := cJ) (cD := cD) (ee := ee) (P := P) (ou := ou) hI (by omega) hst (hxs (7 * (k : Int) + 1)) (hxs (7 * (k : Int) + 2)) (hxs (7 * (k : Int) + 3))
  refine V_callSW (n := 5) [.ref (P 1), .int (iI (xs' (7 * (k : Int) + 1))), .int (iI (xs' (7 * (k : Int) + 2))), .int (iI (xs' (7 * (k : Int) + 3))), .ref ou] C hM gL_law_L_reason rfl ydL_reason ⟨Nat.le_of_ble_eq_true rfl, Nat.le_of_ble_eq_true rfl⟩ ⟨rfl, rfl⟩ rfl (fun h hh => ⟨hh.1, hh.2.2.1⟩) rfl (Nat.le_of_ble_eq_true rfl) dL_law_1000 ⟨by rw [RC1.1]; omega, by rw [RC1.2]; omega⟩ (fun h v h' hh hj9 => ?_)
  obtain ⟨P2, X2, rfl, hl2, hp2, hi2, hx2⟩ := LJ_1 hh hj9
  refine V_weak (I2 := LJ cB cC cI cO ee mo Pm P2 ((reasonX S (xs' (7 * (k : Int) + 1)) (xs' (7 * (k : Int) + 2)) (xs' (7 * (k : Int) + 3))).2) X2 S (OI cJ cD ou od (reasonX S (xs' (7 * (k : Int) + 1)) (xs' (7 * (k : Int) + 2)) (xs' (7 * (k : Int) + 3))))) (fun z hz => by rw [hz]; exact hl2) ?_
  refine V_istore6 (pc' := 1005) C dL_law_1003 rfl (by decide) rfl ?_
  refine V_aload2 (pc' := 1006) C dL_law_1005 rfl ?_
  refine V_aload0 (pc' := 1007) C dL_law_1006 rfl ?_
  refine V_iload5 (pc' := 1009) C dL_law_1007 rfl ?_
  refine V_iconst (pc' := 1010) C dL_law_1009 rfl ?_
  refine V_iadd (pc' := 1011) C dL_law_1010 rfl ?_
  refine V_sld (pc' := 1012) C hX hbl hbA ⟨by omega, by omega, by omega⟩ dL_law_1011 rfl ?_
  refine V_aload0 (pc' := 1013) C dL_law_1012 rfl ?_
  refine V_iload5 (pc' := 1015) C dL_law_1013 rfl ?_
  refine V_iconst (pc' := 1016) C dL_law_1015 rfl ?_
  refine V_iadd (pc' := 1017) C dL_law_1016 rfl ?_
  refine V_sld (pc' := 1018) C hX hbl hbA ⟨by omega, by omega, by omega⟩ dL_law_1017 rfl ?_
  refine V_aload0 (pc' := 1019) C dL_law_1018 rfl ?_
  refine V_iload5 (pc' := 1021) C dL_law_1019 rfl ?_
  refine V_iconst (pc' := 1022) C dL_law_1021 rfl ?_
  refine V_iadd (pc' := 1023) C dL_law_1022 rfl ?_
  refine V_sld (pc' := 1024) C hX hbl hbA ⟨by omega, by omega, by omega⟩ dL_law_1023 rfl ?_
  refine V_callV (ci := 13) (n := 3) [.int (iI (xs' (7 * (k : Int) + 1))), .int (iI (xs' (7 * (k : Int) + 2))), .int (iI (xs' (7 * (k : Int) + 3)))] C (kX8_reason (mo := mo) (Pm := Pm) (xs' (7 * (k : Int) + 1)) (xs' (7 * (k : Int) + 2)) (xs' (7 * (k : Int) + 3)) hI.1.1 (hxs (7 * (k : Int) + 1)) (hxs (7 * (k : Int) + 2)) (hxs (7 * (k : Int) + 3))) gL_law_X8_reason rfl ydX8_reason ⟨Nat.le_of_ble_eq_true rfl, Nat.le_of_ble_eq_true rfl⟩ ⟨rfl, rfl⟩ rfl rfl (fun h hh => ⟨1000, _, hh.2.1.1⟩) (fun h hh => hh.2.1) rfl (Nat.le_of_ble_eq_true rfl) dL_law_1024 ⟨by rw [RC1.1]; omega, by rw [RC1.2]; omega⟩ (fun h v h' hh hj9 => ?_)
  obtain ⟨rfl, hl3⟩ := LJ_2 (V := (reasonX S (xs' (7 * (k : Int) + 1)) (xs' (7 * (k : Int) + 2)) (xs' (7 * (k : Int) + 3))).1) (S3 := (reasonX S (xs' (7 * (k : Int) + 1)) (xs' (7 * (k : Int) + 2)) (xs' (7 * (k : Int) + 3))).2) hh hi2.1.1.1 hi2.1.2.2.1 OI_fr hj9
  refine V_weak (I2 := LJ cB cC cI cO ee mo Pm P2 ((reasonX S (xs' (7 * (k : Int) + 1)) (xs' (7 * (k : Int) + 2)) (xs' (7 * (k : Int) + 3))).2) X2 ((reasonX S (xs' (7 * (k : Int) + 1)) (xs' (7 * (k : Int) + 2)) (xs' (7 * (k : Int) + 3))).2) (OI cJ cD ou od (reasonX S (xs' (7 * (k : Int) + 1)) (xs' (7 * (k : Int) + 2)) (xs' (7 * (k : Int) + 3))))) (fun z hz => by rw [hz]; exact hl3) ?_
  refine V_istore7 (pc' := 1029) C dL_law_1027 rfl (by decide) rfl ?_
  refine V_aload2 (pc' := 1030) C dL_law_1029 rfl ?_
  refine V_callV (ci := 13) (n := 0) [] C (kX8_thrown (mo := mo) (Pm := Pm) (S := (reasonX S (xs' (7 * (k : Int) + 1)) (xs' (7 * (k : Int) + 2)) (xs' (7 * (k : Int) + 3))).2)) gL_law_X8_thrown rfl ydX8_thrown ⟨Nat.le_of_ble_eq_true rfl, Nat.le_of_ble_eq_true rfl⟩ ⟨rfl, rfl⟩ rfl rfl (fun h hh => ⟨1000, _, hh.2.1.1⟩) (fun h hh => hh.2.1) rfl (Nat.le_of_ble_eq_true rfl) dL_law_1030 ⟨by rw [RC1.1]; omega, by rw [RC1.2]; omega⟩ (fun h v h' hh hj9 => ?_)
  obtain ⟨rfl, hl4⟩ := LJ_2 (V := (reasonX S (xs' (7 * (k : Int) + 1)) (xs' (7 * (k : Int) + 2)) (xs' (7 * (k : Int) + 3))).2.2 31) (S3 := (reasonX S (xs' (7 * (k : Int) + 1)) (xs' (7 * (k : Int) + 2)) (xs' (7 * (k : Int) + 3))).2) hh hi2.1.1.1 hi2.1.2.2.1 OI_fr hj9
  refine V_weak (I2 := LJ cB cC cI cO ee mo Pm P2 ((reasonX S (xs' (7 * (k : Int) + 1)) (xs' (7 * (k : Int) + 2)) (xs' (7 * (k : Int) + 3))).2) X2 ((reasonX S (xs' (7 * (k : Int) + 1)) (xs' (7 * (k : Int) + 2)) (xs' (7 * (k : Int) + 3))).2) (OI cJ cD ou od (reasonX S (xs' (7 * (k : Int) + 1)) (xs' (7 * (k : Int) + 2)) (xs' (7 * (k : Int) + 3))))) (fun z hz => by rw [hz]; exact hl4) ?_
  refine V_iload6 (pc' := 1035) C dL_law_1033 rfl ?_
  refine V_same (tgt := 1040) C dL_law_1035 (by decide) ?_
  refine V_iload6 (pc' := 1042) C dL_law_1040 rfl ?_
  refine V_ifneX (pc' := 1045) (tgt := 1057) C dL_law_1042 (by decide) rfl ?_ (fun c_0 => ?_)
  · refine V_goto (tgt := 1843) C dL_law_1057 (by decide) ?_
    exact V_locals (L2 := [some (.ref b), some (.ref (P 1)), some (.ref mo), some (.ref ou), some (.ref od), some (.int (iI (7 * (k : Int)))), none, none, none]) (fun i v hv => by
        rcases i with _ | _ | _ | _ | _ | _ | _ | _ | _ | i
        all_goals (first | exact hv | (cases hv; done) | cases hv))
        (V_weak (fun z hz => ⟨hz.1, hz.2.1, OI_n hz.2.2⟩) (next P2 _ X2 _ _ hi2 hp2 (by omega) (by omega)))
  · refine V_aload3 (pc' := 1046) C dL_law_1045 rfl ?_
    refine V_iconst (pc' := 1047) C dL_law_1046 rfl ?_
    refine V_lald1 (pc' := 1048) (v := lI (reasonX S (xs' (7 * (k : Int) + 1)) (xs' (7 * (k : Int) + 2)) (xs' (7 * (k : Int) + 3))).1) C 4 rfl (fun h hh => by obtain ⟨f9, hf9, hf8⟩ := hh.2.2.1; exact ⟨901, f9, hf8 c_0, hf9⟩) dL_law_1047 rfl ?_
    refine V_iload7 (pc' := 1050) C dL_law_1048 rfl ?_
    refine V_i2l (pc' := 1051) C dL_law_1050 rfl ?_
    refine V_lcmp (pc' := 1052) C dL_law_1051 rfl ?_
    refine V_eq (st2 := [.int (iI 0)]) (by rw [lg_self]; rfl) ?_
    refine V_ifeq (tgt := 1057) C (by decide) dL_law_1052 (by decide) rfl (fun c_1052 => ?_) (fun c_1052 => ?_)
    · refine V_goto (tgt := 1843) C dL_law_1057 (by decide) ?_
      exact V_locals (L2 := [some (.ref b), some (.ref (P 1)), some (.ref mo), some (.ref ou), some (.ref od), some (.int (iI (7 * (k : Int)))), none, none, none]) (fun i v hv => by
          rcases i with _ | _ | _ | _ | _ | _ | _ | _ | _ | i
          all_goals (first | exact hv | (cases hv; done) | cases hv))
          (V_weak (fun z hz => ⟨hz.1, hz.2.1, OI_n hz.2.2⟩) (next P2 _ X2 _ _ hi2 hp2 (by omega) (by omega)))
    · exact absurd c_1052 (by decide)
set_option maxHeartbeats 4000000 in
set_option maxRecDepth 100000 in
theorem law_13 (C : Cx p m c code 9 s args wsL_law RL D (tyL cB cC cI cO cJ cD) A ee) (hX : va_X b N (iF xs') s s.heap) (hbl : b < s.heap.size) (hbA : ¬ A b) (hst : l.stackTraces = false) (hxs : ∀ z, rI (xs' z)) (hI : INV S X (210 * (k : Int))) (hk : 7 * (k : Int) + 7 ≤ N) (hN : N ≤ 3584) (h1 : c9 ≤ 100 + 12 * k) (h2 : s9 ≤ 20000 + 40 * k + 8 * (X.2 26).toNat) (next : ∀ (P' : Nat → Nat) (S' X' : MSt) (c' s' : Nat), INV S' X' (210 * (k : Int) + 210) → P' 1 = P 1 → c' ≤ 100 + 12 * (k + 1) → s' ≤ 20000 + 40 * (k + 1) + 8 * (X'.2 26).toNat → Vx p l e room_1 s m args below meth c (c') (s') Q D A 9 (LJ cB cC cI cO ee mo Pm P' S' X' S' (ON cJ cD ou od)) 1843 [some (.ref b), some (.ref (P 1)), some (.ref mo), some (.ref ou), some (.ref od), some (.int (iI (7 * (k : Int)))), none, none, none] []) : Vx p l e room_1 s m args below meth c (c9) (s9) Q D A 9 (LJ cB cC cI cO ee mo Pm P S X S (ON cJ cD ou od)) 1060 [some (.ref b), some (.ref (P 1)), some (.ref mo), some (.ref ou), some (.ref od), some (.int (iI (7 * (k : Int)))), none, none, none] [] := by
  have hn := INV_len hI
  refine V_aload1 (pc' := 1061) C dL_law_1060 rfl ?_
  refine V_aload0 (pc' := 1062) C dL_law_1061 rfl ?_
  refine V_iload5 (pc' := 1064) C dL_law_1062 rfl ?_
  refine V_iconst (pc' := 1065) C dL_law_1064 rfl ?_
  refine V_iadd (pc' := 1066) C dL_law_1065 rfl ?_
  refine V_sld (pc' := 1067) C hX hbl hbA ⟨by omega, by omega, by omega⟩ dL_law_1066 rfl ?_
  refine V_aload0 (pc' := 1068) C dL_law_1067 rfl ?_
  refine V_iload5 (pc' := 1070) C dL_law_1068 rfl ?_
  refine V_iconst (pc' := 1071) C dL_law_1070 rfl ?_
  refine V_iadd (pc' := 1072) C dL_law_1071 rfl ?_
  refine V_sld (pc' := 1073) C hX hbl hbA ⟨by omega, by omega, by omega⟩ dL_law_1072 rfl ?_
  refine V_aload0 (pc' := 1074) C dL_law_1073 rfl ?_
  refine V_iload5 (pc' := 1076) C dL_law_1074 rfl ?_
  refine V_iconst (pc' := 1077) C dL_law_1076 rfl ?_
  refine V_iadd (pc' := 1078) C dL_law_1077 rfl ?_
  refine V_sld (pc' := 1079) C hX hbl hbA ⟨by omega, by omega, by omega⟩ dL_law_1078 rfl ?_
  refine V_aload3 (pc' := 1080) C dL_law_1079 rfl ?_
  obtain ⟨ms9, len9, h8, h9, hM⟩ := KL_run (D := D) (cB := cB) (cC := cC) (cI := cI) (cO := cO) (cJ := cJ) (cD := cD) (ee := ee) (P := P) (ou := ou) hI (by omega) hst (hxs (7 * (k : Int) + 1)) (hxs (7 * (k : Int) + 2)) (hxs (7 * (k : Int) + 3))
  refine V_callSW (n := 5) [.ref (P 1), .int (iI (xs' (7 * (k : Int) + 1))), .int (iI (xs' (7 * (k : Int) + 2))), .int (iI (xs' (7 * (k : Int) + 3))), .ref ou] C hM gL_law_L_run rfl ydL_run ⟨Nat.le_of_ble_eq_true rfl, Nat.le_of_ble_eq_true rfl⟩ ⟨rfl, rfl⟩ rfl (fun h hh => ⟨hh.1, hh.2.2.1⟩) rfl (Nat.le_of_ble_eq_true rfl) dL_law_1080 ⟨by rw [RC1.1]; omega, by rw [RC1.2]; omega⟩ (fun h v h' hh hj9 => ?_)
  obtain ⟨P2, X2, rfl, hl2, hp2, hi2, hx2⟩ := LJ_1 hh hj9
  refine V_weak (I2 := LJ cB cC cI cO ee mo Pm P2 ((runX S (xs' (7 * (k : Int) + 1)) (xs' (7 * (k : Int) + 2)) (xs' (7 * (k : Int) + 3))).2) X2 S (OI cJ cD ou od (runX S (xs' (7 * (k : Int) + 1)) (xs' (7 * (k : Int) + 2)) (xs' (7 * (k : Int) + 3))))) (fun z hz => by rw [hz]; exact hl2) ?_
  refine V_istore6 (pc' := 1085) C dL_law_1083 rfl (by decide) rfl ?_
  refine V_aload2 (pc' := 1086) C dL_law_1085 rfl ?_
  refine V_aload0 (pc' := 1087) C dL_law_1086 rfl ?_
  refine V_iload5 (pc' := 1089) C dL_law_1087 rfl ?_
  refine V_iconst (pc' := 1090) C dL_law_1089 rfl ?_
  refine V_iadd (pc' := 1091) C dL_law_1090 rfl ?_
  refine V_sld (pc' := 1092) C hX hbl hbA ⟨by omega, by omega, by omega⟩ dL_law_1091 rfl ?_
  refine V_aload0 (pc' := 1093) C dL_law_1092 rfl ?_
  refine V_iload5 (pc' := 1095) C dL_law_1093 rfl ?_
  refine V_iconst (pc' := 1096) C dL_law_1095 rfl ?_
  refine V_iadd (pc' := 1097) C dL_law_1096 rfl ?_
  refine V_sld (pc' := 1098) C hX hbl hbA ⟨by omega, by omega, by omega⟩ dL_law_1097 rfl ?_
  refine V_aload0 (pc' := 1099) C dL_law_1098 rfl ?_
  refine V_iload5 (pc' := 1101) C dL_law_1099 rfl ?_
  refine V_iconst (pc' := 1102) C dL_law_1101 rfl ?_
  refine V_iadd (pc' := 1103) C dL_law_1102 rfl ?_
  refine V_sld (pc' := 1104) C hX hbl hbA ⟨by omega, by omega, by omega⟩ dL_law_1103 rfl ?_
  refine V_callV (ci := 13) (n := 3) [.int (iI (xs' (7 * (k : Int) + 1))), .int (iI (xs' (7 * (k : Int) + 2))), .int (iI (xs' (7 * (k : Int) + 3)))] C (kX8_run (mo := mo) (Pm := Pm) (xs' (7 * (k : Int) + 1)) (xs' (7 * (k : Int) + 2)) (xs' (7 * (k : Int) + 3)) hI.1.1 (hxs (7 * (k : Int) + 1)) (hxs (7 * (k : Int) + 2)) (hxs (7 * (k : Int) + 3))) gL_law_X8_run rfl ydX8_run ⟨Nat.le_of_ble_eq_true rfl, Nat.le_of_ble_eq_true rfl⟩ ⟨rfl, rfl⟩ rfl rfl (fun h hh => ⟨1000, _, hh.2.1.1⟩) (fun h hh => hh.2.1) rfl (Nat.le_of_ble_eq_true rfl) dL_law_1104 ⟨by rw [RC1.1]; omega, by rw [RC1.2]; omega⟩ (fun h v h' hh hj9 => ?_)
  obtain ⟨rfl, hl3⟩ := LJ_2 (V := (runX S (xs' (7 * (k : Int) + 1)) (xs' (7 * (k : Int) + 2)) (xs' (7 * (k : Int) + 3))).1) (S3 := (runX S (xs' (7 * (k : Int) + 1)) (xs' (7 * (k : Int) + 2)) (xs' (7 * (k : Int) + 3))).2) hh hi2.1.1.1 hi2.1.2.2.1 OI_fr hj9
  refine V_weak (I2 := LJ cB cC cI cO ee mo Pm P2 ((runX S (xs' (7 * (k : Int) + 1)) (xs' (7 * (k : Int) + 2)) (xs' (7 * (k : Int) + 3))).2) X2 ((runX S (xs' (7 * (k : Int) + 1)) (xs' (7 * (k : Int) + 2)) (xs' (7 * (k : Int) + 3))).2) (OI cJ cD ou od (runX S (xs' (7 * (k : Int) + 1)) (xs' (7 * (k : Int) + 2)) (xs' (7 * (k : Int) + 3))))) (fun z hz => by rw [hz]; exact hl3) ?_
  refine V_istore7 (pc' := 1109) C dL_law_1107 rfl (by decide) rfl ?_
  refine V_aload2 (pc' := 1110) C dL_law_1109 rfl ?_
  refine V_callV (ci := 13) (n := 0) [] C (kX8_thrown (mo := mo) (Pm := Pm) (S := (runX S (xs' (7 * (k : Int) + 1)) (xs' (7 * (k : Int) + 2)) (xs' (7 * (k : Int) + 3))).2)) gL_law_X8_thrown rfl ydX8_thrown ⟨Nat.le_of_ble_eq_true rfl, Nat.le_of_ble_eq_true rfl⟩ ⟨rfl, rfl⟩ rfl rfl (fun h hh => ⟨1000, _, hh.2.1.1⟩) (fun h hh => hh.2.1) rfl (Nat.le_of_ble_eq_true rfl) dL_law_1110 ⟨by rw [RC1.1]; omega, by rw [RC1.2]; omega⟩ (fun h v h' hh hj9 => ?_)
  obtain ⟨rfl, hl4⟩ := LJ_2 (V := (runX S (xs' (7 * (k : Int) + 1)) (xs' (7 * (k : Int) + 2)) (xs' (7 * (k : Int) + 3))).2.2 31) (S3 := (runX S (xs' (7 * (k : Int) + 1)) (xs' (7 * (k : Int) + 2)) (xs' (7 * (k : Int) + 3))).2) hh hi2.1.1.1 hi2.1.2.2.1 OI_fr hj9
  refine V_weak (I2 := LJ cB cC cI cO ee mo Pm P2 ((runX S (xs' (7 * (k : Int) + 1)) (xs' (7 * (k : Int) + 2)) (xs' (7 * (k : Int) + 3))).2) X2 ((runX S (xs' (7 * (k : Int) + 1)) (xs' (7 * (k : Int) + 2)) (xs' (7 * (k : Int) + 3))).2) (OI cJ cD ou od (runX S (xs' (7 * (k : Int) + 1)) (xs' (7 * (k : Int) + 2)) (xs' (7 * (k : Int) + 3))))) (fun z hz => by rw [hz]; exact hl4) ?_
  refine V_iload6 (pc' := 1115) C dL_law_1113 rfl ?_
  refine V_same (tgt := 1120) C dL_law_1115 (by decide) ?_
  refine V_iload6 (pc' := 1122) C dL_law_1120 rfl ?_
  refine V_ifneX (pc' := 1125) (tgt := 1137) C dL_law_1122 (by decide) rfl ?_ (fun c_0 => ?_)
  · refine V_goto (tgt := 1843) C dL_law_1137 (by decide) ?_
    exact V_locals (L2 := [some (.ref b), some (.ref (P 1)), some (.ref mo), some (.ref ou), some (.ref od), some (.int (iI (7 * (k : Int)))), none, none, none]) (fun i v hv => by
        rcases i with _ | _ | _ | _ | _ | _ | _ | _ | _ | i
        all_goals (first | exact hv | (cases hv; done) | cases hv))
        (V_weak (fun z hz => ⟨hz.1, hz.2.1, OI_n hz.2.2⟩) (next P2 _ X2 _ _ hi2 hp2 (by omega) (by omega)))
  · refine V_aload3 (pc' := 1126) C dL_law_1125 rfl ?_
    refine V_iconst (pc' := 1127) C dL_law_1126 rfl ?_
    refine V_lald1 (pc' := 1128) (v := lI (runX S (xs' (7 * (k : Int) + 1)) (xs' (7 * (k : Int) + 2)) (xs' (7 * (k : Int) + 3))).1) C 4 rfl (fun h hh => by obtain ⟨f9, hf9, hf8⟩ := hh.2.2.1; exact ⟨901, f9, hf8 c_0, hf9⟩) dL_law_1127 rfl ?_
    refine V_iload7 (pc' := 1130) C dL_law_1128 rfl ?_
    refine V_i2l (pc' := 1131) C dL_law_1130 rfl ?_
    refine V_lcmp (pc' := 1132) C dL_law_1131 rfl ?_
    refine V_eq (st2 := [.int (iI 0)]) (by rw [lg_self]; rfl) ?_
    refine V_ifeq (tgt := 1137) C (by decide) dL_law_1132 (by decide) rfl (fun c_1132 => ?_) (fun c_1132 => ?_)
    · refine V_goto (tgt := 1843) C dL_law_1137 (by decide) ?_
      exact V_locals (L2 := [some (.ref b), some (.ref (P 1)), some (.ref mo), some (.ref ou), some (.ref od), some (.int (iI (7 * (k : Int)))), none, none, none]) (fun i v hv => by
          rcases i with _ | _ | _ | _ | _ | _ | _ | _ | _ | i
          all_goals (first | exact hv | (cases hv; done) | cases hv))
          (V_weak (fun z hz => ⟨hz.1, hz.2.1, OI_n hz.2.2⟩) (next P2 _ X2 _ _ hi2 hp2 (by omega) (by omega)))
    · exact absurd c_1132 (by decide)
set_option maxHeartbeats 4000000 in
set_option maxRecDepth 100000 in
theorem law_14 (C : Cx p m c code 9 s args wsL_law RL D (tyL cB cC cI cO cJ cD) A ee) (hX : va_X b N (iF xs') s s.heap) (hbl : b < s.heap.size) (hbA : ¬ A b) (hst : l.stackTraces = false) (hxs : ∀ z, rI (xs' z)) (hI : INV S X (210 * (k : Int))) (hk : 7 * (k : Int) + 7 ≤ N) (hN : N ≤ 3584) (h1 : c9 ≤ 100 + 12 * k) (h2 : s9 ≤ 20000 + 40 * k + 8 * (X.2 26).toNat) (next : ∀ (P' : Nat → Nat) (S' X' : MSt) (c' s' : Nat), INV S' X' (210 * (k : Int) + 210) → P' 1 = P 1 → c' ≤ 100 + 12 * (k + 1) → s' ≤ 20000 + 40 * (k + 1) + 8 * (X'.2 26).toNat → Vx p l e room_1 s m args below meth c (c') (s') Q D A 9 (LJ cB cC cI cO ee mo Pm P' S' X' S' (ON cJ cD ou od)) 1843 [some (.ref b), some (.ref (P 1)), some (.ref mo), some (.ref ou), some (.ref od), some (.int (iI (7 * (k : Int)))), none, none, none] []) : Vx p l e room_1 s m args below meth c (c9) (s9) Q D A 9 (LJ cB cC cI cO ee mo Pm P S X S (ON cJ cD ou od)) 1140 [some (.ref b), some (.ref (P 1)), some (.ref mo), some (.ref ou), some (.ref od), some (.int (iI (7 * (k : Int)))), none, none, none] [] := by
  have hn := INV_len hI
  refine V_aload1 (pc' := 1141) C dL_law_1140 rfl ?_
  refine V_aload0 (pc' := 1142) C dL_law_1141 rfl ?_
  refine V_iload5 (pc' := 1144) C dL_law_1142 rfl ?_
  refine V_iconst (pc' := 1145) C dL_law_1144 rfl ?_
  refine V_iadd (pc' := 1146) C dL_law_1145 rfl ?_
  refine V_sld (pc' := 1147) C hX hbl hbA ⟨by omega, by omega, by omega⟩ dL_law_1146 rfl ?_
  refine V_aload0 (pc' := 1148) C dL_law_1147 rfl ?_
  refine V_iload5 (pc' := 1150) C dL_law_1148 rfl ?_
  refine V_iconst (pc' := 1151) C dL_law_1150 rfl ?_
  refine V_iadd (pc' := 1152) C dL_law_1151 rfl ?_
  refine V_sld (pc' := 1153) C hX hbl hbA ⟨by omega, by omega, by omega⟩ dL_law_1152 rfl ?_
  refine V_aload0 (pc' := 1154) C dL_law_1153 rfl ?_
  refine V_iload5 (pc' := 1156) C dL_law_1154 rfl ?_
  refine V_iconst (pc' := 1157) C dL_law_1156 rfl ?_
  refine V_iadd (pc' := 1158) C dL_law_1157 rfl ?_
  refine V_sld (pc' := 1159) C hX hbl hbA ⟨by omega, by omega, by omega⟩ dL_law_1158 rfl ?_
  refine V_aload0 (pc' := 1160) C dL_law_1159 rfl ?_
  refine V_iload5 (pc' := 1162) C dL_law_1160 rfl ?_
  refine V_iconst (pc' := 1163) C dL_law_1162 rfl ?_
  refine V_iadd (pc' := 1164) C dL_law_1163 rfl ?_
  refine V_sld (pc' := 1165) C hX hbl hbA ⟨by omega, by omega, by omega⟩ dL_law_1164 rfl ?_
  refine V_aload0 (pc' := 1166) C dL_law_1165 rfl ?_
  refine V_iload5 (pc' := 1168) C dL_law_1166 rfl ?_
  refine V_iconst (pc' := 1169) C dL_law_1168 rfl ?_
  refine V_iadd (pc' := 1170) C dL_law_1169 rfl ?_
  refine V_sld (pc' := 1171) C hX hbl hbA ⟨by omega, by omega, by omega⟩ dL_law_1170 rfl ?_
  refine V_aload0 (pc' := 1172) C dL_law_1171 rfl ?_
  refine V_iload5 (pc' := 1174) C dL_law_1172 rfl ?_
  refine V_bipush (pc' := 1176) C dL_law_1174 rfl (by decide) ?_
  refine V_iadd (pc' := 1177) C dL_law_1176 rfl ?_
  refine V_sld (pc' := 1178) C hX hbl hbA ⟨by omega, by omega, by omega⟩ dL_law_1177 rfl ?_
  refine V_aload3 (pc' := 1179) C dL_law_1178 rfl ?_
  obtain ⟨ms9, len9, h8, h9, hM⟩ := KL_addRule (D := D) (cB := cB) (cC := cC) (cI := cI) (cO := cO) (cJ := cJ) (cD := cD) (ee := ee) (P := P) (ou := ou) hI (by omega) hst (hxs (7 * (k : Int) + 1)) (hxs (7 * (k : Int) + 2)) (hxs (7 * (k : Int) + 3)) (hxs (7 * (k : Int) + 4)) (hxs (7 * (k : Int) + 5)) (hxs (7 * (k : Int) + 6))
  refine V_callSW (n := 8) [.ref (P 1), .int (iI (xs' (7 * (k : Int) + 1))), .int (iI (xs' (7 * (k : Int) + 2))), .int (iI (xs' (7 * (k : Int) + 3))), .int (iI (xs' (7 * (k : Int) + 4))), .int (iI (xs' (7 * (k : Int) + 5))), .int (iI (xs' (7 * (k : Int) + 6))), .ref ou] C hM gL_law_L_addRule rfl ydL_addRule ⟨Nat.le_of_ble_eq_true rfl, Nat.le_of_ble_eq_true rfl⟩ ⟨rfl, rfl⟩ rfl (fun h hh => ⟨hh.1, hh.2.2.1⟩) rfl (Nat.le_of_ble_eq_true rfl) dL_law_1179 ⟨by rw [RC1.1]; omega, by rw [RC1.2]; omega⟩ (fun h v h' hh hj9 => ?_)
  obtain ⟨P2, X2, rfl, hl2, hp2, hi2, hx2⟩ := LJ_1 hh hj9
  refine V_weak (I2 := LJ cB cC cI cO ee mo Pm P2 ((addRuleX S (xs' (7 * (k : Int) + 1)) (xs' (7 * (k : Int) + 2)) (xs' (7 * (k : Int) + 3)) (xs' (7 * (k : Int) + 4)) (xs' (7 * (k : Int) + 5)) (xs' (7 * (k : Int) + 6))).2) X2 S (OI cJ cD ou od (addRuleX S (xs' (7 * (k : Int) + 1)) (xs' (7 * (k : Int) + 2)) (xs' (7 * (k : Int) + 3)) (xs' (7 * (k : Int) + 4)) (xs' (7 * (k : Int) + 5)) (xs' (7 * (k : Int) + 6))))) (fun z hz => by rw [hz]; exact hl2) ?_
  refine V_istore6 (pc' := 1184) C dL_law_1182 rfl (by decide) rfl ?_
  refine V_aload2 (pc' := 1185) C dL_law_1184 rfl ?_
  refine V_aload0 (pc' := 1186) C dL_law_1185 rfl ?_
  refine V_iload5 (pc' := 1188) C dL_law_1186 rfl ?_
  refine V_iconst (pc' := 1189) C dL_law_1188 rfl ?_
  refine V_iadd (pc' := 1190) C dL_law_1189 rfl ?_
  refine V_sld (pc' := 1191) C hX hbl hbA ⟨by omega, by omega, by omega⟩ dL_law_1190 rfl ?_
  refine V_aload0 (pc' := 1192) C dL_law_1191 rfl ?_
  refine V_iload5 (pc' := 1194) C dL_law_1192 rfl ?_
  refine V_iconst (pc' := 1195) C dL_law_1194 rfl ?_
  refine V_iadd (pc' := 1196) C dL_law_1195 rfl ?_
  refine V_sld (pc' := 1197) C hX hbl hbA ⟨by omega, by omega, by omega⟩ dL_law_1196 rfl ?_
  refine V_aload0 (pc' := 1198) C dL_law_1197 rfl ?_
  refine V_iload5 (pc' := 1200) C dL_law_1198 rfl ?_
  refine V_iconst (pc' := 1201) C dL_law_1200 rfl ?_
  refine V_iadd (pc' := 1202) C dL_law_1201 rfl ?_
  refine V_sld (pc' := 1203) C hX hbl hbA ⟨by omega, by omega, by omega⟩ dL_law_1202 rfl ?_
  refine V_aload0 (pc' := 1204) C dL_law_1203 rfl ?_
  refine V_iload5 (pc' := 1206) C dL_law_1204 rfl ?_
  refine V_iconst (pc' := 1207) C dL_law_1206 rfl ?_
  refine V_iadd (pc' := 1208) C dL_law_1207 rfl ?_
  refine V_sld (pc' := 1209) C hX hbl hbA ⟨by omega, by omega, by omega⟩ dL_law_1208 rfl ?_
  refine V_aload0 (pc' := 1210) C dL_law_1209 rfl ?_
  refine V_iload5 (pc' := 1212) C dL_law_1210 rfl ?_
  refine V_iconst (pc' := 1213) C dL_law_1212 rfl ?_
  refine V_iadd (pc' := 1214) C dL_law_1213 rfl ?_
  refine V_sld (pc' := 1215) C hX hbl hbA ⟨by omega, by omega, by omega⟩ dL_law_1214 rfl ?_
  refine V_aload0 (pc' := 1216) C dL_law_1215 rfl ?_
  refine V_iload5 (pc' := 1218) C dL_law_1216 rfl ?_
  refine V_bipush (pc' := 1220) C dL_law_1218 rfl (by decide) ?_
  refine V_iadd (pc' := 1221) C dL_law_1220 rfl ?_
  refine V_sld (pc' := 1222) C hX hbl hbA ⟨by omega, by omega, by omega⟩ dL_law_1221 rfl ?_
  refine V_callV (ci := 13) (n := 6) [.int (iI (xs' (7 * (k : Int) + 1))), .int (iI (xs' (7 * (k : Int) + 2))), .int (iI (xs' (7 * (k : Int) + 3))), .int (iI (xs' (7 * (k : Int) + 4))), .int (iI (xs' (7 * (k : Int) + 5))), .int (iI (xs' (7 * (k : Int) + 6)))] C (kX8_addRule (mo := mo) (Pm := Pm) (xs' (7 * (k : Int) + 1)) (xs' (7 * (k : Int) + 2)) (xs' (7 * (k : Int) + 3)) (xs' (7 * (k : Int) + 4)) (xs' (7 * (k : Int) + 5)) (xs' (7 * (k : Int) + 6)) hI.1.1 (hxs (7 * (k : Int) + 1)) (hxs (7 * (k : Int) + 2)) (hxs (7 * (k : Int) + 3)) (hxs (7 * (k : Int) + 4)) (hxs (7 * (k : Int) + 5)) (hxs (7 * (k : Int) + 6))) gL_law_X8_addRule rfl ydX8_addRule ⟨Nat.le_of_ble_eq_true rfl, Nat.le_of_ble_eq_true rfl⟩ ⟨rfl, rfl⟩ rfl rfl (fun h hh => ⟨1000, _, hh.2.1.1⟩) (fun h hh => hh.2.1) rfl (Nat.le_of_ble_eq_true rfl) dL_law_1222 ⟨by rw [RC1.1]; omega, by rw [RC1.2]; omega⟩ (fun h v h' hh hj9 => ?_)
  obtain ⟨rfl, hl3⟩ := LJ_2 (V := (addRuleX S (xs' (7 * (k : Int) + 1)) (xs' (7 * (k : Int) + 2)) (xs' (7 * (k : Int) + 3)) (xs' (7 * (k : Int) + 4)) (xs' (7 * (k : Int) + 5)) (xs' (7 * (k : Int) + 6))).1) (S3 := (addRuleX S (xs' (7 * (k : Int) + 1)) (xs' (7 * (k : Int) + 2)) (xs' (7 * (k : Int) + 3)) (xs' (7 * (k : Int) + 4)) (xs' (7 * (k : Int) + 5)) (xs' (7 * (k : Int) + 6))).2) hh hi2.1.1.1 hi2.1.2.2.1 OI_fr hj9
  refine V_weak (I2 := LJ cB cC cI cO ee mo Pm P2 ((addRuleX S (xs' (7 * (k : Int) + 1)) (xs' (7 * (k : Int) + 2)) (xs' (7 * (k : Int) + 3)) (xs' (7 * (k : Int) + 4)) (xs' (7 * (k : Int) + 5)) (xs' (7 * (k : Int) + 6))).2) X2 ((addRuleX S (xs' (7 * (k : Int) + 1)) (xs' (7 * (k : Int) + 2)) (xs' (7 * (k : Int) + 3)) (xs' (7 * (k : Int) + 4)) (xs' (7 * (k : Int) + 5)) (xs' (7 * (k : Int) + 6))).2) (OI cJ cD ou od (addRuleX S (xs' (7 * (k : Int) + 1)) (xs' (7 * (k : Int) + 2)) (xs' (7 * (k : Int) + 3)) (xs' (7 * (k : Int) + 4)) (xs' (7 * (k : Int) + 5)) (xs' (7 * (k : Int) + 6))))) (fun z hz => by rw [hz]; exact hl3) ?_
  refine V_istore7 (pc' := 1227) C dL_law_1225 rfl (by decide) rfl ?_
  refine V_aload2 (pc' := 1228) C dL_law_1227 rfl ?_
  refine V_callV (ci := 13) (n := 0) [] C (kX8_thrown (mo := mo) (Pm := Pm) (S := (addRuleX S (xs' (7 * (k : Int) + 1)) (xs' (7 * (k : Int) + 2)) (xs' (7 * (k : Int) + 3)) (xs' (7 * (k : Int) + 4)) (xs' (7 * (k : Int) + 5)) (xs' (7 * (k : Int) + 6))).2)) gL_law_X8_thrown rfl ydX8_thrown ⟨Nat.le_of_ble_eq_true rfl, Nat.le_of_ble_eq_true rfl⟩ ⟨rfl, rfl⟩ rfl rfl (fun h hh => ⟨1000, _, hh.2.1.1⟩) (fun h hh => hh.2.1) rfl (Nat.le_of_ble_eq_true rfl) dL_law_1228 ⟨by rw [RC1.1]; omega, by rw [RC1.2]; omega⟩ (fun h v h' hh hj9 => ?_)
  obtain ⟨rfl, hl4⟩ := LJ_2 (V := (addRuleX S (xs' (7 * (k : Int) + 1)) (xs' (7 * (k : Int) + 2)) (xs' (7 * (k : Int) + 3)) (xs' (7 * (k : Int) + 4)) (xs' (7 * (k : Int) + 5)) (xs' (7 * (k : Int) + 6))).2.2 31) (S3 := (addRuleX S (xs' (7 * (k : Int) + 1)) (xs' (7 * (k : Int) + 2)) (xs' (7 * (k : Int) + 3)) (xs' (7 * (k : Int) + 4)) (xs' (7 * (k : Int) + 5)) (xs' (7 * (k : Int) + 6))).2) hh hi2.1.1.1 hi2.1.2.2.1 OI_fr hj9
  refine V_weak (I2 := LJ cB cC cI cO ee mo Pm P2 ((addRuleX S (xs' (7 * (k : Int) + 1)) (xs' (7 * (k : Int) + 2)) (xs' (7 * (k : Int) + 3)) (xs' (7 * (k : Int) + 4)) (xs' (7 * (k : Int) + 5)) (xs' (7 * (k : Int) + 6))).2) X2 ((addRuleX S (xs' (7 * (k : Int) + 1)) (xs' (7 * (k : Int) + 2)) (xs' (7 * (k : Int) + 3)) (xs' (7 * (k : Int) + 4)) (xs' (7 * (k : Int) + 5)) (xs' (7 * (k : Int) + 6))).2) (OI cJ cD ou od (addRuleX S (xs' (7 * (k : Int) + 1)) (xs' (7 * (k : Int) + 2)) (xs' (7 * (k : Int) + 3)) (xs' (7 * (k : Int) + 4)) (xs' (7 * (k : Int) + 5)) (xs' (7 * (k : Int) + 6))))) (fun z hz => by rw [hz]; exact hl4) ?_
  refine V_iload6 (pc' := 1233) C dL_law_1231 rfl ?_
  refine V_same (tgt := 1238) C dL_law_1233 (by decide) ?_
  refine V_iload6 (pc' := 1240) C dL_law_1238 rfl ?_
  refine V_ifneX (pc' := 1243) (tgt := 1255) C dL_law_1240 (by decide) rfl ?_ (fun c_0 => ?_)
  · refine V_goto (tgt := 1843) C dL_law_1255 (by decide) ?_
    exact V_locals (L2 := [some (.ref b), some (.ref (P 1)), some (.ref mo), some (.ref ou), some (.ref od), some (.int (iI (7 * (k : Int)))), none, none, none]) (fun i v hv => by
        rcases i with _ | _ | _ | _ | _ | _ | _ | _ | _ | i
        all_goals (first | exact hv | (cases hv; done) | cases hv))
        (V_weak (fun z hz => ⟨hz.1, hz.2.1, OI_n hz.2.2⟩) (next P2 _ X2 _ _ hi2 hp2 (by omega) (by omega)))
  · refine V_aload3 (pc' := 1244) C dL_law_1243 rfl ?_
    refine V_iconst (pc' := 1245) C dL_law_1244 rfl ?_
    refine V_lald1 (pc' := 1246) (v := lI (addRuleX S (xs' (7 * (k : Int) + 1)) (xs' (7 * (k : Int) + 2)) (xs' (7 * (k : Int) + 3)) (xs' (7 * (k : Int) + 4)) (xs' (7 * (k : Int) + 5)) (xs' (7 * (k : Int) + 6))).1) C 4 rfl (fun h hh => by obtain ⟨f9, hf9, hf8⟩ := hh.2.2.1; exact ⟨901, f9, hf8 c_0, hf9⟩) dL_law_1245 rfl ?_
    refine V_iload7 (pc' := 1248) C dL_law_1246 rfl ?_
    refine V_i2l (pc' := 1249) C dL_law_1248 rfl ?_
    refine V_lcmp (pc' := 1250) C dL_law_1249 rfl ?_
    refine V_eq (st2 := [.int (iI 0)]) (by rw [lg_self]; rfl) ?_
    refine V_ifeq (tgt := 1255) C (by decide) dL_law_1250 (by decide) rfl (fun c_1250 => ?_) (fun c_1250 => ?_)
    · refine V_goto (tgt := 1843) C dL_law_1255 (by decide) ?_
      exact V_locals (L2 := [some (.ref b), some (.ref (P 1)), some (.ref mo), some (.ref ou), some (.ref od), some (.int (iI (7 * (k : Int)))), none, none, none]) (fun i v hv => by
          rcases i with _ | _ | _ | _ | _ | _ | _ | _ | _ | i
          all_goals (first | exact hv | (cases hv; done) | cases hv))
          (V_weak (fun z hz => ⟨hz.1, hz.2.1, OI_n hz.2.2⟩) (next P2 _ X2 _ _ hi2 hp2 (by omega) (by omega)))
    · exact absurd c_1250 (by decide)
set_option maxHeartbeats 4000000 in
set_option maxRecDepth 100000 in
theorem law_15 (C : Cx p m c code 9 s args wsL_law RL D (tyL cB cC cI cO cJ cD) A ee) (hX : va_X b N (iF xs') s s.heap) (hbl : b < s.heap.size) (hbA : ¬ A b) (hst : l.stackTraces = false) (hxs : ∀ z, rI (xs' z)) (hI : INV S X (210 * (k : Int))) (hk : 7 * (k : Int) + 7 ≤ N) (hN : N ≤ 3584) (h1 : c9 ≤ 100 + 12 * k) (h2 : s9 ≤ 20000 + 40 * k + 8 * (X.2 26).toNat) (next : ∀ (P' : Nat → Nat) (S' X' : MSt) (c' s' : Nat), INV S' X' (210 * (k : Int) + 210) → P' 1 = P 1 → c' ≤ 100 + 12 * (k + 1) → s' ≤ 20000 + 40 * (k + 1) + 8 * (X'.2 26).toNat → Vx p l e room_1 s m args below meth c (c') (s') Q D A 9 (LJ cB cC cI cO ee mo Pm P' S' X' S' (ON cJ cD ou od)) 1843 [some (.ref b), some (.ref (P 1)), some (.ref mo), some (.ref ou), some (.ref od), some (.int (iI (7 * (k : Int)))), none, none, none] []) : Vx p l e room_1 s m args below meth c (c9) (s9) Q D A 9 (LJ cB cC cI cO ee mo Pm P S X S (ON cJ cD ou od)) 1258 [some (.ref b), some (.ref (P 1)), some (.ref mo), some (.ref ou), some (.ref od), some (.int (iI (7 * (k : Int)))), none, none, none] [] := by
  have hn := INV_len hI
  refine V_aload1 (pc' := 1259) C dL_law_1258 rfl ?_
  refine V_aload0 (pc' := 1260) C dL_law_1259 rfl ?_
  refine V_iload5 (pc' := 1262) C dL_law_1260 rfl ?_
  refine V_iconst (pc' := 1263) C dL_law_1262 rfl ?_
  refine V_iadd (pc' := 1264) C dL_law_1263 rfl ?_
  refine V_sld (pc' := 1265) C hX hbl hbA ⟨by omega, by omega, by omega⟩ dL_law_1264 rfl ?_
  refine V_aload0 (pc' := 1266) C dL_law_1265 rfl ?_
  refine V_iload5 (pc' := 1268) C dL_law_1266 rfl ?_
  refine V_iconst (pc' := 1269) C dL_law_1268 rfl ?_
  refine V_iadd (pc' := 1270) C dL_law_1269 rfl ?_
  refine V_sld (pc' := 1271) C hX hbl hbA ⟨by omega, by omega, by omega⟩ dL_law_1270 rfl ?_
  refine V_aload3 (pc' := 1272) C dL_law_1271 rfl ?_
  obtain ⟨ms9, len9, h8, h9, hM⟩ := KL_setRank (D := D) (cB := cB) (cC := cC) (cI := cI) (cO := cO) (cJ := cJ) (cD := cD) (ee := ee) (P := P) (ou := ou) hI (by omega) hst (hxs (7 * (k : Int) + 1)) (hxs (7 * (k : Int) + 2))
  refine V_callSW (n := 4) [.ref (P 1), .int (iI (xs' (7 * (k : Int) + 1))), .int (iI (xs' (7 * (k : Int) + 2))), .ref ou] C hM gL_law_L_setRank rfl ydL_setRank ⟨Nat.le_of_ble_eq_true rfl, Nat.le_of_ble_eq_true rfl⟩ ⟨rfl, rfl⟩ rfl (fun h hh => ⟨hh.1, hh.2.2.1⟩) rfl (Nat.le_of_ble_eq_true rfl) dL_law_1272 ⟨by rw [RC1.1]; omega, by rw [RC1.2]; omega⟩ (fun h v h' hh hj9 => ?_)
  obtain ⟨P2, X2, rfl, hl2, hp2, hi2, hx2⟩ := LJ_1 hh hj9
  refine V_weak (I2 := LJ cB cC cI cO ee mo Pm P2 ((setRankX S (xs' (7 * (k : Int) + 1)) (xs' (7 * (k : Int) + 2))).2) X2 S (OI cJ cD ou od (setRankX S (xs' (7 * (k : Int) + 1)) (xs' (7 * (k : Int) + 2))))) (fun z hz => by rw [hz]; exact hl2) ?_
  refine V_istore6 (pc' := 1277) C dL_law_1275 rfl (by decide) rfl ?_
  refine V_aload2 (pc' := 1278) C dL_law_1277 rfl ?_
  refine V_aload0 (pc' := 1279) C dL_law_1278 rfl ?_
  refine V_iload5 (pc' := 1281) C dL_law_1279 rfl ?_
  refine V_iconst (pc' := 1282) C dL_law_1281 rfl ?_
  refine V_iadd (pc' := 1283) C dL_law_1282 rfl ?_
  refine V_sld (pc' := 1284) C hX hbl hbA ⟨by omega, by omega, by omega⟩ dL_law_1283 rfl ?_
  refine V_aload0 (pc' := 1285) C dL_law_1284 rfl ?_
  refine V_iload5 (pc' := 1287) C dL_law_1285 rfl ?_
  refine V_iconst (pc' := 1288) C dL_law_1287 rfl ?_
  refine V_iadd (pc' := 1289) C dL_law_1288 rfl ?_
  refine V_sld (pc' := 1290) C hX hbl hbA ⟨by omega, by omega, by omega⟩ dL_law_1289 rfl ?_
  refine V_callV (ci := 13) (n := 2) [.int (iI (xs' (7 * (k : Int) + 1))), .int (iI (xs' (7 * (k : Int) + 2)))] C (kX8_setRank (mo := mo) (Pm := Pm) (xs' (7 * (k : Int) + 1)) (xs' (7 * (k : Int) + 2)) hI.1.1 (hxs (7 * (k : Int) + 1)) (hxs (7 * (k : Int) + 2))) gL_law_X8_setRank rfl ydX8_setRank ⟨Nat.le_of_ble_eq_true rfl, Nat.le_of_ble_eq_true rfl⟩ ⟨rfl, rfl⟩ rfl rfl (fun h hh => ⟨1000, _, hh.2.1.1⟩) (fun h hh => hh.2.1) rfl (Nat.le_of_ble_eq_true rfl) dL_law_1290 ⟨by rw [RC1.1]; omega, by rw [RC1.2]; omega⟩ (fun h v h' hh hj9 => ?_)
  obtain ⟨rfl, hl3⟩ := LJ_2 (V := (setRankX S (xs' (7 * (k : Int) + 1)) (xs' (7 * (k : Int) + 2))).1) (S3 := (setRankX S (xs' (7 * (k : Int) + 1)) (xs' (7 * (k : Int) + 2))).2) hh hi2.1.1.1 hi2.1.2.2.1 OI_fr hj9
  refine V_weak (I2 := LJ cB cC cI cO ee mo Pm P2 ((setRankX S (xs' (7 * (k : Int) + 1)) (xs' (7 * (k : Int) + 2))).2) X2 ((setRankX S (xs' (7 * (k : Int) + 1)) (xs' (7 * (k : Int) + 2))).2) (OI cJ cD ou od (setRankX S (xs' (7 * (k : Int) + 1)) (xs' (7 * (k : Int) + 2))))) (fun z hz => by rw [hz]; exact hl3) ?_
  refine V_istore7 (pc' := 1295) C dL_law_1293 rfl (by decide) rfl ?_
  refine V_aload2 (pc' := 1296) C dL_law_1295 rfl ?_
  refine V_callV (ci := 13) (n := 0) [] C (kX8_thrown (mo := mo) (Pm := Pm) (S := (setRankX S (xs' (7 * (k : Int) + 1)) (xs' (7 * (k : Int) + 2))).2)) gL_law_X8_thrown rfl ydX8_thrown ⟨Nat.le_of_ble_eq_true rfl, Nat.le_of_ble_eq_true rfl⟩ ⟨rfl, rfl⟩ rfl rfl (fun h hh => ⟨1000, _, hh.2.1.1⟩) (fun h hh => hh.2.1) rfl (Nat.le_of_ble_eq_true rfl) dL_law_1296 ⟨by rw [RC1.1]; omega, by rw [RC1.2]; omega⟩ (fun h v h' hh hj9 => ?_)
  obtain ⟨rfl, hl4⟩ := LJ_2 (V := (setRankX S (xs' (7 * (k : Int) + 1)) (xs' (7 * (k : Int) + 2))).2.2 31) (S3 := (setRankX S (xs' (7 * (k : Int) + 1)) (xs' (7 * (k : Int) + 2))).2) hh hi2.1.1.1 hi2.1.2.2.1 OI_fr hj9
  refine V_weak (I2 := LJ cB cC cI cO ee mo Pm P2 ((setRankX S (xs' (7 * (k : Int) + 1)) (xs' (7 * (k : Int) + 2))).2) X2 ((setRankX S (xs' (7 * (k : Int) + 1)) (xs' (7 * (k : Int) + 2))).2) (OI cJ cD ou od (setRankX S (xs' (7 * (k : Int) + 1)) (xs' (7 * (k : Int) + 2))))) (fun z hz => by rw [hz]; exact hl4) ?_
  refine V_iload6 (pc' := 1301) C dL_law_1299 rfl ?_
  refine V_same (tgt := 1306) C dL_law_1301 (by decide) ?_
  refine V_iload6 (pc' := 1308) C dL_law_1306 rfl ?_
  refine V_ifneX (pc' := 1311) (tgt := 1323) C dL_law_1308 (by decide) rfl ?_ (fun c_0 => ?_)
  · refine V_goto (tgt := 1843) C dL_law_1323 (by decide) ?_
    exact V_locals (L2 := [some (.ref b), some (.ref (P 1)), some (.ref mo), some (.ref ou), some (.ref od), some (.int (iI (7 * (k : Int)))), none, none, none]) (fun i v hv => by
        rcases i with _ | _ | _ | _ | _ | _ | _ | _ | _ | i
        all_goals (first | exact hv | (cases hv; done) | cases hv))
        (V_weak (fun z hz => ⟨hz.1, hz.2.1, OI_n hz.2.2⟩) (next P2 _ X2 _ _ hi2 hp2 (by omega) (by omega)))
  · refine V_aload3 (pc' := 1312) C dL_law_1311 rfl ?_
    refine V_iconst (pc' := 1313) C dL_law_1312 rfl ?_
    refine V_lald1 (pc' := 1314) (v := lI (setRankX S (xs' (7 * (k : Int) + 1)) (xs' (7 * (k : Int) + 2))).1) C 4 rfl (fun h hh => by obtain ⟨f9, hf9, hf8⟩ := hh.2.2.1; exact ⟨901, f9, hf8 c_0, hf9⟩) dL_law_1313 rfl ?_
    refine V_iload7 (pc' := 1316) C dL_law_1314 rfl ?_
    refine V_i2l (pc' := 1317) C dL_law_1316 rfl ?_
    refine V_lcmp (pc' := 1318) C dL_law_1317 rfl ?_
    refine V_eq (st2 := [.int (iI 0)]) (by rw [lg_self]; rfl) ?_
    refine V_ifeq (tgt := 1323) C (by decide) dL_law_1318 (by decide) rfl (fun c_1318 => ?_) (fun c_1318 => ?_)
    · refine V_goto (tgt := 1843) C dL_law_1323 (by decide) ?_
      exact V_locals (L2 := [some (.ref b), some (.ref (P 1)), some (.ref mo), some (.ref ou), some (.ref od), some (.int (iI (7 * (k : Int)))), none, none, none]) (fun i v hv => by
          rcases i with _ | _ | _ | _ | _ | _ | _ | _ | _ | i
          all_goals (first | exact hv | (cases hv; done) | cases hv))
          (V_weak (fun z hz => ⟨hz.1, hz.2.1, OI_n hz.2.2⟩) (next P2 _ X2 _ _ hi2 hp2 (by omega) (by omega)))
    · exact absurd c_1318 (by decide)
set_option maxHeartbeats 4000000 in
set_option maxRecDepth 100000 in
theorem law_16 (C : Cx p m c code 9 s args wsL_law RL D (tyL cB cC cI cO cJ cD) A ee) (hX : va_X b N (iF xs') s s.heap) (hbl : b < s.heap.size) (hbA : ¬ A b) (hst : l.stackTraces = false) (hxs : ∀ z, rI (xs' z)) (hI : INV S X (210 * (k : Int))) (hk : 7 * (k : Int) + 7 ≤ N) (hN : N ≤ 3584) (h1 : c9 ≤ 100 + 12 * k) (h2 : s9 ≤ 20000 + 40 * k + 8 * (X.2 26).toNat) (next : ∀ (P' : Nat → Nat) (S' X' : MSt) (c' s' : Nat), INV S' X' (210 * (k : Int) + 210) → P' 1 = P 1 → c' ≤ 100 + 12 * (k + 1) → s' ≤ 20000 + 40 * (k + 1) + 8 * (X'.2 26).toNat → Vx p l e room_1 s m args below meth c (c') (s') Q D A 9 (LJ cB cC cI cO ee mo Pm P' S' X' S' (ON cJ cD ou od)) 1843 [some (.ref b), some (.ref (P 1)), some (.ref mo), some (.ref ou), some (.ref od), some (.int (iI (7 * (k : Int)))), none, none, none] []) : Vx p l e room_1 s m args below meth c (c9) (s9) Q D A 9 (LJ cB cC cI cO ee mo Pm P S X S (ON cJ cD ou od)) 1326 [some (.ref b), some (.ref (P 1)), some (.ref mo), some (.ref ou), some (.ref od), some (.int (iI (7 * (k : Int)))), none, none, none] [] := by
  have hn := INV_len hI
  refine V_aload1 (pc' := 1327) C dL_law_1326 rfl ?_
  refine V_aload0 (pc' := 1328) C dL_law_1327 rfl ?_
  refine V_iload5 (pc' := 1330) C dL_law_1328 rfl ?_
  refine V_iconst (pc' := 1331) C dL_law_1330 rfl ?_
  refine V_iadd (pc' := 1332) C dL_law_1331 rfl ?_
  refine V_sld (pc' := 1333) C hX hbl hbA ⟨by omega, by omega, by omega⟩ dL_law_1332 rfl ?_
  refine V_aload0 (pc' := 1334) C dL_law_1333 rfl ?_
  refine V_iload5 (pc' := 1336) C dL_law_1334 rfl ?_
  refine V_iconst (pc' := 1337) C dL_law_1336 rfl ?_
  refine V_iadd (pc' := 1338) C dL_law_1337 rfl ?_
  refine V_sld (pc' := 1339) C hX hbl hbA ⟨by omega, by omega, by omega⟩ dL_law_1338 rfl ?_
  refine V_aload3 (pc' := 1340) C dL_law_1339 rfl ?_
  obtain ⟨ms9, len9, h8, h9, hM⟩ := KL_rule (D := D) (cB := cB) (cC := cC) (cI := cI) (cO := cO) (cJ := cJ) (cD := cD) (ee := ee) (P := P) (ou := ou) hI (by omega) hst (hxs (7 * (k : Int) + 1)) (hxs (7 * (k : Int) + 2))
  refine V_callSW (n := 4) [.ref (P 1), .int (iI (xs' (7 * (k : Int) + 1))), .int (iI (xs' (7 * (k : Int) + 2))), .ref ou] C hM gL_law_L_rule rfl ydL_rule ⟨Nat.le_of_ble_eq_true rfl, Nat.le_of_ble_eq_true rfl⟩ ⟨rfl, rfl⟩ rfl (fun h hh => ⟨hh.1, hh.2.2.1⟩) rfl (Nat.le_of_ble_eq_true rfl) dL_law_1340 ⟨by rw [RC1.1]; omega, by rw [RC1.2]; omega⟩ (fun h v h' hh hj9 => ?_)
  obtain ⟨P2, X2, rfl, hl2, hp2, hi2, hx2⟩ := LJ_1 hh hj9
  refine V_weak (I2 := LJ cB cC cI cO ee mo Pm P2 ((ruleX S (xs' (7 * (k : Int) + 1)) (xs' (7 * (k : Int) + 2))).2) X2 S (OI cJ cD ou od (ruleX S (xs' (7 * (k : Int) + 1)) (xs' (7 * (k : Int) + 2))))) (fun z hz => by rw [hz]; exact hl2) ?_
  refine V_istore6 (pc' := 1345) C dL_law_1343 rfl (by decide) rfl ?_
  refine V_aload2 (pc' := 1346) C dL_law_1345 rfl ?_
  refine V_aload0 (pc' := 1347) C dL_law_1346 rfl ?_
  refine V_iload5 (pc' := 1349) C dL_law_1347 rfl ?_
  refine V_iconst (pc' := 1350) C dL_law_1349 rfl ?_
  refine V_iadd (pc' := 1351) C dL_law_1350 rfl ?_
  refine V_sld (pc' := 1352) C hX hbl hbA ⟨by omega, by omega, by omega⟩ dL_law_1351 rfl ?_
  refine V_aload0 (pc' := 1353) C dL_law_1352 rfl ?_
  refine V_iload5 (pc' := 1355) C dL_law_1353 rfl ?_
  refine V_iconst (pc' := 1356) C dL_law_1355 rfl ?_
  refine V_iadd (pc' := 1357) C dL_law_1356 rfl ?_
  refine V_sld (pc' := 1358) C hX hbl hbA ⟨by omega, by omega, by omega⟩ dL_law_1357 rfl ?_
  refine V_callV (ci := 13) (n := 2) [.int (iI (xs' (7 * (k : Int) + 1))), .int (iI (xs' (7 * (k : Int) + 2)))] C (kX8_rule (mo := mo) (Pm := Pm) (xs' (7 * (k : Int) + 1)) (xs' (7 * (k : Int) + 2)) hI.1.1 (hxs (7 * (k : Int) + 1)) (hxs (7 * (k : Int) + 2))) gL_law_X8_rule rfl ydX8_rule ⟨Nat.le_of_ble_eq_true rfl, Nat.le_of_ble_eq_true rfl⟩ ⟨rfl, rfl⟩ rfl rfl (fun h hh => ⟨1000, _, hh.2.1.1⟩) (fun h hh => hh.2.1) rfl (Nat.le_of_ble_eq_true rfl) dL_law_1358 ⟨by rw [RC1.1]; omega, by rw [RC1.2]; omega⟩ (fun h v h' hh hj9 => ?_)
  obtain ⟨rfl, hl3⟩ := LJ_2 (V := (ruleX S (xs' (7 * (k : Int) + 1)) (xs' (7 * (k : Int) + 2))).1) (S3 := (ruleX S (xs' (7 * (k : Int) + 1)) (xs' (7 * (k : Int) + 2))).2) hh hi2.1.1.1 hi2.1.2.2.1 OI_fr hj9
  refine V_weak (I2 := LJ cB cC cI cO ee mo Pm P2 ((ruleX S (xs' (7 * (k : Int) + 1)) (xs' (7 * (k : Int) + 2))).2) X2 ((ruleX S (xs' (7 * (k : Int) + 1)) (xs' (7 * (k : Int) + 2))).2) (OI cJ cD ou od (ruleX S (xs' (7 * (k : Int) + 1)) (xs' (7 * (k : Int) + 2))))) (fun z hz => by rw [hz]; exact hl3) ?_
  refine V_istore7 (pc' := 1363) C dL_law_1361 rfl (by decide) rfl ?_
  refine V_aload2 (pc' := 1364) C dL_law_1363 rfl ?_
  refine V_callV (ci := 13) (n := 0) [] C (kX8_thrown (mo := mo) (Pm := Pm) (S := (ruleX S (xs' (7 * (k : Int) + 1)) (xs' (7 * (k : Int) + 2))).2)) gL_law_X8_thrown rfl ydX8_thrown ⟨Nat.le_of_ble_eq_true rfl, Nat.le_of_ble_eq_true rfl⟩ ⟨rfl, rfl⟩ rfl rfl (fun h hh => ⟨1000, _, hh.2.1.1⟩) (fun h hh => hh.2.1) rfl (Nat.le_of_ble_eq_true rfl) dL_law_1364 ⟨by rw [RC1.1]; omega, by rw [RC1.2]; omega⟩ (fun h v h' hh hj9 => ?_)
  obtain ⟨rfl, hl4⟩ := LJ_2 (V := (ruleX S (xs' (7 * (k : Int) + 1)) (xs' (7 * (k : Int) + 2))).2.2 31) (S3 := (ruleX S (xs' (7 * (k : Int) + 1)) (xs' (7 * (k : Int) + 2))).2) hh hi2.1.1.1 hi2.1.2.2.1 OI_fr hj9
  refine V_weak (I2 := LJ cB cC cI cO ee mo Pm P2 ((ruleX S (xs' (7 * (k : Int) + 1)) (xs' (7 * (k : Int) + 2))).2) X2 ((ruleX S (xs' (7 * (k : Int) + 1)) (xs' (7 * (k : Int) + 2))).2) (OI cJ cD ou od (ruleX S (xs' (7 * (k : Int) + 1)) (xs' (7 * (k : Int) + 2))))) (fun z hz => by rw [hz]; exact hl4) ?_
  refine V_iload6 (pc' := 1369) C dL_law_1367 rfl ?_
  refine V_same (tgt := 1374) C dL_law_1369 (by decide) ?_
  refine V_iload6 (pc' := 1376) C dL_law_1374 rfl ?_
  refine V_ifneX (pc' := 1379) (tgt := 1391) C dL_law_1376 (by decide) rfl ?_ (fun c_0 => ?_)
  · refine V_goto (tgt := 1843) C dL_law_1391 (by decide) ?_
    exact V_locals (L2 := [some (.ref b), some (.ref (P 1)), some (.ref mo), some (.ref ou), some (.ref od), some (.int (iI (7 * (k : Int)))), none, none, none]) (fun i v hv => by
        rcases i with _ | _ | _ | _ | _ | _ | _ | _ | _ | i
        all_goals (first | exact hv | (cases hv; done) | cases hv))
        (V_weak (fun z hz => ⟨hz.1, hz.2.1, OI_n hz.2.2⟩) (next P2 _ X2 _ _ hi2 hp2 (by omega) (by omega)))
  · refine V_aload3 (pc' := 1380) C dL_law_1379 rfl ?_
    refine V_iconst (pc' := 1381) C dL_law_1380 rfl ?_
    refine V_lald1 (pc' := 1382) (v := lI (ruleX S (xs' (7 * (k : Int) + 1)) (xs' (7 * (k : Int) + 2))).1) C 4 rfl (fun h hh => by obtain ⟨f9, hf9, hf8⟩ := hh.2.2.1; exact ⟨901, f9, hf8 c_0, hf9⟩) dL_law_1381 rfl ?_
    refine V_iload7 (pc' := 1384) C dL_law_1382 rfl ?_
    refine V_i2l (pc' := 1385) C dL_law_1384 rfl ?_
    refine V_lcmp (pc' := 1386) C dL_law_1385 rfl ?_
    refine V_eq (st2 := [.int (iI 0)]) (by rw [lg_self]; rfl) ?_
    refine V_ifeq (tgt := 1391) C (by decide) dL_law_1386 (by decide) rfl (fun c_1386 => ?_) (fun c_1386 => ?_)
    · refine V_goto (tgt := 1843) C dL_law_1391 (by decide) ?_
      exact V_locals (L2 := [some (.ref b), some (.ref (P 1)), some (.ref mo), some (.ref ou), some (.ref od), some (.int (iI (7 * (k : Int)))), none, none, none]) (fun i v hv => by
          rcases i with _ | _ | _ | _ | _ | _ | _ | _ | _ | i
          all_goals (first | exact hv | (cases hv; done) | cases hv))
          (V_weak (fun z hz => ⟨hz.1, hz.2.1, OI_n hz.2.2⟩) (next P2 _ X2 _ _ hi2 hp2 (by omega) (by omega)))
    · exact absurd c_1386 (by decide)
set_option maxHeartbeats 4000000 in
set_option maxRecDepth 100000 in
theorem law_17 (C : Cx p m c code 9 s args wsL_law RL D (tyL cB cC cI cO cJ cD) A ee) (hX : va_X b N (iF xs') s s.heap) (hbl : b < s.heap.size) (hbA : ¬ A b) (hst : l.stackTraces = false) (hxs : ∀ z, rI (xs' z)) (hI : INV S X (210 * (k : Int))) (hk : 7 * (k : Int) + 7 ≤ N) (hN : N ≤ 3584) (h1 : c9 ≤ 100 + 12 * k) (h2 : s9 ≤ 20000 + 40 * k + 8 * (X.2 26).toNat) (next : ∀ (P' : Nat → Nat) (S' X' : MSt) (c' s' : Nat), INV S' X' (210 * (k : Int) + 210) → P' 1 = P 1 → c' ≤ 100 + 12 * (k + 1) → s' ≤ 20000 + 40 * (k + 1) + 8 * (X'.2 26).toNat → Vx p l e room_1 s m args below meth c (c') (s') Q D A 9 (LJ cB cC cI cO ee mo Pm P' S' X' S' (ON cJ cD ou od)) 1843 [some (.ref b), some (.ref (P 1)), some (.ref mo), some (.ref ou), some (.ref od), some (.int (iI (7 * (k : Int)))), none, none, none] []) : Vx p l e room_1 s m args below meth c (c9) (s9) Q D A 9 (LJ cB cC cI cO ee mo Pm P S X S (ON cJ cD ou od)) 1394 [some (.ref b), some (.ref (P 1)), some (.ref mo), some (.ref ou), some (.ref od), some (.int (iI (7 * (k : Int)))), none, none, none] [] := by
  have hn := INV_len hI
  refine V_aload1 (pc' := 1395) C dL_law_1394 rfl ?_
  refine V_callV (ci := 12) (n := 0) [] C (kX7_skipped (Tx9 := TxH cB) (P := P) (S := S) (X := X)) gL_law_X7_skipped rfl ydX7_skipped ⟨Nat.le_of_ble_eq_true rfl, Nat.le_of_ble_eq_true rfl⟩ ⟨rfl, rfl⟩ rfl rfl (fun h hh => CW_1 hh.1) (fun h hh => hh.1) rfl (Nat.le_of_ble_eq_true rfl) dL_law_1395 ⟨by rw [RC1.1]; omega, by rw [RC1.2]; omega⟩ (fun h v h' hh hj9 => ?_)
  obtain ⟨z9, rfl, hz9, rfl⟩ := hj9
  rw [hz9]
  refine V_weak (I2 := LJ cB cC cI cO ee mo Pm P S X S (ON cJ cD ou od)) (fun z hz => by rw [hz]; exact hh) ?_
  refine V_aload2 (pc' := 1399) C dL_law_1398 rfl ?_
  refine V_callV (ci := 13) (n := 0) [] C (kX8_skipped (mo := mo) (Pm := Pm) hI.1.1) gL_law_X8_skipped rfl ydX8_skipped ⟨Nat.le_of_ble_eq_true rfl, Nat.le_of_ble_eq_true rfl⟩ ⟨rfl, rfl⟩ rfl rfl (fun h hh => ⟨1000, _, hh.2.1.1⟩) (fun h hh => hh.2.1) rfl (Nat.le_of_ble_eq_true rfl) dL_law_1399 ⟨by rw [RC1.1]; omega, by rw [RC1.2]; omega⟩ (fun h v h' hh hj9 => ?_)
  obtain ⟨rfl, hl3⟩ := LJ_2 (V := S.2 26) (S3 := uG S 31 0) hh hI.1.1.1 hI.1.2.2.1 ON_fr hj9
  refine V_weak (I2 := LJ cB cC cI cO ee mo Pm P (uG S 31 0) X (uG S 31 0) (ON cJ cD ou od)) (fun z hz => by rw [hz]; exact ⟨CW_u 0 hl3.1, hl3.2⟩) ?_
  refine V_same (tgt := 1843) C dL_law_1402 (by decide) ?_
  exact next P (uG S 31 0) X _ _ (INV_b (INV_u31 0 hI) (by omega) (by omega)) rfl (by omega) (by omega)
set_option maxHeartbeats 4000000 in
set_option maxRecDepth 100000 in
theorem law_18 (C : Cx p m c code 9 s args wsL_law RL D (tyL cB cC cI cO cJ cD) A ee) (hX : va_X b N (iF xs') s s.heap) (hbl : b < s.heap.size) (hbA : ¬ A b) (hst : l.stackTraces = false) (hxs : ∀ z, rI (xs' z)) (hI : INV S X (210 * (k : Int))) (hk : 7 * (k : Int) + 7 ≤ N) (hN : N ≤ 3584) (h1 : c9 ≤ 100 + 12 * k) (h2 : s9 ≤ 20000 + 40 * k + 8 * (X.2 26).toNat) (next : ∀ (P' : Nat → Nat) (S' X' : MSt) (c' s' : Nat), INV S' X' (210 * (k : Int) + 210) → P' 1 = P 1 → c' ≤ 100 + 12 * (k + 1) → s' ≤ 20000 + 40 * (k + 1) + 8 * (X'.2 26).toNat → Vx p l e room_1 s m args below meth c (c') (s') Q D A 9 (LJ cB cC cI cO ee mo Pm P' S' X' S' (ON cJ cD ou od)) 1843 [some (.ref b), some (.ref (P 1)), some (.ref mo), some (.ref ou), some (.ref od), some (.int (iI (7 * (k : Int)))), none, none, none] []) : Vx p l e room_1 s m args below meth c (c9) (s9) Q D A 9 (LJ cB cC cI cO ee mo Pm P S X S (ON cJ cD ou od)) 1407 [some (.ref b), some (.ref (P 1)), some (.ref mo), some (.ref ou), some (.ref od), some (.int (iI (7 * (k : Int)))), none, none, none] [] := by
  have hn := INV_len hI
  refine V_aload1 (pc' := 1408) C dL_law_1407 rfl ?_
  refine V_aload3 (pc' := 1409) C dL_law_1408 rfl ?_
  obtain ⟨ms9, len9, h8, h9, hM⟩ := KL_undo (D := D) (cB := cB) (cC := cC) (cI := cI) (cO := cO) (cJ := cJ) (cD := cD) (ee := ee) (P := P) (ou := ou) hI (by omega) hst
  refine V_callSW (n := 2) [.ref (P 1), .ref ou] C hM gL_law_L_undo rfl ydL_undo ⟨Nat.le_of_ble_eq_true rfl, Nat.le_of_ble_eq_true rfl⟩ ⟨rfl, rfl⟩ rfl (fun h hh => ⟨hh.1, hh.2.2.1⟩) rfl (Nat.le_of_ble_eq_true rfl) dL_law_1409 ⟨by rw [RC1.1]; omega, by rw [RC1.2]; omega⟩ (fun h v h' hh hj9 => ?_)
  obtain ⟨P2, X2, rfl, hl2, hp2, hi2, hx2⟩ := LJ_1 hh hj9
  refine V_weak (I2 := LJ cB cC cI cO ee mo Pm P2 ((undoX S).2) X2 S (OI cJ cD ou od (undoX S))) (fun z hz => by rw [hz]; exact hl2) ?_
  refine V_istore6 (pc' := 1414) C dL_law_1412 rfl (by decide) rfl ?_
  refine V_aload2 (pc' := 1415) C dL_law_1414 rfl ?_
  refine V_callV (ci := 13) (n := 0) [] C (kX8_undo (mo := mo) (Pm := Pm) hI.1.1) gL_law_X8_undo rfl ydX8_undo ⟨Nat.le_of_ble_eq_true rfl, Nat.le_of_ble_eq_true rfl⟩ ⟨rfl, rfl⟩ rfl rfl (fun h hh => ⟨1000, _, hh.2.1.1⟩) (fun h hh => hh.2.1) rfl (Nat.le_of_ble_eq_true rfl) dL_law_1415 ⟨by rw [RC1.1]; omega, by rw [RC1.2]; omega⟩ (fun h v h' hh hj9 => ?_)
  obtain ⟨rfl, hl3⟩ := LJ_2 (V := (undoX S).1) (S3 := (undoX S).2) hh hi2.1.1.1 hi2.1.2.2.1 OI_fr hj9
  refine V_weak (I2 := LJ cB cC cI cO ee mo Pm P2 ((undoX S).2) X2 ((undoX S).2) (OI cJ cD ou od (undoX S))) (fun z hz => by rw [hz]; exact hl3) ?_
  refine V_istore7 (pc' := 1420) C dL_law_1418 rfl (by decide) rfl ?_
  refine V_aload2 (pc' := 1421) C dL_law_1420 rfl ?_
  refine V_callV (ci := 13) (n := 0) [] C (kX8_thrown (mo := mo) (Pm := Pm) (S := (undoX S).2)) gL_law_X8_thrown rfl ydX8_thrown ⟨Nat.le_of_ble_eq_true rfl, Nat.le_of_ble_eq_true rfl⟩ ⟨rfl, rfl⟩ rfl rfl (fun h hh => ⟨1000, _, hh.2.1.1⟩) (fun h hh => hh.2.1) rfl (Nat.le_of_ble_eq_true rfl) dL_law_1421 ⟨by rw [RC1.1]; omega, by rw [RC1.2]; omega⟩ (fun h v h' hh hj9 => ?_)
  obtain ⟨rfl, hl4⟩ := LJ_2 (V := (undoX S).2.2 31) (S3 := (undoX S).2) hh hi2.1.1.1 hi2.1.2.2.1 OI_fr hj9
  refine V_weak (I2 := LJ cB cC cI cO ee mo Pm P2 ((undoX S).2) X2 ((undoX S).2) (OI cJ cD ou od (undoX S))) (fun z hz => by rw [hz]; exact hl4) ?_
  refine V_iload6 (pc' := 1426) C dL_law_1424 rfl ?_
  refine V_same (tgt := 1431) C dL_law_1426 (by decide) ?_
  refine V_iload6 (pc' := 1433) C dL_law_1431 rfl ?_
  refine V_ifneX (pc' := 1436) (tgt := 1448) C dL_law_1433 (by decide) rfl ?_ (fun c_0 => ?_)
  · refine V_goto (tgt := 1843) C dL_law_1448 (by decide) ?_
    exact V_locals (L2 := [some (.ref b), some (.ref (P 1)), some (.ref mo), some (.ref ou), some (.ref od), some (.int (iI (7 * (k : Int)))), none, none, none]) (fun i v hv => by
        rcases i with _ | _ | _ | _ | _ | _ | _ | _ | _ | i
        all_goals (first | exact hv | (cases hv; done) | cases hv))
        (V_weak (fun z hz => ⟨hz.1, hz.2.1, OI_n hz.2.2⟩) (next P2 _ X2 _ _ hi2 hp2 (by omega) (by omega)))
  · refine V_aload3 (pc' := 1437) C dL_law_1436 rfl ?_
    refine V_iconst (pc' := 1438) C dL_law_1437 rfl ?_
    refine V_lald1 (pc' := 1439) (v := lI (undoX S).1) C 4 rfl (fun h hh => by obtain ⟨f9, hf9, hf8⟩ := hh.2.2.1; exact ⟨901, f9, hf8 c_0, hf9⟩) dL_law_1438 rfl ?_
    refine V_iload7 (pc' := 1441) C dL_law_1439 rfl ?_
    refine V_i2l (pc' := 1442) C dL_law_1441 rfl ?_
    refine V_lcmp (pc' := 1443) C dL_law_1442 rfl ?_
    refine V_eq (st2 := [.int (iI 0)]) (by rw [lg_self]; rfl) ?_
    refine V_ifeq (tgt := 1448) C (by decide) dL_law_1443 (by decide) rfl (fun c_1443 => ?_) (fun c_1443 => ?_)
    · refine V_goto (tgt := 1843) C dL_law_1448 (by decide) ?_
      exact V_locals (L2 := [some (.ref b), some (.ref (P 1)), some (.ref mo), some (.ref ou), some (.ref od), some (.int (iI (7 * (k : Int)))), none, none, none]) (fun i v hv => by
          rcases i with _ | _ | _ | _ | _ | _ | _ | _ | _ | i
          all_goals (first | exact hv | (cases hv; done) | cases hv))
          (V_weak (fun z hz => ⟨hz.1, hz.2.1, OI_n hz.2.2⟩) (next P2 _ X2 _ _ hi2 hp2 (by omega) (by omega)))
    · exact absurd c_1443 (by decide)
set_option maxHeartbeats 4000000 in
set_option maxRecDepth 100000 in
theorem law_19 (C : Cx p m c code 9 s args wsL_law RL D (tyL cB cC cI cO cJ cD) A ee) (hX : va_X b N (iF xs') s s.heap) (hbl : b < s.heap.size) (hbA : ¬ A b) (hst : l.stackTraces = false) (hxs : ∀ z, rI (xs' z)) (hI : INV S X (210 * (k : Int))) (hk : 7 * (k : Int) + 7 ≤ N) (hN : N ≤ 3584) (h1 : c9 ≤ 100 + 12 * k) (h2 : s9 ≤ 20000 + 40 * k + 8 * (X.2 26).toNat) (next : ∀ (P' : Nat → Nat) (S' X' : MSt) (c' s' : Nat), INV S' X' (210 * (k : Int) + 210) → P' 1 = P 1 → c' ≤ 100 + 12 * (k + 1) → s' ≤ 20000 + 40 * (k + 1) + 8 * (X'.2 26).toNat → Vx p l e room_1 s m args below meth c (c') (s') Q D A 9 (LJ cB cC cI cO ee mo Pm P' S' X' S' (ON cJ cD ou od)) 1843 [some (.ref b), some (.ref (P 1)), some (.ref mo), some (.ref ou), some (.ref od), some (.int (iI (7 * (k : Int)))), none, none, none] []) : Vx p l e room_1 s m args below meth c (c9) (s9) Q D A 9 (LJ cB cC cI cO ee mo Pm P S X S (ON cJ cD ou od)) 1451 [some (.ref b), some (.ref (P 1)), some (.ref mo), some (.ref ou), some (.ref od), some (.int (iI (7 * (k : Int)))), none, none, none] [] := by
  have hn := INV_len hI
  refine V_aload1 (pc' := 1452) C dL_law_1451 rfl ?_
  refine V_callV (ci := 12) (n := 0) [] C (kX7_entries (Tx9 := TxH cB) (P := P) (S := S) (X := X)) gL_law_X7_entries rfl ydX7_entries ⟨Nat.le_of_ble_eq_true rfl, Nat.le_of_ble_eq_true rfl⟩ ⟨rfl, rfl⟩ rfl rfl (fun h hh => CW_1 hh.1) (fun h hh => hh.1) rfl (Nat.le_of_ble_eq_true rfl) dL_law_1452 ⟨by rw [RC1.1]; omega, by rw [RC1.2]; omega⟩ (fun h v h' hh hj9 => ?_)
  obtain ⟨z9, rfl, hz9, rfl⟩ := hj9
  rw [hz9, hI.1.2.2.2.1.1.1]
  refine V_weak (I2 := LJ cB cC cI cO ee mo Pm P S X S (ON cJ cD ou od)) (fun z hz => by rw [hz]; exact hh) ?_
  refine V_aload2 (pc' := 1456) C dL_law_1455 rfl ?_
  refine V_callV (ci := 13) (n := 0) [] C (kX8_entries (mo := mo) (Pm := Pm) hI.1.1) gL_law_X8_entries rfl ydX8_entries ⟨Nat.le_of_ble_eq_true rfl, Nat.le_of_ble_eq_true rfl⟩ ⟨rfl, rfl⟩ rfl rfl (fun h hh => ⟨1000, _, hh.2.1.1⟩) (fun h hh => hh.2.1) rfl (Nat.le_of_ble_eq_true rfl) dL_law_1456 ⟨by rw [RC1.1]; omega, by rw [RC1.2]; omega⟩ (fun h v h' hh hj9 => ?_)
  obtain ⟨rfl, hl3⟩ := LJ_2 (V := S.2 29 + S.2 24) (S3 := uG S 31 0) hh hI.1.1.1 hI.1.2.2.1 ON_fr hj9
  refine V_weak (I2 := LJ cB cC cI cO ee mo Pm P (uG S 31 0) X (uG S 31 0) (ON cJ cD ou od)) (fun z hz => by rw [hz]; exact ⟨CW_u 0 hl3.1, hl3.2⟩) ?_
  refine V_same (tgt := 1843) C dL_law_1459 (by decide) ?_
  exact next P (uG S 31 0) X _ _ (INV_b (INV_u31 0 hI) (by omega) (by omega)) rfl (by omega) (by omega)
set_option maxHeartbeats 4000000 in
set_option maxRecDepth 100000 in
theorem law_20 (C : Cx p m c code 9 s args wsL_law RL D (tyL cB cC cI cO cJ cD) A ee) (hX : va_X b N (iF xs') s s.heap) (hbl : b < s.heap.size) (hbA : ¬ A b) (hst : l.stackTraces = false) (hxs : ∀ z, rI (xs' z)) (hI : INV S X (210 * (k : Int))) (hk : 7 * (k : Int) + 7 ≤ N) (hN : N ≤ 3584) (h1 : c9 ≤ 100 + 12 * k) (h2 : s9 ≤ 20000 + 40 * k + 8 * (X.2 26).toNat) (next : ∀ (P' : Nat → Nat) (S' X' : MSt) (c' s' : Nat), INV S' X' (210 * (k : Int) + 210) → P' 1 = P 1 → c' ≤ 100 + 12 * (k + 1) → s' ≤ 20000 + 40 * (k + 1) + 8 * (X'.2 26).toNat → Vx p l e room_1 s m args below meth c (c') (s') Q D A 9 (LJ cB cC cI cO ee mo Pm P' S' X' S' (ON cJ cD ou od)) 1843 [some (.ref b), some (.ref (P 1)), some (.ref mo), some (.ref ou), some (.ref od), some (.int (iI (7 * (k : Int)))), none, none, none] []) : Vx p l e room_1 s m args below meth c (c9) (s9) Q D A 9 (LJ cB cC cI cO ee mo Pm P S X S (ON cJ cD ou od)) 1464 [some (.ref b), some (.ref (P 1)), some (.ref mo), some (.ref ou), some (.ref od), some (.int (iI (7 * (k : Int)))), none, none, none] [] := by
  have hn := INV_len hI
  refine V_aload1 (pc' := 1465) C dL_law_1464 rfl ?_
  refine V_aload0 (pc' := 1466) C dL_law_1465 rfl ?_
  refine V_iload5 (pc' := 1468) C dL_law_1466 rfl ?_
  refine V_iconst (pc' := 1469) C dL_law_1468 rfl ?_
  refine V_iadd (pc' := 1470) C dL_law_1469 rfl ?_
  refine V_sld (pc' := 1471) C hX hbl hbA ⟨by omega, by omega, by omega⟩ dL_law_1470 rfl ?_
  refine V_aload3 (pc' := 1472) C dL_law_1471 rfl ?_
  obtain ⟨ms9, len9, h8, h9, hM⟩ := KL_entriesOf (D := D) (cB := cB) (cC := cC) (cI := cI) (cO := cO) (cJ := cJ) (cD := cD) (ee := ee) (P := P) (ou := ou) hI (by omega) hst (hxs (7 * (k : Int) + 1))
  refine V_callSW (n := 3) [.ref (P 1), .int (iI (xs' (7 * (k : Int) + 1))), .ref ou] C hM gL_law_L_entriesOf rfl ydL_entriesOf ⟨Nat.le_of_ble_eq_true rfl, Nat.le_of_ble_eq_true rfl⟩ ⟨rfl, rfl⟩ rfl (fun h hh => ⟨hh.1, hh.2.2.1⟩) rfl (Nat.le_of_ble_eq_true rfl) dL_law_1472 ⟨by rw [RC1.1]; omega, by rw [RC1.2]; omega⟩ (fun h v h' hh hj9 => ?_)
  obtain ⟨P2, X2, rfl, hl2, hp2, hi2, hx2⟩ := LJ_1 hh hj9
  refine V_weak (I2 := LJ cB cC cI cO ee mo Pm P2 ((entriesOfX S (xs' (7 * (k : Int) + 1))).2) X2 S (OI cJ cD ou od (entriesOfX S (xs' (7 * (k : Int) + 1))))) (fun z hz => by rw [hz]; exact hl2) ?_
  refine V_istore6 (pc' := 1477) C dL_law_1475 rfl (by decide) rfl ?_
  refine V_aload2 (pc' := 1478) C dL_law_1477 rfl ?_
  refine V_aload0 (pc' := 1479) C dL_law_1478 rfl ?_
  refine V_iload5 (pc' := 1481) C dL_law_1479 rfl ?_
  refine V_iconst (pc' := 1482) C dL_law_1481 rfl ?_
  refine V_iadd (pc' := 1483) C dL_law_1482 rfl ?_
  refine V_sld (pc' := 1484) C hX hbl hbA ⟨by omega, by omega, by omega⟩ dL_law_1483 rfl ?_
  refine V_callV (ci := 13) (n := 1) [.int (iI (xs' (7 * (k : Int) + 1)))] C (kX8_entriesOf (mo := mo) (Pm := Pm) (xs' (7 * (k : Int) + 1)) hI.1.1 (hxs (7 * (k : Int) + 1))) gL_law_X8_entriesOf rfl ydX8_entriesOf ⟨Nat.le_of_ble_eq_true rfl, Nat.le_of_ble_eq_true rfl⟩ ⟨rfl, rfl⟩ rfl rfl (fun h hh => ⟨1000, _, hh.2.1.1⟩) (fun h hh => hh.2.1) rfl (Nat.le_of_ble_eq_true rfl) dL_law_1484 ⟨by rw [RC1.1]; omega, by rw [RC1.2]; omega⟩ (fun h v h' hh hj9 => ?_)
  obtain ⟨rfl, hl3⟩ := LJ_2 (V := (entriesOfX S (xs' (7 * (k : Int) + 1))).1) (S3 := (entriesOfX S (xs' (7 * (k : Int) + 1))).2) hh hi2.1.1.1 hi2.1.2.2.1 OI_fr hj9
  refine V_weak (I2 := LJ cB cC cI cO ee mo Pm P2 ((entriesOfX S (xs' (7 * (k : Int) + 1))).2) X2 ((entriesOfX S (xs' (7 * (k : Int) + 1))).2) (OI cJ cD ou od (entriesOfX S (xs' (7 * (k : Int) + 1))))) (fun z hz => by rw [hz]; exact hl3) ?_
  refine V_istore7 (pc' := 1489) C dL_law_1487 rfl (by decide) rfl ?_
  refine V_aload2 (pc' := 1490) C dL_law_1489 rfl ?_
  refine V_callV (ci := 13) (n := 0) [] C (kX8_thrown (mo := mo) (Pm := Pm) (S := (entriesOfX S (xs' (7 * (k : Int) + 1))).2)) gL_law_X8_thrown rfl ydX8_thrown ⟨Nat.le_of_ble_eq_true rfl, Nat.le_of_ble_eq_true rfl⟩ ⟨rfl, rfl⟩ rfl rfl (fun h hh => ⟨1000, _, hh.2.1.1⟩) (fun h hh => hh.2.1) rfl (Nat.le_of_ble_eq_true rfl) dL_law_1490 ⟨by rw [RC1.1]; omega, by rw [RC1.2]; omega⟩ (fun h v h' hh hj9 => ?_)
  obtain ⟨rfl, hl4⟩ := LJ_2 (V := (entriesOfX S (xs' (7 * (k : Int) + 1))).2.2 31) (S3 := (entriesOfX S (xs' (7 * (k : Int) + 1))).2) hh hi2.1.1.1 hi2.1.2.2.1 OI_fr hj9
  refine V_weak (I2 := LJ cB cC cI cO ee mo Pm P2 ((entriesOfX S (xs' (7 * (k : Int) + 1))).2) X2 ((entriesOfX S (xs' (7 * (k : Int) + 1))).2) (OI cJ cD ou od (entriesOfX S (xs' (7 * (k : Int) + 1))))) (fun z hz => by rw [hz]; exact hl4) ?_
  refine V_iload6 (pc' := 1495) C dL_law_1493 rfl ?_
  refine V_same (tgt := 1500) C dL_law_1495 (by decide) ?_
  refine V_iload6 (pc' := 1502) C dL_law_1500 rfl ?_
  refine V_ifneX (pc' := 1505) (tgt := 1517) C dL_law_1502 (by decide) rfl ?_ (fun c_0 => ?_)
  · refine V_goto (tgt := 1843) C dL_law_1517 (by decide) ?_
    exact V_locals (L2 := [some (.ref b), some (.ref (P 1)), some (.ref mo), some (.ref ou), some (.ref od), some (.int (iI (7 * (k : Int)))), none, none, none]) (fun i v hv => by
        rcases i with _ | _ | _ | _ | _ | _ | _ | _ | _ | i
        all_goals (first | exact hv | (cases hv; done) | cases hv))
        (V_weak (fun z hz => ⟨hz.1, hz.2.1, OI_n hz.2.2⟩) (next P2 _ X2 _ _ hi2 hp2 (by omega) (by omega)))
  · refine V_aload3 (pc' := 1506) C dL_law_1505 rfl ?_
    refine V_iconst (pc' := 1507) C dL_law_1506 rfl ?_
    refine V_lald1 (pc' := 1508) (v := lI (entriesOfX S (xs' (7 * (k : Int) + 1))).1) C 4 rfl (fun h hh => by obtain ⟨f9, hf9, hf8⟩ := hh.2.2.1; exact ⟨901, f9, hf8 c_0, hf9⟩) dL_law_1507 rfl ?_
    refine V_iload7 (pc' := 1510) C dL_law_1508 rfl ?_
    refine V_i2l (pc' := 1511) C dL_law_1510 rfl ?_
    refine V_lcmp (pc' := 1512) C dL_law_1511 rfl ?_
    refine V_eq (st2 := [.int (iI 0)]) (by rw [lg_self]; rfl) ?_
    refine V_ifeq (tgt := 1517) C (by decide) dL_law_1512 (by decide) rfl (fun c_1512 => ?_) (fun c_1512 => ?_)
    · refine V_goto (tgt := 1843) C dL_law_1517 (by decide) ?_
      exact V_locals (L2 := [some (.ref b), some (.ref (P 1)), some (.ref mo), some (.ref ou), some (.ref od), some (.int (iI (7 * (k : Int)))), none, none, none]) (fun i v hv => by
          rcases i with _ | _ | _ | _ | _ | _ | _ | _ | _ | i
          all_goals (first | exact hv | (cases hv; done) | cases hv))
          (V_weak (fun z hz => ⟨hz.1, hz.2.1, OI_n hz.2.2⟩) (next P2 _ X2 _ _ hi2 hp2 (by omega) (by omega)))
    · exact absurd c_1512 (by decide)
set_option maxHeartbeats 4000000 in
set_option maxRecDepth 100000 in
theorem law_21 (C : Cx p m c code 9 s args wsL_law RL D (tyL cB cC cI cO cJ cD) A ee) (hX : va_X b N (iF xs') s s.heap) (hbl : b < s.heap.size) (hbA : ¬ A b) (hst : l.stackTraces = false) (hxs : ∀ z, rI (xs' z)) (hI : INV S X (210 * (k : Int))) (hk : 7 * (k : Int) + 7 ≤ N) (hN : N ≤ 3584) (h1 : c9 ≤ 100 + 12 * k) (h2 : s9 ≤ 20000 + 40 * k + 8 * (X.2 26).toNat) (next : ∀ (P' : Nat → Nat) (S' X' : MSt) (c' s' : Nat), INV S' X' (210 * (k : Int) + 210) → P' 1 = P 1 → c' ≤ 100 + 12 * (k + 1) → s' ≤ 20000 + 40 * (k + 1) + 8 * (X'.2 26).toNat → Vx p l e room_1 s m args below meth c (c') (s') Q D A 9 (LJ cB cC cI cO ee mo Pm P' S' X' S' (ON cJ cD ou od)) 1843 [some (.ref b), some (.ref (P 1)), some (.ref mo), some (.ref ou), some (.ref od), some (.int (iI (7 * (k : Int)))), none, none, none] []) : Vx p l e room_1 s m args below meth c (c9) (s9) Q D A 9 (LJ cB cC cI cO ee mo Pm P S X S (ON cJ cD ou od)) 1520 [some (.ref b), some (.ref (P 1)), some (.ref mo), some (.ref ou), some (.ref od), some (.int (iI (7 * (k : Int)))), none, none, none] [] := by
  have hn := INV_len hI
  refine V_aload1 (pc' := 1521) C dL_law_1520 rfl ?_
  refine V_aload0 (pc' := 1522) C dL_law_1521 rfl ?_
  refine V_iload5 (pc' := 1524) C dL_law_1522 rfl ?_
  refine V_iconst (pc' := 1525) C dL_law_1524 rfl ?_
  refine V_iadd (pc' := 1526) C dL_law_1525 rfl ?_
  refine V_sld (pc' := 1527) C hX hbl hbA ⟨by omega, by omega, by omega⟩ dL_law_1526 rfl ?_
  refine V_aload0 (pc' := 1528) C dL_law_1527 rfl ?_
  refine V_iload5 (pc' := 1530) C dL_law_1528 rfl ?_
  refine V_iconst (pc' := 1531) C dL_law_1530 rfl ?_
  refine V_iadd (pc' := 1532) C dL_law_1531 rfl ?_
  refine V_sld (pc' := 1533) C hX hbl hbA ⟨by omega, by omega, by omega⟩ dL_law_1532 rfl ?_
  refine V_aload3 (pc' := 1534) C dL_law_1533 rfl ?_
  obtain ⟨ms9, len9, h8, h9, hM⟩ := KL_lastBy (D := D) (cB := cB) (cC := cC) (cI := cI) (cO := cO) (cJ := cJ) (cD := cD) (ee := ee) (P := P) (ou := ou) hI (by omega) hst (hxs (7 * (k : Int) + 1)) (hxs (7 * (k : Int) + 2))
  refine V_callSW (n := 4) [.ref (P 1), .int (iI (xs' (7 * (k : Int) + 1))), .int (iI (xs' (7 * (k : Int) + 2))), .ref ou] C hM gL_law_L_lastBy rfl ydL_lastBy ⟨Nat.le_of_ble_eq_true rfl, Nat.le_of_ble_eq_true rfl⟩ ⟨rfl, rfl⟩ rfl (fun h hh => ⟨hh.1, hh.2.2.1⟩) rfl (Nat.le_of_ble_eq_true rfl) dL_law_1534 ⟨by rw [RC1.1]; omega, by rw [RC1.2]; omega⟩ (fun h v h' hh hj9 => ?_)
  obtain ⟨P2, X2, rfl, hl2, hp2, hi2, hx2⟩ := LJ_1 hh hj9
  refine V_weak (I2 := LJ cB cC cI cO ee mo Pm P2 ((lastByX S (xs' (7 * (k : Int) + 1)) (xs' (7 * (k : Int) + 2))).2) X2 S (OI cJ cD ou od (lastByX S (xs' (7 * (k : Int) + 1)) (xs' (7 * (k : Int) + 2))))) (fun z hz => by rw [hz]; exact hl2) ?_
  refine V_istore6 (pc' := 1539) C dL_law_1537 rfl (by decide) rfl ?_
  refine V_aload2 (pc' := 1540) C dL_law_1539 rfl ?_
  refine V_aload0 (pc' := 1541) C dL_law_1540 rfl ?_
  refine V_iload5 (pc' := 1543) C dL_law_1541 rfl ?_
  refine V_iconst (pc' := 1544) C dL_law_1543 rfl ?_
  refine V_iadd (pc' := 1545) C dL_law_1544 rfl ?_
  refine V_sld (pc' := 1546) C hX hbl hbA ⟨by omega, by omega, by omega⟩ dL_law_1545 rfl ?_
  refine V_aload0 (pc' := 1547) C dL_law_1546 rfl ?_
  refine V_iload5 (pc' := 1549) C dL_law_1547 rfl ?_
  refine V_iconst (pc' := 1550) C dL_law_1549 rfl ?_
  refine V_iadd (pc' := 1551) C dL_law_1550 rfl ?_
  refine V_sld (pc' := 1552) C hX hbl hbA ⟨by omega, by omega, by omega⟩ dL_law_1551 rfl ?_
  refine V_callV (ci := 13) (n := 2) [.int (iI (xs' (7 * (k : Int) + 1))), .int (iI (xs' (7 * (k : Int) + 2)))] C (kX8_lastBy (mo := mo) (Pm := Pm) (xs' (7 * (k : Int) + 1)) (xs' (7 * (k : Int) + 2)) hI.1.1 (hxs (7 * (k : Int) + 1)) (hxs (7 * (k : Int) + 2))) gL_law_X8_lastBy rfl ydX8_lastBy ⟨Nat.le_of_ble_eq_true rfl, Nat.le_of_ble_eq_true rfl⟩ ⟨rfl, rfl⟩ rfl rfl (fun h hh => ⟨1000, _, hh.2.1.1⟩) (fun h hh => hh.2.1) rfl (Nat.le_of_ble_eq_true rfl) dL_law_1552 ⟨by rw [RC1.1]; omega, by rw [RC1.2]; omega⟩ (fun h v h' hh hj9 => ?_)
  obtain ⟨rfl, hl3⟩ := LJ_2 (V := (lastByX S (xs' (7 * (k : Int) + 1)) (xs' (7 * (k : Int) + 2))).1) (S3 := (lastByX S (xs' (7 * (k : Int) + 1)) (xs' (7 * (k : Int) + 2))).2) hh hi2.1.1.1 hi2.1.2.2.1 OI_fr hj9
  refine V_weak (I2 := LJ cB cC cI cO ee mo Pm P2 ((lastByX S (xs' (7 * (k : Int) + 1)) (xs' (7 * (k : Int) + 2))).2) X2 ((lastByX S (xs' (7 * (k : Int) + 1)) (xs' (7 * (k : Int) + 2))).2) (OI cJ cD ou od (lastByX S (xs' (7 * (k : Int) + 1)) (xs' (7 * (k : Int) + 2))))) (fun z hz => by rw [hz]; exact hl3) ?_
  refine V_istore7 (pc' := 1557) C dL_law_1555 rfl (by decide) rfl ?_
  refine V_aload2 (pc' := 1558) C dL_law_1557 rfl ?_
  refine V_callV (ci := 13) (n := 0) [] C (kX8_thrown (mo := mo) (Pm := Pm) (S := (lastByX S (xs' (7 * (k : Int) + 1)) (xs' (7 * (k : Int) + 2))).2)) gL_law_X8_thrown rfl ydX8_thrown ⟨Nat.le_of_ble_eq_true rfl, Nat.le_of_ble_eq_true rfl⟩ ⟨rfl, rfl⟩ rfl rfl (fun h hh => ⟨1000, _, hh.2.1.1⟩) (fun h hh => hh.2.1) rfl (Nat.le_of_ble_eq_true rfl) dL_law_1558 ⟨by rw [RC1.1]; omega, by rw [RC1.2]; omega⟩ (fun h v h' hh hj9 => ?_)
  obtain ⟨rfl, hl4⟩ := LJ_2 (V := (lastByX S (xs' (7 * (k : Int) + 1)) (xs' (7 * (k : Int) + 2))).2.2 31) (S3 := (lastByX S (xs' (7 * (k : Int) + 1)) (xs' (7 * (k : Int) + 2))).2) hh hi2.1.1.1 hi2.1.2.2.1 OI_fr hj9
  refine V_weak (I2 := LJ cB cC cI cO ee mo Pm P2 ((lastByX S (xs' (7 * (k : Int) + 1)) (xs' (7 * (k : Int) + 2))).2) X2 ((lastByX S (xs' (7 * (k : Int) + 1)) (xs' (7 * (k : Int) + 2))).2) (OI cJ cD ou od (lastByX S (xs' (7 * (k : Int) + 1)) (xs' (7 * (k : Int) + 2))))) (fun z hz => by rw [hz]; exact hl4) ?_
  refine V_iload6 (pc' := 1563) C dL_law_1561 rfl ?_
  refine V_same (tgt := 1568) C dL_law_1563 (by decide) ?_
  refine V_iload6 (pc' := 1570) C dL_law_1568 rfl ?_
  refine V_ifneX (pc' := 1573) (tgt := 1585) C dL_law_1570 (by decide) rfl ?_ (fun c_0 => ?_)
  · refine V_goto (tgt := 1843) C dL_law_1585 (by decide) ?_
    exact V_locals (L2 := [some (.ref b), some (.ref (P 1)), some (.ref mo), some (.ref ou), some (.ref od), some (.int (iI (7 * (k : Int)))), none, none, none]) (fun i v hv => by
        rcases i with _ | _ | _ | _ | _ | _ | _ | _ | _ | i
        all_goals (first | exact hv | (cases hv; done) | cases hv))
        (V_weak (fun z hz => ⟨hz.1, hz.2.1, OI_n hz.2.2⟩) (next P2 _ X2 _ _ hi2 hp2 (by omega) (by omega)))
  · refine V_aload3 (pc' := 1574) C dL_law_1573 rfl ?_
    refine V_iconst (pc' := 1575) C dL_law_1574 rfl ?_
    refine V_lald1 (pc' := 1576) (v := lI (lastByX S (xs' (7 * (k : Int) + 1)) (xs' (7 * (k : Int) + 2))).1) C 4 rfl (fun h hh => by obtain ⟨f9, hf9, hf8⟩ := hh.2.2.1; exact ⟨901, f9, hf8 c_0, hf9⟩) dL_law_1575 rfl ?_
    refine V_iload7 (pc' := 1578) C dL_law_1576 rfl ?_
    refine V_i2l (pc' := 1579) C dL_law_1578 rfl ?_
    refine V_lcmp (pc' := 1580) C dL_law_1579 rfl ?_
    refine V_eq (st2 := [.int (iI 0)]) (by rw [lg_self]; rfl) ?_
    refine V_ifeq (tgt := 1585) C (by decide) dL_law_1580 (by decide) rfl (fun c_1580 => ?_) (fun c_1580 => ?_)
    · refine V_goto (tgt := 1843) C dL_law_1585 (by decide) ?_
      exact V_locals (L2 := [some (.ref b), some (.ref (P 1)), some (.ref mo), some (.ref ou), some (.ref od), some (.int (iI (7 * (k : Int)))), none, none, none]) (fun i v hv => by
          rcases i with _ | _ | _ | _ | _ | _ | _ | _ | _ | i
          all_goals (first | exact hv | (cases hv; done) | cases hv))
          (V_weak (fun z hz => ⟨hz.1, hz.2.1, OI_n hz.2.2⟩) (next P2 _ X2 _ _ hi2 hp2 (by omega) (by omega)))
    · exact absurd c_1580 (by decide)
set_option maxHeartbeats 4000000 in
set_option maxRecDepth 100000 in
theorem law_22 (C : Cx p m c code 9 s args wsL_law RL D (tyL cB cC cI cO cJ cD) A ee) (hX : va_X b N (iF xs') s s.heap) (hbl : b < s.heap.size) (hbA : ¬ A b) (hst : l.stackTraces = false) (hxs : ∀ z, rI (xs' z)) (hI : INV S X (210 * (k : Int))) (hk : 7 * (k : Int) + 7 ≤ N) (hN : N ≤ 3584) (h1 : c9 ≤ 100 + 12 * k) (h2 : s9 ≤ 20000 + 40 * k + 8 * (X.2 26).toNat) (next : ∀ (P' : Nat → Nat) (S' X' : MSt) (c' s' : Nat), INV S' X' (210 * (k : Int) + 210) → P' 1 = P 1 → c' ≤ 100 + 12 * (k + 1) → s' ≤ 20000 + 40 * (k + 1) + 8 * (X'.2 26).toNat → Vx p l e room_1 s m args below meth c (c') (s') Q D A 9 (LJ cB cC cI cO ee mo Pm P' S' X' S' (ON cJ cD ou od)) 1843 [some (.ref b), some (.ref (P 1)), some (.ref mo), some (.ref ou), some (.ref od), some (.int (iI (7 * (k : Int)))), none, none, none] []) : Vx p l e room_1 s m args below meth c (c9) (s9) Q D A 9 (LJ cB cC cI cO ee mo Pm P S X S (ON cJ cD ou od)) 1588 [some (.ref b), some (.ref (P 1)), some (.ref mo), some (.ref ou), some (.ref od), some (.int (iI (7 * (k : Int)))), none, none, none] [] := by
  have hn := INV_len hI
  refine V_aload1 (pc' := 1589) C dL_law_1588 rfl ?_
  refine V_aload0 (pc' := 1590) C dL_law_1589 rfl ?_
  refine V_iload5 (pc' := 1592) C dL_law_1590 rfl ?_
  refine V_iconst (pc' := 1593) C dL_law_1592 rfl ?_
  refine V_iadd (pc' := 1594) C dL_law_1593 rfl ?_
  refine V_sld (pc' := 1595) C hX hbl hbA ⟨by omega, by omega, by omega⟩ dL_law_1594 rfl ?_
  refine V_aload0 (pc' := 1596) C dL_law_1595 rfl ?_
  refine V_iload5 (pc' := 1598) C dL_law_1596 rfl ?_
  refine V_iconst (pc' := 1599) C dL_law_1598 rfl ?_
  refine V_iadd (pc' := 1600) C dL_law_1599 rfl ?_
  refine V_sld (pc' := 1601) C hX hbl hbA ⟨by omega, by omega, by omega⟩ dL_law_1600 rfl ?_
  refine V_aload3 (pc' := 1602) C dL_law_1601 rfl ?_
  obtain ⟨ms9, len9, h8, h9, hM⟩ := KL_writeStep (D := D) (cB := cB) (cC := cC) (cI := cI) (cO := cO) (cJ := cJ) (cD := cD) (ee := ee) (P := P) (ou := ou) hI (by omega) hst (hxs (7 * (k : Int) + 1)) (hxs (7 * (k : Int) + 2))
  refine V_callSW (n := 4) [.ref (P 1), .int (iI (xs' (7 * (k : Int) + 1))), .int (iI (xs' (7 * (k : Int) + 2))), .ref ou] C hM gL_law_L_writeStep rfl ydL_writeStep ⟨Nat.le_of_ble_eq_true rfl, Nat.le_of_ble_eq_true rfl⟩ ⟨rfl, rfl⟩ rfl (fun h hh => ⟨hh.1, hh.2.2.1⟩) rfl (Nat.le_of_ble_eq_true rfl) dL_law_1602 ⟨by rw [RC1.1]; omega, by rw [RC1.2]; omega⟩ (fun h v h' hh hj9 => ?_)
  obtain ⟨P2, X2, rfl, hl2, hp2, hi2, hx2⟩ := LJ_1 hh hj9
  refine V_weak (I2 := LJ cB cC cI cO ee mo Pm P2 ((writeStepX S (xs' (7 * (k : Int) + 1)) (xs' (7 * (k : Int) + 2))).2) X2 S (OI cJ cD ou od (writeStepX S (xs' (7 * (k : Int) + 1)) (xs' (7 * (k : Int) + 2))))) (fun z hz => by rw [hz]; exact hl2) ?_
  refine V_istore6 (pc' := 1607) C dL_law_1605 rfl (by decide) rfl ?_
  refine V_aload2 (pc' := 1608) C dL_law_1607 rfl ?_
  refine V_aload0 (pc' := 1609) C dL_law_1608 rfl ?_
  refine V_iload5 (pc' := 1611) C dL_law_1609 rfl ?_
  refine V_iconst (pc' := 1612) C dL_law_1611 rfl ?_
  refine V_iadd (pc' := 1613) C dL_law_1612 rfl ?_
  refine V_sld (pc' := 1614) C hX hbl hbA ⟨by omega, by omega, by omega⟩ dL_law_1613 rfl ?_
  refine V_aload0 (pc' := 1615) C dL_law_1614 rfl ?_
  refine V_iload5 (pc' := 1617) C dL_law_1615 rfl ?_
  refine V_iconst (pc' := 1618) C dL_law_1617 rfl ?_
  refine V_iadd (pc' := 1619) C dL_law_1618 rfl ?_
  refine V_sld (pc' := 1620) C hX hbl hbA ⟨by omega, by omega, by omega⟩ dL_law_1619 rfl ?_
  refine V_callV (ci := 13) (n := 2) [.int (iI (xs' (7 * (k : Int) + 1))), .int (iI (xs' (7 * (k : Int) + 2)))] C (kX8_writeStep (mo := mo) (Pm := Pm) (xs' (7 * (k : Int) + 1)) (xs' (7 * (k : Int) + 2)) hI.1.1 (hxs (7 * (k : Int) + 1)) (hxs (7 * (k : Int) + 2))) gL_law_X8_writeStep rfl ydX8_writeStep ⟨Nat.le_of_ble_eq_true rfl, Nat.le_of_ble_eq_true rfl⟩ ⟨rfl, rfl⟩ rfl rfl (fun h hh => ⟨1000, _, hh.2.1.1⟩) (fun h hh => hh.2.1) rfl (Nat.le_of_ble_eq_true rfl) dL_law_1620 ⟨by rw [RC1.1]; omega, by rw [RC1.2]; omega⟩ (fun h v h' hh hj9 => ?_)
  obtain ⟨rfl, hl3⟩ := LJ_2 (V := (writeStepX S (xs' (7 * (k : Int) + 1)) (xs' (7 * (k : Int) + 2))).1) (S3 := (writeStepX S (xs' (7 * (k : Int) + 1)) (xs' (7 * (k : Int) + 2))).2) hh hi2.1.1.1 hi2.1.2.2.1 OI_fr hj9
  refine V_weak (I2 := LJ cB cC cI cO ee mo Pm P2 ((writeStepX S (xs' (7 * (k : Int) + 1)) (xs' (7 * (k : Int) + 2))).2) X2 ((writeStepX S (xs' (7 * (k : Int) + 1)) (xs' (7 * (k : Int) + 2))).2) (OI cJ cD ou od (writeStepX S (xs' (7 * (k : Int) + 1)) (xs' (7 * (k : Int) + 2))))) (fun z hz => by rw [hz]; exact hl3) ?_
  refine V_istore7 (pc' := 1625) C dL_law_1623 rfl (by decide) rfl ?_
  refine V_aload2 (pc' := 1626) C dL_law_1625 rfl ?_
  refine V_callV (ci := 13) (n := 0) [] C (kX8_thrown (mo := mo) (Pm := Pm) (S := (writeStepX S (xs' (7 * (k : Int) + 1)) (xs' (7 * (k : Int) + 2))).2)) gL_law_X8_thrown rfl ydX8_thrown ⟨Nat.le_of_ble_eq_true rfl, Nat.le_of_ble_eq_true rfl⟩ ⟨rfl, rfl⟩ rfl rfl (fun h hh => ⟨1000, _, hh.2.1.1⟩) (fun h hh => hh.2.1) rfl (Nat.le_of_ble_eq_true rfl) dL_law_1626 ⟨by rw [RC1.1]; omega, by rw [RC1.2]; omega⟩ (fun h v h' hh hj9 => ?_)
  obtain ⟨rfl, hl4⟩ := LJ_2 (V := (writeStepX S (xs' (7 * (k : Int) + 1)) (xs' (7 * (k : Int) + 2))).2.2 31) (S3 := (writeStepX S (xs' (7 * (k : Int) + 1)) (xs' (7 * (k : Int) + 2))).2) hh hi2.1.1.1 hi2.1.2.2.1 OI_fr hj9
  refine V_weak (I2 := LJ cB cC cI cO ee mo Pm P2 ((writeStepX S (xs' (7 * (k : Int) + 1)) (xs' (7 * (k : Int) + 2))).2) X2 ((writeStepX S (xs' (7 * (k : Int) + 1)) (xs' (7 * (k : Int) + 2))).2) (OI cJ cD ou od (writeStepX S (xs' (7 * (k : Int) + 1)) (xs' (7 * (k : Int) + 2))))) (fun z hz => by rw [hz]; exact hl4) ?_
  refine V_iload6 (pc' := 1631) C dL_law_1629 rfl ?_
  refine V_same (tgt := 1636) C dL_law_1631 (by decide) ?_
  refine V_iload6 (pc' := 1638) C dL_law_1636 rfl ?_
  refine V_ifneX (pc' := 1641) (tgt := 1653) C dL_law_1638 (by decide) rfl ?_ (fun c_0 => ?_)
  · refine V_goto (tgt := 1843) C dL_law_1653 (by decide) ?_
    exact V_locals (L2 := [some (.ref b), some (.ref (P 1)), some (.ref mo), some (.ref ou), some (.ref od), some (.int (iI (7 * (k : Int)))), none, none, none]) (fun i v hv => by
        rcases i with _ | _ | _ | _ | _ | _ | _ | _ | _ | i
        all_goals (first | exact hv | (cases hv; done) | cases hv))
        (V_weak (fun z hz => ⟨hz.1, hz.2.1, OI_n hz.2.2⟩) (next P2 _ X2 _ _ hi2 hp2 (by omega) (by omega)))
  · refine V_aload3 (pc' := 1642) C dL_law_1641 rfl ?_
    refine V_iconst (pc' := 1643) C dL_law_1642 rfl ?_
    refine V_lald1 (pc' := 1644) (v := lI (writeStepX S (xs' (7 * (k : Int) + 1)) (xs' (7 * (k : Int) + 2))).1) C 4 rfl (fun h hh => by obtain ⟨f9, hf9, hf8⟩ := hh.2.2.1; exact ⟨901, f9, hf8 c_0, hf9⟩) dL_law_1643 rfl ?_
    refine V_iload7 (pc' := 1646) C dL_law_1644 rfl ?_
    refine V_i2l (pc' := 1647) C dL_law_1646 rfl ?_
    refine V_lcmp (pc' := 1648) C dL_law_1647 rfl ?_
    refine V_eq (st2 := [.int (iI 0)]) (by rw [lg_self]; rfl) ?_
    refine V_ifeq (tgt := 1653) C (by decide) dL_law_1648 (by decide) rfl (fun c_1648 => ?_) (fun c_1648 => ?_)
    · refine V_goto (tgt := 1843) C dL_law_1653 (by decide) ?_
      exact V_locals (L2 := [some (.ref b), some (.ref (P 1)), some (.ref mo), some (.ref ou), some (.ref od), some (.int (iI (7 * (k : Int)))), none, none, none]) (fun i v hv => by
          rcases i with _ | _ | _ | _ | _ | _ | _ | _ | _ | i
          all_goals (first | exact hv | (cases hv; done) | cases hv))
          (V_weak (fun z hz => ⟨hz.1, hz.2.1, OI_n hz.2.2⟩) (next P2 _ X2 _ _ hi2 hp2 (by omega) (by omega)))
    · exact absurd c_1648 (by decide)
set_option maxHeartbeats 4000000 in
set_option maxRecDepth 100000 in
theorem law_23 (C : Cx p m c code 9 s args wsL_law RL D (tyL cB cC cI cO cJ cD) A ee) (hX : va_X b N (iF xs') s s.heap) (hbl : b < s.heap.size) (hbA : ¬ A b) (hst : l.stackTraces = false) (hxs : ∀ z, rI (xs' z)) (hI : INV S X (210 * (k : Int))) (hk : 7 * (k : Int) + 7 ≤ N) (hN : N ≤ 3584) (h1 : c9 ≤ 100 + 12 * k) (h2 : s9 ≤ 20000 + 40 * k + 8 * (X.2 26).toNat) (next : ∀ (P' : Nat → Nat) (S' X' : MSt) (c' s' : Nat), INV S' X' (210 * (k : Int) + 210) → P' 1 = P 1 → c' ≤ 100 + 12 * (k + 1) → s' ≤ 20000 + 40 * (k + 1) + 8 * (X'.2 26).toNat → Vx p l e room_1 s m args below meth c (c') (s') Q D A 9 (LJ cB cC cI cO ee mo Pm P' S' X' S' (ON cJ cD ou od)) 1843 [some (.ref b), some (.ref (P 1)), some (.ref mo), some (.ref ou), some (.ref od), some (.int (iI (7 * (k : Int)))), none, none, none] []) : Vx p l e room_1 s m args below meth c (c9) (s9) Q D A 9 (LJ cB cC cI cO ee mo Pm P S X S (ON cJ cD ou od)) 1656 [some (.ref b), some (.ref (P 1)), some (.ref mo), some (.ref ou), some (.ref od), some (.int (iI (7 * (k : Int)))), none, none, none] [] := by
  have hn := INV_len hI
  refine V_aload1 (pc' := 1657) C dL_law_1656 rfl ?_
  refine V_aload0 (pc' := 1658) C dL_law_1657 rfl ?_
  refine V_iload5 (pc' := 1660) C dL_law_1658 rfl ?_
  refine V_iconst (pc' := 1661) C dL_law_1660 rfl ?_
  refine V_iadd (pc' := 1662) C dL_law_1661 rfl ?_
  refine V_sld (pc' := 1663) C hX hbl hbA ⟨by omega, by omega, by omega⟩ dL_law_1662 rfl ?_
  refine V_aload3 (pc' := 1664) C dL_law_1663 rfl ?_
  obtain ⟨ms9, len9, h8, h9, hM⟩ := KL_textAt (D := D) (cB := cB) (cC := cC) (cI := cI) (cO := cO) (cJ := cJ) (cD := cD) (ee := ee) (P := P) (ou := ou) hI (by omega) hst (hxs (7 * (k : Int) + 1))
  refine V_callSW (n := 3) [.ref (P 1), .int (iI (xs' (7 * (k : Int) + 1))), .ref ou] C hM gL_law_L_textAt rfl ydL_textAt ⟨Nat.le_of_ble_eq_true rfl, Nat.le_of_ble_eq_true rfl⟩ ⟨rfl, rfl⟩ rfl (fun h hh => ⟨hh.1, hh.2.2.1⟩) rfl (Nat.le_of_ble_eq_true rfl) dL_law_1664 ⟨by rw [RC1.1]; omega, by rw [RC1.2]; omega⟩ (fun h v h' hh hj9 => ?_)
  obtain ⟨P2, X2, rfl, hl2, hp2, hi2, hx2⟩ := LJ_1 hh hj9
  refine V_weak (I2 := LJ cB cC cI cO ee mo Pm P2 ((textAtX S (xs' (7 * (k : Int) + 1))).2) X2 S (OI cJ cD ou od (textAtX S (xs' (7 * (k : Int) + 1))))) (fun z hz => by rw [hz]; exact hl2) ?_
  refine V_istore6 (pc' := 1669) C dL_law_1667 rfl (by decide) rfl ?_
  refine V_aload2 (pc' := 1670) C dL_law_1669 rfl ?_
  refine V_aload0 (pc' := 1671) C dL_law_1670 rfl ?_
  refine V_iload5 (pc' := 1673) C dL_law_1671 rfl ?_
  refine V_iconst (pc' := 1674) C dL_law_1673 rfl ?_
  refine V_iadd (pc' := 1675) C dL_law_1674 rfl ?_
  refine V_sld (pc' := 1676) C hX hbl hbA ⟨by omega, by omega, by omega⟩ dL_law_1675 rfl ?_
  refine V_callV (ci := 13) (n := 1) [.int (iI (xs' (7 * (k : Int) + 1)))] C (kX8_textAt (mo := mo) (Pm := Pm) (xs' (7 * (k : Int) + 1)) hI.1.1 (hxs (7 * (k : Int) + 1))) gL_law_X8_textAt rfl ydX8_textAt ⟨Nat.le_of_ble_eq_true rfl, Nat.le_of_ble_eq_true rfl⟩ ⟨rfl, rfl⟩ rfl rfl (fun h hh => ⟨1000, _, hh.2.1.1⟩) (fun h hh => hh.2.1) rfl (Nat.le_of_ble_eq_true rfl) dL_law_1676 ⟨by rw [RC1.1]; omega, by rw [RC1.2]; omega⟩ (fun h v h' hh hj9 => ?_)
  obtain ⟨rfl, hl3⟩ := LJ_2 (V := (textAtX S (xs' (7 * (k : Int) + 1))).1) (S3 := (textAtX S (xs' (7 * (k : Int) + 1))).2) hh hi2.1.1.1 hi2.1.2.2.1 OI_fr hj9
  refine V_weak (I2 := LJ cB cC cI cO ee mo Pm P2 ((textAtX S (xs' (7 * (k : Int) + 1))).2) X2 ((textAtX S (xs' (7 * (k : Int) + 1))).2) (OI cJ cD ou od (textAtX S (xs' (7 * (k : Int) + 1))))) (fun z hz => by rw [hz]; exact hl3) ?_
  refine V_istore7 (pc' := 1681) C dL_law_1679 rfl (by decide) rfl ?_
  refine V_aload2 (pc' := 1682) C dL_law_1681 rfl ?_
  refine V_callV (ci := 13) (n := 0) [] C (kX8_thrown (mo := mo) (Pm := Pm) (S := (textAtX S (xs' (7 * (k : Int) + 1))).2)) gL_law_X8_thrown rfl ydX8_thrown ⟨Nat.le_of_ble_eq_true rfl, Nat.le_of_ble_eq_true rfl⟩ ⟨rfl, rfl⟩ rfl rfl (fun h hh => ⟨1000, _, hh.2.1.1⟩) (fun h hh => hh.2.1) rfl (Nat.le_of_ble_eq_true rfl) dL_law_1682 ⟨by rw [RC1.1]; omega, by rw [RC1.2]; omega⟩ (fun h v h' hh hj9 => ?_)
  obtain ⟨rfl, hl4⟩ := LJ_2 (V := (textAtX S (xs' (7 * (k : Int) + 1))).2.2 31) (S3 := (textAtX S (xs' (7 * (k : Int) + 1))).2) hh hi2.1.1.1 hi2.1.2.2.1 OI_fr hj9
  refine V_weak (I2 := LJ cB cC cI cO ee mo Pm P2 ((textAtX S (xs' (7 * (k : Int) + 1))).2) X2 ((textAtX S (xs' (7 * (k : Int) + 1))).2) (OI cJ cD ou od (textAtX S (xs' (7 * (k : Int) + 1))))) (fun z hz => by rw [hz]; exact hl4) ?_
  refine V_iload6 (pc' := 1687) C dL_law_1685 rfl ?_
  refine V_same (tgt := 1692) C dL_law_1687 (by decide) ?_
  refine V_iload6 (pc' := 1694) C dL_law_1692 rfl ?_
  refine V_ifneX (pc' := 1697) (tgt := 1709) C dL_law_1694 (by decide) rfl ?_ (fun c_0 => ?_)
  · refine V_goto (tgt := 1843) C dL_law_1709 (by decide) ?_
    exact V_locals (L2 := [some (.ref b), some (.ref (P 1)), some (.ref mo), some (.ref ou), some (.ref od), some (.int (iI (7 * (k : Int)))), none, none, none]) (fun i v hv => by
        rcases i with _ | _ | _ | _ | _ | _ | _ | _ | _ | i
        all_goals (first | exact hv | (cases hv; done) | cases hv))
        (V_weak (fun z hz => ⟨hz.1, hz.2.1, OI_n hz.2.2⟩) (next P2 _ X2 _ _ hi2 hp2 (by omega) (by omega)))
  · refine V_aload3 (pc' := 1698) C dL_law_1697 rfl ?_
    refine V_iconst (pc' := 1699) C dL_law_1698 rfl ?_
    refine V_lald1 (pc' := 1700) (v := lI (textAtX S (xs' (7 * (k : Int) + 1))).1) C 4 rfl (fun h hh => by obtain ⟨f9, hf9, hf8⟩ := hh.2.2.1; exact ⟨901, f9, hf8 c_0, hf9⟩) dL_law_1699 rfl ?_
    refine V_iload7 (pc' := 1702) C dL_law_1700 rfl ?_
    refine V_i2l (pc' := 1703) C dL_law_1702 rfl ?_
    refine V_lcmp (pc' := 1704) C dL_law_1703 rfl ?_
    refine V_eq (st2 := [.int (iI 0)]) (by rw [lg_self]; rfl) ?_
    refine V_ifeq (tgt := 1709) C (by decide) dL_law_1704 (by decide) rfl (fun c_1704 => ?_) (fun c_1704 => ?_)
    · refine V_goto (tgt := 1843) C dL_law_1709 (by decide) ?_
      exact V_locals (L2 := [some (.ref b), some (.ref (P 1)), some (.ref mo), some (.ref ou), some (.ref od), some (.int (iI (7 * (k : Int)))), none, none, none]) (fun i v hv => by
          rcases i with _ | _ | _ | _ | _ | _ | _ | _ | _ | i
          all_goals (first | exact hv | (cases hv; done) | cases hv))
          (V_weak (fun z hz => ⟨hz.1, hz.2.1, OI_n hz.2.2⟩) (next P2 _ X2 _ _ hi2 hp2 (by omega) (by omega)))
    · exact absurd c_1704 (by decide)
set_option maxHeartbeats 4000000 in
set_option maxRecDepth 100000 in
theorem law_24 (C : Cx p m c code 9 s args wsL_law RL D (tyL cB cC cI cO cJ cD) A ee) (hX : va_X b N (iF xs') s s.heap) (hbl : b < s.heap.size) (hbA : ¬ A b) (hst : l.stackTraces = false) (hxs : ∀ z, rI (xs' z)) (hI : INV S X (210 * (k : Int))) (hk : 7 * (k : Int) + 7 ≤ N) (hN : N ≤ 3584) (h1 : c9 ≤ 100 + 12 * k) (h2 : s9 ≤ 20000 + 40 * k + 8 * (X.2 26).toNat) (next : ∀ (P' : Nat → Nat) (S' X' : MSt) (c' s' : Nat), INV S' X' (210 * (k : Int) + 210) → P' 1 = P 1 → c' ≤ 100 + 12 * (k + 1) → s' ≤ 20000 + 40 * (k + 1) + 8 * (X'.2 26).toNat → Vx p l e room_1 s m args below meth c (c') (s') Q D A 9 (LJ cB cC cI cO ee mo Pm P' S' X' S' (ON cJ cD ou od)) 1843 [some (.ref b), some (.ref (P 1)), some (.ref mo), some (.ref ou), some (.ref od), some (.int (iI (7 * (k : Int)))), none, none, none] []) : Vx p l e room_1 s m args below meth c (c9) (s9) Q D A 9 (LJ cB cC cI cO ee mo Pm P S X S (ON cJ cD ou od)) 1712 [some (.ref b), some (.ref (P 1)), some (.ref mo), some (.ref ou), some (.ref od), some (.int (iI (7 * (k : Int)))), none, none, none] [] := by
  have hn := INV_len hI
  have ms9 : Nat := 40
  refine V_aload1 (pc' := 1713) C dL_law_1712 rfl ?_
  refine V_aload4 (pc' := 1715) C dL_law_1713 rfl ?_
  refine V_callSW (n := 2) [.ref (P 1), .ref od] C (KL_macroShare (D := D) (cB := cB) (cC := cC) (cI := cI) (cO := cO) (cJ := cJ) (cD := cD) (ee := ee) (P := P) (ou := od) hI (by omega) hst) gL_law_L_macroShare rfl ydL_macroShare ⟨Nat.le_of_ble_eq_true rfl, Nat.le_of_ble_eq_true rfl⟩ ⟨rfl, rfl⟩ rfl (fun h hh => ⟨hh.1, hh.2.2.2⟩) rfl (Nat.le_of_ble_eq_true rfl) dL_law_1715 ⟨by rw [RC1.1]; omega, by rw [RC1.2]; omega⟩ (fun h v h' hh hj9 => ?_)
  obtain ⟨P2, X2, rfl, hl2, hp2, hi2, hx2⟩ := LJ_d hh hj9
  refine V_weak (I2 := LJ cB cC cI cO ee mo Pm P2 ((macroShareX S).2) X2 S (OD cJ cD ou od ((macroShareX S).2.2 31) (FP.f2d (macroShareX S).1))) (fun z hz => by rw [hz]; exact hl2) ?_
  refine V_istore6 (pc' := 1720) C dL_law_1718 rfl (by decide) rfl ?_
  refine V_aload2 (pc' := 1721) C dL_law_1720 rfl ?_
  refine V_callV (ci := 13) (n := 0) [] C (kX8_macroShare (mo := mo) (Pm := Pm) hI.1.1 (share_h3 hI)) gL_law_X8_macroShare rfl ydX8_macroShare ⟨Nat.le_of_ble_eq_true rfl, Nat.le_of_ble_eq_true rfl⟩ ⟨rfl, rfl⟩ rfl rfl (fun h hh => ⟨1000, _, hh.2.1.1⟩) (fun h hh => hh.2.1) rfl (Nat.le_of_ble_eq_true rfl) dL_law_1721 ⟨by rw [RC1.1]; omega, by rw [RC1.2]; omega⟩ (fun h v h' hh hj9 => ?_)
  obtain ⟨rfl, hl3⟩ := LJ_w (V := .float (macroShareX S).1) (S3 := (macroShareX S).2) hh hi2.1.1.1 hi2.1.2.2.1 OD_fr hj9
  refine V_weak (I2 := LJ cB cC cI cO ee mo Pm P2 ((macroShareX S).2) X2 ((macroShareX S).2) (OD cJ cD ou od ((macroShareX S).2.2 31) (FP.f2d (macroShareX S).1))) (fun z hz => by rw [hz]; exact hl3) ?_
  refine V_fstore7 (pc' := 1726) C dL_law_1724 rfl (by decide) rfl ?_
  refine V_aload2 (pc' := 1727) C dL_law_1726 rfl ?_
  refine V_callV (ci := 13) (n := 0) [] C (kX8_thrown (mo := mo) (Pm := Pm) (S := (macroShareX S).2)) gL_law_X8_thrown rfl ydX8_thrown ⟨Nat.le_of_ble_eq_true rfl, Nat.le_of_ble_eq_true rfl⟩ ⟨rfl, rfl⟩ rfl rfl (fun h hh => ⟨1000, _, hh.2.1.1⟩) (fun h hh => hh.2.1) rfl (Nat.le_of_ble_eq_true rfl) dL_law_1727 ⟨by rw [RC1.1]; omega, by rw [RC1.2]; omega⟩ (fun h v h' hh hj9 => ?_)
  obtain ⟨rfl, hl4⟩ := LJ_2 (V := (macroShareX S).2.2 31) (S3 := (macroShareX S).2) hh hi2.1.1.1 hi2.1.2.2.1 OD_fr hj9
  refine V_weak (I2 := LJ cB cC cI cO ee mo Pm P2 ((macroShareX S).2) X2 ((macroShareX S).2) (OD cJ cD ou od ((macroShareX S).2.2 31) (FP.f2d (macroShareX S).1))) (fun z hz => by rw [hz]; exact hl4) ?_
  refine V_iload6 (pc' := 1732) C dL_law_1730 rfl ?_
  refine V_same (tgt := 1737) C dL_law_1732 (by decide) ?_
  refine V_iload6 (pc' := 1739) C dL_law_1737 rfl ?_
  refine V_ifneX (pc' := 1742) (tgt := 1775) C dL_law_1739 (by decide) rfl ?_ (fun c_0 => ?_)
  · refine V_goto (tgt := 1843) C dL_law_1775 (by decide) ?_
    exact V_locals (L2 := [some (.ref b), some (.ref (P 1)), some (.ref mo), some (.ref ou), some (.ref od), some (.int (iI (7 * (k : Int)))), none, none, none]) (fun i v hv => by
        rcases i with _ | _ | _ | _ | _ | _ | _ | _ | _ | i
        all_goals (first | exact hv | (cases hv; done) | cases hv))
        (V_weak (fun z hz => ⟨hz.1, hz.2.1, OD_n hz.2.2⟩) (next P2 _ X2 _ _ hi2 hp2 (by omega) (by omega)))
  · refine V_aload4 (pc' := 1744) C dL_law_1742 rfl ?_
    refine V_iconst (pc' := 1745) C dL_law_1744 rfl ?_
    refine V_dald1 (pc' := 1746) (v := (FP.f2d (macroShareX S).1)) C 5 rfl (fun h hh => by obtain ⟨f9, hf9, hf8⟩ := hh.2.2.2; exact ⟨902, f9, hf8 c_0, hf9⟩) dL_law_1745 rfl ?_
    refine V_fload7 (pc' := 1748) C dL_law_1746 rfl ?_
    refine V_f2d (pc' := 1749) C (share_eq hI c_0).1 dL_law_1748 rfl ?_
    refine V_dcmp (pc' := 1750) C dL_law_1749 rfl ?_
    refine V_eq (st2 := [.int (iI 0)]) (by rw [(share_eq hI c_0).2]; rfl) ?_
    refine V_ifeq (tgt := 1775) C (by decide) dL_law_1750 (by decide) rfl (fun c_1750 => ?_) (fun c_1750 => ?_)
    · refine V_goto (tgt := 1843) C dL_law_1775 (by decide) ?_
      exact V_locals (L2 := [some (.ref b), some (.ref (P 1)), some (.ref mo), some (.ref ou), some (.ref od), some (.int (iI (7 * (k : Int)))), none, none, none]) (fun i v hv => by
          rcases i with _ | _ | _ | _ | _ | _ | _ | _ | _ | i
          all_goals (first | exact hv | (cases hv; done) | cases hv))
          (V_weak (fun z hz => ⟨hz.1, hz.2.1, OD_n hz.2.2⟩) (next P2 _ X2 _ _ hi2 hp2 (by omega) (by omega)))
    · exact absurd c_1750 (by decide)
set_option maxHeartbeats 4000000 in
set_option maxRecDepth 100000 in
theorem law_25 (C : Cx p m c code 9 s args wsL_law RL D (tyL cB cC cI cO cJ cD) A ee) (hX : va_X b N (iF xs') s s.heap) (hbl : b < s.heap.size) (hbA : ¬ A b) (hst : l.stackTraces = false) (hxs : ∀ z, rI (xs' z)) (hI : INV S X (210 * (k : Int))) (hk : 7 * (k : Int) + 7 ≤ N) (hN : N ≤ 3584) (h1 : c9 ≤ 100 + 12 * k) (h2 : s9 ≤ 20000 + 40 * k + 8 * (X.2 26).toNat) (next : ∀ (P' : Nat → Nat) (S' X' : MSt) (c' s' : Nat), INV S' X' (210 * (k : Int) + 210) → P' 1 = P 1 → c' ≤ 100 + 12 * (k + 1) → s' ≤ 20000 + 40 * (k + 1) + 8 * (X'.2 26).toNat → Vx p l e room_1 s m args below meth c (c') (s') Q D A 9 (LJ cB cC cI cO ee mo Pm P' S' X' S' (ON cJ cD ou od)) 1843 [some (.ref b), some (.ref (P 1)), some (.ref mo), some (.ref ou), some (.ref od), some (.int (iI (7 * (k : Int)))), none, none, none] []) : Vx p l e room_1 s m args below meth c (c9) (s9) Q D A 9 (LJ cB cC cI cO ee mo Pm P S X S (ON cJ cD ou od)) 1778 [some (.ref b), some (.ref (P 1)), some (.ref mo), some (.ref ou), some (.ref od), some (.int (iI (7 * (k : Int)))), none, none, none] [] := by
  have hn := INV_len hI
  have ms9 : Nat := 40
  refine V_aload1 (pc' := 1779) C dL_law_1778 rfl ?_
  refine V_aload4 (pc' := 1781) C dL_law_1779 rfl ?_
  refine V_callSW (n := 2) [.ref (P 1), .ref od] C (KL_meanValue (D := D) (cB := cB) (cC := cC) (cI := cI) (cO := cO) (cJ := cJ) (cD := cD) (ee := ee) (P := P) (ou := od) hI (by omega) hst) gL_law_L_meanValue rfl ydL_meanValue ⟨Nat.le_of_ble_eq_true rfl, Nat.le_of_ble_eq_true rfl⟩ ⟨rfl, rfl⟩ rfl (fun h hh => ⟨hh.1, hh.2.2.2⟩) rfl (Nat.le_of_ble_eq_true rfl) dL_law_1781 ⟨by rw [RC1.1]; omega, by rw [RC1.2]; omega⟩ (fun h v h' hh hj9 => ?_)
  obtain ⟨P2, X2, rfl, hl2, hp2, hi2, hx2⟩ := LJ_d hh hj9
  refine V_weak (I2 := LJ cB cC cI cO ee mo Pm P2 ((meanValueX S).2) X2 S (OD cJ cD ou od ((meanValueX S).2.2 31) ((meanValueX S).1))) (fun z hz => by rw [hz]; exact hl2) ?_
  refine V_istore6 (pc' := 1786) C dL_law_1784 rfl (by decide) rfl ?_
  refine V_aload2 (pc' := 1787) C dL_law_1786 rfl ?_
  refine V_callV (ci := 13) (n := 0) [] C (kX8_meanValue (mo := mo) (Pm := Pm) hI.1.1) gL_law_X8_meanValue rfl ydX8_meanValue ⟨Nat.le_of_ble_eq_true rfl, Nat.le_of_ble_eq_true rfl⟩ ⟨rfl, rfl⟩ rfl rfl (fun h hh => ⟨1000, _, hh.2.1.1⟩) (fun h hh => hh.2.1) rfl (Nat.le_of_ble_eq_true rfl) dL_law_1787 ⟨by rw [RC1.1]; omega, by rw [RC1.2]; omega⟩ (fun h v h' hh hj9 => ?_)
  obtain ⟨rfl, hl3⟩ := LJ_w (V := .double (meanValueX S).1) (S3 := (meanValueX S).2) hh hi2.1.1.1 hi2.1.2.2.1 OD_fr hj9
  refine V_weak (I2 := LJ cB cC cI cO ee mo Pm P2 ((meanValueX S).2) X2 ((meanValueX S).2) (OD cJ cD ou od ((meanValueX S).2.2 31) ((meanValueX S).1))) (fun z hz => by rw [hz]; exact hl3) ?_
  refine V_dstore7 (pc' := 1792) C dL_law_1790 rfl (by decide) rfl ?_
  refine V_aload2 (pc' := 1793) C dL_law_1792 rfl ?_
  refine V_callV (ci := 13) (n := 0) [] C (kX8_thrown (mo := mo) (Pm := Pm) (S := (meanValueX S).2)) gL_law_X8_thrown rfl ydX8_thrown ⟨Nat.le_of_ble_eq_true rfl, Nat.le_of_ble_eq_true rfl⟩ ⟨rfl, rfl⟩ rfl rfl (fun h hh => ⟨1000, _, hh.2.1.1⟩) (fun h hh => hh.2.1) rfl (Nat.le_of_ble_eq_true rfl) dL_law_1793 ⟨by rw [RC1.1]; omega, by rw [RC1.2]; omega⟩ (fun h v h' hh hj9 => ?_)
  obtain ⟨rfl, hl4⟩ := LJ_2 (V := (meanValueX S).2.2 31) (S3 := (meanValueX S).2) hh hi2.1.1.1 hi2.1.2.2.1 OD_fr hj9
  refine V_weak (I2 := LJ cB cC cI cO ee mo Pm P2 ((meanValueX S).2) X2 ((meanValueX S).2) (OD cJ cD ou od ((meanValueX S).2.2 31) ((meanValueX S).1))) (fun z hz => by rw [hz]; exact hl4) ?_
  refine V_iload6 (pc' := 1798) C dL_law_1796 rfl ?_
  refine V_same (tgt := 1803) C dL_law_1798 (by decide) ?_
  refine V_iload6 (pc' := 1805) C dL_law_1803 rfl ?_
  refine V_ifneX (pc' := 1808) (tgt := 1840) C dL_law_1805 (by decide) rfl ?_ (fun c_0 => ?_)
  · refine V_goto (tgt := 1843) C dL_law_1840 (by decide) ?_
    exact V_locals (L2 := [some (.ref b), some (.ref (P 1)), some (.ref mo), some (.ref ou), some (.ref od), some (.int (iI (7 * (k : Int)))), none, none, none]) (fun i v hv => by
        rcases i with _ | _ | _ | _ | _ | _ | _ | _ | _ | i
        all_goals (first | exact hv | (cases hv; done) | cases hv))
        (V_weak (fun z hz => ⟨hz.1, hz.2.1, OD_n hz.2.2⟩) (next P2 _ X2 _ _ hi2 hp2 (by omega) (by omega)))
  · refine V_aload4 (pc' := 1810) C dL_law_1808 rfl ?_
    refine V_iconst (pc' := 1811) C dL_law_1810 rfl ?_
    refine V_dald1 (pc' := 1812) (v := ((meanValueX S).1)) C 5 rfl (fun h hh => by obtain ⟨f9, hf9, hf8⟩ := hh.2.2.2; exact ⟨902, f9, hf8 c_0, hf9⟩) dL_law_1811 rfl ?_
    refine V_dload7 (pc' := 1814) C dL_law_1812 rfl ?_
    refine V_dcmp (pc' := 1815) C dL_law_1814 rfl ?_
    refine V_eq (st2 := [.int (iI 0)]) (by rw [mean_eq hI c_0]; rfl) ?_
    refine V_ifeq (tgt := 1840) C (by decide) dL_law_1815 (by decide) rfl (fun c_1815 => ?_) (fun c_1815 => ?_)
    · refine V_goto (tgt := 1843) C dL_law_1840 (by decide) ?_
      exact V_locals (L2 := [some (.ref b), some (.ref (P 1)), some (.ref mo), some (.ref ou), some (.ref od), some (.int (iI (7 * (k : Int)))), none, none, none]) (fun i v hv => by
          rcases i with _ | _ | _ | _ | _ | _ | _ | _ | _ | i
          all_goals (first | exact hv | (cases hv; done) | cases hv))
          (V_weak (fun z hz => ⟨hz.1, hz.2.1, OD_n hz.2.2⟩) (next P2 _ X2 _ _ hi2 hp2 (by omega) (by omega)))
    · exact absurd c_1815 (by decide)
end

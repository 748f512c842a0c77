/-! the law's own methods over its two rows -/
def NA (cI : ClassId) (na : Nat) (f : Int → Int) (h : Hp) : Prop := h na = some (901, .inl (cI, 540, .inl (iF f)))
def NH (cI : ClassId) (na nb : Nat) (f g : Int → Int) (h : Hp) : Prop := NA cI na f h ∧ h nb = some (902, .inl (cI, 60000, .inl (iF g)))
def NVv (cI : ClassId) (nv : Nat) (w : Int → Int) (h : Hp) : Prop := h nv = some (903, .inl (cI, 48, .inl (iF w)))
def tN : Nat → Prop := fun u => 901 ≤ u ∧ u < 1000
def NI (cI : ClassId) (h0 : Hp) (na nb : Nat) (f g : Int → Int) : Hp → Prop := fun h => NH cI na nb f g h ∧ Fr tN h0 h
theorem NH.ne {cI : ClassId} {na nb : Nat} {f g : Int → Int} {h : Hp} (H : NH cI na nb f g h) : na ≠ nb := fun z => by
  have h1 := H.1
  unfold NA at h1
  rw [z, H.2] at h1
  simp at h1
theorem NI.a {cI : ClassId} {h0 h : Hp} {na nb : Nat} {f g f' : Int → Int} (H : NI cI h0 na nb f g h) : NI cI h0 na nb f' g (hup h na (901, .inl (cI, 540, .inl (iF f')))) := ⟨⟨hup_s, by rw [hup_n H.1.ne.symm]; exact H.1.2⟩, H.2.up H.1.1 (by unfold tN; omega)⟩
theorem NI.b {cI : ClassId} {h0 h : Hp} {na nb : Nat} {f g g' : Int → Int} (H : NI cI h0 na nb f g h) : NI cI h0 na nb f g' (hup h nb (902, .inl (cI, 60000, .inl (iF g')))) := ⟨⟨by unfold NA; rw [hup_n H.1.ne]; exact H.1.1, hup_s⟩, H.2.up H.1.2 (by unfold tN; omega)⟩
theorem NH.fr {cI : ClassId} {h h' : Hp} {na nb : Nat} {f g : Int → Int} {T : Nat → Prop} (H : NH cI na nb f g h) (hF : Fr T h h') (h1 : ¬ T 901) (h2 : ¬ T 902) : NH cI na nb f g h' := ⟨hF _ _ _ H.1 h1, hF _ _ _ H.2 h2⟩
def wiF (f : Int → Int) (a c r : Int) : Bool := decide (f a ≤ c) && decide (c ≤ f (a + 2)) && decide (f (a + 1) ≤ r) && decide (r ≤ f (a + 3))
def cpL (f w : Int → Int) (j : Nat) : Int → Int := fun z => if 0 ≤ z ∧ z < j then f z else w z
theorem cpL_0 (f w : Int → Int) : cpL f w 0 = w := funext fun z => if_neg (by omega)
theorem cpL_s (f w : Int → Int) (j : Nat) : upZ (cpL f w j) j (f j) = cpL f w (j + 1) := funext fun z => by
  unfold upZ cpL
  by_cases q : z = j
  · rw [if_pos q, if_pos (by omega), q]
  · rw [if_neg q]
    by_cases q2 : 0 ≤ z ∧ z < (j : Int)
    · rw [if_pos q2, if_pos (by omega)]
    · rw [if_neg q2, if_neg (by omega)]
/-- what a step makes, by the rows f and w -/
def maF (f w : Int → Int) (a c r : Int) : Int := if f a = 115 then f (a + 3) else if f a = 97 then w (8 * (c + f (a + 1)) + r + f (a + 2)) + f (a + 3) else w (8 * c + r)
theorem wi_within {f : Int → Int} {a c r p q : Int} (h0 : f a = p % 6) (h1 : f (a + 1) = p / 6) (h2 : f (a + 2) = q % 6) (h3 : f (a + 3) = q / 6) (hc : 0 ≤ c ∧ c < 6) (hr : 0 ≤ r ∧ r < 8) : wiF f a c r = isWithinB (6 * r + c) p q := by
  unfold wiF isWithinB isInB
  rw [h0, h1, h2, h3, show (6 * r + c) % 6 = c by omega, show (6 * r + c) / 6 = r by omega, Bool.and_assoc]
theorem ma_step {f w : Int → Int} {S Y : MSt} {m k c r : Int} (hm : f (60 + 60 * m + 2 + 4 * k) = S.1 5 (10 * m + k) ∧ f (60 + 60 * m + 2 + 4 * k + 1) = S.1 6 (10 * m + k) ∧ f (60 + 60 * m + 2 + 4 * k + 2) = S.1 7 (10 * m + k) ∧ f (60 + 60 * m + 2 + 4 * k + 3) = S.1 8 (10 * m + k)) (y5 : Y.1 5 = S.1 5) (y6 : Y.1 6 = S.1 6) (y7 : Y.1 7 = S.1 7) (y8 : Y.1 8 = S.1 8) (hc : 0 ≤ c ∧ c < 6) (hr : 0 ≤ r ∧ r < 8) (hg : 0 ≤ goalI S m k (6 * r + c) ∧ goalI S m k (6 * r + c) < 48) (ho : isOutB S m k (6 * r + c) = false) (hw : ∀ z, 0 ≤ z → z < 48 → w (8 * (z % 6) + z / 6) = Y.1 1 z) : maF f w (60 + 60 * m + 2 + 4 * k) c r = stepI Y m k (6 * r + c) := by
  obtain ⟨e5, e6, e7, e8⟩ := hm
  have gl : goalI Y m k (6 * r + c) = goalI S m k (6 * r + c) := by unfold goalI; rw [y6, y7]
  unfold maF stepI
  rw [e5, e6, e7, e8, y5, y8, gl]
  have h1 := hw (6 * r + c) (by omega) (by omega)
  rw [show (6 * r + c) % 6 = c by omega, show (6 * r + c) / 6 = r by omega] at h1
  have h2 := hw _ hg.1 hg.2
  simp only [isOutB, isCellB, isInB, Bool.not_eq_false', Bool.and_eq_true, decide_eq_true_eq] at ho
  have h3 : 8 * (goalI S m k (6 * r + c) % 6) + goalI S m k (6 * r + c) / 6 = 8 * (c + S.1 6 (10 * m + k)) + r + S.1 7 (10 * m + k) := by
    unfold goalI atI
    omega
  rw [h3] at h2
  rw [h1, h2]
theorem whyR_s (S : MSt) (m x : Int) (n j : Nat) : whyR S m x (n + 1) j = if isOutB S m j x = true then (111, trI S m x j) else if isGrantedB S m (goalI S m j x) = false then (103, trI S m x j) else if isValueB (stepI (trI S m x j) m j x) = false then (118, trI S m x j) else whyR S m x n (j + 1) := rfl
theorem ruN_w {S : MSt} {x : Int} : ∀ n : Nat, 0 ≤ ruN S x n → isWithinB x (S.1 12 (ruN S x n)) (S.1 13 (ruN S x n)) = true
  | 0, h => absurd h (by simp [ruN])
  | n + 1, h => by
    by_cases q : isWithinB x (S.1 12 n) (S.1 13 n) = true ∧ (ruN S x n < 0 ∨ S.1 15 (ruN S x n) < S.1 15 n)
    · rw [ruN_yes q.1 q.2]; exact q.1
    · have e : ruN S x (n + 1) = ruN S x n := ruN_no (fun a b => q ⟨a, b⟩)
      rw [e] at h ⊢
      exact ruN_w n h
theorem ruN_none {S : MSt} {x : Int} : ∀ n : Nat, (∀ q : Nat, q < n → ¬ isWithinB x (S.1 12 q) (S.1 13 q) = true) → ruN S x n = -1
  | 0, _ => rfl
  | n + 1, h => by
    rw [ruN_no (fun a => absurd a (h n (by omega)))]
    exact ruN_none n (fun q hq => h q (by omega))
theorem ruN_first {S : MSt} {x : Int} {k : Nat} (hw : isWithinB x (S.1 12 k) (S.1 13 k) = true) (hmin : ∀ q : Nat, q < k → isWithinB x (S.1 12 q) (S.1 13 q) = true → S.1 15 q < S.1 15 k) : ∀ d : Nat, (∀ q : Nat, q < k + 1 + d → isWithinB x (S.1 12 q) (S.1 13 q) = true → S.1 15 q ≤ S.1 15 k) → ruN S x (k + 1 + d) = k
  | 0, _ => by
    refine ruN_yes hw ?_
    by_cases q : ruN S x k < 0
    · exact Or.inl q
    · have hb := ruN_in S x k
      have h1 := ruN_w (S := S) (x := x) k (by omega)
      have h2 := hmin (ruN S x k).toNat (by omega)
      rw [show (((ruN S x k).toNat : Nat) : Int) = ruN S x k by omega] at h2
      exact Or.inr (h2 h1)
  | d + 1, h => by
    have ih := ruN_first hw hmin d (fun q hq => h q (by omega))
    have e : ruN S x (k + 1 + d + 1) = ruN S x (k + 1 + d) := ruN_no (fun a b => by
      rw [ih] at b
      have := h (k + 1 + d) (by omega) a
      omega)
    rw [show k + 1 + (d + 1) = k + 1 + d + 1 from rfl, e, ih]
section
variable {p : Program} {l : Launch} {e : Env} {R : Room} {s : State} {m : MethodId} {args : Array Value} {below : List Frame} {meth : Method} {c : Code} {cells slots : Nat} {Q : State → Prop} {D : va_G} {tys : List (ClassId × FieldType)} {A : Nat → Prop} {nL : Nat} {cc : ByteArray} {Ts : List Cond} {own : String} {ee : Nat × Nat}
variable {I : Hp → Prop} {pc pc' : Nat} {L : List (Option Value)} {st : List Value}
theorem V_ialdE {cA : ClassId} {a n : Nat} {f : Int → Int} {z v : Int} (C : Cx p m c cc nL s args Ts own D tys A ee) (t0 : Nat) (ht : tys[t0]? = some (cA, .int)) (he : ∀ h, I h → ∃ t, h a = some (t, .inl (cA, n, .inl (iF f)))) (hz : 0 ≤ z ∧ z < n ∧ z ≤ 2147483647) (hv : f z = v) (d : decode cc pc = .ok (.iaload, 1)) (e0 : pc + 1 = pc') (kk : Vx p l e R s m args below meth c cells slots Q D A nL I pc' L (.int (iI v) :: st)) : Vx p l e R s m args below meth c cells slots Q D A nL I pc L (.int (iI z) :: .ref a :: st) := by
  subst hv
  exact V_iald C t0 ht he hz d e0 kk
/-- a loop whose rounds make cells -/
theorem V_forC {N : Nat} (J : Nat → Hp → Prop) (Lf : Nat → List (Option Value)) (inv : Nat → Prop) (cf sf : Nat → Nat) (h0 : inv 0) (hI : ∀ h, I h → J 0 h) (hL : L = Lf 0) (hc : cells ≤ cf 0 ∧ slots ≤ sf 0) (step : ∀ j : Nat, j < N → inv j → (inv (j + 1) → Vx p l e R s m args below meth c (cf (j + 1)) (sf (j + 1)) Q D A nL (J (j + 1)) pc (Lf (j + 1)) st) → Vx p l e R s m args below meth c (cf j) (sf j) Q D A nL (J j) pc (Lf j) st) (exit : inv N → Vx p l e R s m args below meth c (cf N) (sf N) Q D A nL (J N) pc (Lf N) st) : Vx p l e R s m args below meth c cells slots Q D A nL I pc L st := by
  refine V_widen hc.1 hc.2 (V_conv hI hL ?_)
  have key : ∀ d j : Nat, N - j = d → j ≤ N → inv j → Vx p l e R s m args below meth c (cf j) (sf j) Q D A nL (J j) pc (Lf j) st := by
    intro d
    induction d with
    | zero =>
      intro j h1 h2 hj
      obtain rfl : j = N := by omega
      exact exit hj
    | succ d ih =>
      intro j h1 h2 hj
      exact step j (by omega) hj (fun h => ih (j + 1) (by omega) (by omega) h)
  exact key _ 0 rfl (Nat.zero_le N) h0
end
theorem NV_ne {cI : ClassId} {na nv : Nat} {f w : Int → Int} {h : Hp} (H : NA cI na f h ∧ NVv cI nv w h) : na ≠ nv := fun z => by
  obtain ⟨h1, h2⟩ := H
  unfold NA at h1
  unfold NVv at h2
  rw [z, h2] at h1
  simp at h1
theorem ydL_cell : yL_cell.cls ≠ "java/lang/invoke/MethodHandle" ∧ yL_cell.cls ≠ "java/lang/invoke/VarHandle" ∧ (parseMethodDescriptor yL_cell.desc).map (fun d => d.parameters.length) = some 2 := by decide +kernel
theorem ydL_in : yL_in.cls ≠ "java/lang/invoke/MethodHandle" ∧ yL_in.cls ≠ "java/lang/invoke/VarHandle" ∧ (parseMethodDescriptor yL_in.desc).map (fun d => d.parameters.length) = some 3 := by decide +kernel
theorem ydL_value : yL_value.cls ≠ "java/lang/invoke/MethodHandle" ∧ yL_value.cls ≠ "java/lang/invoke/VarHandle" ∧ (parseMethodDescriptor yL_value.desc).map (fun d => d.parameters.length) = some 3 := by decide +kernel
theorem ydL_macroAt : yL_macroAt.cls ≠ "java/lang/invoke/MethodHandle" ∧ yL_macroAt.cls ≠ "java/lang/invoke/VarHandle" ∧ (parseMethodDescriptor yL_macroAt.desc).map (fun d => d.parameters.length) = some 1 := by decide +kernel
theorem ydL_isCell : yL_isCell.cls ≠ "java/lang/invoke/MethodHandle" ∧ yL_isCell.cls ≠ "java/lang/invoke/VarHandle" ∧ (parseMethodDescriptor yL_isCell.desc).map (fun d => d.parameters.length) = some 2 := by decide +kernel
theorem ydL_isWithin : yL_isWithin.cls ≠ "java/lang/invoke/MethodHandle" ∧ yL_isWithin.cls ≠ "java/lang/invoke/VarHandle" ∧ (parseMethodDescriptor yL_isWithin.desc).map (fun d => d.parameters.length) = some 4 := by decide +kernel
theorem ydL_isGranted : yL_isGranted.cls ≠ "java/lang/invoke/MethodHandle" ∧ yL_isGranted.cls ≠ "java/lang/invoke/VarHandle" ∧ (parseMethodDescriptor yL_isGranted.desc).map (fun d => d.parameters.length) = some 4 := by decide +kernel
theorem ydL_made : yL_made.cls ≠ "java/lang/invoke/MethodHandle" ∧ yL_made.cls ≠ "java/lang/invoke/VarHandle" ∧ (parseMethodDescriptor yL_made.desc).map (fun d => d.parameters.length) = some 5 := by decide +kernel
theorem ydL_reason_ : yL_reason_.cls ≠ "java/lang/invoke/MethodHandle" ∧ yL_reason_.cls ≠ "java/lang/invoke/VarHandle" ∧ (parseMethodDescriptor yL_reason_.desc).map (fun d => d.parameters.length) = some 5 := by decide +kernel
theorem ydL_change : yL_change.cls ≠ "java/lang/invoke/MethodHandle" ∧ yL_change.cls ≠ "java/lang/invoke/VarHandle" ∧ (parseMethodDescriptor yL_change.desc).map (fun d => d.parameters.length) = some 6 := by decide +kernel
theorem ydL_run_ : yL_run_.cls ≠ "java/lang/invoke/MethodHandle" ∧ yL_run_.cls ≠ "java/lang/invoke/VarHandle" ∧ (parseMethodDescriptor yL_run_.desc).map (fun d => d.parameters.length) = some 6 := by decide +kernel
theorem ydL_rule_ : yL_rule_.cls ≠ "java/lang/invoke/MethodHandle" ∧ yL_rule_.cls ≠ "java/lang/invoke/VarHandle" ∧ (parseMethodDescriptor yL_rule_.desc).map (fun d => d.parameters.length) = some 3 := by decide +kernel
section
variable {l : Launch} {D : va_G} {cB cC cI cO cJ cD : ClassId} {ee : Nat × Nat} {na nb nv : Nat} {f g : Int → Int} {S : MSt}
set_option maxHeartbeats 4000000 in
set_option maxRecDepth 100000 in
theorem kL_cell {i : Int} (hi : 0 ≤ i ∧ i ≤ 100000) : Ct l yL_cell wsL_cell ({ frames := 0, cells := 0, slots := 0, locals := 0 } : Room) D (tyL cB cC cI cO cJ cD) ee [.ref ee.2, .int (iI i)] (fun _ => True) (fun h v9 h' => (∃ z : Int, rI z ∧ v9 = some (.int (iI z))) ∧ h' = h) (0) (0) := by
  refine Ct_of (cc := cL_cell) (own := RL) [some (.ref ee.2), some (.int (iI i)), none] (by decide) rfl rfl (Nat.le_of_ble_eq_true rfl) (fun i9 v9 h9 => argL [.ref ee.2, .int (iI i)] 1 rfl i9 v9 h9) ?_
  intro p e s m9 args below meth c9 h0 sz hI C hr hlk hinit
  refine V_ldc (pc' := 2) (n := 69069) (v := 69069) C (by decide +kernel) dL_cell_0 rfl (by decide) ?_
  refine V_iload1 (pc' := 3) C dL_cell_2 rfl ?_
  refine V_aload0 (pc' := 4) C dL_cell_3 rfl ?_
  obtain ⟨xs, N9, hN9, hT9⟩ := scr_get C
  refine V_slen (pc' := 5) C hT9 dL_cell_4 rfl ?_
  refine V_icmpge (tgt := 14) C ⟨by omega, by omega⟩ dL_cell_5 (by decide) rfl (fun c_5 => ?_) (fun c_5 => ?_)
  · refine V_iconst (pc' := 15) C dL_cell_14 rfl ?_
    refine V_sipush (pc' := 18) C dL_cell_15 rfl (by decide) ?_
    refine V_iload1 (pc' := 19) C dL_cell_18 rfl ?_
    refine V_imul (pc' := 20) C dL_cell_19 rfl ?_
    refine V_iadd (pc' := 21) C dL_cell_20 rfl ?_
    refine V_imul (pc' := 22) C dL_cell_21 rfl ?_
    refine V_sipush (pc' := 25) C dL_cell_22 rfl (by decide) ?_
    refine V_iadd (pc' := 26) C dL_cell_25 rfl ?_
    refine V_istore2 (pc' := 27) C dL_cell_26 rfl (by decide) rfl ?_
    refine V_iload2 (pc' := 28) C dL_cell_27 rfl ?_
    refine V_iload2 (pc' := 29) C dL_cell_28 rfl ?_
    refine V_bipush (pc' := 31) C dL_cell_29 rfl (by decide) ?_
    refine V_iushrA (pc' := 32) C dL_cell_31 rfl (fun z1 hz1 => ?_)
    refine V_ixorA (pc' := 33) C dL_cell_32 rfl (fun z2 hz2 => ?_)
    refine V_ldc (pc' := 35) (n := 1103515245) (v := 1103515245) C (by decide +kernel) dL_cell_33 rfl (by decide) ?_
    refine V_imul (pc' := 36) C dL_cell_35 rfl ?_
    refine V_istore2 (pc' := 37) C dL_cell_36 rfl (by decide) rfl ?_
    refine V_iload2 (pc' := 38) C dL_cell_37 rfl ?_
    refine V_iload2 (pc' := 39) C dL_cell_38 rfl ?_
    refine V_bipush (pc' := 41) C dL_cell_39 rfl (by decide) ?_
    refine V_iushrA (pc' := 42) C dL_cell_41 rfl (fun z3 hz3 => ?_)
    refine V_ixorA (pc' := 43) C dL_cell_42 rfl (fun z4 hz4 => ?_)
    exact V_end C hr hlk (fun h' hh => ⟨⟨z4, hz4, rfl⟩, hh⟩) ⟨Nat.le_refl _, Nat.le_refl _⟩ dL_cell_43
  · refine V_aload0 (pc' := 9) C dL_cell_8 rfl ?_
    refine V_iload1 (pc' := 10) C dL_cell_9 rfl ?_
    refine V_sld (pc' := 11) C hT9 ⟨by omega, by omega, by omega⟩ dL_cell_10 rfl ?_
    refine V_eq (st2 := .int (iI ((xs i.toNat).toInt)) :: [.int (iI 69069)]) (by rw [iI_of]) ?_
    refine V_goto (tgt := 15) C dL_cell_11 (by decide) ?_
    refine V_sipush (pc' := 18) C dL_cell_15 rfl (by decide) ?_
    refine V_iload1 (pc' := 19) C dL_cell_18 rfl ?_
    refine V_imul (pc' := 20) C dL_cell_19 rfl ?_
    refine V_iadd (pc' := 21) C dL_cell_20 rfl ?_
    refine V_imul (pc' := 22) C dL_cell_21 rfl ?_
    refine V_sipush (pc' := 25) C dL_cell_22 rfl (by decide) ?_
    refine V_iadd (pc' := 26) C dL_cell_25 rfl ?_
    refine V_istore2 (pc' := 27) C dL_cell_26 rfl (by decide) rfl ?_
    refine V_iload2 (pc' := 28) C dL_cell_27 rfl ?_
    refine V_iload2 (pc' := 29) C dL_cell_28 rfl ?_
    refine V_bipush (pc' := 31) C dL_cell_29 rfl (by decide) ?_
    refine V_iushrA (pc' := 32) C dL_cell_31 rfl (fun z1 hz1 => ?_)
    refine V_ixorA (pc' := 33) C dL_cell_32 rfl (fun z2 hz2 => ?_)
    refine V_ldc (pc' := 35) (n := 1103515245) (v := 1103515245) C (by decide +kernel) dL_cell_33 rfl (by decide) ?_
    refine V_imul (pc' := 36) C dL_cell_35 rfl ?_
    refine V_istore2 (pc' := 37) C dL_cell_36 rfl (by decide) rfl ?_
    refine V_iload2 (pc' := 38) C dL_cell_37 rfl ?_
    refine V_iload2 (pc' := 39) C dL_cell_38 rfl ?_
    refine V_bipush (pc' := 41) C dL_cell_39 rfl (by decide) ?_
    refine V_iushrA (pc' := 42) C dL_cell_41 rfl (fun z3 hz3 => ?_)
    refine V_ixorA (pc' := 43) C dL_cell_42 rfl (fun z4 hz4 => ?_)
    exact V_end C hr hlk (fun h' hh => ⟨⟨z4, hz4, rfl⟩, hh⟩) ⟨Nat.le_refl _, Nat.le_refl _⟩ dL_cell_43
set_option maxHeartbeats 4000000 in
set_option maxRecDepth 100000 in
theorem kL_in {i n : Int} (hi : 0 ≤ i ∧ i ≤ 100000) (hn : 0 < n ∧ n ≤ 2147483647) : Ct l yL_in wsL_in ({ frames := 1, cells := 0, slots := 0, locals := 22 } : Room) D (tyL cB cC cI cO cJ cD) ee [.ref ee.2, .int (iI i), .int (iI n)] (fun _ => True) (fun h v9 h' => (∃ z : Int, (0 ≤ z ∧ z < n) ∧ v9 = some (.int (iI z))) ∧ h' = h) (0) (0) := by
  refine Ct_of (cc := cL_in) (own := RL) [some (.ref ee.2), some (.int (iI i)), some (.int (iI n))] (by decide) rfl rfl (Nat.le_of_ble_eq_true rfl) (fun i9 v9 h9 => argL [.ref ee.2, .int (iI i), .int (iI n)] 0 rfl i9 v9 h9) ?_
  intro p e s m9 args below meth c9 h0 sz hI C hr hlk hinit
  refine V_aload0 (pc' := 1) C dL_in_0 rfl ?_
  refine V_iload1 (pc' := 2) C dL_in_1 rfl ?_
  refine V_callS (n := 2) [.ref ee.2, .int (iI i)] C (kL_cell (by omega)) gL_in_L_cell rfl ydL_cell ⟨Nat.le_of_ble_eq_true rfl, Nat.le_of_ble_eq_true rfl⟩ ⟨rfl, rfl⟩ rfl (fun h hh => trivial) rfl (Nat.le_of_ble_eq_true rfl) dL_in_2 ⟨Nat.le_of_ble_eq_true rfl, Nat.le_of_ble_eq_true rfl⟩ (fun h v h' hh hj9 => ?_)
  obtain ⟨⟨z8, hz8, rfl⟩, rfl⟩ := hj9
  refine V_weak (I2 := fun x => x = h0) (fun x hx => by rw [hx]; exact hh) ?_
  refine V_ldc (pc' := 7) (n := 2147483647) (v := 2147483647) C (by decide +kernel) dL_in_5 rfl (by decide) ?_
  refine V_iand31b (pc' := 8) C dL_in_7 rfl (fun z9 h1 h2 => ?_)
  refine V_iload2 (pc' := 9) C dL_in_8 rfl ?_
  refine V_irem (pc' := 10) C ⟨h1, h2, hn.1, hn.2⟩ dL_in_9 rfl ?_
  exact V_end C hr hlk (fun h' hh => ⟨⟨z9 % n, ⟨Int.emod_nonneg _ (by omega), Int.emod_lt_of_pos _ hn.1⟩, rfl⟩, hh⟩) ⟨Nat.le_refl _, Nat.le_refl _⟩ dL_in_10
set_option maxHeartbeats 4000000 in
set_option maxRecDepth 100000 in
theorem kL_value {c r : Int} (hc9 : 0 ≤ c ∧ c < 6) (hr9 : 0 ≤ r ∧ r < 8) : Ct l yL_value wsL_value ({ frames := 0, cells := 0, slots := 0, locals := 0 } : Room) D (tyL cB cC cI cO cJ cD) ee [.ref na, .int (iI c), .int (iI r)] (NA cI na f) (Ji fun h z9 h' => z9 = f (8 * c + r) ∧ h' = h) (0) (0) := by
  refine Ct_of (cc := cL_value) (own := RL) [some (.ref na), some (.int (iI c)), some (.int (iI r))] (by decide) rfl rfl (Nat.le_of_ble_eq_true rfl) (fun i9 v9 h9 => argL [.ref na, .int (iI c), .int (iI r)] 0 rfl i9 v9 h9) ?_
  intro p e s m9 args below meth c9 h0 sz hI C hr hlk hinit
  have hA := hI
  refine V_aload0 (pc' := 1) C dL_value_0 rfl ?_
  refine V_bipush (pc' := 3) C dL_value_1 rfl (by decide) ?_
  refine V_iload1 (pc' := 4) C dL_value_3 rfl ?_
  refine V_imul (pc' := 5) C dL_value_4 rfl ?_
  refine V_iload2 (pc' := 6) C dL_value_5 rfl ?_
  refine V_iadd (pc' := 7) C dL_value_6 rfl ?_
  refine V_iald (pc' := 8) (n := 540) (f := f) C 2 rfl (fun h hh => ⟨901, by rw [hh]; exact hA⟩) ⟨by omega, by omega, by omega⟩ dL_value_7 rfl ?_
  exact V_end C hr hlk (fun h' hh => ⟨_, rfl, rfl, hh⟩) ⟨Nat.le_refl _, Nat.le_refl _⟩ dL_value_8
set_option maxHeartbeats 4000000 in
set_option maxRecDepth 100000 in
theorem kL_macroAt {q : Int} : Ct l yL_macroAt wsL_macroAt ({ frames := 0, cells := 0, slots := 0, locals := 0 } : Room) D (tyL cB cC cI cO cJ cD) ee [.int (iI q)] (fun _ => True) (Ji fun h z9 h' => z9 = 60 + 60 * q ∧ h' = h) (0) (0) := by
  refine Ct_of (cc := cL_macroAt) (own := RL) [some (.int (iI q))] (by decide) rfl rfl (Nat.le_of_ble_eq_true rfl) (fun i9 v9 h9 => argL [.int (iI q)] 0 rfl i9 v9 h9) ?_
  intro p e s m9 args below meth c9 h0 sz hI C hr hlk hinit
  refine V_bipush (pc' := 2) C dL_macroAt_0 rfl (by decide) ?_
  refine V_bipush (pc' := 4) C dL_macroAt_2 rfl (by decide) ?_
  refine V_iload0 (pc' := 5) C dL_macroAt_4 rfl ?_
  refine V_imul (pc' := 6) C dL_macroAt_5 rfl ?_
  refine V_iadd (pc' := 7) C dL_macroAt_6 rfl ?_
  exact V_end C hr hlk (fun h' hh => ⟨_, rfl, rfl, hh⟩) ⟨Nat.le_refl _, Nat.le_refl _⟩ dL_macroAt_7
set_option maxHeartbeats 4000000 in
set_option maxRecDepth 100000 in
theorem kL_isCell {c r : Int} (hc9 : rI c ∧ rI r) : Ct l yL_isCell wsL_isCell ({ frames := 0, cells := 0, slots := 0, locals := 0 } : Room) D (tyL cB cC cI cO cJ cD) ee [.int (iI c), .int (iI r)] (fun _ => True) (Ji fun h z9 h' => z9 = bI (isCellB c r) ∧ h' = h) (0) (0) := by
  refine Ct_of (cc := cL_isCell) (own := RL) [some (.int (iI c)), some (.int (iI r))] (by decide) rfl rfl (Nat.le_of_ble_eq_true rfl) (fun i9 v9 h9 => argL [.int (iI c), .int (iI r)] 0 rfl i9 v9 h9) ?_
  intro p e s m9 args below meth c9 h0 sz hI C hr hlk hinit
  refine V_iload0 (pc' := 1) C dL_isCell_0 rfl ?_
  refine V_iflt (tgt := 24) C (by omega) dL_isCell_1 (by decide) rfl (fun c_1 => ?_) (fun c_1 => ?_)
  · refine V_iconst (pc' := 25) C dL_isCell_24 rfl ?_
    first | (have hb9 : isCellB c r = true := (by simp [wiF, isCellB, isInB]; omega)) | (have hb9 : isCellB c r = false := (by simp [wiF, isCellB, isInB]; omega))
    refine V_eq (st2 := [.int (iI (bI (isCellB c r)))]) (by rw [hb9]; rfl) ?_
    exact V_endz C hr hlk (z := bI (isCellB c r)) (nar_z _) (fun h' hh => ⟨_, rfl, rfl, hh⟩) ⟨Nat.le_refl _, Nat.le_refl _⟩ dL_isCell_25
  · refine V_iload0 (pc' := 5) C dL_isCell_4 rfl ?_
    refine V_bipush (pc' := 7) C dL_isCell_5 rfl (by decide) ?_
    refine V_icmpge (tgt := 24) C (by omega) dL_isCell_7 (by decide) rfl (fun c_7 => ?_) (fun c_7 => ?_)
    · refine V_iconst (pc' := 25) C dL_isCell_24 rfl ?_
      first | (have hb9 : isCellB c r = true := (by simp [wiF, isCellB, isInB]; omega)) | (have hb9 : isCellB c r = false := (by simp [wiF, isCellB, isInB]; omega))
      refine V_eq (st2 := [.int (iI (bI (isCellB c r)))]) (by rw [hb9]; rfl) ?_
      exact V_endz C hr hlk (z := bI (isCellB c r)) (nar_z _) (fun h' hh => ⟨_, rfl, rfl, hh⟩) ⟨Nat.le_refl _, Nat.le_refl _⟩ dL_isCell_25
    · refine V_iload1 (pc' := 11) C dL_isCell_10 rfl ?_
      refine V_iflt (tgt := 24) C (by omega) dL_isCell_11 (by decide) rfl (fun c_11 => ?_) (fun c_11 => ?_)
      · refine V_iconst (pc' := 25) C dL_isCell_24 rfl ?_
        first | (have hb9 : isCellB c r = true := (by simp [wiF, isCellB, isInB]; omega)) | (have hb9 : isCellB c r = false := (by simp [wiF, isCellB, isInB]; omega))
        refine V_eq (st2 := [.int (iI (bI (isCellB c r)))]) (by rw [hb9]; rfl) ?_
        exact V_endz C hr hlk (z := bI (isCellB c r)) (nar_z _) (fun h' hh => ⟨_, rfl, rfl, hh⟩) ⟨Nat.le_refl _, Nat.le_refl _⟩ dL_isCell_25
      · refine V_iload1 (pc' := 15) C dL_isCell_14 rfl ?_
        refine V_bipush (pc' := 17) C dL_isCell_15 rfl (by decide) ?_
        refine V_icmpge (tgt := 24) C (by omega) dL_isCell_17 (by decide) rfl (fun c_17 => ?_) (fun c_17 => ?_)
        · refine V_iconst (pc' := 25) C dL_isCell_24 rfl ?_
          first | (have hb9 : isCellB c r = true := (by simp [wiF, isCellB, isInB]; omega)) | (have hb9 : isCellB c r = false := (by simp [wiF, isCellB, isInB]; omega))
          refine V_eq (st2 := [.int (iI (bI (isCellB c r)))]) (by rw [hb9]; rfl) ?_
          exact V_endz C hr hlk (z := bI (isCellB c r)) (nar_z _) (fun h' hh => ⟨_, rfl, rfl, hh⟩) ⟨Nat.le_refl _, Nat.le_refl _⟩ dL_isCell_25
        · refine V_iconst (pc' := 21) C dL_isCell_20 rfl ?_
          refine V_goto (tgt := 25) C dL_isCell_21 (by decide) ?_
          first | (have hb9 : isCellB c r = true := (by simp [wiF, isCellB, isInB]; omega)) | (have hb9 : isCellB c r = false := (by simp [wiF, isCellB, isInB]; omega))
          refine V_eq (st2 := [.int (iI (bI (isCellB c r)))]) (by rw [hb9]; rfl) ?_
          exact V_endz C hr hlk (z := bI (isCellB c r)) (nar_z _) (fun h' hh => ⟨_, rfl, rfl, hh⟩) ⟨Nat.le_refl _, Nat.le_refl _⟩ dL_isCell_25
set_option maxHeartbeats 4000000 in
set_option maxRecDepth 100000 in
theorem kL_isWithin {a c r : Int} (hf : rgA f) (ha : 60 ≤ a ∧ a + 3 < 540) (hcr : rI c ∧ rI r) : Ct l yL_isWithin wsL_isWithin ({ frames := 0, cells := 0, slots := 0, locals := 0 } : Room) D (tyL cB cC cI cO cJ cD) ee [.ref na, .int (iI a), .int (iI c), .int (iI r)] (NA cI na f) (Ji fun h z9 h' => z9 = bI (wiF f a c r) ∧ h' = h) (0) (0) := by
  refine Ct_of (cc := cL_isWithin) (own := RL) [some (.ref na), some (.int (iI a)), some (.int (iI c)), some (.int (iI r))] (by decide) rfl rfl (Nat.le_of_ble_eq_true rfl) (fun i9 v9 h9 => argL [.ref na, .int (iI a), .int (iI c), .int (iI r)] 0 rfl i9 v9 h9) ?_
  intro p e s m9 args below meth c9 h0 sz hI C hr hlk hinit
  have hA := hI
  refine V_aload0 (pc' := 1) C dL_isWithin_0 rfl ?_
  refine V_iload1 (pc' := 2) C dL_isWithin_1 rfl ?_
  refine V_iald (pc' := 3) (n := 540) (f := f) C 2 rfl (fun h hh => ⟨901, by rw [hh]; exact hA⟩) ⟨by omega, by omega, by omega⟩ dL_isWithin_2 rfl ?_
  refine V_iload2 (pc' := 4) C dL_isWithin_3 rfl ?_
  refine V_icmpgt (tgt := 38) C ⟨hf _ (by omega), hcr.1⟩ dL_isWithin_4 (by decide) rfl (fun c_4 => ?_) (fun c_4 => ?_)
  · refine V_iconst (pc' := 39) C dL_isWithin_38 rfl ?_
    first | (have hb9 : wiF f a c r = true := (by simp [wiF, isCellB, isInB]; omega)) | (have hb9 : wiF f a c r = false := (by simp [wiF, isCellB, isInB]; omega))
    refine V_eq (st2 := [.int (iI (bI (wiF f a c r)))]) (by rw [hb9]; rfl) ?_
    exact V_endz C hr hlk (z := bI (wiF f a c r)) (nar_z _) (fun h' hh => ⟨_, rfl, rfl, hh⟩) ⟨Nat.le_refl _, Nat.le_refl _⟩ dL_isWithin_39
  · refine V_iload2 (pc' := 8) C dL_isWithin_7 rfl ?_
    refine V_aload0 (pc' := 9) C dL_isWithin_8 rfl ?_
    refine V_iload1 (pc' := 10) C dL_isWithin_9 rfl ?_
    refine V_iconst (pc' := 11) C dL_isWithin_10 rfl ?_
    refine V_iadd (pc' := 12) C dL_isWithin_11 rfl ?_
    refine V_iald (pc' := 13) (n := 540) (f := f) C 2 rfl (fun h hh => ⟨901, by rw [hh]; exact hA⟩) ⟨by omega, by omega, by omega⟩ dL_isWithin_12 rfl ?_
    refine V_icmpgt (tgt := 38) C ⟨hcr.1, hf _ (by omega)⟩ dL_isWithin_13 (by decide) rfl (fun c_13 => ?_) (fun c_13 => ?_)
    · refine V_iconst (pc' := 39) C dL_isWithin_38 rfl ?_
      first | (have hb9 : wiF f a c r = true := (by simp [wiF, isCellB, isInB]; omega)) | (have hb9 : wiF f a c r = false := (by simp [wiF, isCellB, isInB]; omega))
      refine V_eq (st2 := [.int (iI (bI (wiF f a c r)))]) (by rw [hb9]; rfl) ?_
      exact V_endz C hr hlk (z := bI (wiF f a c r)) (nar_z _) (fun h' hh => ⟨_, rfl, rfl, hh⟩) ⟨Nat.le_refl _, Nat.le_refl _⟩ dL_isWithin_39
    · refine V_aload0 (pc' := 17) C dL_isWithin_16 rfl ?_
      refine V_iload1 (pc' := 18) C dL_isWithin_17 rfl ?_
      refine V_iconst (pc' := 19) C dL_isWithin_18 rfl ?_
      refine V_iadd (pc' := 20) C dL_isWithin_19 rfl ?_
      refine V_iald (pc' := 21) (n := 540) (f := f) C 2 rfl (fun h hh => ⟨901, by rw [hh]; exact hA⟩) ⟨by omega, by omega, by omega⟩ dL_isWithin_20 rfl ?_
      refine V_iload3 (pc' := 22) C dL_isWithin_21 rfl ?_
      refine V_icmpgt (tgt := 38) C ⟨hf _ (by omega), hcr.2⟩ dL_isWithin_22 (by decide) rfl (fun c_22 => ?_) (fun c_22 => ?_)
      · refine V_iconst (pc' := 39) C dL_isWithin_38 rfl ?_
        first | (have hb9 : wiF f a c r = true := (by simp [wiF, isCellB, isInB]; omega)) | (have hb9 : wiF f a c r = false := (by simp [wiF, isCellB, isInB]; omega))
        refine V_eq (st2 := [.int (iI (bI (wiF f a c r)))]) (by rw [hb9]; rfl) ?_
        exact V_endz C hr hlk (z := bI (wiF f a c r)) (nar_z _) (fun h' hh => ⟨_, rfl, rfl, hh⟩) ⟨Nat.le_refl _, Nat.le_refl _⟩ dL_isWithin_39
      · refine V_iload3 (pc' := 26) C dL_isWithin_25 rfl ?_
        refine V_aload0 (pc' := 27) C dL_isWithin_26 rfl ?_
        refine V_iload1 (pc' := 28) C dL_isWithin_27 rfl ?_
        refine V_iconst (pc' := 29) C dL_isWithin_28 rfl ?_
        refine V_iadd (pc' := 30) C dL_isWithin_29 rfl ?_
        refine V_iald (pc' := 31) (n := 540) (f := f) C 2 rfl (fun h hh => ⟨901, by rw [hh]; exact hA⟩) ⟨by omega, by omega, by omega⟩ dL_isWithin_30 rfl ?_
        refine V_icmpgt (tgt := 38) C ⟨hcr.2, hf _ (by omega)⟩ dL_isWithin_31 (by decide) rfl (fun c_31 => ?_) (fun c_31 => ?_)
        · refine V_iconst (pc' := 39) C dL_isWithin_38 rfl ?_
          first | (have hb9 : wiF f a c r = true := (by simp [wiF, isCellB, isInB]; omega)) | (have hb9 : wiF f a c r = false := (by simp [wiF, isCellB, isInB]; omega))
          refine V_eq (st2 := [.int (iI (bI (wiF f a c r)))]) (by rw [hb9]; rfl) ?_
          exact V_endz C hr hlk (z := bI (wiF f a c r)) (nar_z _) (fun h' hh => ⟨_, rfl, rfl, hh⟩) ⟨Nat.le_refl _, Nat.le_refl _⟩ dL_isWithin_39
        · refine V_iconst (pc' := 35) C dL_isWithin_34 rfl ?_
          refine V_goto (tgt := 39) C dL_isWithin_35 (by decide) ?_
          first | (have hb9 : wiF f a c r = true := (by simp [wiF, isCellB, isInB]; omega)) | (have hb9 : wiF f a c r = false := (by simp [wiF, isCellB, isInB]; omega))
          refine V_eq (st2 := [.int (iI (bI (wiF f a c r)))]) (by rw [hb9]; rfl) ?_
          exact V_endz C hr hlk (z := bI (wiF f a c r)) (nar_z _) (fun h' hh => ⟨_, rfl, rfl, hh⟩) ⟨Nat.le_refl _, Nat.le_refl _⟩ dL_isWithin_39
set_option maxHeartbeats 4000000 in
set_option maxRecDepth 100000 in
theorem kL_isGranted {q c r : Int} (hf : rgA f) (hm9 : NRm f S) (hwp : WFp S) (hq : 0 ≤ q ∧ q < 6) (hc9 : 0 ≤ c ∧ c < 6) (hr9 : 0 ≤ r ∧ r < 8) : Ct l yL_isGranted wsL_isGranted ({ frames := 1, cells := 0, slots := 0, locals := 23 } : Room) D (tyL cB cC cI cO cJ cD) ee [.ref na, .int (iI q), .int (iI c), .int (iI r)] (NA cI na f) (Ji fun h z9 h' => z9 = bI (isGrantedB S q (6 * r + c)) ∧ h' = h) (0) (0) := by
  refine Ct_of (cc := cL_isGranted) (own := RL) [some (.ref na), some (.int (iI q)), some (.int (iI c)), some (.int (iI r)), none, none] (by decide) rfl rfl (Nat.le_of_ble_eq_true rfl) (fun i9 v9 h9 => argL [.ref na, .int (iI q), .int (iI c), .int (iI r)] 2 rfl i9 v9 h9) ?_
  intro p e s m9 args below meth c9 h0 sz hI C hr hlk hinit
  have hA := hI
  obtain ⟨h1, h2, h3, h4⟩ := hm9 q hq.1 hq.2
  have w2 := hwp.2.1 q hq.1 hq.2
  refine V_iconst (pc' := 1) C dL_isGranted_0 rfl ?_
  refine V_istore4 (pc' := 3) C dL_isGranted_1 rfl (by decide) rfl ?_
  refine V_iconst (pc' := 4) C dL_isGranted_3 rfl ?_
  refine V_istore5 (pc' := 6) C dL_isGranted_4 rfl (by decide) rfl ?_
  refine V_for0 (N := (S.1 9 q).toNat) (fun _ => fun x => x = h0) (fun j => [some (.ref na), some (.int (iI q)), some (.int (iI c)), some (.int (iI r)), some (.int (iI (bI (grN S q (6 * r + c) j)))), some (.int (iI j))]) (fun _ => True) trivial (fun h q => q) rfl (fun j hj hv hk => ?_) (fun hv => ?_)
  · obtain ⟨e0, e1, e2, e3⟩ := h4 j (by omega) (by omega)
    have hgs : (grN S q (6 * r + c) j || wiF f (60 + 60 * q + 42 + 4 * j) c r) = grN S q (6 * r + c) (j + 1) := by rw [wi_within e0 e1 e2 e3 hc9 hr9]; rfl
    refine V_iload5 (pc' := 8) C dL_isGranted_6 rfl ?_
    refine V_aload0 (pc' := 9) C dL_isGranted_8 rfl ?_
    refine V_iload1 (pc' := 10) C dL_isGranted_9 rfl ?_
    refine V_callS (n := 1) [.int (iI q)] C (kL_macroAt (q := q)) gL_isGranted_L_macroAt rfl ydL_macroAt ⟨Nat.le_of_ble_eq_true rfl, Nat.le_of_ble_eq_true rfl⟩ ⟨rfl, rfl⟩ rfl (fun h hh => trivial) rfl (Nat.le_of_ble_eq_true rfl) dL_isGranted_10 ⟨Nat.le_of_ble_eq_true rfl, Nat.le_of_ble_eq_true rfl⟩ (fun h v h' hh hj9 => ?_)
    obtain ⟨r9, rfl, rfl, rfl⟩ := hj9
    refine V_weak (I2 := fun x => x = h0) (fun x hx => by rw [hx]; exact hh) ?_
    refine V_iconst (pc' := 14) C dL_isGranted_13 rfl ?_
    refine V_iadd (pc' := 15) C dL_isGranted_14 rfl ?_
    refine V_iald (pc' := 16) (n := 540) (f := f) C 2 rfl (fun h hh => ⟨901, by rw [hh]; exact hA⟩) ⟨by omega, by omega, by omega⟩ dL_isGranted_15 rfl ?_
    refine V_icmpge (tgt := 48) C ⟨by omega, by omega⟩ dL_isGranted_16 (by decide) rfl (fun c_16 => ?_) (fun c_16 => ?_)
    · exact absurd c_16 (by omega)
    · refine V_iload4 (pc' := 21) C dL_isGranted_19 rfl ?_
      refine V_aload0 (pc' := 22) C dL_isGranted_21 rfl ?_
      refine V_iload1 (pc' := 23) C dL_isGranted_22 rfl ?_
      refine V_callS (n := 1) [.int (iI q)] C (kL_macroAt (q := q)) gL_isGranted_L_macroAt rfl ydL_macroAt ⟨Nat.le_of_ble_eq_true rfl, Nat.le_of_ble_eq_true rfl⟩ ⟨rfl, rfl⟩ rfl (fun h hh => trivial) rfl (Nat.le_of_ble_eq_true rfl) dL_isGranted_23 ⟨Nat.le_of_ble_eq_true rfl, Nat.le_of_ble_eq_true rfl⟩ (fun h v h' hh hj9 => ?_)
      obtain ⟨r9, rfl, rfl, rfl⟩ := hj9
      refine V_weak (I2 := fun x => x = h0) (fun x hx => by rw [hx]; exact hh) ?_
      refine V_bipush (pc' := 28) C dL_isGranted_26 rfl (by decide) ?_
      refine V_iadd (pc' := 29) C dL_isGranted_28 rfl ?_
      refine V_iconst (pc' := 30) C dL_isGranted_29 rfl ?_
      refine V_iload5 (pc' := 32) C dL_isGranted_30 rfl ?_
      refine V_imul (pc' := 33) C dL_isGranted_32 rfl ?_
      refine V_iadd (pc' := 34) C dL_isGranted_33 rfl ?_
      refine V_iload2 (pc' := 35) C dL_isGranted_34 rfl ?_
      refine V_iload3 (pc' := 36) C dL_isGranted_35 rfl ?_
      refine V_callS (n := 4) [.ref na, .int (iI (((60 + 60 * q) + 42) + (4 * j))), .int (iI c), .int (iI r)] C (kL_isWithin (a := (((60 + 60 * q) + 42) + (4 * j))) (c := c) (r := r) (f := f) hf (by omega) ⟨by omega, by omega⟩) gL_isGranted_L_isWithin rfl ydL_isWithin ⟨Nat.le_of_ble_eq_true rfl, Nat.le_of_ble_eq_true rfl⟩ ⟨rfl, rfl⟩ rfl (fun h hh => by rw [hh]; exact hA) rfl (Nat.le_of_ble_eq_true rfl) dL_isGranted_36 ⟨Nat.le_of_ble_eq_true rfl, Nat.le_of_ble_eq_true rfl⟩ (fun h v h' hh hj9 => ?_)
      obtain ⟨r9, rfl, rfl, rfl⟩ := hj9
      refine V_weak (I2 := fun x => x = h0) (fun x hx => by rw [hx]; exact hh) ?_
      refine V_ior (pc' := 40) C dL_isGranted_39 rfl ?_
      refine V_istore4 (pc' := 42) C dL_isGranted_40 rfl (by decide) rfl ?_
      refine V_iinc5 (pc' := 45) C dL_isGranted_42 rfl (by decide) rfl ?_
      refine V_goto (tgt := 6) C dL_isGranted_45 (by decide) ?_
      exact V_conv (fun h q => q) (by rw [hgs]; simp) (hk trivial)
  · refine V_iload5 (pc' := 8) C dL_isGranted_6 rfl ?_
    refine V_aload0 (pc' := 9) C dL_isGranted_8 rfl ?_
    refine V_iload1 (pc' := 10) C dL_isGranted_9 rfl ?_
    refine V_callS (n := 1) [.int (iI q)] C (kL_macroAt (q := q)) gL_isGranted_L_macroAt rfl ydL_macroAt ⟨Nat.le_of_ble_eq_true rfl, Nat.le_of_ble_eq_true rfl⟩ ⟨rfl, rfl⟩ rfl (fun h hh => trivial) rfl (Nat.le_of_ble_eq_true rfl) dL_isGranted_10 ⟨Nat.le_of_ble_eq_true rfl, Nat.le_of_ble_eq_true rfl⟩ (fun h v h' hh hj9 => ?_)
    obtain ⟨r9, rfl, rfl, rfl⟩ := hj9
    refine V_weak (I2 := fun x => x = h0) (fun x hx => by rw [hx]; exact hh) ?_
    refine V_iconst (pc' := 14) C dL_isGranted_13 rfl ?_
    refine V_iadd (pc' := 15) C dL_isGranted_14 rfl ?_
    refine V_iald (pc' := 16) (n := 540) (f := f) C 2 rfl (fun h hh => ⟨901, by rw [hh]; exact hA⟩) ⟨by omega, by omega, by omega⟩ dL_isGranted_15 rfl ?_
    refine V_icmpge (tgt := 48) C ⟨by omega, by omega⟩ dL_isGranted_16 (by decide) rfl (fun c_16 => ?_) (fun c_16 => ?_)
    · refine V_iload4 (pc' := 50) C dL_isGranted_48 rfl ?_
      exact V_endz C hr hlk (z := bI (isGrantedB S q (6 * r + c))) (nar_z _) (fun h' hh => ⟨_, rfl, rfl, hh⟩) ⟨Nat.le_refl _, Nat.le_refl _⟩ dL_isGranted_50
    · exact absurd c_16 (by omega)
set_option maxHeartbeats 4000000 in
set_option maxRecDepth 100000 in
theorem kL_made {nv tv nn : Nat} {w : Int → Int} {a c r : Int} (hf : rgA f) (hnn : 48 ≤ nn ∧ nn ≤ 100000) (ha : 60 ≤ a ∧ a + 3 < 540) (hc9 : 0 ≤ c ∧ c < 6) (hr9 : 0 ≤ r ∧ r < 8) (hg : f a = 97 → 0 ≤ 8 * (c + f (a + 1)) + r + f (a + 2) ∧ 8 * (c + f (a + 1)) + r + f (a + 2) < 48) : Ct l yL_made wsL_made ({ frames := 0, cells := 0, slots := 0, locals := 0 } : Room) D (tyL cB cC cI cO cJ cD) ee [.ref na, .ref nv, .int (iI a), .int (iI c), .int (iI r)] (fun h => NA cI na f h ∧ h nv = some (tv, .inl (cI, nn, .inl (iF w)))) (Ji fun h z9 h' => z9 = maF f w a c r ∧ h' = h) (0) (0) := by
  refine Ct_of (cc := cL_made) (own := RL) [some (.ref na), some (.ref nv), some (.int (iI a)), some (.int (iI c)), some (.int (iI r)), none] (by decide) rfl rfl (Nat.le_of_ble_eq_true rfl) (fun i9 v9 h9 => argL [.ref na, .ref nv, .int (iI a), .int (iI c), .int (iI r)] 1 rfl i9 v9 h9) ?_
  intro p e s m9 args below meth c9 h0 sz hI C hr hlk hinit
  have hA := hI.1
  refine V_bipush (pc' := 2) C dL_made_0 rfl (by decide) ?_
  refine V_iload3 (pc' := 3) C dL_made_2 rfl ?_
  refine V_aload0 (pc' := 4) C dL_made_3 rfl ?_
  refine V_iload2 (pc' := 5) C dL_made_4 rfl ?_
  refine V_iconst (pc' := 6) C dL_made_5 rfl ?_
  refine V_iadd (pc' := 7) C dL_made_6 rfl ?_
  refine V_iald (pc' := 8) (n := 540) (f := f) C 2 rfl (fun h hh => ⟨901, by rw [hh]; exact hA⟩) ⟨by omega, by omega, by omega⟩ dL_made_7 rfl ?_
  refine V_iadd (pc' := 9) C dL_made_8 rfl ?_
  refine V_imul (pc' := 10) C dL_made_9 rfl ?_
  refine V_iload4 (pc' := 12) C dL_made_10 rfl ?_
  refine V_iadd (pc' := 13) C dL_made_12 rfl ?_
  refine V_aload0 (pc' := 14) C dL_made_13 rfl ?_
  refine V_iload2 (pc' := 15) C dL_made_14 rfl ?_
  refine V_iconst (pc' := 16) C dL_made_15 rfl ?_
  refine V_iadd (pc' := 17) C dL_made_16 rfl ?_
  refine V_iald (pc' := 18) (n := 540) (f := f) C 2 rfl (fun h hh => ⟨901, by rw [hh]; exact hA⟩) ⟨by omega, by omega, by omega⟩ dL_made_17 rfl ?_
  refine V_iadd (pc' := 19) C dL_made_18 rfl ?_
  refine V_istore5 (pc' := 21) C dL_made_19 rfl (by decide) rfl ?_
  refine V_aload0 (pc' := 22) C dL_made_21 rfl ?_
  refine V_iload2 (pc' := 23) C dL_made_22 rfl ?_
  refine V_iald (pc' := 24) (n := 540) (f := f) C 2 rfl (fun h hh => ⟨901, by rw [hh]; exact hA⟩) ⟨by omega, by omega, by omega⟩ dL_made_23 rfl ?_
  refine V_bipush (pc' := 26) C dL_made_24 rfl (by decide) ?_
  refine V_icmpne (tgt := 37) C ⟨hf _ (by omega), by decide⟩ dL_made_26 (by decide) rfl (fun c_26 => ?_) (fun c_26 => ?_)
  · refine V_aload0 (pc' := 38) C dL_made_37 rfl ?_
    refine V_iload2 (pc' := 39) C dL_made_38 rfl ?_
    refine V_iald (pc' := 40) (n := 540) (f := f) C 2 rfl (fun h hh => ⟨901, by rw [hh]; exact hA⟩) ⟨by omega, by omega, by omega⟩ dL_made_39 rfl ?_
    refine V_bipush (pc' := 42) C dL_made_40 rfl (by decide) ?_
    refine V_icmpne (tgt := 58) C ⟨hf _ (by omega), by decide⟩ dL_made_42 (by decide) rfl (fun c_42 => ?_) (fun c_42 => ?_)
    · refine V_aload1 (pc' := 59) C dL_made_58 rfl ?_
      refine V_bipush (pc' := 61) C dL_made_59 rfl (by decide) ?_
      refine V_iload3 (pc' := 62) C dL_made_61 rfl ?_
      refine V_imul (pc' := 63) C dL_made_62 rfl ?_
      refine V_iload4 (pc' := 65) C dL_made_63 rfl ?_
      refine V_iadd (pc' := 66) C dL_made_65 rfl ?_
      refine V_iald (pc' := 67) (n := nn) (f := w) C 2 rfl (fun h hh => ⟨tv, by rw [hh]; exact hI.2⟩) ⟨by omega, by omega, by omega⟩ dL_made_66 rfl ?_
      exact V_end C hr hlk (fun h' hh => ⟨_, rfl, by unfold maF; simp_all, hh⟩) ⟨Nat.le_refl _, Nat.le_refl _⟩ dL_made_67
    · refine V_aload1 (pc' := 46) C dL_made_45 rfl ?_
      refine V_iload5 (pc' := 48) C dL_made_46 rfl ?_
      have hg8 := hg (by first | exact c_42 | exact Classical.not_not.mp c_42)
      refine V_iald (pc' := 49) (n := nn) (f := w) C 2 rfl (fun h hh => ⟨tv, by rw [hh]; exact hI.2⟩) ⟨by omega, by omega, by omega⟩ dL_made_48 rfl ?_
      refine V_aload0 (pc' := 50) C dL_made_49 rfl ?_
      refine V_iload2 (pc' := 51) C dL_made_50 rfl ?_
      refine V_iconst (pc' := 52) C dL_made_51 rfl ?_
      refine V_iadd (pc' := 53) C dL_made_52 rfl ?_
      refine V_iald (pc' := 54) (n := 540) (f := f) C 2 rfl (fun h hh => ⟨901, by rw [hh]; exact hA⟩) ⟨by omega, by omega, by omega⟩ dL_made_53 rfl ?_
      refine V_iadd (pc' := 55) C dL_made_54 rfl ?_
      refine V_goto (tgt := 67) C dL_made_55 (by decide) ?_
      exact V_end C hr hlk (fun h' hh => ⟨_, rfl, by unfold maF; simp_all, hh⟩) ⟨Nat.le_refl _, Nat.le_refl _⟩ dL_made_67
  · refine V_aload0 (pc' := 30) C dL_made_29 rfl ?_
    refine V_iload2 (pc' := 31) C dL_made_30 rfl ?_
    refine V_iconst (pc' := 32) C dL_made_31 rfl ?_
    refine V_iadd (pc' := 33) C dL_made_32 rfl ?_
    refine V_iald (pc' := 34) (n := 540) (f := f) C 2 rfl (fun h hh => ⟨901, by rw [hh]; exact hA⟩) ⟨by omega, by omega, by omega⟩ dL_made_33 rfl ?_
    refine V_goto (tgt := 67) C dL_made_34 (by decide) ?_
    exact V_end C hr hlk (fun h' hh => ⟨_, rfl, by unfold maF; simp_all, hh⟩) ⟨Nat.le_refl _, Nat.le_refl _⟩ dL_made_67
set_option maxHeartbeats 4000000 in
set_option maxRecDepth 100000 in
theorem kL_reason_ {q c r : Int} {w0 : Int → Int} (hf : rgA f) (hc8 : NRc f S) (hm9 : NRm f S) (hwp : WFp S) (hq : 0 ≤ q ∧ q < 6) (hc9 : 0 ≤ c ∧ c < 6) (hr9 : 0 ≤ r ∧ r < 8) : Ct l yL_reason_ wsL_reason_ ({ frames := 2, cells := 0, slots := 0, locals := 48 } : Room) D (tyL cB cC cI cO cJ cD) ee [.ref na, .ref nv, .int (iI q), .int (iI c), .int (iI r)] (fun h => NA cI na f h ∧ NVv cI nv w0 h) (fun h v9 h' => v9 = some (.int (iI (whyS S q (6 * r + c)).1)) ∧ Fr (fun u => u = 903) h h') (0) (0) := by
  refine Ct_of (cc := cL_reason_) (own := RL) [some (.ref na), some (.ref nv), some (.int (iI q)), some (.int (iI c)), some (.int (iI r)), none, none, none, none, none] (by decide) rfl rfl (Nat.le_of_ble_eq_true rfl) (fun i9 v9 h9 => argL [.ref na, .ref nv, .int (iI q), .int (iI c), .int (iI r)] 5 rfl i9 v9 h9) ?_
  intro p e s m9 args below meth c9 h0 sz hI C hr hlk hinit
  obtain ⟨h1, h2, h3, h4⟩ := hm9 q hq.1 hq.2
  have w2 := hwp.2.1 q hq.1 hq.2
  refine V_iconst (pc' := 1) C dL_reason__0 rfl ?_
  refine V_istore5 (pc' := 3) C dL_reason__1 rfl (by decide) rfl ?_
  refine V_for0 (N := 48) (fun j => fun x => (NA cI na f x ∧ NVv cI nv (cpL f w0 j) x) ∧ Fr (fun u => u = 903) h0 x) (fun j => [some (.ref na), some (.ref nv), some (.int (iI q)), some (.int (iI c)), some (.int (iI r)), some (.int (iI j)), none, none, none, none]) (fun _ => True) trivial (fun x hx => ⟨by rw [hx]; rw [show cpL f w0 0 = w0 from cpL_0 f w0]; exact hI, by rw [hx]; exact Fr.refl⟩) rfl (fun j hj hv hk => ?_) (fun hv => ?_)
  · refine V_iload5 (pc' := 5) C dL_reason__3 rfl ?_
    refine V_bipush (pc' := 7) C dL_reason__5 rfl (by decide) ?_
    refine V_icmpge (tgt := 24) C (by omega) dL_reason__7 (by decide) rfl (fun c_7 => ?_) (fun c_7 => ?_)
    · exact absurd c_7 (by omega)
    · refine V_aload1 (pc' := 11) C dL_reason__10 rfl ?_
      refine V_iload5 (pc' := 13) C dL_reason__11 rfl ?_
      refine V_aload0 (pc' := 14) C dL_reason__13 rfl ?_
      refine V_iload5 (pc' := 16) C dL_reason__14 rfl ?_
      refine V_iald (pc' := 17) (n := 540) (f := f) C 2 rfl (fun h hh => ⟨901, hh.1.1⟩) ⟨by omega, by omega, by omega⟩ dL_reason__16 rfl ?_
      refine V_iast (pc' := 18) (n := 48) (f := cpL f w0 j) (I2 := (fun j => fun x => (NA cI na f x ∧ NVv cI nv (cpL f w0 j) x) ∧ Fr (fun u => u = 903) h0 x) (j + 1)) C 2 rfl (fun h hh => ⟨903, hh.1.2, ⟨by unfold NA; rw [hup_n (NV_ne hh.1)]; exact hh.1.1, by rw [cpL_s]; exact hup_s⟩, hh.2.up hh.1.2 rfl⟩) ⟨by omega, by omega, by omega⟩ dL_reason__17 rfl ?_
      refine V_iinc5 (pc' := 21) C dL_reason__18 rfl (by decide) rfl ?_
      refine V_goto (tgt := 3) C dL_reason__21 (by decide) ?_
      exact V_conv (fun h q => q) (by simp) (hk trivial)
  · refine V_iload5 (pc' := 5) C dL_reason__3 rfl ?_
    refine V_bipush (pc' := 7) C dL_reason__5 rfl (by decide) ?_
    refine V_icmpge (tgt := 24) C (by omega) dL_reason__7 (by decide) rfl (fun c_7 => ?_) (fun c_7 => ?_)
    · refine V_iconst (pc' := 25) C dL_reason__24 rfl ?_
      refine V_istore5 (pc' := 27) C dL_reason__25 rfl (by decide) rfl ?_
      refine V_for0 (N := (S.1 4 q).toNat) (fun j => fun x => ∃ w, (NA cI na f x ∧ NVv cI nv w x) ∧ (∀ z, 0 ≤ z → z < 48 → w (8 * (z % 6) + z / 6) = (trI S q (6 * r + c) j).1 1 z) ∧ Fr (fun u => u = 903) h0 x) (fun j => [some (.ref na), some (.ref nv), some (.int (iI q)), some (.int (iI c)), some (.int (iI r)), some (.int (iI j)), none, none, none, none]) (fun j => whyS S q (6 * r + c) = whyR S q (6 * r + c) ((S.1 4 q).toNat - j) j ∧ rgN ((trI S q (6 * r + c) j).1 1)) ⟨rfl, cpN_rg hwp⟩ (fun x hx => ⟨cpL f w0 48, hx.1, fun z z0 z1 => by show cpL f w0 48 _ = (cpN S 48).1 1 z; unfold cpL; rw [if_pos (by omega), hc8 z z0 z1]; simp [cpN, z0, z1], hx.2⟩) rfl (fun j hj hv hk => ?_) (fun hv => ?_)
      · refine V_fix (fun h9 hh9 => ?_)
        obtain ⟨w, ⟨hA, hV⟩, ht9, hF9⟩ := hh9
        obtain ⟨hy9, hg9⟩ := hv
        obtain ⟨n9, hn9⟩ : ∃ n9, (S.1 4 q).toNat - j = n9 + 1 := ⟨(S.1 4 q).toNat - j - 1, by omega⟩
        rw [hn9, whyR_s] at hy9
        have e4 := h3 j (by omega) (by omega)
        obtain ⟨e5, e6, e7, e8⟩ := id e4
        obtain ⟨s1, s2, s3, s4, s5, s6, s7, s8⟩ := hwp.1 (10 * q + j) (by omega) (by omega)
        have ho9 : isOutB S q j (6 * r + c) = !isCellB (c + S.1 6 (10 * q + j)) (r + S.1 7 (10 * q + j)) := by unfold isOutB; rw [show (6 * r + c) % 6 = c by omega, show (6 * r + c) / 6 = r by omega]
        have hgl : goalI S q j (6 * r + c) = 6 * (r + S.1 7 (10 * q + j)) + (c + S.1 6 (10 * q + j)) := by unfold goalI atI; rw [show (6 * r + c) % 6 = c by omega, show (6 * r + c) / 6 = r by omega]
        refine V_iload5 (pc' := 29) C dL_reason__27 rfl ?_
        refine V_aload0 (pc' := 30) C dL_reason__29 rfl ?_
        refine V_iload2 (pc' := 31) C dL_reason__30 rfl ?_
        refine V_callS (n := 1) [.int (iI q)] C (kL_macroAt (q := q)) gL_reason__L_macroAt rfl ydL_macroAt ⟨Nat.le_of_ble_eq_true rfl, Nat.le_of_ble_eq_true rfl⟩ ⟨rfl, rfl⟩ rfl (fun h hh => trivial) rfl (Nat.le_of_ble_eq_true rfl) dL_reason__31 ⟨Nat.le_of_ble_eq_true rfl, Nat.le_of_ble_eq_true rfl⟩ (fun h v h' hh hj9 => ?_)
        obtain ⟨r9, rfl, rfl, rfl⟩ := hj9
        refine V_weak (I2 := fun x => x = h9) (fun x hx => by rw [hx]; exact hh) ?_
        refine V_ialdE (pc' := 35) (n := 540) (f := f) (v := S.1 4 q) C 2 rfl (fun h hh => ⟨901, by rw [hh]; exact hA⟩) ⟨by omega, by omega, by omega⟩ h1 dL_reason__34 rfl ?_
        refine V_icmpge (tgt := 161) C ⟨by omega, by omega⟩ dL_reason__35 (by decide) rfl (fun c_35 => ?_) (fun c_35 => ?_)
        · exact absurd c_35 (by omega)
        · refine V_iload2 (pc' := 39) C dL_reason__38 rfl ?_
          refine V_callS (n := 1) [.int (iI q)] C (kL_macroAt (q := q)) gL_reason__L_macroAt rfl ydL_macroAt ⟨Nat.le_of_ble_eq_true rfl, Nat.le_of_ble_eq_true rfl⟩ ⟨rfl, rfl⟩ rfl (fun h hh => trivial) rfl (Nat.le_of_ble_eq_true rfl) dL_reason__39 ⟨Nat.le_of_ble_eq_true rfl, Nat.le_of_ble_eq_true rfl⟩ (fun h v h' hh hj9 => ?_)
          obtain ⟨r9, rfl, rfl, rfl⟩ := hj9
          refine V_weak (I2 := fun x => x = h9) (fun x hx => by rw [hx]; exact hh) ?_
          refine V_iconst (pc' := 43) C dL_reason__42 rfl ?_
          refine V_iadd (pc' := 44) C dL_reason__43 rfl ?_
          refine V_iconst (pc' := 45) C dL_reason__44 rfl ?_
          refine V_iload5 (pc' := 47) C dL_reason__45 rfl ?_
          refine V_imul (pc' := 48) C dL_reason__47 rfl ?_
          refine V_iadd (pc' := 49) C dL_reason__48 rfl ?_
          refine V_istore6 (pc' := 51) C dL_reason__49 rfl (by decide) rfl ?_
          refine V_iload3 (pc' := 52) C dL_reason__51 rfl ?_
          refine V_aload0 (pc' := 53) C dL_reason__52 rfl ?_
          refine V_iload6 (pc' := 55) C dL_reason__53 rfl ?_
          refine V_iconst (pc' := 56) C dL_reason__55 rfl ?_
          refine V_iadd (pc' := 57) C dL_reason__56 rfl ?_
          refine V_ialdE (pc' := 58) (n := 540) (f := f) (v := S.1 6 (10 * q + j)) C 2 rfl (fun h hh => ⟨901, by rw [hh]; exact hA⟩) ⟨by omega, by omega, by omega⟩ e6 dL_reason__57 rfl ?_
          refine V_iadd (pc' := 59) C dL_reason__58 rfl ?_
          refine V_istore7 (pc' := 61) C dL_reason__59 rfl (by decide) rfl ?_
          refine V_iload4 (pc' := 63) C dL_reason__61 rfl ?_
          refine V_aload0 (pc' := 64) C dL_reason__63 rfl ?_
          refine V_iload6 (pc' := 66) C dL_reason__64 rfl ?_
          refine V_iconst (pc' := 67) C dL_reason__66 rfl ?_
          refine V_iadd (pc' := 68) C dL_reason__67 rfl ?_
          refine V_ialdE (pc' := 69) (n := 540) (f := f) (v := S.1 7 (10 * q + j)) C 2 rfl (fun h hh => ⟨901, by rw [hh]; exact hA⟩) ⟨by omega, by omega, by omega⟩ e7 dL_reason__68 rfl ?_
          refine V_iadd (pc' := 70) C dL_reason__69 rfl ?_
          refine V_istore8 (pc' := 72) C dL_reason__70 rfl (by decide) rfl ?_
          refine V_iload7 (pc' := 74) C dL_reason__72 rfl ?_
          refine V_iload8 (pc' := 76) C dL_reason__74 rfl ?_
          refine V_callS (n := 2) [.int (iI (c + (S.1 6 (10 * q + j)))), .int (iI (r + (S.1 7 (10 * q + j))))] C (kL_isCell (c := (c + (S.1 6 (10 * q + j)))) (r := (r + (S.1 7 (10 * q + j)))) ⟨by omega, by omega⟩) gL_reason__L_isCell rfl ydL_isCell ⟨Nat.le_of_ble_eq_true rfl, Nat.le_of_ble_eq_true rfl⟩ ⟨rfl, rfl⟩ rfl (fun h hh => trivial) rfl (Nat.le_of_ble_eq_true rfl) dL_reason__76 ⟨Nat.le_of_ble_eq_true rfl, Nat.le_of_ble_eq_true rfl⟩ (fun h v h' hh hj9 => ?_)
          obtain ⟨r9, rfl, rfl, rfl⟩ := hj9
          refine V_weak (I2 := fun x => x = h9) (fun x hx => by rw [hx]; exact hh) ?_
          refine V_ifeqB (tgt := 94) C dL_reason__79 (by decide) rfl (fun c_79 => ?_) (fun c_79 => ?_)
          · 
            refine V_iload7 (pc' := 96) C dL_reason__94 rfl ?_
            refine V_iload8 (pc' := 98) C dL_reason__96 rfl ?_
            refine V_callS (n := 2) [.int (iI (c + (S.1 6 (10 * q + j)))), .int (iI (r + (S.1 7 (10 * q + j))))] C (kL_isCell (c := (c + (S.1 6 (10 * q + j)))) (r := (r + (S.1 7 (10 * q + j)))) ⟨by omega, by omega⟩) gL_reason__L_isCell rfl ydL_isCell ⟨Nat.le_of_ble_eq_true rfl, Nat.le_of_ble_eq_true rfl⟩ ⟨rfl, rfl⟩ rfl (fun h hh => trivial) rfl (Nat.le_of_ble_eq_true rfl) dL_reason__98 ⟨Nat.le_of_ble_eq_true rfl, Nat.le_of_ble_eq_true rfl⟩ (fun h v h' hh hj9 => ?_)
            obtain ⟨r9, rfl, rfl, rfl⟩ := hj9
            refine V_weak (I2 := fun x => x = h9) (fun x hx => by rw [hx]; exact hh) ?_
            refine V_ifeqB (tgt := 109) C dL_reason__101 (by decide) rfl (fun c_101 => ?_) (fun c_101 => ?_)
            · refine V_bipush (pc' := 111) C dL_reason__109 rfl (by decide) ?_
              have hz9 : (whyS S q (6 * r + c)).1 = 111 := by first | (exact absurd (c_79.symm.trans c_101) (by decide)) | (rw [hy9, if_pos (by rw [ho9, c_79]; rfl)]; done) | (rw [hy9, if_pos (by rw [hgl]; exact c_91)]; done)
              refine V_eq (st2 := [.int (iI (whyS S q (6 * r + c)).1)]) (by rw [hz9] <;> rfl) ?_
              exact V_endz C hr hlk (nar_c (by rw [hz9]; decide) (by rw [hz9]; decide)) (fun h' hh => ⟨rfl, by rw [hh]; exact hF9⟩) ⟨Nat.le_refl _, Nat.le_refl _⟩ dL_reason__111
            · refine V_bipush (pc' := 106) C dL_reason__104 rfl (by decide) ?_
              refine V_goto (tgt := 111) C dL_reason__106 (by decide) ?_
              have hz9 : (whyS S q (6 * r + c)).1 = 103 := by first | (exact absurd (c_79.symm.trans c_101) (by decide)) | (rw [hy9, if_pos (by rw [ho9, c_79]; rfl)]; done) | (rw [hy9, if_pos (by rw [hgl]; exact c_91)]; done)
              refine V_eq (st2 := [.int (iI (whyS S q (6 * r + c)).1)]) (by rw [hz9] <;> rfl) ?_
              exact V_endz C hr hlk (nar_c (by rw [hz9]; decide) (by rw [hz9]; decide)) (fun h' hh => ⟨rfl, by rw [hh]; exact hF9⟩) ⟨Nat.le_refl _, Nat.le_refl _⟩ dL_reason__111
          · have ho8 : isOutB S q j (6 * r + c) = false := by rw [ho9, c_79]; rfl
            rw [if_neg (by rw [ho8]; decide)] at hy9
            refine V_aload0 (pc' := 83) C dL_reason__82 rfl ?_
            refine V_iload2 (pc' := 84) C dL_reason__83 rfl ?_
            refine V_iload7 (pc' := 86) C dL_reason__84 rfl ?_
            refine V_iload8 (pc' := 88) C dL_reason__86 rfl ?_
            have hcl := (by simpa only [isCellB, isInB, Bool.and_eq_true, decide_eq_true_eq] using c_79 : ((0 ≤ c + S.1 6 (10 * q + j) ∧ c + S.1 6 (10 * q + j) ≤ 5) ∧ (0 ≤ r + S.1 7 (10 * q + j) ∧ r + S.1 7 (10 * q + j) ≤ 7)))
            refine V_callS (n := 4) [.ref na, .int (iI q), .int (iI (c + (S.1 6 (10 * q + j)))), .int (iI (r + (S.1 7 (10 * q + j))))] C (kL_isGranted (q := q) (c := c + S.1 6 (10 * q + j)) (r := r + S.1 7 (10 * q + j)) hf hm9 hwp hq (by omega) (by omega)) gL_reason__L_isGranted rfl ydL_isGranted ⟨Nat.le_of_ble_eq_true rfl, Nat.le_of_ble_eq_true rfl⟩ ⟨rfl, rfl⟩ rfl (fun h hh => by rw [hh]; exact hA) rfl (Nat.le_of_ble_eq_true rfl) dL_reason__88 ⟨Nat.le_of_ble_eq_true rfl, Nat.le_of_ble_eq_true rfl⟩ (fun h v h' hh hj9 => ?_)
            obtain ⟨r9, rfl, rfl, rfl⟩ := hj9
            refine V_weak (I2 := fun x => x = h9) (fun x hx => by rw [hx]; exact hh) ?_
            refine V_ifneB (tgt := 112) C dL_reason__91 (by decide) rfl (fun c_91 => ?_) (fun c_91 => ?_)
            · have hg8 : isGrantedB S q (goalI S q j (6 * r + c)) = true := by rw [hgl]; exact c_91
              rw [if_neg (by rw [hg8]; decide)] at hy9
              refine V_aload0 (pc' := 113) C dL_reason__112 rfl ?_
              refine V_aload1 (pc' := 114) C dL_reason__113 rfl ?_
              refine V_iload6 (pc' := 116) C dL_reason__114 rfl ?_
              refine V_iload3 (pc' := 117) C dL_reason__116 rfl ?_
              refine V_iload4 (pc' := 119) C dL_reason__117 rfl ?_
              refine V_callS (n := 5) [.ref na, .ref nv, .int (iI (((60 + 60 * q) + 2) + (4 * j))), .int (iI c), .int (iI r)] C (kL_made (f := f) (w := w) (nn := 48) (tv := 903) (a := 60 + 60 * q + 2 + 4 * (j : Int)) (c := c) (r := r) hf (by decide) (by omega) hc9 hr9 (fun _ => by rw [e6, e7]; omega)) gL_reason__L_made rfl ydL_made ⟨Nat.le_of_ble_eq_true rfl, Nat.le_of_ble_eq_true rfl⟩ ⟨rfl, rfl⟩ rfl (fun h hh => ⟨by rw [hh]; exact hA, by rw [hh]; exact hV⟩) rfl (Nat.le_of_ble_eq_true rfl) dL_reason__119 ⟨Nat.le_of_ble_eq_true rfl, Nat.le_of_ble_eq_true rfl⟩ (fun h v h' hh hj9 => ?_)
              obtain ⟨r9, rfl, rfl, rfl⟩ := hj9
              have hm8 : maF f w (60 + 60 * q + 2 + 4 * (j : Int)) c r = stepI (trI S q (6 * r + c) j) q j (6 * r + c) := ma_step e4 (trI_1 S q (6 * r + c) 5 (by decide) j) (trI_1 S q (6 * r + c) 6 (by decide) j) (trI_1 S q (6 * r + c) 7 (by decide) j) (trI_1 S q (6 * r + c) 8 (by decide) j) hc9 hr9 (by rw [hgl]; omega) ho8 ht9
              rw [hm8]
              refine V_weak (I2 := fun x => x = h9) (fun x hx => by rw [hx]; exact hh) ?_
              have hr8 : rI (stepI (trI S q (6 * r + c) j) q j (6 * r + c)) := stepI_rI hwp (trI_1 S q (6 * r + c) 8 (by decide) j) hq ⟨by omega, by omega⟩ ⟨by omega, by omega⟩ hg9 (by rw [trI_goal, hgl]; omega)
              refine V_istore9 (pc' := 124) C dL_reason__122 rfl (by decide) rfl ?_
              refine V_iload9 (pc' := 126) C dL_reason__124 rfl ?_
              refine V_sipush (pc' := 129) C dL_reason__126 rfl (by decide) ?_
              refine V_icmplt (tgt := 140) C ⟨hr8, by decide⟩ dL_reason__129 (by decide) rfl (fun c_129 => ?_) (fun c_129 => ?_)
              · refine V_bipush (pc' := 142) C dL_reason__140 rfl (by decide) ?_
                have hz9 : (whyS S q (6 * r + c)).1 = 118 := by rw [hy9, if_pos (by unfold isValueB isInB; simp only [Bool.and_eq_false_iff, decide_eq_false_iff_not]; omega)]
                refine V_eq (st2 := [.int (iI (whyS S q (6 * r + c)).1)]) (by rw [hz9] <;> rfl) ?_
                exact V_endz C hr hlk (nar_c (by rw [hz9]; decide) (by rw [hz9]; decide)) (fun h' hh => ⟨rfl, by rw [hh]; exact hF9⟩) ⟨Nat.le_refl _, Nat.le_refl _⟩ dL_reason__142
              · refine V_iload9 (pc' := 134) C dL_reason__132 rfl ?_
                refine V_sipush (pc' := 137) C dL_reason__134 rfl (by decide) ?_
                refine V_icmple (tgt := 143) C ⟨hr8, by decide⟩ dL_reason__137 (by decide) rfl (fun c_137 => ?_) (fun c_137 => ?_)
                · refine V_aload1 (pc' := 144) C dL_reason__143 rfl ?_
                  refine V_bipush (pc' := 146) C dL_reason__144 rfl (by decide) ?_
                  refine V_iload7 (pc' := 148) C dL_reason__146 rfl ?_
                  refine V_imul (pc' := 149) C dL_reason__148 rfl ?_
                  refine V_iload8 (pc' := 151) C dL_reason__149 rfl ?_
                  refine V_iadd (pc' := 152) C dL_reason__151 rfl ?_
                  refine V_iload9 (pc' := 154) C dL_reason__152 rfl ?_
                  have hvb : isValueB (stepI (trI S q (6 * r + c) j) q j (6 * r + c)) = true := by simp only [isValueB, isInB, Bool.and_eq_true, decide_eq_true_eq]; omega
                  rw [if_neg (by rw [hvb]; decide)] at hy9
                  refine V_iast (pc' := 155) (n := 48) (f := w) (I2 := (fun j => fun x => ∃ w, (NA cI na f x ∧ NVv cI nv w x) ∧ (∀ z, 0 ≤ z → z < 48 → w (8 * (z % 6) + z / 6) = (trI S q (6 * r + c) j).1 1 z) ∧ Fr (fun u => u = 903) h0 x) (j + 1)) C 2 rfl (fun h hh => ⟨903, by rw [hh]; exact hV, _, ⟨by unfold NA; rw [hh, hup_n (NV_ne ⟨hA, hV⟩)]; exact hA, hup_s⟩, fun z z0 z1 => ?_, by rw [hh]; exact hF9.up hV rfl⟩) ⟨by omega, by omega, by omega⟩ dL_reason__154 rfl ?_
                  · rw [trI, uA_s, trI_goal, hgl]
                    by_cases qz : z = 6 * (r + S.1 7 (10 * q + j)) + (c + S.1 6 (10 * q + j))
                    · rw [qz, upZ_s, show 8 * ((6 * (r + S.1 7 (10 * q + j)) + (c + S.1 6 (10 * q + j))) % 6) + (6 * (r + S.1 7 (10 * q + j)) + (c + S.1 6 (10 * q + j))) / 6 = 8 * (c + S.1 6 (10 * q + j)) + (r + S.1 7 (10 * q + j)) by omega, upZ_s]
                    · rw [upZ_n qz, upZ_n (by omega)]
                      exact ht9 z z0 z1
                  refine V_iinc5 (pc' := 158) C dL_reason__155 rfl (by decide) rfl ?_
                  refine V_goto (tgt := 27) C dL_reason__158 (by decide) ?_
                  refine V_locals (L2 := [some (.ref na), some (.ref nv), some (.int (iI q)), some (.int (iI c)), some (.int (iI r)), some (.int (iI ((j + 1 : Nat) : Int))), none, none, none, none]) (fun i v hv => ?_) (hk ⟨?_, ?_⟩)
                  · rcases i with _ | _ | _ | _ | _ | _ | _ | _ | _ | _ | i
                    all_goals (first | exact hv | (simpa using hv; done) | (cases hv; done))
                  · rw [hy9, show (S.1 4 q).toNat - (j + 1) = n9 by omega]
                  · rw [trI, uA_s]
                    exact rgN_up hg9 hvb
                · refine V_bipush (pc' := 142) C dL_reason__140 rfl (by decide) ?_
                  have hz9 : (whyS S q (6 * r + c)).1 = 118 := by rw [hy9, if_pos (by unfold isValueB isInB; simp only [Bool.and_eq_false_iff, decide_eq_false_iff_not]; omega)]
                  refine V_eq (st2 := [.int (iI (whyS S q (6 * r + c)).1)]) (by rw [hz9] <;> rfl) ?_
                  exact V_endz C hr hlk (nar_c (by rw [hz9]; decide) (by rw [hz9]; decide)) (fun h' hh => ⟨rfl, by rw [hh]; exact hF9⟩) ⟨Nat.le_refl _, Nat.le_refl _⟩ dL_reason__142
            · 
              refine V_iload7 (pc' := 96) C dL_reason__94 rfl ?_
              refine V_iload8 (pc' := 98) C dL_reason__96 rfl ?_
              refine V_callS (n := 2) [.int (iI (c + (S.1 6 (10 * q + j)))), .int (iI (r + (S.1 7 (10 * q + j))))] C (kL_isCell (c := (c + (S.1 6 (10 * q + j)))) (r := (r + (S.1 7 (10 * q + j)))) ⟨by omega, by omega⟩) gL_reason__L_isCell rfl ydL_isCell ⟨Nat.le_of_ble_eq_true rfl, Nat.le_of_ble_eq_true rfl⟩ ⟨rfl, rfl⟩ rfl (fun h hh => trivial) rfl (Nat.le_of_ble_eq_true rfl) dL_reason__98 ⟨Nat.le_of_ble_eq_true rfl, Nat.le_of_ble_eq_true rfl⟩ (fun h v h' hh hj9 => ?_)
              obtain ⟨r9, rfl, rfl, rfl⟩ := hj9
              refine V_weak (I2 := fun x => x = h9) (fun x hx => by rw [hx]; exact hh) ?_
              refine V_ifeqB (tgt := 109) C dL_reason__101 (by decide) rfl (fun c_101 => ?_) (fun c_101 => ?_)
              · refine V_bipush (pc' := 111) C dL_reason__109 rfl (by decide) ?_
                have hz9 : (whyS S q (6 * r + c)).1 = 111 := by first | (exact absurd (c_79.symm.trans c_101) (by decide)) | (rw [hy9, if_pos (by rw [ho9, c_79]; rfl)]; done) | (rw [hy9, if_pos (by rw [hgl]; exact c_91)]; done)
                refine V_eq (st2 := [.int (iI (whyS S q (6 * r + c)).1)]) (by rw [hz9] <;> rfl) ?_
                exact V_endz C hr hlk (nar_c (by rw [hz9]; decide) (by rw [hz9]; decide)) (fun h' hh => ⟨rfl, by rw [hh]; exact hF9⟩) ⟨Nat.le_refl _, Nat.le_refl _⟩ dL_reason__111
              · refine V_bipush (pc' := 106) C dL_reason__104 rfl (by decide) ?_
                refine V_goto (tgt := 111) C dL_reason__106 (by decide) ?_
                have hz9 : (whyS S q (6 * r + c)).1 = 103 := by first | (exact absurd (c_79.symm.trans c_101) (by decide)) | (rw [hy9, if_pos (by rw [ho9, c_79]; rfl)]; done) | (rw [hy9, if_pos (by rw [hgl]; exact c_91)]; done)
                refine V_eq (st2 := [.int (iI (whyS S q (6 * r + c)).1)]) (by rw [hz9] <;> rfl) ?_
                exact V_endz C hr hlk (nar_c (by rw [hz9]; decide) (by rw [hz9]; decide)) (fun h' hh => ⟨rfl, by rw [hh]; exact hF9⟩) ⟨Nat.le_refl _, Nat.le_refl _⟩ dL_reason__111
      · refine V_fix (fun h9 hh9 => ?_)
        obtain ⟨w, ⟨hA, hV⟩, ht9, hF9⟩ := hh9
        obtain ⟨hy9, hg9⟩ := hv
        rw [Nat.sub_self] at hy9
        refine V_iload5 (pc' := 29) C dL_reason__27 rfl ?_
        refine V_aload0 (pc' := 30) C dL_reason__29 rfl ?_
        refine V_iload2 (pc' := 31) C dL_reason__30 rfl ?_
        refine V_callS (n := 1) [.int (iI q)] C (kL_macroAt (q := q)) gL_reason__L_macroAt rfl ydL_macroAt ⟨Nat.le_of_ble_eq_true rfl, Nat.le_of_ble_eq_true rfl⟩ ⟨rfl, rfl⟩ rfl (fun h hh => trivial) rfl (Nat.le_of_ble_eq_true rfl) dL_reason__31 ⟨Nat.le_of_ble_eq_true rfl, Nat.le_of_ble_eq_true rfl⟩ (fun h v h' hh hj9 => ?_)
        obtain ⟨r9, rfl, rfl, rfl⟩ := hj9
        refine V_weak (I2 := fun x => x = h9) (fun x hx => by rw [hx]; exact hh) ?_
        refine V_ialdE (pc' := 35) (n := 540) (f := f) (v := S.1 4 q) C 2 rfl (fun h hh => ⟨901, by rw [hh]; exact hA⟩) ⟨by omega, by omega, by omega⟩ h1 dL_reason__34 rfl ?_
        refine V_icmpge (tgt := 161) C ⟨by omega, by omega⟩ dL_reason__35 (by decide) rfl (fun c_35 => ?_) (fun c_35 => ?_)
        · refine V_bipush (pc' := 163) C dL_reason__161 rfl (by decide) ?_
          have hz9 : (whyS S q (6 * r + c)).1 = 45 := by rw [hy9]; rfl
          refine V_eq (st2 := [.int (iI (whyS S q (6 * r + c)).1)]) (by rw [hz9] <;> rfl) ?_
          exact V_endz C hr hlk (nar_c (by rw [hz9]; decide) (by rw [hz9]; decide)) (fun h' hh => ⟨rfl, by rw [hh]; exact hF9⟩) ⟨Nat.le_refl _, Nat.le_refl _⟩ dL_reason__163
        · exact absurd c_35 (by omega)
    · exact absurd c_7 (by omega)
set_option maxHeartbeats 4000000 in
set_option maxRecDepth 100000 in
theorem kL_change {x gl v w dp : Int} (hgl : gl = 8 * (x % 6) + x / 6) (hnr : NR f g S) (hwp : WFp S) (hl9 : 0 ≤ S.2 29 ∧ 0 ≤ S.2 24 ∧ S.2 29 + S.2 24 < 15000) (hx : 0 ≤ x ∧ x < 48) (hv9 : rI v) (hw9 : rI w) (hd9 : rI dp) : Ct l yL_change wsL_change ({ frames := 0, cells := 0, slots := 0, locals := 0 } : Room) D (tyL cB cC cI cO cJ cD) ee [.ref na, .ref nb, .int (iI gl), .int (iI v), .int (iI w), .int (iI dp)] (NH cI na nb f g) (fun h v9 h' => v9 = none ∧ (∃ f' g', NH cI na nb f' g' h' ∧ NR f' g' (becS S x v w dp) ∧ f' 55 = f 55) ∧ Fr tN h h') (0) (0) := by
  refine Ct_of (cc := cL_change) (own := RL) [some (.ref na), some (.ref nb), some (.int (iI gl)), some (.int (iI v)), some (.int (iI w)), some (.int (iI dp)), none] (by decide) rfl rfl (Nat.le_of_ble_eq_true rfl) (fun i9 v9 h9 => argL [.ref na, .ref nb, .int (iI gl), .int (iI v), .int (iI w), .int (iI dp)] 1 rfl i9 v9 h9) ?_
  intro p e s m9 args below meth c9 h0 sz hI C hr hlk hinit
  subst hgl
  have n56 := hnr.2.2.2.2.1.2.2.2.2.2.1
  refine V_weak (I2 := NI cI h0 na nb f g) (fun x hx => by rw [hx]; exact ⟨hI, Fr.refl⟩) ?_
  refine V_aload0 (pc' := 1) C dL_change_0 rfl ?_
  refine V_iload2 (pc' := 2) C dL_change_1 rfl ?_
  refine V_ialdE (pc' := 3) (n := 540) (f := f) (v := S.1 0 x) C 2 rfl (fun h hh => ⟨901, hh.1.1⟩) ⟨by omega, by omega, by omega⟩ (hnr.2.1 x hx.1 hx.2) dL_change_2 rfl ?_
  refine V_iload3 (pc' := 4) C dL_change_3 rfl ?_
  refine V_icmpeq (tgt := 57) C ⟨by have := hwp.2.2.2.2.2 x hx.1 hx.2; omega, hv9⟩ dL_change_4 (by decide) rfl (fun c_4 => ?_) (fun c_4 => ?_)
  · 
    exact V_endv C hr hlk (fun h' hh => ⟨rfl, ⟨_, _, hh.1, by rw [show becS S x v w dp = S from if_pos (by exact c_4)]; exact ⟨hnr, rfl⟩⟩, hh.2⟩) ⟨Nat.le_refl _, Nat.le_refl _⟩ dL_change_57
  · refine V_iconst (pc' := 8) C dL_change_7 rfl ?_
    refine V_aload0 (pc' := 9) C dL_change_8 rfl ?_
    refine V_bipush (pc' := 11) C dL_change_9 rfl (by decide) ?_
    refine V_iald (pc' := 12) (n := 540) (f := f) C 2 rfl (fun h hh => ⟨901, hh.1.1⟩) ⟨by omega, by omega, by omega⟩ dL_change_11 rfl ?_
    refine V_imul (pc' := 13) C dL_change_12 rfl ?_
    refine V_istore6 (pc' := 15) C dL_change_13 rfl (by decide) rfl ?_
    refine V_aload1 (pc' := 16) C dL_change_15 rfl ?_
    refine V_iload6 (pc' := 18) C dL_change_16 rfl ?_
    refine V_iload2 (pc' := 19) C dL_change_18 rfl ?_
    refine V_iast (pc' := 20) (n := 60000) (f := g) (I2 := NI cI h0 na nb (f) (upZ g (4 * (f 56)) (8 * (x % 6) + x / 6))) C 2 rfl (fun h hh => ⟨902, hh.1.2, hh.b⟩) ⟨by omega, by omega, by omega⟩ dL_change_19 rfl ?_
    refine V_aload1 (pc' := 21) C dL_change_20 rfl ?_
    refine V_iload6 (pc' := 23) C dL_change_21 rfl ?_
    refine V_iconst (pc' := 24) C dL_change_23 rfl ?_
    refine V_iadd (pc' := 25) C dL_change_24 rfl ?_
    refine V_aload0 (pc' := 26) C dL_change_25 rfl ?_
    refine V_iload2 (pc' := 27) C dL_change_26 rfl ?_
    refine V_iald (pc' := 28) (n := 540) (f := f) C 2 rfl (fun h hh => ⟨901, hh.1.1⟩) ⟨by omega, by omega, by omega⟩ dL_change_27 rfl ?_
    refine V_iast (pc' := 29) (n := 60000) (f := upZ g (4 * (f 56)) (8 * (x % 6) + x / 6)) (I2 := NI cI h0 na nb (f) (upZ (upZ g (4 * (f 56)) (8 * (x % 6) + x / 6)) ((4 * (f 56)) + 1) (f (8 * (x % 6) + x / 6)))) C 2 rfl (fun h hh => ⟨902, hh.1.2, hh.b⟩) ⟨by omega, by omega, by omega⟩ dL_change_28 rfl ?_
    refine V_aload1 (pc' := 30) C dL_change_29 rfl ?_
    refine V_iload6 (pc' := 32) C dL_change_30 rfl ?_
    refine V_iconst (pc' := 33) C dL_change_32 rfl ?_
    refine V_iadd (pc' := 34) C dL_change_33 rfl ?_
    refine V_iload4 (pc' := 36) C dL_change_34 rfl ?_
    refine V_iast (pc' := 37) (n := 60000) (f := upZ (upZ g (4 * (f 56)) (8 * (x % 6) + x / 6)) ((4 * (f 56)) + 1) (f (8 * (x % 6) + x / 6))) (I2 := NI cI h0 na nb (f) (upZ (upZ (upZ g (4 * (f 56)) (8 * (x % 6) + x / 6)) ((4 * (f 56)) + 1) (f (8 * (x % 6) + x / 6))) ((4 * (f 56)) + 2) w)) C 2 rfl (fun h hh => ⟨902, hh.1.2, hh.b⟩) ⟨by omega, by omega, by omega⟩ dL_change_36 rfl ?_
    refine V_aload1 (pc' := 38) C dL_change_37 rfl ?_
    refine V_iload6 (pc' := 40) C dL_change_38 rfl ?_
    refine V_iconst (pc' := 41) C dL_change_40 rfl ?_
    refine V_iadd (pc' := 42) C dL_change_41 rfl ?_
    refine V_iload5 (pc' := 44) C dL_change_42 rfl ?_
    refine V_iast (pc' := 45) (n := 60000) (f := upZ (upZ (upZ g (4 * (f 56)) (8 * (x % 6) + x / 6)) ((4 * (f 56)) + 1) (f (8 * (x % 6) + x / 6))) ((4 * (f 56)) + 2) w) (I2 := NI cI h0 na nb (f) (upZ (upZ (upZ (upZ g (4 * (f 56)) (8 * (x % 6) + x / 6)) ((4 * (f 56)) + 1) (f (8 * (x % 6) + x / 6))) ((4 * (f 56)) + 2) w) ((4 * (f 56)) + 3) dp)) C 2 rfl (fun h hh => ⟨902, hh.1.2, hh.b⟩) ⟨by omega, by omega, by omega⟩ dL_change_44 rfl ?_
    refine V_aload0 (pc' := 46) C dL_change_45 rfl ?_
    refine V_bipush (pc' := 48) C dL_change_46 rfl (by decide) ?_
    refine V_dup2 (pc' := 49) C rfl rfl dL_change_48 rfl ?_
    refine V_iald (pc' := 50) (n := 540) (f := f) C 2 rfl (fun h hh => ⟨901, hh.1.1⟩) ⟨by omega, by omega, by omega⟩ dL_change_49 rfl ?_
    refine V_iconst (pc' := 51) C dL_change_50 rfl ?_
    refine V_iadd (pc' := 52) C dL_change_51 rfl ?_
    refine V_iast (pc' := 53) (n := 540) (f := f) (I2 := NI cI h0 na nb (upZ f 56 ((f 56) + 1)) (upZ (upZ (upZ (upZ g (4 * (f 56)) (8 * (x % 6) + x / 6)) ((4 * (f 56)) + 1) (f (8 * (x % 6) + x / 6))) ((4 * (f 56)) + 2) w) ((4 * (f 56)) + 3) dp)) C 2 rfl (fun h hh => ⟨901, hh.1.1, hh.a⟩) ⟨by omega, by omega, by omega⟩ dL_change_52 rfl ?_
    refine V_aload0 (pc' := 54) C dL_change_53 rfl ?_
    refine V_iload2 (pc' := 55) C dL_change_54 rfl ?_
    refine V_iload3 (pc' := 56) C dL_change_55 rfl ?_
    refine V_iast (pc' := 57) (n := 540) (f := upZ f 56 ((f 56) + 1)) (I2 := NI cI h0 na nb (upZ (upZ f 56 ((f 56) + 1)) (8 * (x % 6) + x / 6) v) (upZ (upZ (upZ (upZ g (4 * (f 56)) (8 * (x % 6) + x / 6)) ((4 * (f 56)) + 1) (f (8 * (x % 6) + x / 6))) ((4 * (f 56)) + 2) w) ((4 * (f 56)) + 3) dp)) C 2 rfl (fun h hh => ⟨901, hh.1.1, hh.a⟩) ⟨by omega, by omega, by omega⟩ dL_change_56 rfl ?_
    
    exact V_endv C hr hlk (fun h' hh => ⟨rfl, ⟨_, _, hh.1, ⟨hnr.bec hwp hl9 hx hv9 hw9 hd9 (by exact c_4), by rw [upZ_n (by omega), upZ_n (by omega)]⟩⟩, hh.2⟩) ⟨Nat.le_refl _, Nat.le_refl _⟩ dL_change_57
set_option maxHeartbeats 4000000 in
set_option maxRecDepth 100000 in
theorem kL_run_ {q c r dp : Int} (hnr : NR f g S) (hwp : WFp S) (hq : 0 ≤ q ∧ q < 6) (hc9 : 0 ≤ c ∧ c < 6) (hr9 : 0 ≤ r ∧ r < 8) (hd9 : rI dp) (hgg : ∀ j : Nat, (j : Int) < S.1 4 q → 0 ≤ goalI S q j (6 * r + c) ∧ goalI S q j (6 * r + c) < 48) (hoo : ∀ j : Nat, (j : Int) < S.1 4 q → isOutB S q j (6 * r + c) = false) (hrg : ∀ j : Nat, (j : Int) ≤ S.1 4 q → rgN ((rnI S q (6 * r + c) dp j).1 0)) (hl9 : 0 ≤ S.2 29 ∧ 0 ≤ S.2 24 ∧ S.2 29 + S.2 24 + 10 < 15000) : Ct l yL_run_ wsL_run_ ({ frames := 1, cells := 0, slots := 0, locals := 26 } : Room) D (tyL cB cC cI cO cJ cD) ee [.ref na, .ref nb, .int (iI q), .int (iI c), .int (iI r), .int (iI dp)] (NH cI na nb f g) (fun h v9 h' => v9 = none ∧ (∃ f' g', NH cI na nb f' g' h' ∧ NR f' g' (runS S q (6 * r + c) dp) ∧ f' 55 = f 55) ∧ Fr tN h h') (0) (0) := by
  refine Ct_of (cc := cL_run_) (own := RL) [some (.ref na), some (.ref nb), some (.int (iI q)), some (.int (iI c)), some (.int (iI r)), some (.int (iI dp)), none, none, none] (by decide) rfl rfl (Nat.le_of_ble_eq_true rfl) (fun i9 v9 h9 => argL [.ref na, .ref nb, .int (iI q), .int (iI c), .int (iI r), .int (iI dp)] 3 rfl i9 v9 h9) ?_
  intro p e s m9 args below meth c9 h0 sz hI C hr hlk hinit
  refine V_iconst (pc' := 1) C dL_run__0 rfl ?_
  refine V_istore6 (pc' := 3) C dL_run__1 rfl (by decide) rfl ?_
  refine V_for0 (N := (S.1 4 q).toNat) (fun j => fun x => ∃ f' g', NH cI na nb f' g' x ∧ NR f' g' (rnI S q (6 * r + c) dp j) ∧ f' 55 = f 55 ∧ Fr tN h0 x) (fun j => [some (.ref na), some (.ref nb), some (.int (iI q)), some (.int (iI c)), some (.int (iI r)), some (.int (iI dp)), some (.int (iI j)), none, none]) (fun _ => True) trivial (fun x hx => by rw [hx]; exact ⟨f, g, hI, hnr.cg (fun k a _ _ _ => by simp [rnI, cpN, a]) (fun _ _ _ => rfl), rfl, Fr.refl⟩) rfl (fun j hj hv hk => ?_) (fun hv => ?_)
  · refine V_fix (fun h9 hh9 => ?_)
    obtain ⟨f', g', hN9, hR9, h55, hF9⟩ := hh9
    obtain ⟨hA, hB⟩ := id hN9
    obtain ⟨h1, h2, h3, h4⟩ := hR9.2.2.1 q hq.1 hq.2
    rw [rnI_1 S q (6 * r + c) dp 4 (by decide) j] at h1 h3
    have e4 := h3 j (by omega) (by omega)
    rw [rnI_1 S q (6 * r + c) dp 5 (by decide) j, rnI_1 S q (6 * r + c) dp 6 (by decide) j, rnI_1 S q (6 * r + c) dp 7 (by decide) j, rnI_1 S q (6 * r + c) dp 8 (by decide) j] at e4
    obtain ⟨e5, e6, e7, e8⟩ := id e4
    have hg9 := hgg j (by omega)
    have ho9 := hoo j (by omega)
    have hrg9 := hrg j (by omega)
    have w2 := hwp.2.1 q hq.1 hq.2
    obtain ⟨s1, s2, s3, s4, s5, s6, s7, s8⟩ := hwp.1 (10 * q + j) (by omega) (by omega)
    have hol : (0 ≤ c + S.1 6 (10 * q + j) ∧ c + S.1 6 (10 * q + j) ≤ 5) ∧ (0 ≤ r + S.1 7 (10 * q + j) ∧ r + S.1 7 (10 * q + j) ≤ 7) := by
      have ho8 := ho9
      unfold isOutB at ho8
      rw [show (6 * r + c) % 6 = c by omega, show (6 * r + c) / 6 = r by omega] at ho8
      simpa only [isCellB, isInB, Bool.not_eq_false', Bool.and_eq_true, decide_eq_true_eq] using ho8
    have hgl : goalI S q j (6 * r + c) = 6 * (r + S.1 7 (10 * q + j)) + (c + S.1 6 (10 * q + j)) := by unfold goalI atI; rw [show (6 * r + c) % 6 = c by omega, show (6 * r + c) / 6 = r by omega]
    have r24 := rnI_24 S q (6 * r + c) dp j
    have r29 := rnI_2 S q (6 * r + c) dp 29 (by decide) j
    have hst9 : maF f' f' (60 + 60 * q + 2 + 4 * j) c r = stepI (rnI S q (6 * r + c) dp j) q j (6 * r + c) := ma_step e4 (rnI_1 S q (6 * r + c) dp 5 (by decide) j) (rnI_1 S q (6 * r + c) dp 6 (by decide) j) (rnI_1 S q (6 * r + c) dp 7 (by decide) j) (rnI_1 S q (6 * r + c) dp 8 (by decide) j) hc9 hr9 hg9 ho9 (fun z z0 z1 => by rw [rnI_01 S q (6 * r + c) dp j z z0 z1]; exact hR9.2.1 z z0 z1)
    have hwj : WFp (rnI S q (6 * r + c) dp j) := WFp_of hwp (fun k k0 k1 => rnI_1 S q (6 * r + c) dp k (by omega) j) ⟨rnI_2 S q (6 * r + c) dp 22 (by decide) j, rnI_2 S q (6 * r + c) dp 23 (by decide) j, rnI_2 S q (6 * r + c) dp 27 (by decide) j, rnI_2 S q (6 * r + c) dp 28 (by decide) j⟩ hrg9
    have hsr : rI (stepI (rnI S q (6 * r + c) dp j) q j (6 * r + c)) := stepI_rI hwp (rnI_1 S q (6 * r + c) dp 8 (by decide) j) hq ⟨by omega, by omega⟩ ⟨by omega, by omega⟩ (fun z z0 z1 => by rw [rnI_01 S q (6 * r + c) dp j z z0 z1]; exact hrg9 z z0 z1) (by rw [rnI_goal]; exact hg9)
    refine V_iload6 (pc' := 5) C dL_run__3 rfl ?_
    refine V_aload0 (pc' := 6) C dL_run__5 rfl ?_
    refine V_iload2 (pc' := 7) C dL_run__6 rfl ?_
    refine V_callS (n := 1) [.int (iI q)] C (kL_macroAt (q := q)) gL_run__L_macroAt rfl ydL_macroAt ⟨Nat.le_of_ble_eq_true rfl, Nat.le_of_ble_eq_true rfl⟩ ⟨rfl, rfl⟩ rfl (fun h hh => trivial) rfl (Nat.le_of_ble_eq_true rfl) dL_run__7 ⟨Nat.le_of_ble_eq_true rfl, Nat.le_of_ble_eq_true rfl⟩ (fun h v h' hh hj9 => ?_)
    obtain ⟨r9, rfl, rfl, rfl⟩ := hj9
    refine V_weak (I2 := fun x => x = h9) (fun x hx => by rw [hx]; exact hh) ?_
    refine V_ialdE (pc' := 11) (n := 540) (f := f') (v := S.1 4 q) C 2 rfl (fun h hh => ⟨901, by rw [hh]; exact hA⟩) ⟨by omega, by omega, by omega⟩ h1 dL_run__10 rfl ?_
    refine V_icmpge (tgt := 76) C ⟨by have := hwp.2.1 q hq.1 hq.2; omega, by have := hwp.2.1 q hq.1 hq.2; omega⟩ dL_run__11 (by decide) rfl (fun c_11 => ?_) (fun c_11 => ?_)
    · exact absurd c_11 (by omega)
    · refine V_iload2 (pc' := 15) C dL_run__14 rfl ?_
      refine V_callS (n := 1) [.int (iI q)] C (kL_macroAt (q := q)) gL_run__L_macroAt rfl ydL_macroAt ⟨Nat.le_of_ble_eq_true rfl, Nat.le_of_ble_eq_true rfl⟩ ⟨rfl, rfl⟩ rfl (fun h hh => trivial) rfl (Nat.le_of_ble_eq_true rfl) dL_run__15 ⟨Nat.le_of_ble_eq_true rfl, Nat.le_of_ble_eq_true rfl⟩ (fun h v h' hh hj9 => ?_)
      obtain ⟨r9, rfl, rfl, rfl⟩ := hj9
      refine V_weak (I2 := fun x => x = h9) (fun x hx => by rw [hx]; exact hh) ?_
      refine V_iconst (pc' := 19) C dL_run__18 rfl ?_
      refine V_iadd (pc' := 20) C dL_run__19 rfl ?_
      refine V_iconst (pc' := 21) C dL_run__20 rfl ?_
      refine V_iload6 (pc' := 23) C dL_run__21 rfl ?_
      refine V_imul (pc' := 24) C dL_run__23 rfl ?_
      refine V_iadd (pc' := 25) C dL_run__24 rfl ?_
      refine V_istore7 (pc' := 27) C dL_run__25 rfl (by decide) rfl ?_
      refine V_aload0 (pc' := 28) C dL_run__27 rfl ?_
      refine V_aload0 (pc' := 29) C dL_run__28 rfl ?_
      refine V_iload7 (pc' := 31) C dL_run__29 rfl ?_
      refine V_iload3 (pc' := 32) C dL_run__31 rfl ?_
      refine V_iload4 (pc' := 34) C dL_run__32 rfl ?_
      refine V_callS (n := 5) [.ref na, .ref na, .int (iI (((60 + 60 * q) + 2) + (4 * j))), .int (iI c), .int (iI r)] C (kL_made (f := f') (w := f') (nn := 540) (tv := 901) (a := 60 + 60 * q + 2 + 4 * (j : Int)) (c := c) (r := r) hR9.1.1 (by decide) (by omega) hc9 hr9 (fun _ => by rw [e6, e7]; omega)) gL_run__L_made rfl ydL_made ⟨Nat.le_of_ble_eq_true rfl, Nat.le_of_ble_eq_true rfl⟩ ⟨rfl, rfl⟩ rfl (fun h hh => ⟨by rw [hh]; exact hA, by rw [hh]; exact hA⟩) rfl (Nat.le_of_ble_eq_true rfl) dL_run__34 ⟨Nat.le_of_ble_eq_true rfl, Nat.le_of_ble_eq_true rfl⟩ (fun h v h' hh hj9 => ?_)
      obtain ⟨r9, rfl, rfl, rfl⟩ := hj9
      rw [hst9]
      refine V_weak (I2 := fun x => x = h9) (fun x hx => by rw [hx]; exact hh) ?_
      refine V_istore8 (pc' := 39) C dL_run__37 rfl (by decide) rfl ?_
      refine V_aload0 (pc' := 40) C dL_run__39 rfl ?_
      refine V_aload1 (pc' := 41) C dL_run__40 rfl ?_
      refine V_bipush (pc' := 43) C dL_run__41 rfl (by decide) ?_
      refine V_iload3 (pc' := 44) C dL_run__43 rfl ?_
      refine V_aload0 (pc' := 45) C dL_run__44 rfl ?_
      refine V_iload7 (pc' := 47) C dL_run__45 rfl ?_
      refine V_iconst (pc' := 48) C dL_run__47 rfl ?_
      refine V_iadd (pc' := 49) C dL_run__48 rfl ?_
      refine V_ialdE (pc' := 50) (n := 540) (f := f') (v := S.1 6 (10 * q + j)) C 2 rfl (fun h hh => ⟨901, by rw [hh]; exact hA⟩) ⟨by omega, by omega, by omega⟩ e6 dL_run__49 rfl ?_
      refine V_iadd (pc' := 51) C dL_run__50 rfl ?_
      refine V_imul (pc' := 52) C dL_run__51 rfl ?_
      refine V_iload4 (pc' := 54) C dL_run__52 rfl ?_
      refine V_iadd (pc' := 55) C dL_run__54 rfl ?_
      refine V_aload0 (pc' := 56) C dL_run__55 rfl ?_
      refine V_iload7 (pc' := 58) C dL_run__56 rfl ?_
      refine V_iconst (pc' := 59) C dL_run__58 rfl ?_
      refine V_iadd (pc' := 60) C dL_run__59 rfl ?_
      refine V_ialdE (pc' := 61) (n := 540) (f := f') (v := S.1 7 (10 * q + j)) C 2 rfl (fun h hh => ⟨901, by rw [hh]; exact hA⟩) ⟨by omega, by omega, by omega⟩ e7 dL_run__60 rfl ?_
      refine V_iadd (pc' := 62) C dL_run__61 rfl ?_
      refine V_iload8 (pc' := 64) C dL_run__62 rfl ?_
      refine V_iload2 (pc' := 65) C dL_run__64 rfl ?_
      refine V_iload5 (pc' := 67) C dL_run__65 rfl ?_
      refine V_callS (n := 6) [.ref na, .ref nb, .int (iI (((8 * (c + (S.1 6 (10 * q + j)))) + r) + (S.1 7 (10 * q + j)))), .int (iI (stepI (rnI S q (6 * r + c) dp j) q j (6 * r + c))), .int (iI q), .int (iI dp)] C (kL_change (S := rnI S q (6 * r + c) dp j) (x := goalI S q j (6 * r + c)) (v := stepI (rnI S q (6 * r + c) dp j) q j (6 * r + c)) (w := q) (dp := dp) (f := f') (g := g') (by rw [hgl]; omega) hR9 hwj (by rw [r29]; omega) hg9 hsr (by omega) hd9) gL_run__L_change rfl ydL_change ⟨Nat.le_of_ble_eq_true rfl, Nat.le_of_ble_eq_true rfl⟩ ⟨rfl, rfl⟩ rfl (fun h hh => by rw [hh]; exact hN9) rfl (Nat.le_of_ble_eq_true rfl) dL_run__67 ⟨Nat.le_of_ble_eq_true rfl, Nat.le_of_ble_eq_true rfl⟩ (fun h v h' hh hj9 => ?_)
      obtain ⟨rfl, ⟨f2, g2, hN8, hR8, h58⟩, hF8⟩ := hj9
      rw [hh] at hF8
      replace hR8 : NR f2 g2 (rnI S q (6 * r + c) dp (j + 1)) := by rw [rnI_nx]; exact hR8.cg (fun k a _ _ _ => uA_n _ a _ _) (fun _ _ _ => rfl)
      refine V_iinc6 (pc' := 73) C dL_run__70 rfl (by decide) rfl ?_
      refine V_goto (tgt := 3) C dL_run__73 (by decide) ?_
      refine V_locals (L2 := [some (.ref na), some (.ref nb), some (.int (iI q)), some (.int (iI c)), some (.int (iI r)), some (.int (iI dp)), some (.int (iI ((j + 1 : Nat) : Int))), none, none]) (fun i v hv => ?_) (V_weak (fun x hx => ?_) (hk trivial))
      · rcases i with _ | _ | _ | _ | _ | _ | _ | _ | _ | i
        all_goals (first | exact hv | (simpa using hv; done) | (cases hv; done))
      · rw [hx]
        exact ⟨f2, g2, hN8, hR8, h58.trans h55, hF9.trans hF8⟩
  · refine V_fix (fun h9 hh9 => ?_)
    obtain ⟨f', g', hN9, hR9, h55, hF9⟩ := hh9
    obtain ⟨hA, hB⟩ := id hN9
    have w2 := hwp.2.1 q hq.1 hq.2
    obtain ⟨h1, h2, h3, h4⟩ := hR9.2.2.1 q hq.1 hq.2
    rw [rnI_1 S q (6 * r + c) dp 4 (by decide)] at h1
    refine V_iload6 (pc' := 5) C dL_run__3 rfl ?_
    refine V_aload0 (pc' := 6) C dL_run__5 rfl ?_
    refine V_iload2 (pc' := 7) C dL_run__6 rfl ?_
    refine V_callS (n := 1) [.int (iI q)] C (kL_macroAt (q := q)) gL_run__L_macroAt rfl ydL_macroAt ⟨Nat.le_of_ble_eq_true rfl, Nat.le_of_ble_eq_true rfl⟩ ⟨rfl, rfl⟩ rfl (fun h hh => trivial) rfl (Nat.le_of_ble_eq_true rfl) dL_run__7 ⟨Nat.le_of_ble_eq_true rfl, Nat.le_of_ble_eq_true rfl⟩ (fun h v h' hh hj9 => ?_)
    obtain ⟨r9, rfl, rfl, rfl⟩ := hj9
    refine V_weak (I2 := fun x => x = h9) (fun x hx => by rw [hx]; exact hh) ?_
    refine V_ialdE (pc' := 11) (n := 540) (f := f') (v := S.1 4 q) C 2 rfl (fun h hh => ⟨901, by rw [hh]; exact hA⟩) ⟨by omega, by omega, by omega⟩ h1 dL_run__10 rfl ?_
    refine V_icmpge (tgt := 76) C ⟨by have := hwp.2.1 q hq.1 hq.2; omega, by have := hwp.2.1 q hq.1 hq.2; omega⟩ dL_run__11 (by decide) rfl (fun c_11 => ?_) (fun c_11 => ?_)
    · exact V_endv C hr hlk (fun h' hh => ⟨rfl, ⟨f', g', by rw [hh]; exact hN9, hR9, h55⟩, by rw [hh]; exact hF9⟩) ⟨Nat.le_refl _, Nat.le_refl _⟩ dL_run__76
    · exact absurd c_11 (by omega)
set_option maxHeartbeats 4000000 in
set_option maxRecDepth 100000 in
theorem kL_rule_ {c r : Int} (hf : rgA f) (hr8 : NRr f S) (h51 : f 51 = S.2 23) (hwp : WFp S) (hc9 : 0 ≤ c ∧ c < 6) (hr9 : 0 ≤ r ∧ r < 8) : Ct l yL_rule_ wsL_rule_ ({ frames := 1, cells := 0, slots := 0, locals := 23 } : Room) D (tyL cB cC cI cO cJ cD) ee [.ref na, .int (iI c), .int (iI r)] (NA cI na f) (Ji fun h z9 h' => z9 = ruledI S (6 * r + c) ∧ h' = h) (0) (0) := by
  refine Ct_of (cc := cL_rule_) (own := RL) [some (.ref na), some (.int (iI c)), some (.int (iI r)), none, none, none] (by decide) rfl rfl (Nat.le_of_ble_eq_true rfl) (fun i9 v9 h9 => argL [.ref na, .int (iI c), .int (iI r)] 3 rfl i9 v9 h9) ?_
  intro p e s m9 args below meth c9 h0 sz hI C hr hlk hinit
  have hA := hI
  have w5 := hwp.2.2.2.2.1
  refine V_bipush (pc' := 2) C dL_rule__0 rfl (by decide) ?_
  refine V_istore3 (pc' := 3) C dL_rule__2 rfl (by decide) rfl ?_
  refine V_for0 (N := 10) (fun _ => fun x => x = h0) (fun j => [some (.ref na), some (.int (iI c)), some (.int (iI r)), some (.int (iI (9 - (j : Int)))), none, none]) (fun j => ∀ z : Nat, (z : Int) < S.2 23 → isWithinB (6 * r + c) (S.1 12 z) (S.1 13 z) = true → S.1 15 z ≤ 9 - (j : Int)) (fun z hz _ => by have := hwp.2.2.2.1 z (by omega) (by omega); omega) (fun h q => q) rfl (fun j hj hv hk => ?_) (fun hv => ?_)
  · have hvo := hv
    refine V_iload3 (pc' := 4) C dL_rule__3 rfl ?_
    refine V_iflt (tgt := 66) C (by omega) dL_rule__4 (by decide) rfl (fun c_4 => ?_) (fun c_4 => ?_)
    · exact absurd c_4 (by omega)
    · refine V_iconst (pc' := 8) C dL_rule__7 rfl ?_
      refine V_istore4 (pc' := 10) C dL_rule__8 rfl (by decide) rfl ?_
      refine V_for0 (N := (S.2 23).toNat) (fun _ => fun x => x = h0) (fun k => [some (.ref na), some (.int (iI c)), some (.int (iI r)), some (.int (iI (9 - (j : Int)))), some (.int (iI k)), none]) (fun k => ∀ z : Nat, z < k → ¬ (isWithinB (6 * r + c) (S.1 12 z) (S.1 13 z) = true ∧ S.1 15 z = 9 - (j : Int))) (fun z hz => absurd hz (Nat.not_lt_zero z)) (fun h q => q) rfl (fun k hj hv hk => ?_) (fun hv => ?_)
      · obtain ⟨e0, e1, e2, e3, e4, e5⟩ := hr8 k (by omega) (by omega)
        have hwk := wi_within (f := f) (a := 420 + 6 * (k : Int)) e0 e1 e2 e3 hc9 hr9
        refine V_iload4 (pc' := 12) C dL_rule__10 rfl ?_
        refine V_aload0 (pc' := 13) C dL_rule__12 rfl ?_
        refine V_bipush (pc' := 15) C dL_rule__13 rfl (by decide) ?_
        refine V_ialdE (pc' := 16) (n := 540) (f := f) (v := S.2 23) C 2 rfl (fun h hh => ⟨901, by rw [hh]; exact hA⟩) ⟨by omega, by omega, by omega⟩ h51 dL_rule__15 rfl ?_
        refine V_icmpge (tgt := 60) C ⟨by omega, by omega⟩ dL_rule__16 (by decide) rfl (fun c_16 => ?_) (fun c_16 => ?_)
        · exact absurd c_16 (by omega)
        · refine V_sipush (pc' := 22) C dL_rule__19 rfl (by decide) ?_
          refine V_bipush (pc' := 24) C dL_rule__22 rfl (by decide) ?_
          refine V_iload4 (pc' := 26) C dL_rule__24 rfl ?_
          refine V_imul (pc' := 27) C dL_rule__26 rfl ?_
          refine V_iadd (pc' := 28) C dL_rule__27 rfl ?_
          refine V_istore5 (pc' := 30) C dL_rule__28 rfl (by decide) rfl ?_
          refine V_aload0 (pc' := 31) C dL_rule__30 rfl ?_
          refine V_iload5 (pc' := 33) C dL_rule__31 rfl ?_
          refine V_iconst (pc' := 34) C dL_rule__33 rfl ?_
          refine V_iadd (pc' := 35) C dL_rule__34 rfl ?_
          refine V_iald (pc' := 36) (n := 540) (f := f) C 2 rfl (fun h hh => ⟨901, by rw [hh]; exact hA⟩) ⟨by omega, by omega, by omega⟩ dL_rule__35 rfl ?_
          refine V_iload3 (pc' := 37) C dL_rule__36 rfl ?_
          refine V_icmpne (tgt := 54) C ⟨hf _ (by omega), by omega⟩ dL_rule__37 (by decide) rfl (fun c_37 => ?_) (fun c_37 => ?_)
          · refine V_iinc4 (pc' := 57) C dL_rule__54 rfl (by decide) rfl ?_
            refine V_goto (tgt := 10) C dL_rule__57 (by decide) ?_
            refine V_locals (L2 := [some (.ref na), some (.int (iI c)), some (.int (iI r)), some (.int (iI (9 - (j : Int)))), some (.int (iI ((k + 1 : Nat) : Int))), none]) (fun i v hv => ?_) (hk (fun z hz qz => ?_))
            · rcases i with _ | _ | _ | _ | _ | _ | i
              all_goals (first | exact hv | (simpa using hv; done) | (cases hv; done))
            · by_cases qk : z = k
              · subst qk
                first | exact c_37 (by rw [e5]; exact qz.2) | (rw [hwk] at c_48; rw [qz.1] at c_48; cases c_48)
              · exact hv z (by omega) qz
          · refine V_aload0 (pc' := 41) C dL_rule__40 rfl ?_
            refine V_iload5 (pc' := 43) C dL_rule__41 rfl ?_
            refine V_iload1 (pc' := 44) C dL_rule__43 rfl ?_
            refine V_iload2 (pc' := 45) C dL_rule__44 rfl ?_
            refine V_callS (n := 4) [.ref na, .int (iI (420 + (6 * k))), .int (iI c), .int (iI r)] C (kL_isWithin (a := (420 + (6 * k))) (c := c) (r := r) (f := f) hf (by omega) ⟨by omega, by omega⟩) gL_rule__L_isWithin rfl ydL_isWithin ⟨Nat.le_of_ble_eq_true rfl, Nat.le_of_ble_eq_true rfl⟩ ⟨rfl, rfl⟩ rfl (fun h hh => by rw [hh]; exact hA) rfl (Nat.le_of_ble_eq_true rfl) dL_rule__45 ⟨Nat.le_of_ble_eq_true rfl, Nat.le_of_ble_eq_true rfl⟩ (fun h v h' hh hj9 => ?_)
            obtain ⟨r9, rfl, rfl, rfl⟩ := hj9
            refine V_weak (I2 := fun x => x = h0) (fun x hx => by rw [hx]; exact hh) ?_
            refine V_ifeqB (tgt := 54) C dL_rule__48 (by decide) rfl (fun c_48 => ?_) (fun c_48 => ?_)
            · refine V_iinc4 (pc' := 57) C dL_rule__54 rfl (by decide) rfl ?_
              refine V_goto (tgt := 10) C dL_rule__57 (by decide) ?_
              refine V_locals (L2 := [some (.ref na), some (.int (iI c)), some (.int (iI r)), some (.int (iI (9 - (j : Int)))), some (.int (iI ((k + 1 : Nat) : Int))), none]) (fun i v hv => ?_) (hk (fun z hz qz => ?_))
              · rcases i with _ | _ | _ | _ | _ | _ | i
                all_goals (first | exact hv | (simpa using hv; done) | (cases hv; done))
              · by_cases qk : z = k
                · subst qk
                  first | exact c_37 (by rw [e5]; exact qz.2) | (rw [hwk] at c_48; rw [qz.1] at c_48; cases c_48)
                · exact hv z (by omega) qz
            · refine V_iload4 (pc' := 53) C dL_rule__51 rfl ?_
              have hq9 : isWithinB (6 * r + c) (S.1 12 k) (S.1 13 k) = true := by rw [← hwk]; exact c_48
              have he9 : S.1 15 k = 9 - (j : Int) := by rw [← e5]; first | exact c_37 | exact Classical.not_not.mp c_37
              have hz9 : ruledI S (6 * r + c) = k := by
                unfold ruledI
                rw [show (S.2 23).toNat = k + 1 + ((S.2 23).toNat - k - 1) by omega]
                refine ruN_first hq9 (fun z hz qz => ?_) _ (fun z hz qz => ?_)
                · have a1 := hvo z (by omega) qz
                  have a3 : S.1 15 z ≠ 9 - (j : Int) := fun q => hv z hz ⟨qz, q⟩
                  omega
                · have a1 := hvo z (by omega) qz
                  omega
              exact V_end C hr hlk (fun h' hh => ⟨_, rfl, hz9.symm, hh⟩) ⟨Nat.le_refl _, Nat.le_refl _⟩ dL_rule__53
      · refine V_iload4 (pc' := 12) C dL_rule__10 rfl ?_
        refine V_aload0 (pc' := 13) C dL_rule__12 rfl ?_
        refine V_bipush (pc' := 15) C dL_rule__13 rfl (by decide) ?_
        refine V_ialdE (pc' := 16) (n := 540) (f := f) (v := S.2 23) C 2 rfl (fun h hh => ⟨901, by rw [hh]; exact hA⟩) ⟨by omega, by omega, by omega⟩ h51 dL_rule__15 rfl ?_
        refine V_icmpge (tgt := 60) C ⟨by omega, by omega⟩ dL_rule__16 (by decide) rfl (fun c_16 => ?_) (fun c_16 => ?_)
        · refine V_iinc3 (pc' := 63) C dL_rule__60 rfl (by decide) rfl ?_
          refine V_goto (tgt := 3) C dL_rule__63 (by decide) ?_
          refine V_locals (L2 := [some (.ref na), some (.int (iI c)), some (.int (iI r)), some (.int (iI (9 - ((j + 1 : Nat) : Int)))), none, none]) (fun i v hv => ?_) (hk (fun z hz qz => ?_))
          · rcases i with _ | _ | _ | _ | _ | _ | i
            all_goals (first | exact hv | (rw [show (9 : Int) - ((j + 1 : Nat) : Int) = 9 - (j : Int) + (-1) by omega] at hv; exact hv) | (simpa using hv; done) | (cases hv; done))
          · have a1 := hvo z hz qz
            have a2 := hv z (by omega)
            have a3 : S.1 15 z ≠ 9 - (j : Int) := fun q => a2 ⟨qz, q⟩
            omega
        · exact absurd c_16 (by omega)
  · refine V_iload3 (pc' := 4) C dL_rule__3 rfl ?_
    refine V_iflt (tgt := 66) C (by omega) dL_rule__4 (by decide) rfl (fun c_4 => ?_) (fun c_4 => ?_)
    · refine V_iconst (pc' := 67) C dL_rule__66 rfl ?_
      have hz9 : ruledI S (6 * r + c) = -1 := by
        unfold ruledI
        refine ruN_none _ (fun z hz qz => ?_)
        have a1 := hv z (by omega) qz
        have a2 := hwp.2.2.2.1 z (by omega) (by omega)
        omega
      exact V_end C hr hlk (fun h' hh => ⟨_, rfl, hz9.symm, hh⟩) ⟨Nat.le_refl _, Nat.le_refl _⟩ dL_rule__67
    · exact absurd c_4 (by omega)
end

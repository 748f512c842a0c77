/-! lists -/
def LH (cO : ClassId) (ee : Nat × Nat) (la t : Nat) (md : Int) (ar : Option Nat) (sn : Int) (f : Nat → Option Nat) (h : Hp) : Prop := h la = some (t, .inr (4, [.int (iI md), .ref (ar.getD ee.1), .int (iI sn)])) ∧ (∀ q, ar = some q → h q = some (t + 10, .inl (cO, qA 10 f))) ∧ (ar = none → sn = 0 ∧ ∀ i, f i = none) ∧ 0 ≤ sn ∧ sn ≤ 10
/-- a list's tags -/
def tL (t : Nat) : Nat → Prop := fun u => u = t ∨ u = t + 10
theorem LH.fr {cO : ClassId} {ee : Nat × Nat} {la t : Nat} {md : Int} {ar : Option Nat} {sn : Int} {f : Nat → Option Nat} {h h' : Hp} {T : Nat → Prop} (H : LH cO ee la t md ar sn f h) (hF : Fr T h h') (h1 : ¬ T t) (h2 : ¬ T (t + 10)) : LH cO ee la t md ar sn f h' := ⟨hF _ _ _ H.1 h1, fun q hq => hF _ _ _ (H.2.1 q hq) h2, H.2.2⟩
theorem LH.ne {cO : ClassId} {ee : Nat × Nat} {la t : Nat} {md : Int} {q : Nat} {sn : Int} {f : Nat → Option Nat} {h : Hp} (H : LH cO ee la t md (some q) sn f h) : la ≠ q := fun z => by
  have := H.1
  rw [z, H.2.1 q rfl] at this
  cases this
theorem ydJ3_checkIndex_8e157 : yJ3_checkIndex_8e157.cls ≠ "java/lang/invoke/MethodHandle" ∧ yJ3_checkIndex_8e157.cls ≠ "java/lang/invoke/VarHandle" ∧ (parseMethodDescriptor yJ3_checkIndex_8e157.desc).map (fun d => d.parameters.length) = some 3 := by decide +kernel
theorem ydJ15_checkIndex_7cf53 : yJ15_checkIndex_7cf53.cls ≠ "java/lang/invoke/MethodHandle" ∧ yJ15_checkIndex_7cf53.cls ≠ "java/lang/invoke/VarHandle" ∧ (parseMethodDescriptor yJ15_checkIndex_7cf53.desc).map (fun d => d.parameters.length) = some 2 := by decide +kernel
theorem ydJx4a65c_size_8abf5 : yJx4a65c_size_8abf5.cls = RJx4a65c ∧ yJx4a65c_size_8abf5.cls ≠ "java/lang/invoke/MethodHandle" ∧ yJx4a65c_size_8abf5.cls ≠ "java/lang/invoke/VarHandle" ∧ (parseMethodDescriptor yJx4a65c_size_8abf5.desc).map (fun d => d.parameters.length) = some 0 := by decide +kernel
theorem ydJx4a65c_elementData_915e3 : yJx4a65c_elementData_915e3.cls = RJx4a65c ∧ yJx4a65c_elementData_915e3.cls ≠ "java/lang/invoke/MethodHandle" ∧ yJx4a65c_elementData_915e3.cls ≠ "java/lang/invoke/VarHandle" ∧ (parseMethodDescriptor yJx4a65c_elementData_915e3.desc).map (fun d => d.parameters.length) = some 1 := by decide +kernel
theorem ydJx4a65c_get_915e3 : yJx4a65c_get_915e3.cls = RJx4a65c ∧ yJx4a65c_get_915e3.cls ≠ "java/lang/invoke/MethodHandle" ∧ yJx4a65c_get_915e3.cls ≠ "java/lang/invoke/VarHandle" ∧ (parseMethodDescriptor yJx4a65c_get_915e3.desc).map (fun d => d.parameters.length) = some 1 := by decide +kernel
section
variable {l : Launch} {D : va_G} {cB cC cI cO cJ cD : ClassId} {ee : Nat × Nat} {la t : Nat} {md sn : Int} {ar : Option Nat} {f : Nat → Option Nat}
set_option maxHeartbeats 4000000 in
set_option maxRecDepth 100000 in
theorem kJ3_checkIndex_8e157 (i n : Int) (h : 0 ≤ i ∧ i < n ∧ n ≤ 2147483647) : Ct l yJ3_checkIndex_8e157 wsJ3_checkIndex_8e157 ({ frames := 0, cells := 0, slots := 0, locals := 0 } : Room) D (tyL cB cC cI cO cJ cD) ee [.int (iI i), .int (iI n), .null] (fun _ => True) (Ji fun h z h' => z = i ∧ h' = h) 0 0 := by
  refine Ct_of (cc := cJ3_checkIndex_8e157) (own := RJ3) [some (.int (iI i)), some (.int (iI n)), some (.null)] (by decide) rfl rfl (Nat.le_of_ble_eq_true rfl) (fun i9 v9 h9 => argL [.int (iI i), .int (iI n), .null] 0 rfl i9 v9 h9) ?_
  intro p e s m9 args below meth c9 h0 sz hI C hr hlk hinit
  refine V_iload0 (pc' := 1) C dJ3_checkIndex_8e157_0 rfl ?_
  refine V_iflt (tgt := 9) C (by omega) dJ3_checkIndex_8e157_1 (by decide) rfl (fun c_1 => ?_) (fun c_1 => ?_)
  · exact absurd c_1 (by omega)
  · refine V_iload0 (pc' := 5) C dJ3_checkIndex_8e157_4 rfl ?_
    refine V_iload1 (pc' := 6) C dJ3_checkIndex_8e157_5 rfl ?_
    refine V_icmplt (tgt := 16) C (by omega) dJ3_checkIndex_8e157_6 (by decide) rfl (fun c_6 => ?_) (fun c_6 => ?_)
    · refine V_iload0 (pc' := 17) C dJ3_checkIndex_8e157_16 rfl ?_
      exact sEnd C hr hlk ⟨Nat.le_refl _, Nat.le_refl _⟩ dJ3_checkIndex_8e157_17 rfl
    · exact absurd c_6 (by omega)
set_option maxHeartbeats 4000000 in
set_option maxRecDepth 100000 in
theorem kJ15_checkIndex_7cf53 (i n : Int) (h : 0 ≤ i ∧ i < n ∧ n ≤ 2147483647) : Ct l yJ15_checkIndex_7cf53 wsJ15_checkIndex_7cf53 ({ frames := 1, cells := 0, slots := 0, locals := 22 } : Room) D (tyL cB cC cI cO cJ cD) ee [.int (iI i), .int (iI n)] (fun _ => True) (Ji fun h z h' => z = i ∧ h' = h) 0 0 := by
  refine Ct_of (cc := cJ15_checkIndex_7cf53) (own := RJ15) [some (.int (iI i)), some (.int (iI n))] (by decide) rfl rfl (Nat.le_of_ble_eq_true rfl) (fun i9 v9 h9 => argL [.int (iI i), .int (iI n)] 0 rfl i9 v9 h9) ?_
  intro p e s m9 args below meth c9 h0 sz hI C hr hlk hinit
  refine V_iload0 (pc' := 1) C dJ15_checkIndex_7cf53_0 rfl ?_
  refine V_iload1 (pc' := 2) C dJ15_checkIndex_7cf53_1 rfl ?_
  refine V_null (pc' := 3) C dJ15_checkIndex_7cf53_2 rfl ?_
  refine sCall3 (pc' := 6) C (kJ3_checkIndex_8e157 i n h) gJ15_checkIndex_7cf53_J3_checkIndex_8e157 rfl ydJ3_checkIndex_8e157 ⟨Nat.le_of_ble_eq_true rfl, Nat.le_of_ble_eq_true rfl⟩ ⟨rfl, rfl⟩ (Nat.le_of_ble_eq_true rfl) dJ15_checkIndex_7cf53_3 ⟨Nat.zero_le _, Nat.zero_le _⟩ rfl ?_
  exact sEnd C hr hlk ⟨Nat.le_refl _, Nat.le_refl _⟩ dJ15_checkIndex_7cf53_6 rfl
set_option maxHeartbeats 4000000 in
set_option maxRecDepth 100000 in
theorem kJx4a65c_size_8abf5 : Ct l yJx4a65c_size_8abf5 wsJx4a65c_size_8abf5 ({ frames := 0, cells := 0, slots := 0, locals := 0 } : Room) D (tyL cB cC cI cO cJ cD) ee [.ref la] (LH cO ee la t md ar sn f) (Ji fun h z h' => z = sn ∧ h' = h) 0 0 := by
  refine Ct_of (cc := cJx4a65c_size_8abf5) (own := RJx4a65c) [some (.ref la)] (by decide) rfl rfl (Nat.le_of_ble_eq_true rfl) (fun i9 v9 h9 => argL [.ref la] 0 rfl i9 v9 h9) ?_
  intro p e s m9 args below meth c9 h0 sz hI C hr hlk hinit
  have hin : ∀ w ∈ wsJx4a65c0, w ∈ wsJx4a65c_size_8abf5 := by decide +kernel
  refine V_weak (I2 := fun x => LH cO ee la t md ar sn f x ∧ x = h0) (fun x hx => ⟨by rw [hx]; exact hI, hx⟩) ?_
  refine V_aload0 (pc' := 1) C dJx4a65c_size_8abf5_0 rfl ?_
  refine V_getf (pc' := 4) (T := TJx4a65c) (N := 3) (ci := 4) C hin rfl 2 (by decide) (by decide +kernel) (fun h hh => ⟨t, _, hh.1.1, rfl⟩) dJx4a65c_size_8abf5_1 rfl ?_
  exact V_end C hr hlk (fun h' hh => ⟨_, rfl, rfl, hh.2⟩) ⟨Nat.le_refl _, Nat.le_refl _⟩ dJx4a65c_size_8abf5_4
set_option maxHeartbeats 4000000 in
set_option maxRecDepth 100000 in
theorem kJx4a65c_elementData_915e3 {q : Nat} {i : Int} (hi : 0 ≤ i ∧ i < 10) : Ct l yJx4a65c_elementData_915e3 wsJx4a65c_elementData_915e3 ({ frames := 0, cells := 0, slots := 0, locals := 0 } : Room) D (tyL cB cC cI cO cJ cD) ee [.ref la, .int (iI i)] (LH cO ee la t md (some q) sn f) (fun h v h' => v = some (va_rf (f i.toNat)) ∧ h' = h) 0 0 := by
  refine Ct_of (cc := cJx4a65c_elementData_915e3) (own := RJx4a65c) [some (.ref la), some (.int (iI i))] (by decide) rfl rfl (Nat.le_of_ble_eq_true rfl) (fun i9 v9 h9 => argL [.ref la, .int (iI i)] 0 rfl i9 v9 h9) ?_
  intro p e s m9 args below meth c9 h0 sz hI C hr hlk hinit
  have hin : ∀ w ∈ wsJx4a65c0, w ∈ wsJx4a65c_elementData_915e3 := by decide +kernel
  refine V_weak (I2 := fun x => LH cO ee la t md (some q) sn f x ∧ x = h0) (fun x hx => ⟨by rw [hx]; exact hI, hx⟩) ?_
  refine V_aload0 (pc' := 1) C dJx4a65c_elementData_915e3_0 rfl ?_
  refine V_getf (pc' := 4) (T := TJx4a65c) (N := 3) (ci := 4) C hin rfl 1 (by decide) (by decide +kernel) (fun h hh => ⟨t, _, hh.1.1, rfl⟩) dJx4a65c_elementData_915e3_1 rfl ?_
  refine V_iload1 (pc' := 5) C dJx4a65c_elementData_915e3_4 rfl ?_
  refine V_aald (pc' := 6) (n := 10) (f := f) C 3 rfl (fun h hh => ⟨t + 10, hh.1.2.1 q rfl⟩) ⟨hi.1, hi.2, by omega⟩ dJx4a65c_elementData_915e3_5 rfl ?_
  exact V_enda C hr (Or.inl ⟨_, rfl⟩) hlk (fun h' hh => ⟨rfl, hh.2⟩) ⟨Nat.le_refl _, Nat.le_refl _⟩ dJx4a65c_elementData_915e3_6
set_option maxHeartbeats 4000000 in
set_option maxRecDepth 100000 in
theorem kJx4a65c_get_915e3 {q : Nat} {i : Int} (hi : 0 ≤ i ∧ i < sn) : Ct l yJx4a65c_get_915e3 wsJx4a65c_get_915e3 ({ frames := 2, cells := 0, slots := 0, locals := 43 } : Room) D (tyL cB cC cI cO cJ cD) ee [.ref la, .int (iI i)] (LH cO ee la t md (some q) sn f) (fun h v h' => v = some (va_rf (f i.toNat)) ∧ h' = h) 0 0 := by
  refine Ct_of (cc := cJx4a65c_get_915e3) (own := RJx4a65c) [some (.ref la), some (.int (iI i))] (by decide) rfl rfl (Nat.le_of_ble_eq_true rfl) (fun i9 v9 h9 => argL [.ref la, .int (iI i)] 0 rfl i9 v9 h9) ?_
  intro p e s m9 args below meth c9 h0 sz hI C hr hlk hinit
  have hin : ∀ w ∈ wsJx4a65c0, w ∈ wsJx4a65c_get_915e3 := by decide +kernel
  refine V_weak (I2 := fun x => LH cO ee la t md (some q) sn f x ∧ x = h0) (fun x hx => ⟨by rw [hx]; exact hI, hx⟩) ?_
  refine V_iload1 (pc' := 1) C dJx4a65c_get_915e3_0 rfl ?_
  refine V_aload0 (pc' := 2) C dJx4a65c_get_915e3_1 rfl ?_
  refine V_getf (pc' := 5) (T := TJx4a65c) (N := 3) (ci := 4) C hin rfl 2 (by decide) (by decide +kernel) (fun h hh => ⟨t, _, hh.1.1, rfl⟩) dJx4a65c_get_915e3_2 rfl ?_
  refine sCall2 (pc' := 8) C (kJ15_checkIndex_7cf53 i sn (by have := hI.2.2.2.2; omega)) gJx4a65c_get_915e3_J15_checkIndex_7cf53 rfl ydJ15_checkIndex_7cf53 ⟨Nat.le_of_ble_eq_true rfl, Nat.le_of_ble_eq_true rfl⟩ ⟨rfl, rfl⟩ (Nat.le_of_ble_eq_true rfl) dJx4a65c_get_915e3_5 ⟨Nat.zero_le _, Nat.zero_le _⟩ rfl ?_
  refine V_pop (pc' := 9) C rfl dJx4a65c_get_915e3_8 rfl ?_
  refine V_aload0 (pc' := 10) C dJx4a65c_get_915e3_9 rfl ?_
  refine V_iload1 (pc' := 11) C dJx4a65c_get_915e3_10 rfl ?_
  refine V_callV (ci := 4) (n := 1) [.int (iI i)] C (kJx4a65c_elementData_915e3 (q := q) (i := i) (by have := hI.2.2.2.2; omega)) gJx4a65c_get_915e3_Jx4a65c_elementData_915e3 rfl ydJx4a65c_elementData_915e3 ⟨Nat.le_of_ble_eq_true rfl, Nat.le_of_ble_eq_true rfl⟩ ⟨rfl, rfl⟩ rfl rfl (fun h hh => ⟨t, _, hh.1.1⟩) (fun h hh => hh.1) rfl (Nat.le_of_ble_eq_true rfl) dJx4a65c_get_915e3_11 ⟨Nat.le_of_ble_eq_true rfl, Nat.le_of_ble_eq_true rfl⟩ (fun h v h' hh hj => ?_)
  obtain ⟨rfl, rfl⟩ := hj
  refine V_weak (I2 := fun x => LH cO ee la t md (some q) sn f x ∧ x = h0) (fun x hx => by rw [hx]; exact hh) ?_
  exact V_enda C hr (Or.inl ⟨_, rfl⟩) hlk (fun h' hh => ⟨rfl, hh.2⟩) ⟨Nat.le_refl _, Nat.le_refl _⟩ dJx4a65c_get_915e3_14
end

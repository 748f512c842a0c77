/-! the text: the builder's methods -/
section
variable {cB : ClassId} {la v t : Nat} {ml n : Int} {g : Int → Int} {h : Hp}
theorem SbH.ne (H : SbH cB la v t ml n g h) : la ≠ v := fun z => by
  have := H.1
  rw [z, H.2.1] at this
  cases this
theorem SbH.cnt {n' : Int} (H : SbH cB la v t ml n g h) (h0 : 0 ≤ n' ∧ n' ≤ 16) : SbH cB la v t ml n' g (hup h la (t, .inr (1, [.ref v, iV 0, iV ml, iV n']))) := ⟨hup_s, by rw [hup_n H.ne.symm]; exact H.2.1, h0⟩
theorem SbH.mlt {m' : Int} (H : SbH cB la v t ml n g h) : SbH cB la v t m' n g (hup h la (t, .inr (1, [.ref v, iV 0, iV m', iV n]))) := ⟨hup_s, by rw [hup_n H.ne.symm]; exact H.2.1, H.2.2⟩
theorem SbH.st {g' : Int → Int} (H : SbH cB la v t ml n g h) : SbH cB la v t ml n g' (hup h v (t + 1, .inl (cB, 16, .inl (iF g')))) := ⟨by rw [hup_n H.ne]; exact H.1, hup_s, H.2.2⟩
theorem SbH.fr {h' : Hp} {T : Nat → Prop} (H : SbH cB la v t ml n g h) (hF : Fr T h h') (h1 : ¬ T t) (h2 : ¬ T (t + 1)) : SbH cB la v t ml n g h' := ⟨hF _ _ _ H.1 h1, hF _ _ _ H.2.1 h2, H.2.2⟩
end
theorem hup_hup2 {h : Hp} {a : Nat} {x y : Nat × va_E} : hup (hup h a x) a y = hup h a y := hup_hup
section VB9
variable {p : Program} {l : Launch} {e : Env} {R : Room} {s : State} {m : MethodId} {args : Array Value} {below : List Frame} {meth : Method} {c : Code} {cells slots : Nat} {Q : State → Prop} {D : va_G} {tys : List (ClassId × FieldType)} {A : Nat → Prop} {nL : Nat} {cc : ByteArray} {Ts : List Cond} {own : String} {ee : Nat}
variable {I : Hp → Prop} {pc pc' : Nat} {L : List (Option Value)} {st : List Value}
theorem V_bast9 {cB cC cI cO cJ cD : ClassId} {v tb : Nat} {G : Int → Int} {z w : Int} {h0 : Hp} (C : Cx p m c cc nL s args Ts own D (tyL cB cC cI cO cJ cD) A ee) (hz : 0 ≤ z ∧ z < 16) (hw : 0 ≤ w ∧ w < 128) (d : decode cc pc = .ok (.bastore, 1)) (e0 : pc + 1 = pc') (kk : Vx p l e R s m args below meth c cells slots Q D A nL (fun x => x = hup h0 v (tb, .inl (cB, 16, .inl (iF (upZ G z w))))) pc' L st) : Vx p l e R s m args below meth c cells slots Q D A nL (fun x => x = hup h0 v (tb, .inl (cB, 16, .inl (iF G)))) pc L (.int (iI w) :: .int (iI z) :: .ref v :: st) :=
  V_bast (n := 16) (f := G) C 0 rfl (by_nar hw) (fun h hh => ⟨tb, by rw [hh]; exact hup_s, by rw [hh, hup_hup2]⟩) ⟨hz.1, hz.2, by omega⟩ d e0 kk
end VB9
theorem szI_in {i : Int} (h : -9999 ≤ i ∧ i ≤ 9999) : 1 ≤ szI i ∧ szI i ≤ 5 := by
  unfold szI
  repeat' split
  all_goals omega
theorem ydJ4_append_cf468 : yJ4_append_cf468.cls = RJ4 ∧ yJ4_append_cf468.cls ≠ "java/lang/invoke/MethodHandle" ∧ yJ4_append_cf468.cls ≠ "java/lang/invoke/VarHandle" ∧ (parseMethodDescriptor yJ4_append_cf468.desc).map (fun d => d.parameters.length) = some 1 := by decide +kernel
theorem ydJ6_stringSize_0f7a4 : yJ6_stringSize_0f7a4.cls ≠ "java/lang/invoke/MethodHandle" ∧ yJ6_stringSize_0f7a4.cls ≠ "java/lang/invoke/VarHandle" ∧ (parseMethodDescriptor yJ6_stringSize_0f7a4.desc).map (fun d => d.parameters.length) = some 1 := by decide +kernel
theorem ydJ6_getChars_ba4f3 : yJ6_getChars_ba4f3.cls ≠ "java/lang/invoke/MethodHandle" ∧ yJ6_getChars_ba4f3.cls ≠ "java/lang/invoke/VarHandle" ∧ (parseMethodDescriptor yJ6_getChars_ba4f3.desc).map (fun d => d.parameters.length) = some 3 := by decide +kernel
theorem ydJ4_append_bf812 : yJ4_append_bf812.cls = RJ4 ∧ yJ4_append_bf812.cls ≠ "java/lang/invoke/MethodHandle" ∧ yJ4_append_bf812.cls ≠ "java/lang/invoke/VarHandle" ∧ (parseMethodDescriptor yJ4_append_bf812.desc).map (fun d => d.parameters.length) = some 1 := by decide +kernel
theorem ydJ4_setLength_d00df : yJ4_setLength_d00df.cls = RJ4 ∧ yJ4_setLength_d00df.cls ≠ "java/lang/invoke/MethodHandle" ∧ yJ4_setLength_d00df.cls ≠ "java/lang/invoke/VarHandle" ∧ (parseMethodDescriptor yJ4_setLength_d00df.desc).map (fun d => d.parameters.length) = some 1 := by decide +kernel
theorem ydJ4_length_8abf5 : yJ4_length_8abf5.cls = RJ4 ∧ yJ4_length_8abf5.cls ≠ "java/lang/invoke/MethodHandle" ∧ yJ4_length_8abf5.cls ≠ "java/lang/invoke/VarHandle" ∧ (parseMethodDescriptor yJ4_length_8abf5.desc).map (fun d => d.parameters.length) = some 0 := by decide +kernel
theorem ydJ0_checkIndex_df160 : yJ0_checkIndex_df160.cls ≠ "java/lang/invoke/MethodHandle" ∧ yJ0_checkIndex_df160.cls ≠ "java/lang/invoke/VarHandle" ∧ (parseMethodDescriptor yJ0_checkIndex_df160.desc).map (fun d => d.parameters.length) = some 2 := by decide +kernel
theorem ydJ4_charAt_5068e : yJ4_charAt_5068e.cls = RJ4 ∧ yJ4_charAt_5068e.cls ≠ "java/lang/invoke/MethodHandle" ∧ yJ4_charAt_5068e.cls ≠ "java/lang/invoke/VarHandle" ∧ (parseMethodDescriptor yJ4_charAt_5068e.desc).map (fun d => d.parameters.length) = some 1 := by decide +kernel
theorem ydJ5_init_d00df : yJ5_init_d00df.name = "<init>" ∧ yJ5_init_d00df.cls ≠ "java/lang/invoke/MethodHandle" ∧ yJ5_init_d00df.cls ≠ "java/lang/invoke/VarHandle" ∧ (parseMethodDescriptor yJ5_init_d00df.desc).map (fun d => d.parameters.length) = some 1 := by decide +kernel
theorem ydJ4_init_da8c8 : yJ4_init_da8c8.name = "<init>" ∧ yJ4_init_da8c8.cls ≠ "java/lang/invoke/MethodHandle" ∧ yJ4_init_da8c8.cls ≠ "java/lang/invoke/VarHandle" ∧ (parseMethodDescriptor yJ4_init_da8c8.desc).map (fun d => d.parameters.length) = some 0 := by decide +kernel
section
variable {l : Launch} {D : va_G} {cB cC cI cO cJ cD : ClassId} {ee la v t : Nat} {ml n : Int} {g : Int → Int}
set_option maxHeartbeats 4000000 in
set_option maxRecDepth 100000 in
theorem kJ5_ensureCapacityInternal_d00df {mn : Int} (hm : 0 ≤ mn ∧ mn ≤ 16) : Ct l yJ5_ensureCapacityInternal_d00df wsJ5_ensureCapacityInternal_d00df ({ frames := 0, cells := 0, slots := 0, locals := 0 } : Room) D (tyL cB cC cI cO cJ cD) ee [.ref la, .int (iI mn)] (SbH cB la v t ml n g) (fun h v9 h' => v9 = none ∧ h' = h) (0) (0) := by
  refine Ct_of (cc := cJ5_ensureCapacityInternal_d00df) (own := RJ5) [some (.ref la), some (.int (iI mn)), none] (by decide) rfl rfl (Nat.le_of_ble_eq_true rfl) (fun i9 v9 h9 => argL [.ref la, .int (iI mn)] 1 rfl i9 v9 h9) ?_
  intro p e s m9 args below meth c9 h0 sz hI C hr hlk hinit
  have hin : ∀ w ∈ wsJ40, w ∈ wsJ5_ensureCapacityInternal_d00df := by decide +kernel
  refine V_weak (I2 := fun x => SbH cB la v t ml n g x ∧ x = h0) (fun x hx => by subst hx; exact ⟨hI, rfl⟩) ?_
  refine V_aload0 (pc' := 1) C dJ5_ensureCapacityInternal_d00df_0 rfl ?_
  refine V_getf (pc' := 4) (T := TJ4) (N := 4) (ci := 1) C hin rfl 0 (by decide) (by decide +kernel) (fun h hh => ⟨t, _, hh.1.1, rfl⟩) dJ5_ensureCapacityInternal_d00df_1 rfl ?_
  refine V_alen (pc' := 5) (n := 16) C 0 rfl (fun h hh => ⟨t + 1, hh.1.2.1⟩) dJ5_ensureCapacityInternal_d00df_4 rfl ?_
  refine V_eq (st2 := [.int (iI 16)]) rfl ?_
  refine V_aload0 (pc' := 6) C dJ5_ensureCapacityInternal_d00df_5 rfl ?_
  refine V_getf (pc' := 9) (T := TJ4) (N := 4) (ci := 1) C hin rfl 1 (by decide) (by decide +kernel) (fun h hh => ⟨t, _, hh.1.1, rfl⟩) dJ5_ensureCapacityInternal_d00df_6 rfl ?_
  refine V_ishr0 (pc' := 10) C dJ5_ensureCapacityInternal_d00df_9 rfl ?_
  refine V_istore2 (pc' := 11) C dJ5_ensureCapacityInternal_d00df_10 rfl (by decide) rfl ?_
  refine V_iload1 (pc' := 12) C dJ5_ensureCapacityInternal_d00df_11 rfl ?_
  refine V_iload2 (pc' := 13) C dJ5_ensureCapacityInternal_d00df_12 rfl ?_
  refine V_isub (pc' := 14) C dJ5_ensureCapacityInternal_d00df_13 rfl ?_
  refine V_ifle (tgt := 38) C (by omega) dJ5_ensureCapacityInternal_d00df_14 (by decide) rfl (fun c_14 => ?_) (fun c_14 => ?_)
  · exact V_endv C hr hlk (fun h' hh => ⟨rfl, hh.2⟩) ⟨Nat.le_refl _, Nat.le_refl _⟩ dJ5_ensureCapacityInternal_d00df_38
  · exact absurd c_14 (by omega)
set_option maxHeartbeats 4000000 in
set_option maxRecDepth 100000 in
theorem kJ5_append_3fe6f {z : Int} (hz : 0 ≤ z ∧ z < 128) (hn : n < 16) : Ct l yJ5_append_3fe6f wsJ5_append_3fe6f ({ frames := 2, cells := 0, slots := 0, locals := 40 } : Room) D (tyL cB cC cI cO cJ cD) ee [.ref la, .int (iI z)] (SbH cB la v t ml n g) (fun h v9 h' => v9 = some (.ref la) ∧ SbH cB la v t ml (n + 1) (upZ g n z) h' ∧ Fr (tC t) h h') (0) (0) := by
  refine Ct_of (cc := cJ5_append_3fe6f) (own := RJ5) [some (.ref la), some (.int (iI z))] (by decide) rfl rfl (Nat.le_of_ble_eq_true rfl) (fun i9 v9 h9 => argL [.ref la, .int (iI z)] 0 rfl i9 v9 h9) ?_
  intro p e s m9 args below meth c9 h0 sz hI C hr hlk hinit
  have hin : ∀ w ∈ wsJ40, w ∈ wsJ5_append_3fe6f := by decide +kernel
  have hn9 := hI.2.2
  refine V_weak (I2 := fun x9 => SbH cB la v t ml n g x9 ∧ Fr (tC t) h0 x9) (fun x9 hx9 => by subst hx9; exact ⟨hI, Fr.refl⟩) ?_
  refine V_aload0 (pc' := 1) C dJ5_append_3fe6f_0 rfl ?_
  refine V_aload0 (pc' := 2) C dJ5_append_3fe6f_1 rfl ?_
  refine V_getf (pc' := 5) (T := TJ4) (N := 4) (ci := 1) C hin rfl 3 (by decide) (by decide +kernel) (fun h hh => ⟨t, _, hh.1.1, rfl⟩) dJ5_append_3fe6f_2 rfl ?_
  refine V_iconst (pc' := 6) C dJ5_append_3fe6f_5 rfl ?_
  refine V_iadd (pc' := 7) C dJ5_append_3fe6f_6 rfl ?_
  refine V_callU (ci := 1) (n := 1) [.int (iI (n + 1))] C (kJ5_ensureCapacityInternal_d00df (mn := n + 1) ⟨by omega, by omega⟩) gJ5_append_3fe6f_J5_ensureCapacityInternal_d00df_u100J4 rfl rfl (by decide +kernel) ⟨Nat.le_of_ble_eq_true rfl, Nat.le_of_ble_eq_true rfl⟩ ⟨rfl, rfl⟩ rfl rfl (fun h hh => ⟨t, _, hh.1.1⟩) (fun h hh => hh.1) rfl (Nat.le_of_ble_eq_true rfl) dJ5_append_3fe6f_7 ⟨Nat.le_of_ble_eq_true rfl, Nat.le_of_ble_eq_true rfl⟩ (fun h v9 h' hh hj9 => ?_)
  obtain ⟨rfl, rfl⟩ := hj9
  refine V_weak (I2 := fun x9 => SbH cB la v t ml n g x9 ∧ Fr (tC t) h0 x9) (fun x9 hx9 => by rw [hx9]; exact hh) ?_
  refine V_aload0 (pc' := 11) C dJ5_append_3fe6f_10 rfl ?_
  refine V_callU (ci := 1) (n := 0) [] C (kJ5_isLatin1_aae02) gJ5_append_3fe6f_J5_isLatin1_aae02_u83J4 rfl rfl (by decide +kernel) ⟨Nat.le_of_ble_eq_true rfl, Nat.le_of_ble_eq_true rfl⟩ ⟨rfl, rfl⟩ rfl rfl (fun h hh => ⟨t, _, hh.1.1⟩) (fun h hh => hh.1) rfl (Nat.le_of_ble_eq_true rfl) dJ5_append_3fe6f_11 ⟨Nat.le_of_ble_eq_true rfl, Nat.le_of_ble_eq_true rfl⟩ (fun h v9 h' hh hj9 => ?_)
  obtain ⟨r9, rfl, hj8, rfl⟩ := hj9
  rw [hj8]
  refine V_weak (I2 := fun x9 => SbH cB la v t ml n g x9 ∧ Fr (tC t) h0 x9) (fun x9 hx9 => by rw [hx9]; exact hh) ?_
  refine V_ifeqB (tgt := 45) C dJ5_append_3fe6f_14 (by decide) rfl (fun c_14 => ?_) (fun c_14 => ?_)
  · exact absurd c_14 (by decide)
  · refine V_iload1 (pc' := 18) C dJ5_append_3fe6f_17 rfl ?_
    refine sCall1 (pc' := 21) C (kJ1_canEncode_fc78d (z := z) hz) gJ5_append_3fe6f_J1_canEncode_fc78d rfl ydJ1_canEncode_fc78d ⟨Nat.le_of_ble_eq_true rfl, Nat.le_of_ble_eq_true rfl⟩ ⟨rfl, rfl⟩ (Nat.le_of_ble_eq_true rfl) dJ5_append_3fe6f_18 ⟨Nat.zero_le _, Nat.zero_le _⟩ rfl ?_
    refine V_ifeqB (tgt := 45) C dJ5_append_3fe6f_21 (by decide) rfl (fun c_21 => ?_) (fun c_21 => ?_)
    · exact absurd c_21 (by decide)
    · refine V_aload0 (pc' := 25) C dJ5_append_3fe6f_24 rfl ?_
      refine V_getf (pc' := 28) (T := TJ4) (N := 4) (ci := 1) C hin rfl 0 (by decide) (by decide +kernel) (fun h hh => ⟨t, _, hh.1.1, rfl⟩) dJ5_append_3fe6f_25 rfl ?_
      refine V_aload0 (pc' := 29) C dJ5_append_3fe6f_28 rfl ?_
      refine V_dup (pc' := 30) C rfl dJ5_append_3fe6f_29 rfl ?_
      refine V_getf (pc' := 33) (T := TJ4) (N := 4) (ci := 1) C hin rfl 3 (by decide) (by decide +kernel) (fun h hh => ⟨t, _, hh.1.1, rfl⟩) dJ5_append_3fe6f_30 rfl ?_
      refine V_dup_x1 (pc' := 34) C rfl rfl dJ5_append_3fe6f_33 rfl ?_
      refine V_iconst (pc' := 35) C dJ5_append_3fe6f_34 rfl ?_
      refine V_iadd (pc' := 36) C dJ5_append_3fe6f_35 rfl ?_
      refine V_putf (pc' := 39) (T := TJ4) (N := 4) (ci := 1) (I2 := fun x9 => SbH cB la v t ml (n + 1) g x9 ∧ Fr (tC t) h0 x9) C hin tyJ4_ok nmJ4 rfl 3 (by decide) (by decide +kernel) rfl rfl rfl (fun h hh => ⟨t, _, hh.1.1, Nat.le_of_ble_eq_true rfl, hh.1.cnt ⟨by omega, by omega⟩, hh.2.up hh.1.1 (Or.inl rfl)⟩) dJ5_append_3fe6f_36 rfl ?_
      refine V_iload1 (pc' := 40) C dJ5_append_3fe6f_39 rfl ?_
      refine V_i2b (pc' := 41) C hz dJ5_append_3fe6f_40 rfl ?_
      refine V_bast (pc' := 42) (n := 16) (f := g) (I2 := fun x9 => SbH cB la v t ml (n + 1) (upZ g n z) x9 ∧ Fr (tC t) h0 x9) C 0 rfl (by_nar hz) (fun h hh => ⟨t + 1, hh.1.2.1, hh.1.st, hh.2.up hh.1.2.1 (Or.inr rfl)⟩) ⟨by omega, by omega, by omega⟩ dJ5_append_3fe6f_41 rfl ?_
      refine V_goto (tgt := 75) C dJ5_append_3fe6f_42 (by decide) ?_
      refine V_aload0 (pc' := 76) C dJ5_append_3fe6f_75 rfl ?_
      exact V_enda (v := some la) C hr (Or.inl ⟨_, rfl⟩) hlk (fun h' hh => ⟨rfl, hh.1, hh.2⟩) ⟨Nat.le_refl _, Nat.le_refl _⟩ dJ5_append_3fe6f_76
set_option maxHeartbeats 4000000 in
set_option maxRecDepth 100000 in
theorem kJ4_append_cf468 {z : Int} (hz : 0 ≤ z ∧ z < 128) (hn : n < 16) : Ct l yJ4_append_cf468 wsJ4_append_cf468 ({ frames := 3, cells := 0, slots := 0, locals := 62 } : Room) D (tyL cB cC cI cO cJ cD) ee [.ref la, .int (iI z)] (SbH cB la v t ml n g) (fun h v9 h' => v9 = some (.ref la) ∧ SbH cB la v t ml (n + 1) (upZ g n z) h' ∧ Fr (tC t) h h') (0) (0) := by
  refine Ct_of (cc := cJ4_append_cf468) (own := RJ4) [some (.ref la), some (.int (iI z))] (by decide) rfl rfl (Nat.le_of_ble_eq_true rfl) (fun i9 v9 h9 => argL [.ref la, .int (iI z)] 0 rfl i9 v9 h9) ?_
  intro p e s m9 args below meth c9 h0 sz hI C hr hlk hinit
  refine V_weak (I2 := fun x9 => SbH cB la v t ml n g x9 ∧ Fr (tC t) h0 x9) (fun x9 hx9 => by subst hx9; exact ⟨hI, Fr.refl⟩) ?_
  refine V_aload0 (pc' := 1) C dJ4_append_cf468_0 rfl ?_
  refine V_iload1 (pc' := 2) C dJ4_append_cf468_1 rfl ?_
  refine V_callSU (ci := 1) (n := 1) [.int (iI z)] C (kJ5_append_3fe6f (z := z) hz hn) gJ4_append_cf468_J5_append_3fe6f_s50 rfl (by decide +kernel) ⟨Nat.le_of_ble_eq_true rfl, Nat.le_of_ble_eq_true rfl⟩ ⟨rfl, rfl⟩ rfl rfl (fun h hh => ⟨t, _, hh.1.1⟩) (fun h hh => hh.1) rfl (Nat.le_of_ble_eq_true rfl) dJ4_append_cf468_2 ⟨Nat.le_of_ble_eq_true rfl, Nat.le_of_ble_eq_true rfl⟩ (fun h v9 h' hh hj9 => ?_)
  obtain ⟨rfl, hj1, hj2⟩ := hj9
  refine V_weak (I2 := fun x9 => SbH cB la v t ml (n + 1) (upZ g n z) x9 ∧ Fr (tC t) h0 x9) (fun x9 hx9 => by rw [hx9]; exact ⟨hj1, hh.2.trans hj2⟩) ?_
  refine V_pop (pc' := 6) C rfl dJ4_append_cf468_5 rfl ?_
  refine V_aload0 (pc' := 7) C dJ4_append_cf468_6 rfl ?_
  exact V_enda (v := some la) C hr (Or.inl ⟨_, rfl⟩) hlk (fun h' hh => ⟨rfl, hh.1, hh.2⟩) ⟨Nat.le_refl _, Nat.le_refl _⟩ dJ4_append_cf468_7
set_option maxHeartbeats 4000000 in
set_option maxRecDepth 100000 in
theorem kJ6_stringSize_0f7a4 {i : Int} (hi : -9999 ≤ i ∧ i ≤ 9999) : Ct l yJ6_stringSize_0f7a4 wsJ6_stringSize_0f7a4 ({ frames := 0, cells := 0, slots := 0, locals := 0 } : Room) D (tyL cB cC cI cO cJ cD) ee [.int (iI i)] (fun _ => True) (Ji fun h z h' => z = szI i ∧ h' = h) (0) (0) := by
  refine Ct_of (cc := cJ6_stringSize_0f7a4) (own := RJ6) [some (.int (iI i)), none, none, none] (by decide) rfl rfl (Nat.le_of_ble_eq_true rfl) (fun i9 v9 h9 => argL [.int (iI i)] 3 rfl i9 v9 h9) ?_
  intro p e s m9 args below meth c9 h0 sz hI C hr hlk hinit
  refine V_weak (I2 := fun x => x = h0) (fun x hx => hx) ?_
  refine V_iconst (pc' := 1) C dJ6_stringSize_0f7a4_0 rfl ?_
  refine V_istore1 (pc' := 2) C dJ6_stringSize_0f7a4_1 rfl (by decide) rfl ?_
  refine V_iload0 (pc' := 3) C dJ6_stringSize_0f7a4_2 rfl ?_
  refine V_iflt (tgt := 11) C (by omega) dJ6_stringSize_0f7a4_3 (by decide) rfl (fun c_3 => ?_) (fun c_3 => ?_)
  · refine V_bipush (pc' := 13) C dJ6_stringSize_0f7a4_11 rfl (by decide) ?_
    refine V_istore2 (pc' := 14) C dJ6_stringSize_0f7a4_13 rfl (by decide) rfl ?_
    refine V_iconst (pc' := 15) C dJ6_stringSize_0f7a4_14 rfl ?_
    refine V_istore3 (pc' := 16) C dJ6_stringSize_0f7a4_15 rfl (by decide) rfl ?_
    refine V_iload3 (pc' := 17) C dJ6_stringSize_0f7a4_16 rfl ?_
    refine V_bipush (pc' := 19) C dJ6_stringSize_0f7a4_17 rfl (by decide) ?_
    refine V_icmpge (tgt := 42) C (by decide) dJ6_stringSize_0f7a4_19 (by decide) rfl (fun c_19 => ?_) (fun c_19 => ?_)
    · exact absurd c_19 (by decide)
    · refine V_iload0 (pc' := 23) C dJ6_stringSize_0f7a4_22 rfl ?_
      refine V_iload2 (pc' := 24) C dJ6_stringSize_0f7a4_23 rfl ?_
      refine V_icmple (tgt := 31) C (by omega) dJ6_stringSize_0f7a4_24 (by decide) rfl (fun c_24 => ?_) (fun c_24 => ?_)
      · refine V_bipush (pc' := 33) C dJ6_stringSize_0f7a4_31 rfl (by decide) ?_
        refine V_iload2 (pc' := 34) C dJ6_stringSize_0f7a4_33 rfl ?_
        refine V_imul (pc' := 35) C dJ6_stringSize_0f7a4_34 rfl ?_
        refine V_istore2 (pc' := 36) C dJ6_stringSize_0f7a4_35 rfl (by decide) rfl ?_
        refine V_iinc3 (pc' := 39) C dJ6_stringSize_0f7a4_36 rfl (by decide) rfl ?_
        refine V_goto (tgt := 16) C dJ6_stringSize_0f7a4_39 (by decide) ?_
        refine V_iload3 (pc' := 17) C dJ6_stringSize_0f7a4_16 rfl ?_
        refine V_bipush (pc' := 19) C dJ6_stringSize_0f7a4_17 rfl (by decide) ?_
        refine V_icmpge (tgt := 42) C (by decide) dJ6_stringSize_0f7a4_19 (by decide) rfl (fun c_19 => ?_) (fun c_19 => ?_)
        · exact absurd c_19 (by decide)
        · refine V_iload0 (pc' := 23) C dJ6_stringSize_0f7a4_22 rfl ?_
          refine V_iload2 (pc' := 24) C dJ6_stringSize_0f7a4_23 rfl ?_
          refine V_icmple (tgt := 31) C (by omega) dJ6_stringSize_0f7a4_24 (by decide) rfl (fun c_24 => ?_) (fun c_24 => ?_)
          · refine V_bipush (pc' := 33) C dJ6_stringSize_0f7a4_31 rfl (by decide) ?_
            refine V_iload2 (pc' := 34) C dJ6_stringSize_0f7a4_33 rfl ?_
            refine V_imul (pc' := 35) C dJ6_stringSize_0f7a4_34 rfl ?_
            refine V_istore2 (pc' := 36) C dJ6_stringSize_0f7a4_35 rfl (by decide) rfl ?_
            refine V_iinc3 (pc' := 39) C dJ6_stringSize_0f7a4_36 rfl (by decide) rfl ?_
            refine V_goto (tgt := 16) C dJ6_stringSize_0f7a4_39 (by decide) ?_
            refine V_iload3 (pc' := 17) C dJ6_stringSize_0f7a4_16 rfl ?_
            refine V_bipush (pc' := 19) C dJ6_stringSize_0f7a4_17 rfl (by decide) ?_
            refine V_icmpge (tgt := 42) C (by decide) dJ6_stringSize_0f7a4_19 (by decide) rfl (fun c_19 => ?_) (fun c_19 => ?_)
            · exact absurd c_19 (by decide)
            · refine V_iload0 (pc' := 23) C dJ6_stringSize_0f7a4_22 rfl ?_
              refine V_iload2 (pc' := 24) C dJ6_stringSize_0f7a4_23 rfl ?_
              refine V_icmple (tgt := 31) C (by omega) dJ6_stringSize_0f7a4_24 (by decide) rfl (fun c_24 => ?_) (fun c_24 => ?_)
              · refine V_bipush (pc' := 33) C dJ6_stringSize_0f7a4_31 rfl (by decide) ?_
                refine V_iload2 (pc' := 34) C dJ6_stringSize_0f7a4_33 rfl ?_
                refine V_imul (pc' := 35) C dJ6_stringSize_0f7a4_34 rfl ?_
                refine V_istore2 (pc' := 36) C dJ6_stringSize_0f7a4_35 rfl (by decide) rfl ?_
                refine V_iinc3 (pc' := 39) C dJ6_stringSize_0f7a4_36 rfl (by decide) rfl ?_
                refine V_goto (tgt := 16) C dJ6_stringSize_0f7a4_39 (by decide) ?_
                refine V_iload3 (pc' := 17) C dJ6_stringSize_0f7a4_16 rfl ?_
                refine V_bipush (pc' := 19) C dJ6_stringSize_0f7a4_17 rfl (by decide) ?_
                refine V_icmpge (tgt := 42) C (by decide) dJ6_stringSize_0f7a4_19 (by decide) rfl (fun c_19 => ?_) (fun c_19 => ?_)
                · exact absurd c_19 (by decide)
                · refine V_iload0 (pc' := 23) C dJ6_stringSize_0f7a4_22 rfl ?_
                  refine V_iload2 (pc' := 24) C dJ6_stringSize_0f7a4_23 rfl ?_
                  refine V_icmple (tgt := 31) C (by omega) dJ6_stringSize_0f7a4_24 (by decide) rfl (fun c_24 => ?_) (fun c_24 => ?_)
                  · exact absurd c_24 (by omega)
                  · refine V_iload3 (pc' := 28) C dJ6_stringSize_0f7a4_27 rfl ?_
                    refine V_iload1 (pc' := 29) C dJ6_stringSize_0f7a4_28 rfl ?_
                    refine V_iadd (pc' := 30) C dJ6_stringSize_0f7a4_29 rfl ?_
                    exact V_end C hr hlk (fun h' hh => ⟨_, rfl, by unfold szI absI; repeat' split <;> omega, hh⟩) ⟨Nat.le_refl _, Nat.le_refl _⟩ dJ6_stringSize_0f7a4_30
              · refine V_iload3 (pc' := 28) C dJ6_stringSize_0f7a4_27 rfl ?_
                refine V_iload1 (pc' := 29) C dJ6_stringSize_0f7a4_28 rfl ?_
                refine V_iadd (pc' := 30) C dJ6_stringSize_0f7a4_29 rfl ?_
                exact V_end C hr hlk (fun h' hh => ⟨_, rfl, by unfold szI absI; repeat' split <;> omega, hh⟩) ⟨Nat.le_refl _, Nat.le_refl _⟩ dJ6_stringSize_0f7a4_30
          · refine V_iload3 (pc' := 28) C dJ6_stringSize_0f7a4_27 rfl ?_
            refine V_iload1 (pc' := 29) C dJ6_stringSize_0f7a4_28 rfl ?_
            refine V_iadd (pc' := 30) C dJ6_stringSize_0f7a4_29 rfl ?_
            exact V_end C hr hlk (fun h' hh => ⟨_, rfl, by unfold szI absI; repeat' split <;> omega, hh⟩) ⟨Nat.le_refl _, Nat.le_refl _⟩ dJ6_stringSize_0f7a4_30
      · refine V_iload3 (pc' := 28) C dJ6_stringSize_0f7a4_27 rfl ?_
        refine V_iload1 (pc' := 29) C dJ6_stringSize_0f7a4_28 rfl ?_
        refine V_iadd (pc' := 30) C dJ6_stringSize_0f7a4_29 rfl ?_
        exact V_end C hr hlk (fun h' hh => ⟨_, rfl, by unfold szI absI; repeat' split <;> omega, hh⟩) ⟨Nat.le_refl _, Nat.le_refl _⟩ dJ6_stringSize_0f7a4_30
  · refine V_iconst (pc' := 7) C dJ6_stringSize_0f7a4_6 rfl ?_
    refine V_istore1 (pc' := 8) C dJ6_stringSize_0f7a4_7 rfl (by decide) rfl ?_
    refine V_iload0 (pc' := 9) C dJ6_stringSize_0f7a4_8 rfl ?_
    refine V_ineg (pc' := 10) C dJ6_stringSize_0f7a4_9 rfl ?_
    refine V_istore0 (pc' := 11) C dJ6_stringSize_0f7a4_10 rfl (by decide) ?_
    refine V_bipush (pc' := 13) C dJ6_stringSize_0f7a4_11 rfl (by decide) ?_
    refine V_istore2 (pc' := 14) C dJ6_stringSize_0f7a4_13 rfl (by decide) rfl ?_
    refine V_iconst (pc' := 15) C dJ6_stringSize_0f7a4_14 rfl ?_
    refine V_istore3 (pc' := 16) C dJ6_stringSize_0f7a4_15 rfl (by decide) rfl ?_
    refine V_iload3 (pc' := 17) C dJ6_stringSize_0f7a4_16 rfl ?_
    refine V_bipush (pc' := 19) C dJ6_stringSize_0f7a4_17 rfl (by decide) ?_
    refine V_icmpge (tgt := 42) C (by decide) dJ6_stringSize_0f7a4_19 (by decide) rfl (fun c_19 => ?_) (fun c_19 => ?_)
    · exact absurd c_19 (by decide)
    · refine V_iload0 (pc' := 23) C dJ6_stringSize_0f7a4_22 rfl ?_
      refine V_iload2 (pc' := 24) C dJ6_stringSize_0f7a4_23 rfl ?_
      refine V_icmple (tgt := 31) C (by omega) dJ6_stringSize_0f7a4_24 (by decide) rfl (fun c_24 => ?_) (fun c_24 => ?_)
      · refine V_bipush (pc' := 33) C dJ6_stringSize_0f7a4_31 rfl (by decide) ?_
        refine V_iload2 (pc' := 34) C dJ6_stringSize_0f7a4_33 rfl ?_
        refine V_imul (pc' := 35) C dJ6_stringSize_0f7a4_34 rfl ?_
        refine V_istore2 (pc' := 36) C dJ6_stringSize_0f7a4_35 rfl (by decide) rfl ?_
        refine V_iinc3 (pc' := 39) C dJ6_stringSize_0f7a4_36 rfl (by decide) rfl ?_
        refine V_goto (tgt := 16) C dJ6_stringSize_0f7a4_39 (by decide) ?_
        refine V_iload3 (pc' := 17) C dJ6_stringSize_0f7a4_16 rfl ?_
        refine V_bipush (pc' := 19) C dJ6_stringSize_0f7a4_17 rfl (by decide) ?_
        refine V_icmpge (tgt := 42) C (by decide) dJ6_stringSize_0f7a4_19 (by decide) rfl (fun c_19 => ?_) (fun c_19 => ?_)
        · exact absurd c_19 (by decide)
        · refine V_iload0 (pc' := 23) C dJ6_stringSize_0f7a4_22 rfl ?_
          refine V_iload2 (pc' := 24) C dJ6_stringSize_0f7a4_23 rfl ?_
          refine V_icmple (tgt := 31) C (by omega) dJ6_stringSize_0f7a4_24 (by decide) rfl (fun c_24 => ?_) (fun c_24 => ?_)
          · refine V_bipush (pc' := 33) C dJ6_stringSize_0f7a4_31 rfl (by decide) ?_
            refine V_iload2 (pc' := 34) C dJ6_stringSize_0f7a4_33 rfl ?_
            refine V_imul (pc' := 35) C dJ6_stringSize_0f7a4_34 rfl ?_
            refine V_istore2 (pc' := 36) C dJ6_stringSize_0f7a4_35 rfl (by decide) rfl ?_
            refine V_iinc3 (pc' := 39) C dJ6_stringSize_0f7a4_36 rfl (by decide) rfl ?_
            refine V_goto (tgt := 16) C dJ6_stringSize_0f7a4_39 (by decide) ?_
            refine V_iload3 (pc' := 17) C dJ6_stringSize_0f7a4_16 rfl ?_
            refine V_bipush (pc' := 19) C dJ6_stringSize_0f7a4_17 rfl (by decide) ?_
            refine V_icmpge (tgt := 42) C (by decide) dJ6_stringSize_0f7a4_19 (by decide) rfl (fun c_19 => ?_) (fun c_19 => ?_)
            · exact absurd c_19 (by decide)
            · refine V_iload0 (pc' := 23) C dJ6_stringSize_0f7a4_22 rfl ?_
              refine V_iload2 (pc' := 24) C dJ6_stringSize_0f7a4_23 rfl ?_
              refine V_icmple (tgt := 31) C (by omega) dJ6_stringSize_0f7a4_24 (by decide) rfl (fun c_24 => ?_) (fun c_24 => ?_)
              · refine V_bipush (pc' := 33) C dJ6_stringSize_0f7a4_31 rfl (by decide) ?_
                refine V_iload2 (pc' := 34) C dJ6_stringSize_0f7a4_33 rfl ?_
                refine V_imul (pc' := 35) C dJ6_stringSize_0f7a4_34 rfl ?_
                refine V_istore2 (pc' := 36) C dJ6_stringSize_0f7a4_35 rfl (by decide) rfl ?_
                refine V_iinc3 (pc' := 39) C dJ6_stringSize_0f7a4_36 rfl (by decide) rfl ?_
                refine V_goto (tgt := 16) C dJ6_stringSize_0f7a4_39 (by decide) ?_
                refine V_iload3 (pc' := 17) C dJ6_stringSize_0f7a4_16 rfl ?_
                refine V_bipush (pc' := 19) C dJ6_stringSize_0f7a4_17 rfl (by decide) ?_
                refine V_icmpge (tgt := 42) C (by decide) dJ6_stringSize_0f7a4_19 (by decide) rfl (fun c_19 => ?_) (fun c_19 => ?_)
                · exact absurd c_19 (by decide)
                · refine V_iload0 (pc' := 23) C dJ6_stringSize_0f7a4_22 rfl ?_
                  refine V_iload2 (pc' := 24) C dJ6_stringSize_0f7a4_23 rfl ?_
                  refine V_icmple (tgt := 31) C (by omega) dJ6_stringSize_0f7a4_24 (by decide) rfl (fun c_24 => ?_) (fun c_24 => ?_)
                  · exact absurd c_24 (by omega)
                  · refine V_iload3 (pc' := 28) C dJ6_stringSize_0f7a4_27 rfl ?_
                    refine V_iload1 (pc' := 29) C dJ6_stringSize_0f7a4_28 rfl ?_
                    refine V_iadd (pc' := 30) C dJ6_stringSize_0f7a4_29 rfl ?_
                    exact V_end C hr hlk (fun h' hh => ⟨_, rfl, by unfold szI absI; repeat' split <;> omega, hh⟩) ⟨Nat.le_refl _, Nat.le_refl _⟩ dJ6_stringSize_0f7a4_30
              · refine V_iload3 (pc' := 28) C dJ6_stringSize_0f7a4_27 rfl ?_
                refine V_iload1 (pc' := 29) C dJ6_stringSize_0f7a4_28 rfl ?_
                refine V_iadd (pc' := 30) C dJ6_stringSize_0f7a4_29 rfl ?_
                exact V_end C hr hlk (fun h' hh => ⟨_, rfl, by unfold szI absI; repeat' split <;> omega, hh⟩) ⟨Nat.le_refl _, Nat.le_refl _⟩ dJ6_stringSize_0f7a4_30
          · refine V_iload3 (pc' := 28) C dJ6_stringSize_0f7a4_27 rfl ?_
            refine V_iload1 (pc' := 29) C dJ6_stringSize_0f7a4_28 rfl ?_
            refine V_iadd (pc' := 30) C dJ6_stringSize_0f7a4_29 rfl ?_
            exact V_end C hr hlk (fun h' hh => ⟨_, rfl, by unfold szI absI; repeat' split <;> omega, hh⟩) ⟨Nat.le_refl _, Nat.le_refl _⟩ dJ6_stringSize_0f7a4_30
      · refine V_iload3 (pc' := 28) C dJ6_stringSize_0f7a4_27 rfl ?_
        refine V_iload1 (pc' := 29) C dJ6_stringSize_0f7a4_28 rfl ?_
        refine V_iadd (pc' := 30) C dJ6_stringSize_0f7a4_29 rfl ?_
        exact V_end C hr hlk (fun h' hh => ⟨_, rfl, by unfold szI absI; repeat' split <;> omega, hh⟩) ⟨Nat.le_refl _, Nat.le_refl _⟩ dJ6_stringSize_0f7a4_30
set_option maxHeartbeats 16000000 in
set_option maxRecDepth 100000 in
theorem kJ6_getChars_ba4f3_p {v tb : Nat} {n po a : Int} {g : Int → Int} (ha : 0 ≤ a ∧ a ≤ 9999) (h1 : 0 ≤ n) (hp : po = n + szI (a) ∧ po ≤ 16) : Ct l yJ6_getChars_ba4f3 wsJ6_getChars_ba4f3 ({ frames := 0, cells := 0, slots := 0, locals := 0 } : Room) D (tyL cB cC cI cO cJ cD) ee [.int (iI (a)), .int (iI po), .ref v] (fun x => x v = some (tb, .inl (cB, 16, .inl (iF g)))) (fun h v9 h' => (∃ z, v9 = some (.int (iI z))) ∧ ∃ g', nmW g g' n (a) ∧ h' = hup h v (tb, .inl (cB, 16, .inl (iF g')))) (0) (0) := by
  refine Ct_of (cc := cJ6_getChars_ba4f3) (own := RJ6) [some (.int (iI a)), some (.int (iI po)), some (.ref v), none, none, none, none] (by decide) rfl rfl (Nat.le_of_ble_eq_true rfl) (fun i9 v9 h9 => argL [.int (iI (a)), .int (iI po), .ref v] 4 rfl i9 v9 h9) ?_
  intro p e s m9 args below meth c9 h0 sz hI C hr hlk hinit
  have hsz := szI_p (a := a) (by omega)
  obtain ⟨hp1, hp2⟩ := hp
  rw [hsz] at hp1
  have hpl : n + 1 ≤ po := by
    rw [hp1]
    repeat' split
    all_goals omega
  have hpa : (10 ≤ a → n + 2 ≤ po) ∧ (100 ≤ a → n + 3 ≤ po) ∧ (1000 ≤ a → n + 4 ≤ po) := by
    rw [hp1]
    refine ⟨fun _ => ?_, fun _ => ?_, fun _ => ?_⟩ <;> (repeat' split) <;> omega
  have hpb : (a < 10 → po = n + 1) ∧ (10 ≤ a ∧ a < 100 → po = n + 2) ∧ (100 ≤ a ∧ a < 1000 → po = n + 3) ∧ (1000 ≤ a → po = n + 4) := by
    rw [hp1]
    refine ⟨fun _ => ?_, fun _ => ?_, fun _ => ?_, fun _ => ?_⟩ <;> (repeat' split) <;> omega
  clear hsz hp1
  obtain ⟨hpa1, hpa2, hpa3⟩ := hpa
  obtain ⟨hpb1, hpb2, hpb3, hpb4⟩ := hpb
  refine V_weak (I2 := fun x => x = hup h0 v (tb, .inl (cB, 16, .inl (iF g)))) (fun x hx => by rw [hx]; exact (hup_id hI).symm) ?_
  refine V_iload1 (pc' := 1) C dJ6_getChars_ba4f3_0 rfl ?_
  refine V_istore5 (pc' := 3) C dJ6_getChars_ba4f3_1 rfl (by decide) rfl ?_
  refine V_iload0 (pc' := 4) C dJ6_getChars_ba4f3_3 rfl ?_
  refine V_ifge (tgt := 11) C (by omega) dJ6_getChars_ba4f3_4 (by decide) rfl (fun c_4 => ?_) (fun c_4 => ?_)
  · refine V_iconst (pc' := 12) C dJ6_getChars_ba4f3_11 rfl ?_
    refine V_istore6 (pc' := 14) C dJ6_getChars_ba4f3_12 rfl (by decide) rfl ?_
    refine V_iload6 (pc' := 16) C dJ6_getChars_ba4f3_14 rfl ?_
    refine V_ifne (tgt := 22) C (by omega) dJ6_getChars_ba4f3_16 (by decide) rfl (fun c_16 => ?_) (fun c_16 => ?_)
    · exact absurd c_16 (by decide)
    · refine V_iload0 (pc' := 20) C dJ6_getChars_ba4f3_19 rfl ?_
      refine V_ineg (pc' := 21) C dJ6_getChars_ba4f3_20 rfl ?_
      refine V_istore0 (pc' := 22) C dJ6_getChars_ba4f3_21 rfl (by decide) ?_
      refine V_iload0 (pc' := 23) C dJ6_getChars_ba4f3_22 rfl ?_
      refine V_bipush (pc' := 25) C dJ6_getChars_ba4f3_23 rfl (by decide) ?_
      refine V_icmpgt (tgt := 72) C (by omega) dJ6_getChars_ba4f3_25 (by decide) rfl (fun c_25 => ?_) (fun c_25 => ?_)
      · refine V_aload2 (pc' := 73) C dJ6_getChars_ba4f3_72 rfl ?_
        refine V_iinc5 (pc' := 76) C dJ6_getChars_ba4f3_73 rfl (by decide) rfl ?_
        refine V_iload5 (pc' := 78) C dJ6_getChars_ba4f3_76 rfl ?_
        refine V_gets1 (pc' := 81) C (by decide +kernel) dJ6_getChars_ba4f3_78 rfl (fun t1 hT1 => ?_)
        refine V_iload0 (pc' := 82) C dJ6_getChars_ba4f3_81 rfl ?_
        refine V_ineg (pc' := 83) C dJ6_getChars_ba4f3_82 rfl ?_
        rw [Int.neg_neg]
        refine V_tb1 (pc' := 84) C hT1 (by omega) dJ6_getChars_ba4f3_83 rfl ?_
        refine V_bast9 (pc' := 85) C (by omega) (by omega) dJ6_getChars_ba4f3_84 rfl ?_
        refine V_iload0 (pc' := 86) C dJ6_getChars_ba4f3_85 rfl ?_
        refine V_bipush (pc' := 88) C dJ6_getChars_ba4f3_86 rfl (by decide) ?_
        refine V_icmpge (tgt := 104) C (by omega) dJ6_getChars_ba4f3_88 (by decide) rfl (fun c_88 => ?_) (fun c_88 => ?_)
        · refine V_iload6 (pc' := 106) C dJ6_getChars_ba4f3_104 rfl ?_
          refine V_ifeq (tgt := 118) C (by omega) dJ6_getChars_ba4f3_106 (by decide) rfl (fun c_106 => ?_) (fun c_106 => ?_)
          · refine V_iload5 (pc' := 120) C dJ6_getChars_ba4f3_118 rfl ?_
            exact V_end C hr hlk (fun h' hh => ⟨⟨_, rfl⟩, _, by first | exact lf_p1 h1 ⟨by omega, by omega⟩ (by omega) | exact lf_p2 h1 ⟨by omega, by omega⟩ (by omega) | exact lf_p3 h1 ⟨by omega, by omega⟩ (by omega) | exact lf_p4 h1 ⟨by omega, by omega⟩ (by omega), hh⟩) ⟨Nat.le_refl _, Nat.le_refl _⟩ dJ6_getChars_ba4f3_120
          · exact absurd c_106 (by decide)
        · refine V_aload2 (pc' := 92) C dJ6_getChars_ba4f3_91 rfl ?_
          refine V_iinc5 (pc' := 95) C dJ6_getChars_ba4f3_92 rfl (by decide) rfl ?_
          refine V_iload5 (pc' := 97) C dJ6_getChars_ba4f3_95 rfl ?_
          refine V_gets10 (pc' := 100) C (by decide +kernel) dJ6_getChars_ba4f3_97 rfl (fun t10 hT10 => ?_)
          refine V_iload0 (pc' := 101) C dJ6_getChars_ba4f3_100 rfl ?_
          refine V_ineg (pc' := 102) C dJ6_getChars_ba4f3_101 rfl ?_
          rw [Int.neg_neg]
          refine V_tb10 (pc' := 103) C hT10 (by omega) dJ6_getChars_ba4f3_102 rfl ?_
          refine V_bast9 (pc' := 104) C (by omega) (by omega) dJ6_getChars_ba4f3_103 rfl ?_
          refine V_iload6 (pc' := 106) C dJ6_getChars_ba4f3_104 rfl ?_
          refine V_ifeq (tgt := 118) C (by omega) dJ6_getChars_ba4f3_106 (by decide) rfl (fun c_106 => ?_) (fun c_106 => ?_)
          · refine V_iload5 (pc' := 120) C dJ6_getChars_ba4f3_118 rfl ?_
            exact V_end C hr hlk (fun h' hh => ⟨⟨_, rfl⟩, _, by first | exact lf_p1 h1 ⟨by omega, by omega⟩ (by omega) | exact lf_p2 h1 ⟨by omega, by omega⟩ (by omega) | exact lf_p3 h1 ⟨by omega, by omega⟩ (by omega) | exact lf_p4 h1 ⟨by omega, by omega⟩ (by omega), hh⟩) ⟨Nat.le_refl _, Nat.le_refl _⟩ dJ6_getChars_ba4f3_120
          · exact absurd c_106 (by decide)
      · refine V_iload0 (pc' := 29) C dJ6_getChars_ba4f3_28 rfl ?_
        refine V_bipush (pc' := 31) C dJ6_getChars_ba4f3_29 rfl (by decide) ?_
        refine V_idivN (pc' := 32) C ⟨by omega, by omega⟩ dJ6_getChars_ba4f3_31 rfl ?_
        refine V_istore3 (pc' := 33) C dJ6_getChars_ba4f3_32 rfl (by decide) rfl ?_
        refine V_iload3 (pc' := 34) C dJ6_getChars_ba4f3_33 rfl ?_
        refine V_bipush (pc' := 36) C dJ6_getChars_ba4f3_34 rfl (by decide) ?_
        refine V_imul (pc' := 37) C dJ6_getChars_ba4f3_36 rfl ?_
        refine V_iload0 (pc' := 38) C dJ6_getChars_ba4f3_37 rfl ?_
        refine V_isub (pc' := 39) C dJ6_getChars_ba4f3_38 rfl ?_
        rw [show -(a / 100) * 100 - -a = a % 100 by omega]
        refine V_istore4 (pc' := 41) C dJ6_getChars_ba4f3_39 rfl (by decide) rfl ?_
        refine V_iload3 (pc' := 42) C dJ6_getChars_ba4f3_41 rfl ?_
        refine V_istore0 (pc' := 43) C dJ6_getChars_ba4f3_42 rfl (by decide) ?_
        refine V_aload2 (pc' := 44) C dJ6_getChars_ba4f3_43 rfl ?_
        refine V_iinc5 (pc' := 47) C dJ6_getChars_ba4f3_44 rfl (by decide) rfl ?_
        refine V_iload5 (pc' := 49) C dJ6_getChars_ba4f3_47 rfl ?_
        refine V_gets1 (pc' := 52) C (by decide +kernel) dJ6_getChars_ba4f3_49 rfl (fun t1 hT1 => ?_)
        refine V_iload4 (pc' := 54) C dJ6_getChars_ba4f3_52 rfl ?_
        refine V_tb1 (pc' := 55) C hT1 (by omega) dJ6_getChars_ba4f3_54 rfl ?_
        refine V_bast9 (pc' := 56) C (by omega) (by omega) dJ6_getChars_ba4f3_55 rfl ?_
        refine V_aload2 (pc' := 57) C dJ6_getChars_ba4f3_56 rfl ?_
        refine V_iinc5 (pc' := 60) C dJ6_getChars_ba4f3_57 rfl (by decide) rfl ?_
        refine V_iload5 (pc' := 62) C dJ6_getChars_ba4f3_60 rfl ?_
        refine V_gets10 (pc' := 65) C (by decide +kernel) dJ6_getChars_ba4f3_62 rfl (fun t10 hT10 => ?_)
        refine V_iload4 (pc' := 67) C dJ6_getChars_ba4f3_65 rfl ?_
        refine V_tb10 (pc' := 68) C hT10 (by omega) dJ6_getChars_ba4f3_67 rfl ?_
        refine V_bast9 (pc' := 69) C (by omega) (by omega) dJ6_getChars_ba4f3_68 rfl ?_
        refine V_goto (tgt := 22) C dJ6_getChars_ba4f3_69 (by decide) ?_
        refine V_iload0 (pc' := 23) C dJ6_getChars_ba4f3_22 rfl ?_
        refine V_bipush (pc' := 25) C dJ6_getChars_ba4f3_23 rfl (by decide) ?_
        refine V_icmpgt (tgt := 72) C (by omega) dJ6_getChars_ba4f3_25 (by decide) rfl (fun c_25 => ?_) (fun c_25 => ?_)
        · refine V_aload2 (pc' := 73) C dJ6_getChars_ba4f3_72 rfl ?_
          refine V_iinc5 (pc' := 76) C dJ6_getChars_ba4f3_73 rfl (by decide) rfl ?_
          refine V_iload5 (pc' := 78) C dJ6_getChars_ba4f3_76 rfl ?_
          refine V_gets1 (pc' := 81) C (by decide +kernel) dJ6_getChars_ba4f3_78 rfl (fun t1 hT1 => ?_)
          refine V_iload0 (pc' := 82) C dJ6_getChars_ba4f3_81 rfl ?_
          refine V_ineg (pc' := 83) C dJ6_getChars_ba4f3_82 rfl ?_
          rw [Int.neg_neg]
          refine V_tb1 (pc' := 84) C hT1 (by omega) dJ6_getChars_ba4f3_83 rfl ?_
          refine V_bast9 (pc' := 85) C (by omega) (by omega) dJ6_getChars_ba4f3_84 rfl ?_
          refine V_iload0 (pc' := 86) C dJ6_getChars_ba4f3_85 rfl ?_
          refine V_bipush (pc' := 88) C dJ6_getChars_ba4f3_86 rfl (by decide) ?_
          refine V_icmpge (tgt := 104) C (by omega) dJ6_getChars_ba4f3_88 (by decide) rfl (fun c_88 => ?_) (fun c_88 => ?_)
          · refine V_iload6 (pc' := 106) C dJ6_getChars_ba4f3_104 rfl ?_
            refine V_ifeq (tgt := 118) C (by omega) dJ6_getChars_ba4f3_106 (by decide) rfl (fun c_106 => ?_) (fun c_106 => ?_)
            · refine V_iload5 (pc' := 120) C dJ6_getChars_ba4f3_118 rfl ?_
              exact V_end C hr hlk (fun h' hh => ⟨⟨_, rfl⟩, _, by first | exact lf_p1 h1 ⟨by omega, by omega⟩ (by omega) | exact lf_p2 h1 ⟨by omega, by omega⟩ (by omega) | exact lf_p3 h1 ⟨by omega, by omega⟩ (by omega) | exact lf_p4 h1 ⟨by omega, by omega⟩ (by omega), hh⟩) ⟨Nat.le_refl _, Nat.le_refl _⟩ dJ6_getChars_ba4f3_120
            · exact absurd c_106 (by decide)
          · refine V_aload2 (pc' := 92) C dJ6_getChars_ba4f3_91 rfl ?_
            refine V_iinc5 (pc' := 95) C dJ6_getChars_ba4f3_92 rfl (by decide) rfl ?_
            refine V_iload5 (pc' := 97) C dJ6_getChars_ba4f3_95 rfl ?_
            refine V_gets10 (pc' := 100) C (by decide +kernel) dJ6_getChars_ba4f3_97 rfl (fun t10 hT10 => ?_)
            refine V_iload0 (pc' := 101) C dJ6_getChars_ba4f3_100 rfl ?_
            refine V_ineg (pc' := 102) C dJ6_getChars_ba4f3_101 rfl ?_
            rw [Int.neg_neg]
            refine V_tb10 (pc' := 103) C hT10 (by omega) dJ6_getChars_ba4f3_102 rfl ?_
            refine V_bast9 (pc' := 104) C (by omega) (by omega) dJ6_getChars_ba4f3_103 rfl ?_
            refine V_iload6 (pc' := 106) C dJ6_getChars_ba4f3_104 rfl ?_
            refine V_ifeq (tgt := 118) C (by omega) dJ6_getChars_ba4f3_106 (by decide) rfl (fun c_106 => ?_) (fun c_106 => ?_)
            · refine V_iload5 (pc' := 120) C dJ6_getChars_ba4f3_118 rfl ?_
              exact V_end C hr hlk (fun h' hh => ⟨⟨_, rfl⟩, _, by first | exact lf_p1 h1 ⟨by omega, by omega⟩ (by omega) | exact lf_p2 h1 ⟨by omega, by omega⟩ (by omega) | exact lf_p3 h1 ⟨by omega, by omega⟩ (by omega) | exact lf_p4 h1 ⟨by omega, by omega⟩ (by omega), hh⟩) ⟨Nat.le_refl _, Nat.le_refl _⟩ dJ6_getChars_ba4f3_120
            · exact absurd c_106 (by decide)
        · exact absurd c_25 (by omega)
  · exact absurd c_4 (by omega)
set_option maxHeartbeats 16000000 in
set_option maxRecDepth 100000 in
theorem kJ6_getChars_ba4f3_m {v tb : Nat} {n po a : Int} {g : Int → Int} (ha : 0 < a ∧ a ≤ 9999) (h1 : 0 ≤ n) (hp : po = n + szI (-a) ∧ po ≤ 16) : Ct l yJ6_getChars_ba4f3 wsJ6_getChars_ba4f3 ({ frames := 0, cells := 0, slots := 0, locals := 0 } : Room) D (tyL cB cC cI cO cJ cD) ee [.int (iI (-a)), .int (iI po), .ref v] (fun x => x v = some (tb, .inl (cB, 16, .inl (iF g)))) (fun h v9 h' => (∃ z, v9 = some (.int (iI z))) ∧ ∃ g', nmW g g' n (-a) ∧ h' = hup h v (tb, .inl (cB, 16, .inl (iF g')))) (0) (0) := by
  refine Ct_of (cc := cJ6_getChars_ba4f3) (own := RJ6) [some (.int (iI (-a))), some (.int (iI po)), some (.ref v), none, none, none, none] (by decide) rfl rfl (Nat.le_of_ble_eq_true rfl) (fun i9 v9 h9 => argL [.int (iI (-a)), .int (iI po), .ref v] 4 rfl i9 v9 h9) ?_
  intro p e s m9 args below meth c9 h0 sz hI C hr hlk hinit
  have hsz := szI_m (a := a) (by omega)
  obtain ⟨hp1, hp2⟩ := hp
  rw [hsz] at hp1
  have hpl : n + 2 ≤ po := by
    rw [hp1]
    repeat' split
    all_goals omega
  have hpa : (10 ≤ a → n + 3 ≤ po) ∧ (100 ≤ a → n + 4 ≤ po) ∧ (1000 ≤ a → n + 5 ≤ po) := by
    rw [hp1]
    refine ⟨fun _ => ?_, fun _ => ?_, fun _ => ?_⟩ <;> (repeat' split) <;> omega
  have hpb : (a < 10 → po = n + 2) ∧ (10 ≤ a ∧ a < 100 → po = n + 3) ∧ (100 ≤ a ∧ a < 1000 → po = n + 4) ∧ (1000 ≤ a → po = n + 5) := by
    rw [hp1]
    refine ⟨fun _ => ?_, fun _ => ?_, fun _ => ?_, fun _ => ?_⟩ <;> (repeat' split) <;> omega
  clear hsz hp1
  obtain ⟨hpa1, hpa2, hpa3⟩ := hpa
  obtain ⟨hpb1, hpb2, hpb3, hpb4⟩ := hpb
  refine V_weak (I2 := fun x => x = hup h0 v (tb, .inl (cB, 16, .inl (iF g)))) (fun x hx => by rw [hx]; exact (hup_id hI).symm) ?_
  refine V_iload1 (pc' := 1) C dJ6_getChars_ba4f3_0 rfl ?_
  refine V_istore5 (pc' := 3) C dJ6_getChars_ba4f3_1 rfl (by decide) rfl ?_
  refine V_iload0 (pc' := 4) C dJ6_getChars_ba4f3_3 rfl ?_
  refine V_ifge (tgt := 11) C (by omega) dJ6_getChars_ba4f3_4 (by decide) rfl (fun c_4 => ?_) (fun c_4 => ?_)
  · exact absurd c_4 (by omega)
  · refine V_iconst (pc' := 8) C dJ6_getChars_ba4f3_7 rfl ?_
    refine V_goto (tgt := 12) C dJ6_getChars_ba4f3_8 (by decide) ?_
    refine V_istore6 (pc' := 14) C dJ6_getChars_ba4f3_12 rfl (by decide) rfl ?_
    refine V_iload6 (pc' := 16) C dJ6_getChars_ba4f3_14 rfl ?_
    refine V_ifne (tgt := 22) C (by omega) dJ6_getChars_ba4f3_16 (by decide) rfl (fun c_16 => ?_) (fun c_16 => ?_)
    · refine V_iload0 (pc' := 23) C dJ6_getChars_ba4f3_22 rfl ?_
      refine V_bipush (pc' := 25) C dJ6_getChars_ba4f3_23 rfl (by decide) ?_
      refine V_icmpgt (tgt := 72) C (by omega) dJ6_getChars_ba4f3_25 (by decide) rfl (fun c_25 => ?_) (fun c_25 => ?_)
      · refine V_aload2 (pc' := 73) C dJ6_getChars_ba4f3_72 rfl ?_
        refine V_iinc5 (pc' := 76) C dJ6_getChars_ba4f3_73 rfl (by decide) rfl ?_
        refine V_iload5 (pc' := 78) C dJ6_getChars_ba4f3_76 rfl ?_
        refine V_gets1 (pc' := 81) C (by decide +kernel) dJ6_getChars_ba4f3_78 rfl (fun t1 hT1 => ?_)
        refine V_iload0 (pc' := 82) C dJ6_getChars_ba4f3_81 rfl ?_
        refine V_ineg (pc' := 83) C dJ6_getChars_ba4f3_82 rfl ?_
        rw [Int.neg_neg]
        refine V_tb1 (pc' := 84) C hT1 (by omega) dJ6_getChars_ba4f3_83 rfl ?_
        refine V_bast9 (pc' := 85) C (by omega) (by omega) dJ6_getChars_ba4f3_84 rfl ?_
        refine V_iload0 (pc' := 86) C dJ6_getChars_ba4f3_85 rfl ?_
        refine V_bipush (pc' := 88) C dJ6_getChars_ba4f3_86 rfl (by decide) ?_
        refine V_icmpge (tgt := 104) C (by omega) dJ6_getChars_ba4f3_88 (by decide) rfl (fun c_88 => ?_) (fun c_88 => ?_)
        · refine V_iload6 (pc' := 106) C dJ6_getChars_ba4f3_104 rfl ?_
          refine V_ifeq (tgt := 118) C (by omega) dJ6_getChars_ba4f3_106 (by decide) rfl (fun c_106 => ?_) (fun c_106 => ?_)
          · exact absurd c_106 (by decide)
          · refine V_aload2 (pc' := 110) C dJ6_getChars_ba4f3_109 rfl ?_
            refine V_iinc5 (pc' := 113) C dJ6_getChars_ba4f3_110 rfl (by decide) rfl ?_
            refine V_iload5 (pc' := 115) C dJ6_getChars_ba4f3_113 rfl ?_
            refine V_bipush (pc' := 117) C dJ6_getChars_ba4f3_115 rfl (by decide) ?_
            refine V_bast9 (pc' := 118) C (by omega) (by omega) dJ6_getChars_ba4f3_117 rfl ?_
            refine V_iload5 (pc' := 120) C dJ6_getChars_ba4f3_118 rfl ?_
            exact V_end C hr hlk (fun h' hh => ⟨⟨_, rfl⟩, _, by first | exact lf_m1 h1 ⟨by omega, by omega⟩ (by omega) | exact lf_m2 h1 ⟨by omega, by omega⟩ (by omega) | exact lf_m3 h1 ⟨by omega, by omega⟩ (by omega) | exact lf_m4 h1 ⟨by omega, by omega⟩ (by omega), hh⟩) ⟨Nat.le_refl _, Nat.le_refl _⟩ dJ6_getChars_ba4f3_120
        · refine V_aload2 (pc' := 92) C dJ6_getChars_ba4f3_91 rfl ?_
          refine V_iinc5 (pc' := 95) C dJ6_getChars_ba4f3_92 rfl (by decide) rfl ?_
          refine V_iload5 (pc' := 97) C dJ6_getChars_ba4f3_95 rfl ?_
          refine V_gets10 (pc' := 100) C (by decide +kernel) dJ6_getChars_ba4f3_97 rfl (fun t10 hT10 => ?_)
          refine V_iload0 (pc' := 101) C dJ6_getChars_ba4f3_100 rfl ?_
          refine V_ineg (pc' := 102) C dJ6_getChars_ba4f3_101 rfl ?_
          rw [Int.neg_neg]
          refine V_tb10 (pc' := 103) C hT10 (by omega) dJ6_getChars_ba4f3_102 rfl ?_
          refine V_bast9 (pc' := 104) C (by omega) (by omega) dJ6_getChars_ba4f3_103 rfl ?_
          refine V_iload6 (pc' := 106) C dJ6_getChars_ba4f3_104 rfl ?_
          refine V_ifeq (tgt := 118) C (by omega) dJ6_getChars_ba4f3_106 (by decide) rfl (fun c_106 => ?_) (fun c_106 => ?_)
          · exact absurd c_106 (by decide)
          · refine V_aload2 (pc' := 110) C dJ6_getChars_ba4f3_109 rfl ?_
            refine V_iinc5 (pc' := 113) C dJ6_getChars_ba4f3_110 rfl (by decide) rfl ?_
            refine V_iload5 (pc' := 115) C dJ6_getChars_ba4f3_113 rfl ?_
            refine V_bipush (pc' := 117) C dJ6_getChars_ba4f3_115 rfl (by decide) ?_
            refine V_bast9 (pc' := 118) C (by omega) (by omega) dJ6_getChars_ba4f3_117 rfl ?_
            refine V_iload5 (pc' := 120) C dJ6_getChars_ba4f3_118 rfl ?_
            exact V_end C hr hlk (fun h' hh => ⟨⟨_, rfl⟩, _, by first | exact lf_m1 h1 ⟨by omega, by omega⟩ (by omega) | exact lf_m2 h1 ⟨by omega, by omega⟩ (by omega) | exact lf_m3 h1 ⟨by omega, by omega⟩ (by omega) | exact lf_m4 h1 ⟨by omega, by omega⟩ (by omega), hh⟩) ⟨Nat.le_refl _, Nat.le_refl _⟩ dJ6_getChars_ba4f3_120
      · refine V_iload0 (pc' := 29) C dJ6_getChars_ba4f3_28 rfl ?_
        refine V_bipush (pc' := 31) C dJ6_getChars_ba4f3_29 rfl (by decide) ?_
        refine V_idivN (pc' := 32) C ⟨by omega, by omega⟩ dJ6_getChars_ba4f3_31 rfl ?_
        refine V_istore3 (pc' := 33) C dJ6_getChars_ba4f3_32 rfl (by decide) rfl ?_
        refine V_iload3 (pc' := 34) C dJ6_getChars_ba4f3_33 rfl ?_
        refine V_bipush (pc' := 36) C dJ6_getChars_ba4f3_34 rfl (by decide) ?_
        refine V_imul (pc' := 37) C dJ6_getChars_ba4f3_36 rfl ?_
        refine V_iload0 (pc' := 38) C dJ6_getChars_ba4f3_37 rfl ?_
        refine V_isub (pc' := 39) C dJ6_getChars_ba4f3_38 rfl ?_
        rw [show -(a / 100) * 100 - -a = a % 100 by omega]
        refine V_istore4 (pc' := 41) C dJ6_getChars_ba4f3_39 rfl (by decide) rfl ?_
        refine V_iload3 (pc' := 42) C dJ6_getChars_ba4f3_41 rfl ?_
        refine V_istore0 (pc' := 43) C dJ6_getChars_ba4f3_42 rfl (by decide) ?_
        refine V_aload2 (pc' := 44) C dJ6_getChars_ba4f3_43 rfl ?_
        refine V_iinc5 (pc' := 47) C dJ6_getChars_ba4f3_44 rfl (by decide) rfl ?_
        refine V_iload5 (pc' := 49) C dJ6_getChars_ba4f3_47 rfl ?_
        refine V_gets1 (pc' := 52) C (by decide +kernel) dJ6_getChars_ba4f3_49 rfl (fun t1 hT1 => ?_)
        refine V_iload4 (pc' := 54) C dJ6_getChars_ba4f3_52 rfl ?_
        refine V_tb1 (pc' := 55) C hT1 (by omega) dJ6_getChars_ba4f3_54 rfl ?_
        refine V_bast9 (pc' := 56) C (by omega) (by omega) dJ6_getChars_ba4f3_55 rfl ?_
        refine V_aload2 (pc' := 57) C dJ6_getChars_ba4f3_56 rfl ?_
        refine V_iinc5 (pc' := 60) C dJ6_getChars_ba4f3_57 rfl (by decide) rfl ?_
        refine V_iload5 (pc' := 62) C dJ6_getChars_ba4f3_60 rfl ?_
        refine V_gets10 (pc' := 65) C (by decide +kernel) dJ6_getChars_ba4f3_62 rfl (fun t10 hT10 => ?_)
        refine V_iload4 (pc' := 67) C dJ6_getChars_ba4f3_65 rfl ?_
        refine V_tb10 (pc' := 68) C hT10 (by omega) dJ6_getChars_ba4f3_67 rfl ?_
        refine V_bast9 (pc' := 69) C (by omega) (by omega) dJ6_getChars_ba4f3_68 rfl ?_
        refine V_goto (tgt := 22) C dJ6_getChars_ba4f3_69 (by decide) ?_
        refine V_iload0 (pc' := 23) C dJ6_getChars_ba4f3_22 rfl ?_
        refine V_bipush (pc' := 25) C dJ6_getChars_ba4f3_23 rfl (by decide) ?_
        refine V_icmpgt (tgt := 72) C (by omega) dJ6_getChars_ba4f3_25 (by decide) rfl (fun c_25 => ?_) (fun c_25 => ?_)
        · refine V_aload2 (pc' := 73) C dJ6_getChars_ba4f3_72 rfl ?_
          refine V_iinc5 (pc' := 76) C dJ6_getChars_ba4f3_73 rfl (by decide) rfl ?_
          refine V_iload5 (pc' := 78) C dJ6_getChars_ba4f3_76 rfl ?_
          refine V_gets1 (pc' := 81) C (by decide +kernel) dJ6_getChars_ba4f3_78 rfl (fun t1 hT1 => ?_)
          refine V_iload0 (pc' := 82) C dJ6_getChars_ba4f3_81 rfl ?_
          refine V_ineg (pc' := 83) C dJ6_getChars_ba4f3_82 rfl ?_
          rw [Int.neg_neg]
          refine V_tb1 (pc' := 84) C hT1 (by omega) dJ6_getChars_ba4f3_83 rfl ?_
          refine V_bast9 (pc' := 85) C (by omega) (by omega) dJ6_getChars_ba4f3_84 rfl ?_
          refine V_iload0 (pc' := 86) C dJ6_getChars_ba4f3_85 rfl ?_
          refine V_bipush (pc' := 88) C dJ6_getChars_ba4f3_86 rfl (by decide) ?_
          refine V_icmpge (tgt := 104) C (by omega) dJ6_getChars_ba4f3_88 (by decide) rfl (fun c_88 => ?_) (fun c_88 => ?_)
          · refine V_iload6 (pc' := 106) C dJ6_getChars_ba4f3_104 rfl ?_
            refine V_ifeq (tgt := 118) C (by omega) dJ6_getChars_ba4f3_106 (by decide) rfl (fun c_106 => ?_) (fun c_106 => ?_)
            · exact absurd c_106 (by decide)
            · refine V_aload2 (pc' := 110) C dJ6_getChars_ba4f3_109 rfl ?_
              refine V_iinc5 (pc' := 113) C dJ6_getChars_ba4f3_110 rfl (by decide) rfl ?_
              refine V_iload5 (pc' := 115) C dJ6_getChars_ba4f3_113 rfl ?_
              refine V_bipush (pc' := 117) C dJ6_getChars_ba4f3_115 rfl (by decide) ?_
              refine V_bast9 (pc' := 118) C (by omega) (by omega) dJ6_getChars_ba4f3_117 rfl ?_
              refine V_iload5 (pc' := 120) C dJ6_getChars_ba4f3_118 rfl ?_
              exact V_end C hr hlk (fun h' hh => ⟨⟨_, rfl⟩, _, by first | exact lf_m1 h1 ⟨by omega, by omega⟩ (by omega) | exact lf_m2 h1 ⟨by omega, by omega⟩ (by omega) | exact lf_m3 h1 ⟨by omega, by omega⟩ (by omega) | exact lf_m4 h1 ⟨by omega, by omega⟩ (by omega), hh⟩) ⟨Nat.le_refl _, Nat.le_refl _⟩ dJ6_getChars_ba4f3_120
          · refine V_aload2 (pc' := 92) C dJ6_getChars_ba4f3_91 rfl ?_
            refine V_iinc5 (pc' := 95) C dJ6_getChars_ba4f3_92 rfl (by decide) rfl ?_
            refine V_iload5 (pc' := 97) C dJ6_getChars_ba4f3_95 rfl ?_
            refine V_gets10 (pc' := 100) C (by decide +kernel) dJ6_getChars_ba4f3_97 rfl (fun t10 hT10 => ?_)
            refine V_iload0 (pc' := 101) C dJ6_getChars_ba4f3_100 rfl ?_
            refine V_ineg (pc' := 102) C dJ6_getChars_ba4f3_101 rfl ?_
            rw [Int.neg_neg]
            refine V_tb10 (pc' := 103) C hT10 (by omega) dJ6_getChars_ba4f3_102 rfl ?_
            refine V_bast9 (pc' := 104) C (by omega) (by omega) dJ6_getChars_ba4f3_103 rfl ?_
            refine V_iload6 (pc' := 106) C dJ6_getChars_ba4f3_104 rfl ?_
            refine V_ifeq (tgt := 118) C (by omega) dJ6_getChars_ba4f3_106 (by decide) rfl (fun c_106 => ?_) (fun c_106 => ?_)
            · exact absurd c_106 (by decide)
            · refine V_aload2 (pc' := 110) C dJ6_getChars_ba4f3_109 rfl ?_
              refine V_iinc5 (pc' := 113) C dJ6_getChars_ba4f3_110 rfl (by decide) rfl ?_
              refine V_iload5 (pc' := 115) C dJ6_getChars_ba4f3_113 rfl ?_
              refine V_bipush (pc' := 117) C dJ6_getChars_ba4f3_115 rfl (by decide) ?_
              refine V_bast9 (pc' := 118) C (by omega) (by omega) dJ6_getChars_ba4f3_117 rfl ?_
              refine V_iload5 (pc' := 120) C dJ6_getChars_ba4f3_118 rfl ?_
              exact V_end C hr hlk (fun h' hh => ⟨⟨_, rfl⟩, _, by first | exact lf_m1 h1 ⟨by omega, by omega⟩ (by omega) | exact lf_m2 h1 ⟨by omega, by omega⟩ (by omega) | exact lf_m3 h1 ⟨by omega, by omega⟩ (by omega) | exact lf_m4 h1 ⟨by omega, by omega⟩ (by omega), hh⟩) ⟨Nat.le_refl _, Nat.le_refl _⟩ dJ6_getChars_ba4f3_120
        · exact absurd c_25 (by omega)
    · exact absurd c_16 (by decide)
theorem kJ6_gc {v tb : Nat} {n p i : Int} {g : Int → Int} (hi : -9999 ≤ i ∧ i ≤ 9999) (h1 : 0 ≤ n) (hp : p = n + szI i ∧ p ≤ 16) : Ct l yJ6_getChars_ba4f3 wsJ6_getChars_ba4f3 ({ frames := 0, cells := 0, slots := 0, locals := 0 } : Room) D (tyL cB cC cI cO cJ cD) ee [.int (iI i), .int (iI p), .ref v] (fun x => x v = some (tb, .inl (cB, 16, .inl (iF g)))) (fun h v9 h' => (∃ z, v9 = some (.int (iI z))) ∧ ∃ g', nmW g g' n i ∧ h' = hup h v (tb, .inl (cB, 16, .inl (iF g')))) 0 0 := by
  by_cases q : i < 0
  · have e : i = -(-i) := (Int.neg_neg i).symm
    rw [e] at hp ⊢
    exact kJ6_getChars_ba4f3_m ⟨by omega, by omega⟩ h1 hp
  · exact kJ6_getChars_ba4f3_p ⟨by omega, hi.2⟩ h1 hp

set_option maxHeartbeats 4000000 in
set_option maxRecDepth 100000 in
theorem kJ5_append_c97b9 {i : Int} (hi : -9999 ≤ i ∧ i ≤ 9999) (hn : n + szI i ≤ 16) : Ct l yJ5_append_c97b9 wsJ5_append_c97b9 ({ frames := 2, cells := 0, slots := 0, locals := 60 } : Room) D (tyL cB cC cI cO cJ cD) ee [.ref la, .int (iI i)] (SbH cB la v t ml n g) (fun h v9 h' => v9 = some (.ref la) ∧ (∃ g', SbH cB la v t ml (n + szI i) g' h' ∧ nmW g g' n i) ∧ Fr (tC t) h h') (0) (0) := by
  refine Ct_of (cc := cJ5_append_c97b9) (own := RJ5) [some (.ref la), some (.int (iI i)), none, none] (by decide) rfl rfl (Nat.le_of_ble_eq_true rfl) (fun i9 v9 h9 => argL [.ref la, .int (iI i)] 2 rfl i9 v9 h9) ?_
  intro p e s m9 args below meth c9 h0 sz hI C hr hlk hinit
  have hin : ∀ w ∈ wsJ40, w ∈ wsJ5_append_c97b9 := by decide +kernel
  have hn9 := hI.2.2
  have hsz := szI_in hi
  refine V_weak (I2 := fun x9 => SbH cB la v t ml n g x9 ∧ Fr (tC t) h0 x9) (fun x9 hx9 => by subst hx9; exact ⟨hI, Fr.refl⟩) ?_
  refine V_aload0 (pc' := 1) C dJ5_append_c97b9_0 rfl ?_
  refine V_getf (pc' := 4) (T := TJ4) (N := 4) (ci := 1) C hin rfl 3 (by decide) (by decide +kernel) (fun h hh => ⟨t, _, hh.1.1, rfl⟩) dJ5_append_c97b9_1 rfl ?_
  refine V_istore2 (pc' := 5) C dJ5_append_c97b9_4 rfl (by decide) rfl ?_
  refine V_iload2 (pc' := 6) C dJ5_append_c97b9_5 rfl ?_
  refine V_iload1 (pc' := 7) C dJ5_append_c97b9_6 rfl ?_
  refine sCall1 (pc' := 10) C (kJ6_stringSize_0f7a4 (i := i) hi) gJ5_append_c97b9_J6_stringSize_0f7a4 rfl ydJ6_stringSize_0f7a4 ⟨Nat.le_of_ble_eq_true rfl, Nat.le_of_ble_eq_true rfl⟩ ⟨rfl, rfl⟩ (Nat.le_of_ble_eq_true rfl) dJ5_append_c97b9_7 ⟨Nat.zero_le _, Nat.zero_le _⟩ rfl ?_
  refine V_iadd (pc' := 11) C dJ5_append_c97b9_10 rfl ?_
  refine V_istore3 (pc' := 12) C dJ5_append_c97b9_11 rfl (by decide) rfl ?_
  refine V_aload0 (pc' := 13) C dJ5_append_c97b9_12 rfl ?_
  refine V_iload3 (pc' := 14) C dJ5_append_c97b9_13 rfl ?_
  refine V_callU (ci := 1) (n := 1) [.int (iI (n + szI i))] C (kJ5_ensureCapacityInternal_d00df (mn := n + szI i) ⟨by omega, by omega⟩) gJ5_append_c97b9_J5_ensureCapacityInternal_d00df_u100J4 rfl rfl (by decide +kernel) ⟨Nat.le_of_ble_eq_true rfl, Nat.le_of_ble_eq_true rfl⟩ ⟨rfl, rfl⟩ rfl rfl (fun h hh => ⟨t, _, hh.1.1⟩) (fun h hh => hh.1) rfl (Nat.le_of_ble_eq_true rfl) dJ5_append_c97b9_14 ⟨Nat.le_of_ble_eq_true rfl, Nat.le_of_ble_eq_true rfl⟩ (fun h v9 h' hh hj9 => ?_)
  obtain ⟨rfl, rfl⟩ := hj9
  refine V_weak (I2 := fun x9 => SbH cB la v t ml n g x9 ∧ Fr (tC t) h0 x9) (fun x9 hx9 => by rw [hx9]; exact hh) ?_
  refine V_aload0 (pc' := 18) C dJ5_append_c97b9_17 rfl ?_
  refine V_callU (ci := 1) (n := 0) [] C (kJ5_isLatin1_aae02) gJ5_append_c97b9_J5_isLatin1_aae02_u83J4 rfl rfl (by decide +kernel) ⟨Nat.le_of_ble_eq_true rfl, Nat.le_of_ble_eq_true rfl⟩ ⟨rfl, rfl⟩ rfl rfl (fun h hh => ⟨t, _, hh.1.1⟩) (fun h hh => hh.1) rfl (Nat.le_of_ble_eq_true rfl) dJ5_append_c97b9_18 ⟨Nat.le_of_ble_eq_true rfl, Nat.le_of_ble_eq_true rfl⟩ (fun h v9 h' hh hj9 => ?_)
  obtain ⟨r9, rfl, hj8, rfl⟩ := hj9
  rw [hj8]
  refine V_weak (I2 := fun x9 => SbH cB la v t ml n g x9 ∧ Fr (tC t) h0 x9) (fun x9 hx9 => by rw [hx9]; exact hh) ?_
  refine V_ifeqB (tgt := 37) C dJ5_append_c97b9_21 (by decide) rfl (fun c_21 => ?_) (fun c_21 => ?_)
  · exact absurd c_21 (by decide)
  · refine V_iload1 (pc' := 25) C dJ5_append_c97b9_24 rfl ?_
    refine V_iload3 (pc' := 26) C dJ5_append_c97b9_25 rfl ?_
    refine V_aload0 (pc' := 27) C dJ5_append_c97b9_26 rfl ?_
    refine V_getf (pc' := 30) (T := TJ4) (N := 4) (ci := 1) C hin rfl 0 (by decide) (by decide +kernel) (fun h hh => ⟨t, _, hh.1.1, rfl⟩) dJ5_append_c97b9_27 rfl ?_
    refine V_callS (n := 3) [.int (iI i), .int (iI (n + szI i)), .ref v] C (kJ6_gc (tb := t + 1) (n := n) (g := g) hi hn9.1 ⟨rfl, hn⟩) gJ5_append_c97b9_J6_getChars_ba4f3 rfl ydJ6_getChars_ba4f3 ⟨Nat.le_of_ble_eq_true rfl, Nat.le_of_ble_eq_true rfl⟩ ⟨rfl, rfl⟩ rfl (fun h hh => hh.1.2.1) rfl (Nat.le_of_ble_eq_true rfl) dJ5_append_c97b9_30 ⟨Nat.le_of_ble_eq_true rfl, Nat.le_of_ble_eq_true rfl⟩ (fun h v9 h' hh hj9 => ?_)
    obtain ⟨⟨z9, rfl⟩, g9, hj1, rfl⟩ := hj9
    refine V_weak (I2 := fun x9 => SbH cB la v t ml n g9 x9 ∧ Fr (tC t) h0 x9) (fun x9 hx9 => by rw [hx9]; exact ⟨hh.1.st, hh.2.up hh.1.2.1 (Or.inr rfl)⟩) ?_
    refine V_pop (pc' := 34) C rfl dJ5_append_c97b9_33 rfl ?_
    refine V_goto (tgt := 48) C dJ5_append_c97b9_34 (by decide) ?_
    refine V_aload0 (pc' := 49) C dJ5_append_c97b9_48 rfl ?_
    refine V_iload3 (pc' := 50) C dJ5_append_c97b9_49 rfl ?_
    refine V_putf (pc' := 53) (T := TJ4) (N := 4) (ci := 1) (I2 := fun x9 => SbH cB la v t ml (n + szI i) g9 x9 ∧ Fr (tC t) h0 x9) C hin tyJ4_ok nmJ4 rfl 3 (by decide) (by decide +kernel) rfl rfl rfl (fun h hh => ⟨t, _, hh.1.1, Nat.le_of_ble_eq_true rfl, hh.1.cnt ⟨by omega, by omega⟩, hh.2.up hh.1.1 (Or.inl rfl)⟩) dJ5_append_c97b9_50 rfl ?_
    refine V_aload0 (pc' := 54) C dJ5_append_c97b9_53 rfl ?_
    exact V_enda (v := some la) C hr (Or.inl ⟨_, rfl⟩) hlk (fun h' hh => ⟨rfl, ⟨g9, hh.1, hj1⟩, hh.2⟩) ⟨Nat.le_refl _, Nat.le_refl _⟩ dJ5_append_c97b9_54
set_option maxHeartbeats 4000000 in
set_option maxRecDepth 100000 in
theorem kJ4_append_bf812 {i : Int} (hi : -9999 ≤ i ∧ i ≤ 9999) (hn : n + szI i ≤ 16) : Ct l yJ4_append_bf812 wsJ4_append_bf812 ({ frames := 3, cells := 0, slots := 0, locals := 90 } : Room) D (tyL cB cC cI cO cJ cD) ee [.ref la, .int (iI i)] (SbH cB la v t ml n g) (fun h v9 h' => v9 = some (.ref la) ∧ (∃ g', SbH cB la v t ml (n + szI i) g' h' ∧ nmW g g' n i) ∧ Fr (tC t) h h') (0) (0) := by
  refine Ct_of (cc := cJ4_append_bf812) (own := RJ4) [some (.ref la), some (.int (iI i))] (by decide) rfl rfl (Nat.le_of_ble_eq_true rfl) (fun i9 v9 h9 => argL [.ref la, .int (iI i)] 0 rfl i9 v9 h9) ?_
  intro p e s m9 args below meth c9 h0 sz hI C hr hlk hinit
  refine V_weak (I2 := fun x9 => SbH cB la v t ml n g x9 ∧ Fr (tC t) h0 x9) (fun x9 hx9 => by subst hx9; exact ⟨hI, Fr.refl⟩) ?_
  refine V_aload0 (pc' := 1) C dJ4_append_bf812_0 rfl ?_
  refine V_iload1 (pc' := 2) C dJ4_append_bf812_1 rfl ?_
  refine V_callSU (ci := 1) (n := 1) [.int (iI i)] C (kJ5_append_c97b9 (i := i) hi hn) gJ4_append_bf812_J5_append_c97b9_s53 rfl (by decide +kernel) ⟨Nat.le_of_ble_eq_true rfl, Nat.le_of_ble_eq_true rfl⟩ ⟨rfl, rfl⟩ rfl rfl (fun h hh => ⟨t, _, hh.1.1⟩) (fun h hh => hh.1) rfl (Nat.le_of_ble_eq_true rfl) dJ4_append_bf812_2 ⟨Nat.le_of_ble_eq_true rfl, Nat.le_of_ble_eq_true rfl⟩ (fun h v9 h' hh hj9 => ?_)
  obtain ⟨rfl, ⟨g9, hj1, hj3⟩, hj2⟩ := hj9
  refine V_weak (I2 := fun x9 => SbH cB la v t ml (n + szI i) g9 x9 ∧ Fr (tC t) h0 x9) (fun x9 hx9 => by rw [hx9]; exact ⟨hj1, hh.2.trans hj2⟩) ?_
  refine V_pop (pc' := 6) C rfl dJ4_append_bf812_5 rfl ?_
  refine V_aload0 (pc' := 7) C dJ4_append_bf812_6 rfl ?_
  exact V_enda (v := some la) C hr (Or.inl ⟨_, rfl⟩) hlk (fun h' hh => ⟨rfl, ⟨g9, hh.1, hj3⟩, hh.2⟩) ⟨Nat.le_refl _, Nat.le_refl _⟩ dJ4_append_bf812_7
set_option maxHeartbeats 4000000 in
set_option maxRecDepth 100000 in
theorem kJ5_setLength_d00df : Ct l yJ5_setLength_d00df wsJ5_setLength_d00df ({ frames := 2, cells := 0, slots := 0, locals := 40 } : Room) D (tyL cB cC cI cO cJ cD) ee [.ref la, .int (iI 0)] (SbH cB la v t ml n g) (fun h v9 h' => v9 = none ∧ (∃ m', SbH cB la v t m' 0 g h') ∧ Fr (tC t) h h') (0) (0) := by
  refine Ct_of (cc := cJ5_setLength_d00df) (own := RJ5) [some (.ref la), some (.int (iI 0))] (by decide) rfl rfl (Nat.le_of_ble_eq_true rfl) (fun i9 v9 h9 => argL [.ref la, .int (iI 0)] 0 rfl i9 v9 h9) ?_
  intro p e s m9 args below meth c9 h0 sz hI C hr hlk hinit
  have hin : ∀ w ∈ wsJ40, w ∈ wsJ5_setLength_d00df := by decide +kernel
  have hn9 := hI.2.2
  refine V_weak (I2 := fun x9 => SbH cB la v t ml n g x9 ∧ Fr (tC t) h0 x9) (fun x9 hx9 => by subst hx9; exact ⟨hI, Fr.refl⟩) ?_
  refine V_iload1 (pc' := 1) C dJ5_setLength_d00df_0 rfl ?_
  refine V_ifge (tgt := 13) C (by omega) dJ5_setLength_d00df_1 (by decide) rfl (fun c_1 => ?_) (fun c_1 => ?_)
  · refine V_aload0 (pc' := 14) C dJ5_setLength_d00df_13 rfl ?_
    refine V_iload1 (pc' := 15) C dJ5_setLength_d00df_14 rfl ?_
    refine V_callU (ci := 1) (n := 1) [.int (iI 0)] C (kJ5_ensureCapacityInternal_d00df (mn := 0) ⟨by decide, by decide⟩) gJ5_setLength_d00df_J5_ensureCapacityInternal_d00df_u100J4 rfl rfl (by decide +kernel) ⟨Nat.le_of_ble_eq_true rfl, Nat.le_of_ble_eq_true rfl⟩ ⟨rfl, rfl⟩ rfl rfl (fun h hh => ⟨t, _, hh.1.1⟩) (fun h hh => hh.1) rfl (Nat.le_of_ble_eq_true rfl) dJ5_setLength_d00df_15 ⟨Nat.le_of_ble_eq_true rfl, Nat.le_of_ble_eq_true rfl⟩ (fun h v9 h' hh hj9 => ?_)
    obtain ⟨rfl, rfl⟩ := hj9
    refine V_weak (I2 := fun x9 => SbH cB la v t ml n g x9 ∧ Fr (tC t) h0 x9) (fun x9 hx9 => by rw [hx9]; exact hh) ?_
    refine V_aload0 (pc' := 19) C dJ5_setLength_d00df_18 rfl ?_
    refine V_getf (pc' := 22) (T := TJ4) (N := 4) (ci := 1) C hin rfl 3 (by decide) (by decide +kernel) (fun h hh => ⟨t, _, hh.1.1, rfl⟩) dJ5_setLength_d00df_19 rfl ?_
    refine V_iload1 (pc' := 23) C dJ5_setLength_d00df_22 rfl ?_
    refine V_icmpge (tgt := 63) C (by omega) dJ5_setLength_d00df_23 (by decide) rfl (fun c_23 => ?_) (fun c_23 => ?_)
    · refine V_aload0 (pc' := 64) C dJ5_setLength_d00df_63 rfl ?_
      refine V_getf (pc' := 67) (T := TJ4) (N := 4) (ci := 1) C hin rfl 3 (by decide) (by decide +kernel) (fun h hh => ⟨t, _, hh.1.1, rfl⟩) dJ5_setLength_d00df_64 rfl ?_
      refine V_iload1 (pc' := 68) C dJ5_setLength_d00df_67 rfl ?_
      refine V_icmple (tgt := 76) C (by omega) dJ5_setLength_d00df_68 (by decide) rfl (fun c_68 => ?_) (fun c_68 => ?_)
      · refine V_aload0 (pc' := 77) C dJ5_setLength_d00df_76 rfl ?_
        refine V_iload1 (pc' := 78) C dJ5_setLength_d00df_77 rfl ?_
        refine V_putf (pc' := 81) (T := TJ4) (N := 4) (ci := 1) (I2 := fun x9 => SbH cB la v t ml 0 g x9 ∧ Fr (tC t) h0 x9) C hin tyJ4_ok nmJ4 rfl 3 (by decide) (by decide +kernel) rfl rfl rfl (fun h hh => ⟨t, _, hh.1.1, Nat.le_of_ble_eq_true rfl, hh.1.cnt ⟨by omega, by omega⟩, hh.2.up hh.1.1 (Or.inl rfl)⟩) dJ5_setLength_d00df_78 rfl ?_
        exact V_endv C hr hlk (fun h' hh => ⟨rfl, ⟨_, hh.1⟩, hh.2⟩) ⟨Nat.le_refl _, Nat.le_refl _⟩ dJ5_setLength_d00df_81
      · refine V_aload0 (pc' := 72) C dJ5_setLength_d00df_71 rfl ?_
        refine V_iconst (pc' := 73) C dJ5_setLength_d00df_72 rfl ?_
        refine V_putf (pc' := 76) (T := TJ4) (N := 4) (ci := 1) (I2 := fun x9 => SbH cB la v t 1 n g x9 ∧ Fr (tC t) h0 x9) C hin tyJ4_ok nmJ4 rfl 2 (by decide) (by decide +kernel) rfl rfl rfl (fun h hh => ⟨t, _, hh.1.1, Nat.le_of_ble_eq_true rfl, hh.1.mlt, hh.2.up hh.1.1 (Or.inl rfl)⟩) dJ5_setLength_d00df_73 rfl ?_
        refine V_aload0 (pc' := 77) C dJ5_setLength_d00df_76 rfl ?_
        refine V_iload1 (pc' := 78) C dJ5_setLength_d00df_77 rfl ?_
        refine V_putf (pc' := 81) (T := TJ4) (N := 4) (ci := 1) (I2 := fun x9 => SbH cB la v t 1 0 g x9 ∧ Fr (tC t) h0 x9) C hin tyJ4_ok nmJ4 rfl 3 (by decide) (by decide +kernel) rfl rfl rfl (fun h hh => ⟨t, _, hh.1.1, Nat.le_of_ble_eq_true rfl, hh.1.cnt ⟨by omega, by omega⟩, hh.2.up hh.1.1 (Or.inl rfl)⟩) dJ5_setLength_d00df_78 rfl ?_
        exact V_endv C hr hlk (fun h' hh => ⟨rfl, ⟨_, hh.1⟩, hh.2⟩) ⟨Nat.le_refl _, Nat.le_refl _⟩ dJ5_setLength_d00df_81
    · exact absurd c_23 (by omega)
  · exact absurd c_1 (by decide)
set_option maxHeartbeats 4000000 in
set_option maxRecDepth 100000 in
theorem kJ4_setLength_d00df : Ct l yJ4_setLength_d00df wsJ4_setLength_d00df ({ frames := 3, cells := 0, slots := 0, locals := 62 } : Room) D (tyL cB cC cI cO cJ cD) ee [.ref la, .int (iI 0)] (SbH cB la v t ml n g) (fun h v9 h' => v9 = none ∧ (∃ m', SbH cB la v t m' 0 g h') ∧ Fr (tC t) h h') (0) (0) := by
  refine Ct_of (cc := cJ4_setLength_d00df) (own := RJ4) [some (.ref la), some (.int (iI 0))] (by decide) rfl rfl (Nat.le_of_ble_eq_true rfl) (fun i9 v9 h9 => argL [.ref la, .int (iI 0)] 0 rfl i9 v9 h9) ?_
  intro p e s m9 args below meth c9 h0 sz hI C hr hlk hinit
  refine V_weak (I2 := fun x9 => SbH cB la v t ml n g x9 ∧ Fr (tC t) h0 x9) (fun x9 hx9 => by subst hx9; exact ⟨hI, Fr.refl⟩) ?_
  refine V_aload0 (pc' := 1) C dJ4_setLength_d00df_0 rfl ?_
  refine V_iload1 (pc' := 2) C dJ4_setLength_d00df_1 rfl ?_
  refine V_callSU (ci := 1) (n := 1) [.int (iI 0)] C (kJ5_setLength_d00df) gJ4_setLength_d00df_J5_setLength_d00df_s333 rfl (by decide +kernel) ⟨Nat.le_of_ble_eq_true rfl, Nat.le_of_ble_eq_true rfl⟩ ⟨rfl, rfl⟩ rfl rfl (fun h hh => ⟨t, _, hh.1.1⟩) (fun h hh => hh.1) rfl (Nat.le_of_ble_eq_true rfl) dJ4_setLength_d00df_2 ⟨Nat.le_of_ble_eq_true rfl, Nat.le_of_ble_eq_true rfl⟩ (fun h v9 h' hh hj9 => ?_)
  obtain ⟨rfl, ⟨m9, hj1⟩, hj2⟩ := hj9
  refine V_weak (I2 := fun x9 => SbH cB la v t m9 0 g x9 ∧ Fr (tC t) h0 x9) (fun x9 hx9 => by rw [hx9]; exact ⟨hj1, hh.2.trans hj2⟩) ?_
  exact V_endv C hr hlk (fun h' hh => ⟨rfl, ⟨m9, hh.1⟩, hh.2⟩) ⟨Nat.le_refl _, Nat.le_refl _⟩ dJ4_setLength_d00df_5
set_option maxHeartbeats 4000000 in
set_option maxRecDepth 100000 in
theorem kJ4_length_8abf5 : Ct l yJ4_length_8abf5 wsJ4_length_8abf5 ({ frames := 1, cells := 0, slots := 0, locals := 22 } : Room) D (tyL cB cC cI cO cJ cD) ee [.ref la] (SbH cB la v t ml n g) (Ji fun h r9 h' => r9 = n ∧ h' = h) (0) (0) := by
  refine Ct_of (cc := cJ4_length_8abf5) (own := RJ4) [some (.ref la)] (by decide) rfl rfl (Nat.le_of_ble_eq_true rfl) (fun i9 v9 h9 => argL [.ref la] 0 rfl i9 v9 h9) ?_
  intro p e s m9 args below meth c9 h0 sz hI C hr hlk hinit
  refine V_weak (I2 := fun x => SbH cB la v t ml n g x ∧ x = h0) (fun x hx => by subst hx; exact ⟨hI, rfl⟩) ?_
  refine V_aload0 (pc' := 1) C dJ4_length_8abf5_0 rfl ?_
  refine V_callSU (ci := 1) (n := 0) [] C (kJ5_length_8abf5) gJ4_length_8abf5_J5_length_8abf5_s343 rfl (by decide +kernel) ⟨Nat.le_of_ble_eq_true rfl, Nat.le_of_ble_eq_true rfl⟩ ⟨rfl, rfl⟩ rfl rfl (fun h hh => ⟨t, _, hh.1.1⟩) (fun h hh => hh.1) rfl (Nat.le_of_ble_eq_true rfl) dJ4_length_8abf5_1 ⟨Nat.le_of_ble_eq_true rfl, Nat.le_of_ble_eq_true rfl⟩ (fun h v9 h' hh hj9 => ?_)
  obtain ⟨r9, rfl, hj8, rfl⟩ := hj9
  rw [hj8]
  refine V_weak (I2 := fun x => SbH cB la v t ml n g x ∧ x = h0) (fun x9 hx9 => by rw [hx9]; exact hh) ?_
  exact V_end C hr hlk (fun h' hh => ⟨_, rfl, rfl, hh.2⟩) ⟨Nat.le_refl _, Nat.le_refl _⟩ dJ4_length_8abf5_4
set_option maxHeartbeats 4000000 in
set_option maxRecDepth 100000 in
theorem kJ3_ciq (i n : Int) (tq : Nat) (h : 0 ≤ i ∧ i < n ∧ n ≤ 2147483647) : Ct l yJ3_checkIndex_8e157 wsJ3_checkIndex_8e157 ({ frames := 0, cells := 0, slots := 0, locals := 0 } : Room) D (tyL cB cC cI cO cJ cD) ee [.int (iI i), .int (iI n), .ref tq] (fun _ => True) (Ji fun h z h' => z = i ∧ h' = h) 0 0 := by
  refine Ct_of (cc := cJ3_checkIndex_8e157) (own := RJ3) [some (.int (iI i)), some (.int (iI n)), some (.ref tq)] (by decide) rfl rfl (Nat.le_of_ble_eq_true rfl) (fun i9 v9 h9 => argL [.int (iI i), .int (iI n), .ref tq] 0 rfl i9 v9 h9) ?_
  intro p e s m9 args below meth c9 h0 sz hI C hr hlk hinit
  refine V_iload0 (pc' := 1) C dJ3_checkIndex_8e157_0 rfl ?_
  refine V_iflt (tgt := 9) C (by omega) dJ3_checkIndex_8e157_1 (by decide) rfl (fun c_1 => ?_) (fun c_1 => ?_)
  · exact absurd c_1 (by omega)
  · refine V_iload0 (pc' := 5) C dJ3_checkIndex_8e157_4 rfl ?_
    refine V_iload1 (pc' := 6) C dJ3_checkIndex_8e157_5 rfl ?_
    refine V_icmplt (tgt := 16) C (by omega) dJ3_checkIndex_8e157_6 (by decide) rfl (fun c_6 => ?_) (fun c_6 => ?_)
    · refine V_iload0 (pc' := 17) C dJ3_checkIndex_8e157_16 rfl ?_
      exact sEnd C hr hlk ⟨Nat.le_refl _, Nat.le_refl _⟩ dJ3_checkIndex_8e157_17 rfl
    · exact absurd c_6 (by omega)
theorem V_getsP {p : Program} {e : Env} {R : Room} {s : State} {m : MethodId} {args : Array Value} {below : List Frame} {meth : Method} {c : Code} {cells slots : Nat} {Q : State → Prop} {tys : List (ClassId × FieldType)} {A : Nat → Prop} {nL : Nat} {cc : ByteArray} {Ts : List Cond} {own : String} {I : Hp → Prop} {pc pc' index : Nat} {L : List (Option Value)} {st : List Value} (C : Cx p m c cc nL s args Ts own D tys A ee) (hl : Cond.fieldLink own index "jdk/internal/util/Preconditions" "SIOOBE_FORMATTER" "Ljava/util/function/BiFunction;" ∈ Ts) (d : decode cc pc = .ok (.getstatic index, 3)) (e0 : pc + 3 = pc') (kk1 : Vx p l e R s m args below meth c cells slots Q D A nL I pc' L (.null :: st)) (kk : ∀ t, Vx p l e R s m args below meth c cells slots Q D A nL I pc' L (.ref t :: st)) : Vx p l e R s m args below meth c cells slots Q D A nL I pc L st := by
  subst e0
  intro h H locs ls hI hW hS hL
  rcases C.2.2.2.2.2.2.2.2.2.2.2.2.2.2.2 with h5 | ⟨t, h5⟩
  · exact va_gets C.1.1 C.1.2.1 h5 hS C.1.2.2.2.1 (C.1.2.2.2.2 _ hl) (fun _ h9 => h9) d (kk1 h H locs ls hI hW hS hL)
  · exact va_gets C.1.1 C.1.2.1 h5 hS C.1.2.2.2.1 (C.1.2.2.2.2 _ hl) (fun _ h9 => h9) d (kk t h H locs ls hI hW hS hL)
set_option maxHeartbeats 4000000 in
set_option maxRecDepth 100000 in
theorem kJ0_checkIndex_df160 {i n : Int} (h : 0 ≤ i ∧ i < n ∧ n ≤ 2147483647) : Ct l yJ0_checkIndex_df160 wsJ0_checkIndex_df160 ({ frames := 1, cells := 0, slots := 0, locals := 30 } : Room) D (tyL cB cC cI cO cJ cD) ee [.int (iI i), .int (iI n)] (fun _ => True) (fun h v9 h' => v9 = none ∧ h' = h) 0 0 := by
  refine Ct_of (cc := cJ0_checkIndex_df160) (own := RJ0) [some (.int (iI i)), some (.int (iI n))] (by decide) rfl rfl (Nat.le_of_ble_eq_true rfl) (fun i9 v9 h9 => argL [.int (iI i), .int (iI n)] 0 rfl i9 v9 h9) ?_
  intro p e s m9 args below meth c9 h0 sz hI C hr hlk hinit
  refine V_weak (I2 := fun x => x = h0) (fun x hx => hx) ?_
  refine V_iload0 (pc' := 1) C dJ0_checkIndex_df160_0 rfl ?_
  refine V_iload1 (pc' := 2) C dJ0_checkIndex_df160_1 rfl ?_
  refine V_getsP (pc' := 5) C (by decide +kernel) dJ0_checkIndex_df160_2 rfl ?_ (fun tq => ?_)
  · refine sCall3 (pc' := 8) C (kJ3_checkIndex_8e157 i n h) gJ0_checkIndex_df160_J3_checkIndex_8e157 rfl ydJ3_checkIndex_8e157 ⟨Nat.le_of_ble_eq_true rfl, Nat.le_of_ble_eq_true rfl⟩ ⟨rfl, rfl⟩ (Nat.le_of_ble_eq_true rfl) dJ0_checkIndex_df160_5 ⟨Nat.zero_le _, Nat.zero_le _⟩ rfl ?_
    refine V_pop (pc' := 9) C rfl dJ0_checkIndex_df160_8 rfl ?_
    exact V_endv C hr hlk (fun h' hh => ⟨rfl, hh⟩) ⟨Nat.le_refl _, Nat.le_refl _⟩ dJ0_checkIndex_df160_9
  · refine sCall3 (pc' := 8) C (kJ3_ciq i n tq h) gJ0_checkIndex_df160_J3_checkIndex_8e157 rfl ydJ3_checkIndex_8e157 ⟨Nat.le_of_ble_eq_true rfl, Nat.le_of_ble_eq_true rfl⟩ ⟨rfl, rfl⟩ (Nat.le_of_ble_eq_true rfl) dJ0_checkIndex_df160_5 ⟨Nat.zero_le _, Nat.zero_le _⟩ rfl ?_
    refine V_pop (pc' := 9) C rfl dJ0_checkIndex_df160_8 rfl ?_
    exact V_endv C hr hlk (fun h' hh => ⟨rfl, hh⟩) ⟨Nat.le_refl _, Nat.le_refl _⟩ dJ0_checkIndex_df160_9

set_option maxHeartbeats 4000000 in
set_option maxRecDepth 100000 in
theorem kJ5_charAt_5068e {z : Int} (hz : 0 ≤ z ∧ z < n) (hg : 0 ≤ g z ∧ g z < 128) : Ct l yJ5_charAt_5068e wsJ5_charAt_5068e ({ frames := 3, cells := 0, slots := 0, locals := 70 } : Room) D (tyL cB cC cI cO cJ cD) ee [.ref la, .int (iI z)] (SbH cB la v t ml n g) (Ji fun h r9 h' => r9 = g z ∧ h' = h) (0) (0) := by
  refine Ct_of (cc := cJ5_charAt_5068e) (own := RJ5) [some (.ref la), some (.int (iI z)), none, none, none] (by decide) rfl rfl (Nat.le_of_ble_eq_true rfl) (fun i9 v9 h9 => argL [.ref la, .int (iI z)] 3 rfl i9 v9 h9) ?_
  intro p e s m9 args below meth c9 h0 sz hI C hr hlk hinit
  have hin : ∀ w ∈ wsJ40, w ∈ wsJ5_charAt_5068e := by decide +kernel
  have hn9 := hI.2.2
  refine V_weak (I2 := fun x => SbH cB la v t ml n g x ∧ x = h0) (fun x hx => by subst hx; exact ⟨hI, rfl⟩) ?_
  refine V_aload0 (pc' := 1) C dJ5_charAt_5068e_0 rfl ?_
  refine V_getf (pc' := 4) (T := TJ4) (N := 4) (ci := 1) C hin rfl 1 (by decide) (by decide +kernel) (fun h hh => ⟨t, _, hh.1.1, rfl⟩) dJ5_charAt_5068e_1 rfl ?_
  refine V_istore2 (pc' := 5) C dJ5_charAt_5068e_4 rfl (by decide) rfl ?_
  refine V_aload0 (pc' := 6) C dJ5_charAt_5068e_5 rfl ?_
  refine V_getf (pc' := 9) (T := TJ4) (N := 4) (ci := 1) C hin rfl 0 (by decide) (by decide +kernel) (fun h hh => ⟨t, _, hh.1.1, rfl⟩) dJ5_charAt_5068e_6 rfl ?_
  refine V_astore3 (pc' := 10) C dJ5_charAt_5068e_9 rfl (by decide) rfl ?_
  refine V_aload0 (pc' := 11) C dJ5_charAt_5068e_10 rfl ?_
  refine V_getf (pc' := 14) (T := TJ4) (N := 4) (ci := 1) C hin rfl 3 (by decide) (by decide +kernel) (fun h hh => ⟨t, _, hh.1.1, rfl⟩) dJ5_charAt_5068e_11 rfl ?_
  refine V_aload3 (pc' := 15) C dJ5_charAt_5068e_14 rfl ?_
  refine V_alen (pc' := 16) (n := 16) C 0 rfl (fun h hh => ⟨t + 1, hh.1.2.1⟩) dJ5_charAt_5068e_15 rfl ?_
  refine V_eq (st2 := [.int (iI 16), .int (iI n)]) rfl ?_
  refine V_iload2 (pc' := 17) C dJ5_charAt_5068e_16 rfl ?_
  refine V_ishr0 (pc' := 18) C dJ5_charAt_5068e_17 rfl ?_
  refine V_mmin (pc' := 21) C (by decide +kernel) (by decide +kernel) (by decide +kernel) (by decide +kernel) ⟨Nat.le_of_ble_eq_true rfl, Nat.le_of_ble_eq_true rfl⟩ ⟨Nat.le_refl _, Nat.le_refl _⟩ (by omega) (by decide) dJ5_charAt_5068e_18 rfl ?_
  refine V_eq (st2 := [.int (iI n)]) (by rw [if_neg (by omega)]) ?_
  refine V_istore4 (pc' := 23) C dJ5_charAt_5068e_21 rfl (by decide) rfl ?_
  refine V_iload1 (pc' := 24) C dJ5_charAt_5068e_23 rfl ?_
  refine V_iload4 (pc' := 26) C dJ5_charAt_5068e_24 rfl ?_
  refine V_callS (n := 2) [.int (iI z), .int (iI n)] C (kJ0_checkIndex_df160 (i := z) (n := n) ⟨hz.1, hz.2, by omega⟩) gJ5_charAt_5068e_J0_checkIndex_df160 rfl ydJ0_checkIndex_df160 ⟨Nat.le_of_ble_eq_true rfl, Nat.le_of_ble_eq_true rfl⟩ ⟨rfl, rfl⟩ rfl (fun h hh => trivial) rfl (Nat.le_of_ble_eq_true rfl) dJ5_charAt_5068e_26 ⟨Nat.le_of_ble_eq_true rfl, Nat.le_of_ble_eq_true rfl⟩ (fun h v9 h' hh hj9 => ?_)
  obtain ⟨rfl, rfl⟩ := hj9
  refine V_weak (I2 := fun x => SbH cB la v t ml n g x ∧ x = h0) (fun x9 hx9 => by rw [hx9]; exact hh) ?_
  refine V_iload2 (pc' := 30) C dJ5_charAt_5068e_29 rfl ?_
  refine V_ifne (tgt := 42) C (by omega) dJ5_charAt_5068e_30 (by decide) rfl (fun c_30 => ?_) (fun c_30 => ?_)
  · exact absurd c_30 (by decide)
  · refine V_aload3 (pc' := 34) C dJ5_charAt_5068e_33 rfl ?_
    refine V_iload1 (pc' := 35) C dJ5_charAt_5068e_34 rfl ?_
    refine V_bald (pc' := 36) (n := 16) (f := g) C 0 rfl (fun h hh => ⟨t + 1, hh.1.2.1⟩) ⟨by omega, by omega, by omega⟩ dJ5_charAt_5068e_35 rfl ?_
    refine V_sipush (pc' := 39) C dJ5_charAt_5068e_36 rfl (by decide) ?_
    refine V_iand255 (pc' := 40) C hg dJ5_charAt_5068e_39 rfl ?_
    refine V_i2c (pc' := 41) C (by omega) dJ5_charAt_5068e_40 rfl ?_
    exact V_endz (z := g z) C hr hlk (nar_c hg.1 (by omega)) (fun h' hh => ⟨_, rfl, rfl, hh.2⟩) ⟨Nat.le_refl _, Nat.le_refl _⟩ dJ5_charAt_5068e_41
set_option maxHeartbeats 4000000 in
set_option maxRecDepth 100000 in
theorem kJ4_charAt_5068e {z : Int} (hz : 0 ≤ z ∧ z < n) (hg : 0 ≤ g z ∧ g z < 128) : Ct l yJ4_charAt_5068e wsJ4_charAt_5068e ({ frames := 4, cells := 0, slots := 0, locals := 100 } : Room) D (tyL cB cC cI cO cJ cD) ee [.ref la, .int (iI z)] (SbH cB la v t ml n g) (Ji fun h r9 h' => r9 = g z ∧ h' = h) (0) (0) := by
  refine Ct_of (cc := cJ4_charAt_5068e) (own := RJ4) [some (.ref la), some (.int (iI z))] (by decide) rfl rfl (Nat.le_of_ble_eq_true rfl) (fun i9 v9 h9 => argL [.ref la, .int (iI z)] 0 rfl i9 v9 h9) ?_
  intro p e s m9 args below meth c9 h0 sz hI C hr hlk hinit
  refine V_weak (I2 := fun x => SbH cB la v t ml n g x ∧ x = h0) (fun x hx => by subst hx; exact ⟨hI, rfl⟩) ?_
  refine V_aload0 (pc' := 1) C dJ4_charAt_5068e_0 rfl ?_
  refine V_iload1 (pc' := 2) C dJ4_charAt_5068e_1 rfl ?_
  refine V_callSU (ci := 1) (n := 1) [.int (iI z)] C (kJ5_charAt_5068e (z := z) hz hg) gJ4_charAt_5068e_J5_charAt_5068e_s329 rfl (by decide +kernel) ⟨Nat.le_of_ble_eq_true rfl, Nat.le_of_ble_eq_true rfl⟩ ⟨rfl, rfl⟩ rfl rfl (fun h hh => ⟨t, _, hh.1.1⟩) (fun h hh => hh.1) rfl (Nat.le_of_ble_eq_true rfl) dJ4_charAt_5068e_2 ⟨Nat.le_of_ble_eq_true rfl, Nat.le_of_ble_eq_true rfl⟩ (fun h v9 h' hh hj9 => ?_)
  obtain ⟨r9, rfl, hj8, rfl⟩ := hj9
  rw [hj8]
  refine V_weak (I2 := fun x => SbH cB la v t ml n g x ∧ x = h0) (fun x9 hx9 => by rw [hx9]; exact hh) ?_
  exact V_endz (z := g z) C hr hlk (nar_c hg.1 (by omega)) (fun h' hh => ⟨_, rfl, rfl, hh.2⟩) ⟨Nat.le_refl _, Nat.le_refl _⟩ dJ4_charAt_5068e_5
set_option maxHeartbeats 4000000 in
set_option maxRecDepth 100000 in
theorem kJ5_init_d00df : Ct l yJ5_init_d00df wsJ5_init_d00df ({ frames := 1, cells := 1, slots := 16, locals := 30 } : Room) D (tyL cB cC cI cO cJ cD) ee [.ref la, .int (iI 16)] (fun x => x la = some (t, .inr (1, [.null, .int 0, .int 0, .int 0]))) (fun h v9 h' => v9 = none ∧ (∃ v, SbH cB la v t 0 0 (fun _ => 0) h') ∧ Fr (tC t) h h') (1) (16) := by
  refine Ct_of (cc := cJ5_init_d00df) (own := RJ5) [some (.ref la), some (.int (iI 16))] (by decide) rfl rfl (Nat.le_of_ble_eq_true rfl) (fun i9 v9 h9 => argL [.ref la, .int (iI 16)] 0 rfl i9 v9 h9) ?_
  intro p e s m9 args below meth c9 h0 sz hI C hr hlk hinit
  have hin : ∀ w ∈ wsJ40, w ∈ wsJ5_init_d00df := by decide +kernel
  refine V_weak (I2 := fun x => (x la = some (t, .inr (1, [.null, .int 0, .int 0, .int 0]))) ∧ Fr (tC t) h0 x) (fun x hx => by subst hx; exact ⟨hI, Fr.refl⟩) ?_
  refine V_aload0 (pc' := 1) C dJ5_init_d00df_0 rfl ?_
  refine V_objInit (pc' := 4) C (by decide +kernel) (by decide +kernel) (by decide +kernel) ⟨Nat.le_of_ble_eq_true rfl, Nat.le_of_ble_eq_true rfl⟩ dJ5_init_d00df_1 rfl ?_
  refine V_getsC (pc' := 7) C (by decide +kernel) dJ5_init_d00df_4 rfl ?_
  refine V_ifeqB (tgt := 25) C dJ5_init_d00df_7 (by decide) rfl (fun c_7 => ?_) (fun c_7 => ?_)
  · exact absurd c_7 (by decide)
  · refine V_aload0 (pc' := 11) C dJ5_init_d00df_10 rfl ?_
    refine V_iload1 (pc' := 12) C dJ5_init_d00df_11 rfl ?_
    refine V_newarr (pc' := 14) (ty := .byte) (atype := .byte) (N := 16) (a0 := (16, .inl (iF fun _ => 0))) (t + 1) C (by decide +kernel) rfl 0 rfl (fun cA => rfl) ⟨rfl, by decide⟩ (Nat.le_of_ble_eq_true rfl) (Nat.le_of_ble_eq_true rfl) dJ5_init_d00df_12 rfl (fun q => ?_)
    refine V_putf (pc' := 17) (T := TJ4) (N := 4) (ci := 1) (I2 := fun x9 => (x9 la = some (t, .inr (1, [.ref q, .int 0, .int 0, .int 0])) ∧ x9 q = some (t + 1, .inl (cB, 16, .inl (iF fun _ => 0)))) ∧ Fr (tC t) h0 x9) C hin tyJ4_ok nmJ4 rfl 0 (by decide) (by decide +kernel) rfl rfl rfl (fun h hh => by obtain ⟨h1, hh1, hq1, rfl⟩ := hh; have hne : la ≠ q := (fun z => by rw [z, hq1] at hh1; cases hh1.1); exact ⟨t, _, by rw [hup_n hne]; exact hh1.1, Nat.le_of_ble_eq_true rfl, ⟨hup_s, by rw [hup_n hne.symm]; exact hup_s⟩, (hh1.2.new hq1).up (by rw [hup_n hne]; exact hh1.1) (Or.inl rfl)⟩) dJ5_init_d00df_14 rfl ?_
    refine V_aload0 (pc' := 18) C dJ5_init_d00df_17 rfl ?_
    refine V_iconst (pc' := 19) C dJ5_init_d00df_18 rfl ?_
    refine V_putf (pc' := 22) (T := TJ4) (N := 4) (ci := 1) (I2 := fun x9 => SbH cB la q t 0 0 (fun _ => 0) x9 ∧ Fr (tC t) h0 x9) C hin tyJ4_ok nmJ4 rfl 1 (by decide) (by decide +kernel) rfl rfl rfl (fun h hh => ⟨t, _, hh.1.1, Nat.le_of_ble_eq_true rfl, ⟨hup_s, by rw [hup_n (fun z => by have e9 := hh.1.2; rw [z, hh.1.1] at e9; cases e9)]; exact hh.1.2, by decide, by decide⟩, hh.2.up hh.1.1 (Or.inl rfl)⟩) dJ5_init_d00df_19 rfl ?_
    refine V_goto (tgt := 38) C dJ5_init_d00df_22 (by decide) ?_
    exact V_endv C hr hlk (fun h' hh => ⟨rfl, ⟨q, hh.1⟩, hh.2⟩) ⟨Nat.le_refl _, Nat.le_refl _⟩ dJ5_init_d00df_38
set_option maxHeartbeats 4000000 in
set_option maxRecDepth 100000 in
theorem kJ4_init_da8c8 : Ct l yJ4_init_da8c8 wsJ4_init_da8c8 ({ frames := 2, cells := 1, slots := 16, locals := 52 } : Room) D (tyL cB cC cI cO cJ cD) ee [.ref la] (fun x => x la = some (t, .inr (1, [.null, .int 0, .int 0, .int 0]))) (fun h v9 h' => v9 = none ∧ (∃ v, SbH cB la v t 0 0 (fun _ => 0) h') ∧ Fr (tC t) h h') (1) (16) := by
  refine Ct_of (cc := cJ4_init_da8c8) (own := RJ4) [some (.ref la)] (by decide) rfl rfl (Nat.le_of_ble_eq_true rfl) (fun i9 v9 h9 => argL [.ref la] 0 rfl i9 v9 h9) ?_
  intro p e s m9 args below meth c9 h0 sz hI C hr hlk hinit
  refine V_weak (I2 := fun x => x = h0) (fun x hx => hx) ?_
  refine V_aload0 (pc' := 1) C dJ4_init_da8c8_0 rfl ?_
  refine V_bipush (pc' := 3) C dJ4_init_da8c8_1 rfl (by decide) ?_
  refine V_callI (n := 1) [.int (iI 16)] C (kJ5_init_d00df) gJ4_init_da8c8_J5_init_d00df (by decide +kernel) (by decide +kernel) (by decide +kernel) rfl ydJ5_init_d00df ⟨Nat.le_of_ble_eq_true rfl, Nat.le_of_ble_eq_true rfl⟩ ⟨rfl, rfl⟩ rfl (fun h hh => by rw [hh]; exact hI) rfl (Nat.le_of_ble_eq_true rfl) dJ4_init_da8c8_3 ⟨Nat.le_of_ble_eq_true rfl, Nat.le_of_ble_eq_true rfl⟩ (fun h v9 h' hh hj9 => ?_)
  obtain ⟨rfl, ⟨q, hj1⟩, hj2⟩ := hj9
  rw [hh] at hj2
  refine V_weak (I2 := fun x9 => SbH cB la q t 0 0 (fun _ => 0) x9 ∧ Fr (tC t) h0 x9) (fun x9 hx9 => by rw [hx9]; exact ⟨hj1, hj2⟩) ?_
  exact V_endv C hr hlk (fun h' hh => ⟨rfl, ⟨q, hh.1⟩, hh.2⟩) ⟨Nat.le_refl _, Nat.le_refl _⟩ dJ4_init_da8c8_6
end

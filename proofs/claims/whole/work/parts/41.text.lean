/-! the text: a StringBuilder of one array, 16 bytes, Latin 1, not grown -/
def SbH (cB : ClassId) (a v t : Nat) (ml : Int) (n : Int) (g : Int → Int) (h : Hp) : Prop := h a = some (t, .inr (1, [.ref v, iV 0, iV ml, iV n])) ∧ h v = some (t + 1, .inl (cB, 16, .inl (iF g))) ∧ 0 ≤ n ∧ n ≤ 16
section VT9
variable {p : Program} {l : Launch} {e : Env} {R : Room} {s : State} {m : MethodId} {args : Array Value} {below : List Frame} {meth : Method} {c : Code} {cells slots : Nat} {Q : State → Prop} {D : va_G} {tys : List (ClassId × FieldType)} {A : Nat → Prop} {nL : Nat} {cc : ByteArray} {Ts : List Cond} {own : String} {ee : Nat}
variable {I : Hp → Prop} {pc pc' : Nat} {L : List (Option Value)} {st : List Value}
theorem V_getsC {index : Nat} (C : Cx p m c cc nL s args Ts own D tys A ee) (hl : Cond.fieldLink own index "java/lang/String" "COMPACT_STRINGS" "Z" ∈ Ts) (d : decode cc pc = .ok (.getstatic index, 3)) (e0 : pc + 3 = pc') (kk : Vx p l e R s m args below meth c cells slots Q D A nL I pc' L (.int (iI (bI true)) :: st)) : Vx p l e R s m args below meth c cells slots Q D A nL I pc L st := by
  subst e0
  intro h H locs ls hI hW hS hL
  exact va_gets C.1.1 C.1.2.1 C.2.2.2.2.2.2.2.2.1 hS C.1.2.2.2.1 (C.1.2.2.2.2 _ hl) (fun _ h9 => h9) d (kk h H locs ls hI hW hS hL)
end VT9
theorem ydJ1_canEncode_fc78d : yJ1_canEncode_fc78d.cls ≠ "java/lang/invoke/MethodHandle" ∧ yJ1_canEncode_fc78d.cls ≠ "java/lang/invoke/VarHandle" ∧ (parseMethodDescriptor yJ1_canEncode_fc78d.desc).map (fun d => d.parameters.length) = some 1 := by decide +kernel
section
variable {l : Launch} {D : va_G} {cB cC cI cO cJ cD : ClassId} {ee la v t : Nat} {ml n : Int} {g : Int → Int}
set_option maxHeartbeats 4000000 in
set_option maxRecDepth 100000 in
theorem kJ5_length_8abf5 : Ct l yJ5_length_8abf5 wsJ5_length_8abf5 ({ frames := 0, cells := 0, slots := 0, locals := 0 } : Room) D (tyL cB cC cI cO cJ cD) ee [.ref la] (SbH cB la v t ml n g) (Ji fun h r9 h' => r9 = n ∧ h' = h) (0) (0) := by
  refine Ct_of (cc := cJ5_length_8abf5) (own := RJ5) [some (.ref la)] (by decide) rfl rfl (Nat.le_of_ble_eq_true rfl) (fun i9 v9 h9 => argL [.ref la] 0 rfl i9 v9 h9) ?_
  intro p e s m9 args below meth c9 h0 sz hI C hr hlk hinit
  have hin : ∀ w ∈ wsJ40, w ∈ wsJ5_length_8abf5 := by decide +kernel
  refine V_weak (I2 := fun x => SbH cB la v t ml n g x ∧ x = h0) (fun x hx => by subst hx; exact ⟨hI, rfl⟩) ?_
  refine V_aload0 (pc' := 1) C dJ5_length_8abf5_0 rfl ?_
  refine V_getf (pc' := 4) (T := TJ4) (N := 4) (ci := 1) C hin rfl 3 (by decide) (by decide +kernel) (fun h hh => ⟨t, _, hh.1.1, rfl⟩) dJ5_length_8abf5_1 rfl ?_
  exact V_end C hr hlk (fun h' hh => ⟨_, rfl, rfl, hh.2⟩) ⟨Nat.le_refl _, Nat.le_refl _⟩ dJ5_length_8abf5_4
set_option maxHeartbeats 4000000 in
set_option maxRecDepth 100000 in
theorem kJ5_isLatin1_aae02 : Ct l yJ5_isLatin1_aae02 wsJ5_isLatin1_aae02 ({ frames := 0, cells := 0, slots := 0, locals := 0 } : Room) D (tyL cB cC cI cO cJ cD) ee [.ref la] (SbH cB la v t ml n g) (Ji fun h r9 h' => r9 = bI true ∧ h' = h) (0) (0) := by
  refine Ct_of (cc := cJ5_isLatin1_aae02) (own := RJ5) [some (.ref la)] (by decide) rfl rfl (Nat.le_of_ble_eq_true rfl) (fun i9 v9 h9 => argL [.ref la] 0 rfl i9 v9 h9) ?_
  intro p e s m9 args below meth c9 h0 sz hI C hr hlk hinit
  have hin : ∀ w ∈ wsJ40, w ∈ wsJ5_isLatin1_aae02 := by decide +kernel
  refine V_weak (I2 := fun x => SbH cB la v t ml n g x ∧ x = h0) (fun x hx => by subst hx; exact ⟨hI, rfl⟩) ?_
  refine V_getsC (pc' := 3) C (by decide +kernel) dJ5_isLatin1_aae02_0 rfl ?_
  refine V_ifeqB (tgt := 17) C dJ5_isLatin1_aae02_3 (by decide) rfl (fun c_3 => ?_) (fun c_3 => ?_)
  · exact absurd c_3 (by decide)
  · refine V_aload0 (pc' := 7) C dJ5_isLatin1_aae02_6 rfl ?_
    refine V_getf (pc' := 10) (T := TJ4) (N := 4) (ci := 1) C hin rfl 1 (by decide) (by decide +kernel) (fun h hh => ⟨t, _, hh.1.1, rfl⟩) dJ5_isLatin1_aae02_7 rfl ?_
    refine V_ifne (tgt := 17) C (by omega) dJ5_isLatin1_aae02_10 (by decide) rfl (fun c_10 => ?_) (fun c_10 => ?_)
    · exact absurd c_10 (by decide)
    · refine V_iconst (pc' := 14) C dJ5_isLatin1_aae02_13 rfl ?_
      refine V_goto (tgt := 18) C dJ5_isLatin1_aae02_14 (by decide) ?_
      exact V_endz (z := bI true) C hr hlk (nar_z true) (fun h' hh => ⟨_, rfl, rfl, hh.2⟩) ⟨Nat.le_refl _, Nat.le_refl _⟩ dJ5_isLatin1_aae02_18
set_option maxHeartbeats 4000000 in
set_option maxRecDepth 100000 in
theorem kJ1_canEncode_fc78d {z : Int} (hz : 0 ≤ z ∧ z < 128) : Ct l yJ1_canEncode_fc78d wsJ1_canEncode_fc78d ({ frames := 0, cells := 0, slots := 0, locals := 0 } : Room) D (tyL cB cC cI cO cJ cD) ee [.int (iI z)] (fun _ => True) (Ji fun h r9 h' => r9 = bI true ∧ h' = h) (0) (0) := by
  refine Ct_of (cc := cJ1_canEncode_fc78d) (own := RJ1) [some (.int (iI z))] (by decide) rfl rfl (Nat.le_of_ble_eq_true rfl) (fun i9 v9 h9 => argL [.int (iI z)] 0 rfl i9 v9 h9) ?_
  intro p e s m9 args below meth c9 h0 sz hI C hr hlk hinit
  refine V_weak (I2 := fun x => x = h0) (fun x hx => hx) ?_
  refine V_iload0 (pc' := 1) C dJ1_canEncode_fc78d_0 rfl ?_
  refine V_sipush (pc' := 4) C dJ1_canEncode_fc78d_1 rfl (by decide) ?_
  refine V_icmpgt (tgt := 11) C (by omega) dJ1_canEncode_fc78d_4 (by decide) rfl (fun c_4 => ?_) (fun c_4 => ?_)
  · exact absurd c_4 (by omega)
  · refine V_iconst (pc' := 8) C dJ1_canEncode_fc78d_7 rfl ?_
    refine V_goto (tgt := 12) C dJ1_canEncode_fc78d_8 (by decide) ?_
    exact V_endz (z := bI true) C hr hlk (nar_z true) (fun h' hh => ⟨_, rfl, rfl, hh⟩) ⟨Nat.le_refl _, Nat.le_refl _⟩ dJ1_canEncode_fc78d_12
end

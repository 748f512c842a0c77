/-! the text: the builder's methods -/
section
variable {cB : ClassId} {la v t : Nat} {ml n : Int} {g : Int → Int} {h : Hp}
theorem SbH.ne (H : SbH cB la v t ml n g h) : la ≠ v := fun z => by
  have := H.1
  rw [z, H.2.1] at this
  cases this
theorem SbH.cnt {n' : Int} (H : SbH cB la v t ml n g h) (h0 : 0 ≤ n' ∧ n' ≤ 16) : SbH cB la v t ml n' g (hup h la (t, .inr (1, [.ref v, iV 0, iV ml, iV n']))) := ⟨hup_s, by rw [hup_n H.ne.symm]; exact H.2.1, h0⟩
theorem SbH.mlt {m' : Int} (H : SbH cB la v t ml n g h) : SbH cB la v t m' n g (hup h la (t, .inr (1, [.ref v, iV 0, iV m', iV n]))) := ⟨hup_s, by rw [hup_n H.ne.symm]; exact H.2.1, H.2.2⟩
theorem SbH.st {g' : Int → Int} (H : SbH cB la v t ml n g h) : SbH cB la v t ml n g' (hup h v (t + 1, .inl (cB, 16, .inl (iF g')))) := ⟨by rw [hup_n H.ne]; exact H.1, hup_s, H.2.2⟩
theorem SbH.fr {h' : Hp} {T : Nat → Prop} (H : SbH cB la v t ml n g h) (hF : Fr T h h') (h1 : ¬ T t) (h2 : ¬ T (t + 1)) : SbH cB la v t ml n g h' := ⟨hF _ _ _ H.1 h1, hF _ _ _ H.2.1 h2, H.2.2⟩
end
theorem hup_hup2 {h : Hp} {a : Nat} {x y : Nat × va_E} : hup (hup h a x) a y = hup h a y := hup_hup
section VB9
variable {p : Program} {l : Launch} {e : Env} {R : Room} {s : State} {m : MethodId} {args : Array Value} {below : List Frame} {meth : Method} {c : Code} {cells slots : Nat} {Q : State → Prop} {D : va_G} {tys : List (ClassId × FieldType)} {A : Nat → Prop} {nL : Nat} {cc : ByteArray} {Ts : List Cond} {own : String} {ee : Nat × Nat}
variable {I : Hp → Prop} {pc pc' : Nat} {L : List (Option Value)} {st : List Value}
theorem V_bast9 {cB cC cI cO cJ cD : ClassId} {v tb : Nat} {G : Int → Int} {z w : Int} {h0 : Hp} (C : Cx p m c cc nL s args Ts own D (tyL cB cC cI cO cJ cD) A ee) (hz : 0 ≤ z ∧ z < 16) (hw : 0 ≤ w ∧ w < 128) (d : decode cc pc = .ok (.bastore, 1)) (e0 : pc + 1 = pc') (kk : Vx p l e R s m args below meth c cells slots Q D A nL (fun x => x = hup h0 v (tb, .inl (cB, 16, .inl (iF (upZ G z w))))) pc' L st) : Vx p l e R s m args below meth c cells slots Q D A nL (fun x => x = hup h0 v (tb, .inl (cB, 16, .inl (iF G)))) pc L (.int (iI w) :: .int (iI z) :: .ref v :: st) :=
  V_bast (n := 16) (f := G) C 0 rfl (by_nar hw) (fun h hh => ⟨tb, by rw [hh]; exact hup_s, by rw [hh, hup_hup2]⟩) ⟨hz.1, hz.2, by omega⟩ d e0 kk
end VB9
theorem szI_in {i : Int} (h : -9999 ≤ i ∧ i ≤ 9999) : 1 ≤ szI i ∧ szI i ≤ 5 := by
  unfold szI
  repeat' split
  all_goals omega
theorem ydJ5_init_d00df : yJ5_init_d00df.name = "<init>" ∧ yJ5_init_d00df.cls ≠ "java/lang/invoke/MethodHandle" ∧ yJ5_init_d00df.cls ≠ "java/lang/invoke/VarHandle" ∧ (parseMethodDescriptor yJ5_init_d00df.desc).map (fun d => d.parameters.length) = some 1 := by decide +kernel
theorem ydJ4_init_da8c8 : yJ4_init_da8c8.name = "<init>" ∧ yJ4_init_da8c8.cls ≠ "java/lang/invoke/MethodHandle" ∧ yJ4_init_da8c8.cls ≠ "java/lang/invoke/VarHandle" ∧ (parseMethodDescriptor yJ4_init_da8c8.desc).map (fun d => d.parameters.length) = some 0 := by decide +kernel
section
variable {l : Launch} {D : va_G} {cB cC cI cO cJ cD : ClassId} {ee : Nat × Nat} {la v t : Nat} {ml n : Int} {g : Int → Int}
set_option maxHeartbeats 4000000 in
set_option maxRecDepth 100000 in
theorem kJ5_init_d00df : Ct l yJ5_init_d00df wsJ5_init_d00df ({ frames := 1, cells := 1, slots := 16, locals := 30 } : Room) D (tyL cB cC cI cO cJ cD) ee [.ref la, .int (iI 16)] (fun x => x la = some (t, .inr (1, [.null, .int 0, .int 0, .int 0]))) (fun h v9 h' => v9 = none ∧ (∃ v, SbH cB la v t 0 0 (fun _ => 0) h') ∧ Fr (tC t) h h') (1) (16) := by
  refine Ct_of (cc := cJ5_init_d00df) (own := RJ5) [some (.ref la), some (.int (iI 16))] (by decide) rfl rfl (Nat.le_of_ble_eq_true rfl) (fun i9 v9 h9 => argL [.ref la, .int (iI 16)] 0 rfl i9 v9 h9) ?_
  intro p e s m9 args below meth c9 h0 sz hI C hr hlk hinit
  have hin : ∀ w ∈ wsJ40, w ∈ wsJ5_init_d00df := by decide +kernel
  refine V_weak (I2 := fun x => (x la = some (t, .inr (1, [.null, .int 0, .int 0, .int 0]))) ∧ Fr (tC t) h0 x) (fun x hx => by subst hx; exact ⟨hI, Fr.refl⟩) ?_
  refine V_aload0 (pc' := 1) C dJ5_init_d00df_0 rfl ?_
  refine V_objInit (pc' := 4) C (by decide +kernel) (by decide +kernel) (by decide +kernel) ⟨Nat.le_of_ble_eq_true rfl, Nat.le_of_ble_eq_true rfl⟩ dJ5_init_d00df_1 rfl ?_
  refine V_getsC (pc' := 7) C (by decide +kernel) dJ5_init_d00df_4 rfl ?_
  refine V_ifeqB (tgt := 25) C dJ5_init_d00df_7 (by decide) rfl (fun c_7 => ?_) (fun c_7 => ?_)
  · exact absurd c_7 (by decide)
  · refine V_aload0 (pc' := 11) C dJ5_init_d00df_10 rfl ?_
    refine V_iload1 (pc' := 12) C dJ5_init_d00df_11 rfl ?_
    refine V_newarr (pc' := 14) (ty := .byte) (atype := .byte) (N := 16) (a0 := (16, .inl (iF fun _ => 0))) (t + 1) C (by decide +kernel) rfl 0 rfl (fun cA => rfl) ⟨rfl, by decide⟩ (Nat.le_of_ble_eq_true rfl) (Nat.le_of_ble_eq_true rfl) dJ5_init_d00df_12 rfl (fun q => ?_)
    refine V_putf (pc' := 17) (T := TJ4) (N := 4) (ci := 1) (I2 := fun x9 => (x9 la = some (t, .inr (1, [.ref q, .int 0, .int 0, .int 0])) ∧ x9 q = some (t + 1, .inl (cB, 16, .inl (iF fun _ => 0)))) ∧ Fr (tC t) h0 x9) C hin tyJ4_ok nmJ4 rfl 0 (by decide) (by decide +kernel) rfl rfl rfl (fun h hh => by obtain ⟨h1, hh1, hq1, rfl⟩ := hh; have hne : la ≠ q := (fun z => by rw [z, hq1] at hh1; cases hh1.1); exact ⟨t, _, by rw [hup_n hne]; exact hh1.1, Nat.le_of_ble_eq_true rfl, ⟨hup_s, by rw [hup_n hne.symm]; exact hup_s⟩, (hh1.2.new hq1).up (by rw [hup_n hne]; exact hh1.1) (Or.inl rfl)⟩) dJ5_init_d00df_14 rfl ?_
    refine V_aload0 (pc' := 18) C dJ5_init_d00df_17 rfl ?_
    refine V_iconst (pc' := 19) C dJ5_init_d00df_18 rfl ?_
    refine V_putf (pc' := 22) (T := TJ4) (N := 4) (ci := 1) (I2 := fun x9 => SbH cB la q t 0 0 (fun _ => 0) x9 ∧ Fr (tC t) h0 x9) C hin tyJ4_ok nmJ4 rfl 1 (by decide) (by decide +kernel) rfl rfl rfl (fun h hh => ⟨t, _, hh.1.1, Nat.le_of_ble_eq_true rfl, ⟨hup_s, by rw [hup_n (fun z => by have e9 := hh.1.2; rw [z, hh.1.1] at e9; cases e9)]; exact hh.1.2, by decide, by decide⟩, hh.2.up hh.1.1 (Or.inl rfl)⟩) dJ5_init_d00df_19 rfl ?_
    refine V_goto (tgt := 38) C dJ5_init_d00df_22 (by decide) ?_
    exact V_endv C hr hlk (fun h' hh => ⟨rfl, ⟨q, hh.1⟩, hh.2⟩) ⟨Nat.le_refl _, Nat.le_refl _⟩ dJ5_init_d00df_38
set_option maxHeartbeats 4000000 in
set_option maxRecDepth 100000 in
theorem kJ4_init_da8c8 : Ct l yJ4_init_da8c8 wsJ4_init_da8c8 ({ frames := 2, cells := 1, slots := 16, locals := 52 } : Room) D (tyL cB cC cI cO cJ cD) ee [.ref la] (fun x => x la = some (t, .inr (1, [.null, .int 0, .int 0, .int 0]))) (fun h v9 h' => v9 = none ∧ (∃ v, SbH cB la v t 0 0 (fun _ => 0) h') ∧ Fr (tC t) h h') (1) (16) := by
  refine Ct_of (cc := cJ4_init_da8c8) (own := RJ4) [some (.ref la)] (by decide) rfl rfl (Nat.le_of_ble_eq_true rfl) (fun i9 v9 h9 => argL [.ref la] 0 rfl i9 v9 h9) ?_
  intro p e s m9 args below meth c9 h0 sz hI C hr hlk hinit
  refine V_weak (I2 := fun x => x = h0) (fun x hx => hx) ?_
  refine V_aload0 (pc' := 1) C dJ4_init_da8c8_0 rfl ?_
  refine V_bipush (pc' := 3) C dJ4_init_da8c8_1 rfl (by decide) ?_
  refine V_callI (n := 1) [.int (iI 16)] C (kJ5_init_d00df) gJ4_init_da8c8_J5_init_d00df (by decide +kernel) (by decide +kernel) (by decide +kernel) rfl ydJ5_init_d00df ⟨Nat.le_of_ble_eq_true rfl, Nat.le_of_ble_eq_true rfl⟩ ⟨rfl, rfl⟩ rfl (fun h hh => by rw [hh]; exact hI) rfl (Nat.le_of_ble_eq_true rfl) dJ4_init_da8c8_3 ⟨Nat.le_of_ble_eq_true rfl, Nat.le_of_ble_eq_true rfl⟩ (fun h v9 h' hh hj9 => ?_)
  obtain ⟨rfl, ⟨q, hj1⟩, hj2⟩ := hj9
  rw [hh] at hj2
  refine V_weak (I2 := fun x9 => SbH cB la q t 0 0 (fun _ => 0) x9 ∧ Fr (tC t) h0 x9) (fun x9 hx9 => by rw [hx9]; exact ⟨hj1, hj2⟩) ?_
  exact V_endv C hr hlk (fun h' hh => ⟨rfl, ⟨q, hh.1⟩, hh.2⟩) ⟨Nat.le_refl _, Nat.le_refl _⟩ dJ4_init_da8c8_6
end

/-! constructors; macros -/
section VC9
variable {p : Program} {l : Launch} {e : Env} {R : Room} {s : State} {m : MethodId} {args : Array Value} {below : List Frame} {meth : Method} {c : Code} {cells slots : Nat} {Q : State → Prop} {D : va_G} {tys : List (ClassId × FieldType)} {A : Nat → Prop} {nL : Nat} {cc : ByteArray} {Ts : List Cond} {own : String} {ee : Nat × Nat}
variable {I : Hp → Prop} {pc pc' : Nat} {L : List (Option Value)} {st : List Value}
theorem V_castC {Cn : String} {T : u_T} {N ci index a : Nat} (C : Cx p m c cc nL s args Ts own D tys A ee) (hl : Cond.classLink own index Cn ∈ Ts) (hc : vwCl[ci]? = some (Cn, T, N)) (he : ∀ h, I h → ∃ t fs, h a = some (t, .inr (ci, fs))) (d : decode cc pc = .ok (.checkcast index, 3)) (e0 : pc + 3 = pc') (kk : Vx p l e R s m args below meth c cells slots Q D A nL I pc' L (.ref a :: st)) : Vx p l e R s m args below meth c cells slots Q D A nL I pc L (.ref a :: st) := by
  subst e0
  intro h H locs ls hI hW hS hL
  obtain ⟨t, fs, h1⟩ := he h hI
  obtain ⟨ws, hP, hD, hw⟩ := id hW
  obtain ⟨q0, hq⟩ := hw a t _ h1
  exact va_castS C.1.1 C.1.2.1 C.1.2.2.2.1 (C.1.2.2.2.2 _ hl) (C.2.1.1 ci _ hc).2 (va_recv C.2.1 hP hc hq) d (kk h H locs ls hI hW hS hL)
end VC9
theorem Fr.mono {T T' : Nat → Prop} {h h' : Hp} (f : Fr T h h') (hT : ∀ u, T u → T' u) : Fr T' h h' := fun a t e q n => f a t e q (fun z => n (hT _ z))
/-- a macro: its number and its two lists -/
def MaH (a t : Nat) (z : Int) (sl gl : Nat) (h : Hp) : Prop := h a = some (t, .inr (8, [.int (iI z), .ref sl, .ref gl]))
/-- a new audit, k of its arrays made -/
def AuP (cI : ClassId) (a : Nat) (v : Nat → Nat) (t k : Nat) (h : Hp) : Prop := h a = some (t, .inr (5, [if 0 < k then .ref (v 0) else .null, if 1 < k then .ref (v 1) else .null, if 2 < k then .ref (v 2) else .null, if 3 < k then .ref (v 3) else .null, .int 0])) ∧ ∀ j, j < k → h (v j) = some (t + 1 + j, .inl (cI, 210, .inl (iF fun _ => 0)))
theorem AuP_set (v : Nat → Nat) (q : Nat) : ∀ k, k < 4 → ([if 0 < k then .ref (v 0) else .null, if 1 < k then .ref (v 1) else .null, if 2 < k then .ref (v 2) else .null, if 3 < k then .ref (v 3) else .null, .int 0] : List Value).set k (.ref q) = [if 0 < k + 1 then .ref (va_up v k q 0) else .null, if 1 < k + 1 then .ref (va_up v k q 1) else .null, if 2 < k + 1 then .ref (va_up v k q 2) else .null, if 3 < k + 1 then .ref (va_up v k q 3) else .null, .int 0]
  | 0, _ => rfl
  | 1, _ => rfl
  | 2, _ => rfl
  | 3, _ => rfl
theorem AuP.nw {cI : ClassId} {a : Nat} {v : Nat → Nat} {t : Nat} {h : Hp} {q k : Nat} (H : AuP cI a v t k h) (hq : h q = none) (hk : k < 4) : AuP cI a (va_up v k q) t (k + 1) (hup (hup h q (t + 1 + k, .inl (cI, 210, .inl (iF fun _ => 0)))) a (t, .inr (5, ([if 0 < k then .ref (v 0) else .null, if 1 < k then .ref (v 1) else .null, if 2 < k then .ref (v 2) else .null, if 3 < k then .ref (v 3) else .null, .int 0] : List Value).set k (.ref q)))) := by
  have ha : a ≠ q := fun z => by
    have h1 := H.1
    rw [z, hq] at h1
    cases h1
  refine ⟨by rw [hup_s, AuP_set v q k hk], fun j hj => ?_⟩
  have hv : ∀ j, j < k → a ≠ v j := fun j hj z => by
    have h1 := H.1
    rw [z, H.2 j hj] at h1
    have := (Prod.mk.inj (Option.some.inj h1)).1
    omega
  by_cases e : j = k
  · subst e
    rw [va_up_self, hup_n ha.symm, hup_s]
  · rw [va_up_ne _ _ e, hup_n (hv j (by omega)).symm, hup_n]
    · exact H.2 j (by omega)
    · intro z
      have h1 := H.2 j (by omega)
      rw [z, hq] at h1
      cases h1
theorem AuP.a1 {cI : ClassId} {a : Nat} {v : Nat → Nat} {t k : Nat} {h : Hp} (H : AuP cI a v t k h) {q : Nat} {x : Nat × va_E} (hq : h q = none) : hup h q x a = some (t, .inr (5, [if 0 < k then .ref (v 0) else .null, if 1 < k then .ref (v 1) else .null, if 2 < k then .ref (v 2) else .null, if 3 < k then .ref (v 3) else .null, .int 0])) := by
  rw [hup_n, H.1]
  intro z
  have h1 := H.1
  rw [z, hq] at h1
  cases h1
theorem hup_o {h : Hp} {a q : Nat} {x y : Nat × va_E} (ha : h a = some y) (hq : h q = none) : hup h q x a = some y := by
  rw [hup_n, ha]
  intro z
  rw [z, hq] at ha
  cases ha
/-- a cell lies in some of the ranges -/
def myN (G : Nat → Nat → Int) (c r : Int) : Nat → Bool
  | 0 => false
  | j + 1 => myN G c r j || holdsB (G 0 j) (G 1 j) (G 2 j) (G 3 j) c r
theorem myN_mono {G : Nat → Nat → Int} {c r : Int} {j : Nat} (h : myN G c r j = true) : ∀ d, myN G c r (j + d) = true
  | 0 => h
  | d + 1 => by
    rw [← Nat.add_assoc, myN, myN_mono h d]
    rfl
theorem ydX1_init : yX1_init.name = "<init>" ∧ yX1_init.cls ≠ "java/lang/invoke/MethodHandle" ∧ yX1_init.cls ≠ "java/lang/invoke/VarHandle" ∧ (parseMethodDescriptor yX1_init.desc).map (fun d => d.parameters.length) = some 0 := by decide +kernel
theorem ydX2_init : yX2_init.name = "<init>" ∧ yX2_init.cls ≠ "java/lang/invoke/MethodHandle" ∧ yX2_init.cls ≠ "java/lang/invoke/VarHandle" ∧ (parseMethodDescriptor yX2_init.desc).map (fun d => d.parameters.length) = some 0 := by decide +kernel
theorem ydX0_init : yX0_init.name = "<init>" ∧ yX0_init.cls ≠ "java/lang/invoke/MethodHandle" ∧ yX0_init.cls ≠ "java/lang/invoke/VarHandle" ∧ (parseMethodDescriptor yX0_init.desc).map (fun d => d.parameters.length) = some 0 := by decide +kernel
theorem ydX3_init : yX3_init.name = "<init>" ∧ yX3_init.cls ≠ "java/lang/invoke/MethodHandle" ∧ yX3_init.cls ≠ "java/lang/invoke/VarHandle" ∧ (parseMethodDescriptor yX3_init.desc).map (fun d => d.parameters.length) = some 1 := by decide +kernel
section
variable {l : Launch} {D : va_G} {cB cC cI cO cJ cD : ClassId} {ee : Nat × Nat} {la t : Nat} {md sn : Int} {ar : Option Nat} {f : Nat → Option Nat}
variable {v : Nat → Nat} {F : Nat → Int → Int} {n : Int} {len : Nat}
variable {q tq nl tn : Nat} {g : Int → Int}
set_option maxHeartbeats 4000000 in
set_option maxRecDepth 100000 in
theorem kX1_init : Ct l yX1_init wsX1_init ({ frames := 1, cells := 1, slots := 48, locals := 20 } : Room) D (tyL cB cC cI cO cJ cD) ee [.ref la] (fun x => x la = some (t, .inr (6, [.null]))) (fun h v9 h' => v9 = none ∧ (∃ v, CeH cI la v t (fun _ => 0) h') ∧ Fr (tC t) h h') (1) (48) := by
  refine Ct_of (cc := cX1_init) (own := RX1) [some (.ref la)] (by decide) rfl rfl (Nat.le_of_ble_eq_true rfl) (fun i9 v9 h9 => argL [.ref la] 0 rfl i9 v9 h9) ?_
  intro p e s m9 args below meth c9 h0 sz hI C hr hlk hinit
  have hin : ∀ w ∈ wsX10, w ∈ wsX1_init := by decide +kernel
  refine V_weak (I2 := fun x => x la = some (t, .inr (6, [.null])) ∧ Fr (tC t) h0 x) (fun x hx => by subst hx; exact ⟨hI, Fr.refl⟩) ?_
  refine V_aload0 (pc' := 1) C dX1_init_0 rfl ?_
  refine V_objInit (pc' := 4) C (by decide +kernel) (by decide +kernel) (by decide +kernel) ⟨Nat.le_of_ble_eq_true rfl, Nat.le_of_ble_eq_true rfl⟩ dX1_init_1 rfl ?_
  refine V_aload0 (pc' := 5) C dX1_init_4 rfl ?_
  refine V_bipush (pc' := 7) C dX1_init_5 rfl (by decide) ?_
  refine V_newarr (pc' := 9) (N := 48) (atype := .int) (ty := .int) (a0 := (48, .inl (iF fun _ => 0))) (t + 1) C (by decide +kernel) rfl 2 rfl (fun cA => rfl) ⟨rfl, by decide⟩ (Nat.le_of_ble_eq_true rfl) (Nat.le_of_ble_eq_true rfl) dX1_init_7 rfl (fun q1 => ?_)
  refine V_putF (pc' := 12) (T := TX1) (N := 1) (ci := 6) (I2 := fun x => (CeH cI la q1 t (fun _ => 0)) x ∧ Fr (tC t) h0 x) C hin tyX1_ok nmX1 rfl 0 (by decide) (by decide +kernel) rfl (hinit rfl) rfl rfl rfl (fun h hh => by
    obtain ⟨h1, hh1, hq1, rfl⟩ := hh
    exact ⟨t, _, hup_o hh1.1 hq1, Nat.le_of_ble_eq_true rfl, ⟨hup_s, by rw [hup_n (fun z => by have h2 := hh1.1; rw [← z, hq1] at h2; cases h2)]; exact hup_s⟩, (hh1.2.new hq1).up (hup_o hh1.1 hq1) tC_1⟩) dX1_init_9 rfl ?_
  exact V_endv C hr hlk (fun h' hh => ⟨rfl, ⟨q1, hh.1⟩, hh.2⟩) ⟨Nat.le_of_ble_eq_true rfl, Nat.le_of_ble_eq_true rfl⟩ dX1_init_12
set_option maxHeartbeats 4000000 in
set_option maxRecDepth 100000 in
theorem kX2_init : Ct l yX2_init wsX2_init ({ frames := 1, cells := 1, slots := 8, locals := 20 } : Room) D (tyL cB cC cI cO cJ cD) ee [.ref la] (fun x => x la = some (t, .inr (7, [.null, .int 0]))) (fun h v9 h' => v9 = none ∧ (∃ v, HiH cI la v t (fun _ => 0) 0 h') ∧ Fr (tC t) h h') (1) (8) := by
  refine Ct_of (cc := cX2_init) (own := RX2) [some (.ref la)] (by decide) rfl rfl (Nat.le_of_ble_eq_true rfl) (fun i9 v9 h9 => argL [.ref la] 0 rfl i9 v9 h9) ?_
  intro p e s m9 args below meth c9 h0 sz hI C hr hlk hinit
  have hin : ∀ w ∈ wsX20, w ∈ wsX2_init := by decide +kernel
  refine V_weak (I2 := fun x => x la = some (t, .inr (7, [.null, .int 0])) ∧ Fr (tC t) h0 x) (fun x hx => by subst hx; exact ⟨hI, Fr.refl⟩) ?_
  refine V_aload0 (pc' := 1) C dX2_init_0 rfl ?_
  refine V_objInit (pc' := 4) C (by decide +kernel) (by decide +kernel) (by decide +kernel) ⟨Nat.le_of_ble_eq_true rfl, Nat.le_of_ble_eq_true rfl⟩ dX2_init_1 rfl ?_
  refine V_aload0 (pc' := 5) C dX2_init_4 rfl ?_
  refine V_bipush (pc' := 7) C dX2_init_5 rfl (by decide) ?_
  refine V_newarr (pc' := 9) (N := 8) (atype := .int) (ty := .int) (a0 := (8, .inl (iF fun _ => 0))) (t + 1) C (by decide +kernel) rfl 2 rfl (fun cA => rfl) ⟨rfl, by decide⟩ (Nat.le_of_ble_eq_true rfl) (Nat.le_of_ble_eq_true rfl) dX2_init_7 rfl (fun q1 => ?_)
  refine V_putF (pc' := 12) (T := TX2) (N := 2) (ci := 7) (I2 := fun x => (HiH cI la q1 t (fun _ => 0) 0) x ∧ Fr (tC t) h0 x) C hin tyX2_ok nmX2 rfl 0 (by decide) (by decide +kernel) rfl (hinit rfl) rfl rfl rfl (fun h hh => by
    obtain ⟨h1, hh1, hq1, rfl⟩ := hh
    exact ⟨t, _, hup_o hh1.1 hq1, Nat.le_of_ble_eq_true rfl, ⟨hup_s, by rw [hup_n (fun z => by have h2 := hh1.1; rw [← z, hq1] at h2; cases h2)]; exact hup_s⟩, (hh1.2.new hq1).up (hup_o hh1.1 hq1) tC_1⟩) dX2_init_9 rfl ?_
  exact V_endv C hr hlk (fun h' hh => ⟨rfl, ⟨q1, hh.1⟩, hh.2⟩) ⟨Nat.le_of_ble_eq_true rfl, Nat.le_of_ble_eq_true rfl⟩ dX2_init_12
set_option maxHeartbeats 4000000 in
set_option maxRecDepth 100000 in
theorem kX0_init : Ct l yX0_init wsX0_init ({ frames := 1, cells := 4, slots := 840, locals := 20 } : Room) D (tyL cB cC cI cO cJ cD) ee [.ref la] (AuP cI la (fun _ => 0) t 0) (fun h v9 h' => v9 = none ∧ (∃ v, AuH cI la v t (fun _ _ => 0) 0 210 h') ∧ Fr (tU t) h h') (4) (840) := by
  refine Ct_of (cc := cX0_init) (own := RX0) [some (.ref la)] (by decide) rfl rfl (Nat.le_of_ble_eq_true rfl) (fun i9 v9 h9 => argL [.ref la] 0 rfl i9 v9 h9) ?_
  intro p e s m9 args below meth c9 h0 sz hI C hr hlk hinit
  have hin : ∀ w ∈ wsX00, w ∈ wsX0_init := by decide +kernel
  refine V_weak (I2 := fun x => AuP cI la (fun _ => 0) t 0 x ∧ Fr (tU t) h0 x) (fun x hx => by subst hx; exact ⟨hI, Fr.refl⟩) ?_
  refine V_aload0 (pc' := 1) C dX0_init_0 rfl ?_
  refine V_objInit (pc' := 4) C (by decide +kernel) (by decide +kernel) (by decide +kernel) ⟨Nat.le_of_ble_eq_true rfl, Nat.le_of_ble_eq_true rfl⟩ dX0_init_1 rfl ?_
  refine V_aload0 (pc' := 5) C dX0_init_4 rfl ?_
  refine V_sipush (pc' := 8) C dX0_init_5 rfl (by decide) ?_
  refine V_newarr (pc' := 10) (N := 210) (atype := .int) (ty := .int) (a0 := (210, .inl (iF fun _ => 0))) (t + 1 + 0) C (by decide +kernel) rfl 2 rfl (fun cA => rfl) ⟨rfl, by decide⟩ (Nat.le_of_ble_eq_true rfl) (Nat.le_of_ble_eq_true rfl) dX0_init_8 rfl (fun q0 => ?_)
  refine V_putf (pc' := 13) (T := TX0) (N := 5) (ci := 5) (I2 := fun x => AuP cI la (va_up (fun _ => 0) 0 q0) t 1 x ∧ Fr (tU t) h0 x) C hin tyX0_ok nmX0 rfl 0 (by decide) (by decide +kernel) rfl rfl rfl (fun h hh => by
    obtain ⟨h1, hh1, hq1, rfl⟩ := hh
    exact ⟨t, _, hh1.1.a1 hq1, Nat.le_of_ble_eq_true rfl, hh1.1.nw hq1 (by decide), (hh1.2.new hq1).up (hh1.1.a1 hq1) tU_1⟩) dX0_init_10 rfl ?_
  refine V_aload0 (pc' := 14) C dX0_init_13 rfl ?_
  refine V_sipush (pc' := 17) C dX0_init_14 rfl (by decide) ?_
  refine V_newarr (pc' := 19) (N := 210) (atype := .int) (ty := .int) (a0 := (210, .inl (iF fun _ => 0))) (t + 1 + 1) C (by decide +kernel) rfl 2 rfl (fun cA => rfl) ⟨rfl, by decide⟩ (Nat.le_of_ble_eq_true rfl) (Nat.le_of_ble_eq_true rfl) dX0_init_17 rfl (fun q1 => ?_)
  refine V_putf (pc' := 22) (T := TX0) (N := 5) (ci := 5) (I2 := fun x => AuP cI la (va_up (va_up (fun _ => 0) 0 q0) 1 q1) t 2 x ∧ Fr (tU t) h0 x) C hin tyX0_ok nmX0 rfl 1 (by decide) (by decide +kernel) rfl rfl rfl (fun h hh => by
    obtain ⟨h1, hh1, hq1, rfl⟩ := hh
    exact ⟨t, _, hh1.1.a1 hq1, Nat.le_of_ble_eq_true rfl, hh1.1.nw hq1 (by decide), (hh1.2.new hq1).up (hh1.1.a1 hq1) tU_1⟩) dX0_init_19 rfl ?_
  refine V_aload0 (pc' := 23) C dX0_init_22 rfl ?_
  refine V_sipush (pc' := 26) C dX0_init_23 rfl (by decide) ?_
  refine V_newarr (pc' := 28) (N := 210) (atype := .int) (ty := .int) (a0 := (210, .inl (iF fun _ => 0))) (t + 1 + 2) C (by decide +kernel) rfl 2 rfl (fun cA => rfl) ⟨rfl, by decide⟩ (Nat.le_of_ble_eq_true rfl) (Nat.le_of_ble_eq_true rfl) dX0_init_26 rfl (fun q2 => ?_)
  refine V_putf (pc' := 31) (T := TX0) (N := 5) (ci := 5) (I2 := fun x => AuP cI la (va_up (va_up (va_up (fun _ => 0) 0 q0) 1 q1) 2 q2) t 3 x ∧ Fr (tU t) h0 x) C hin tyX0_ok nmX0 rfl 2 (by decide) (by decide +kernel) rfl rfl rfl (fun h hh => by
    obtain ⟨h1, hh1, hq1, rfl⟩ := hh
    exact ⟨t, _, hh1.1.a1 hq1, Nat.le_of_ble_eq_true rfl, hh1.1.nw hq1 (by decide), (hh1.2.new hq1).up (hh1.1.a1 hq1) tU_1⟩) dX0_init_28 rfl ?_
  refine V_aload0 (pc' := 32) C dX0_init_31 rfl ?_
  refine V_sipush (pc' := 35) C dX0_init_32 rfl (by decide) ?_
  refine V_newarr (pc' := 37) (N := 210) (atype := .int) (ty := .int) (a0 := (210, .inl (iF fun _ => 0))) (t + 1 + 3) C (by decide +kernel) rfl 2 rfl (fun cA => rfl) ⟨rfl, by decide⟩ (Nat.le_of_ble_eq_true rfl) (Nat.le_of_ble_eq_true rfl) dX0_init_35 rfl (fun q3 => ?_)
  refine V_putf (pc' := 40) (T := TX0) (N := 5) (ci := 5) (I2 := fun x => AuP cI la (va_up (va_up (va_up (va_up (fun _ => 0) 0 q0) 1 q1) 2 q2) 3 q3) t 4 x ∧ Fr (tU t) h0 x) C hin tyX0_ok nmX0 rfl 3 (by decide) (by decide +kernel) rfl rfl rfl (fun h hh => by
    obtain ⟨h1, hh1, hq1, rfl⟩ := hh
    exact ⟨t, _, hh1.1.a1 hq1, Nat.le_of_ble_eq_true rfl, hh1.1.nw hq1 (by decide), (hh1.2.new hq1).up (hh1.1.a1 hq1) tU_1⟩) dX0_init_37 rfl ?_
  exact V_endv C hr hlk (fun h' hh => ⟨rfl, ⟨_, hh.1.1, hh.1.2, by decide, by decide, by decide⟩, hh.2⟩) ⟨Nat.le_of_ble_eq_true rfl, Nat.le_of_ble_eq_true rfl⟩ dX0_init_40
set_option maxHeartbeats 4000000 in
set_option maxRecDepth 100000 in
theorem kX3_init {ts tg : Nat} {z : Int} (ht : ¬ tL ts t ∧ ¬ tL tg t ∧ ¬ tL tg ts ∧ ¬ tL tg (ts + 10)) : Ct l yX3_init wsX3_init ({ frames := 4, cells := 2, slots := 6, locals := 80 } : Room) D (tyL cB cC cI cO cJ cD) ee [.ref la, .int (iI z)] (fun x => x la = some (t, .inr (8, [.int 0, .null, .null]))) (fun h v9 h' => v9 = none ∧ (∃ q1 q2, MaH la t z q1 q2 h' ∧ LH cO ee q1 ts 0 none 0 (fun _ => none) h' ∧ LH cO ee q2 tg 0 none 0 (fun _ => none) h') ∧ Fr (fun u => u = t ∨ tL ts u ∨ tL tg u) h h') (2) (6) := by
  refine Ct_of (cc := cX3_init) (own := RX3) [some (.ref la), some (.int (iI z))] (by decide) rfl rfl (Nat.le_of_ble_eq_true rfl) (fun i9 v9 h9 => argL [.ref la, .int (iI z)] 0 rfl i9 v9 h9) ?_
  intro p e s m9 args below meth c9 h0 sz hI C hr hlk hinit
  have hin : ∀ w ∈ wsX30, w ∈ wsX3_init := by decide +kernel
  refine V_weak (I2 := fun x => x la = some (t, .inr (8, [.int 0, .null, .null])) ∧ Fr (fun u => u = t ∨ tL ts u ∨ tL tg u) h0 x) (fun x hx => by subst hx; exact ⟨hI, Fr.refl⟩) ?_
  refine V_aload0 (pc' := 1) C dX3_init_0 rfl ?_
  refine V_objInit (pc' := 4) C (by decide +kernel) (by decide +kernel) (by decide +kernel) ⟨Nat.le_of_ble_eq_true rfl, Nat.le_of_ble_eq_true rfl⟩ dX3_init_1 rfl ?_
  refine V_aload0 (pc' := 5) C dX3_init_4 rfl ?_
  refine V_iload1 (pc' := 6) C dX3_init_5 rfl ?_
  refine V_putF (pc' := 9) (T := TX3) (N := 3) (ci := 8) (I2 := fun x => (x la = some (t, .inr (8, [.int (iI z), .null, .null]))) ∧ Fr (fun u => u = t ∨ tL ts u ∨ tL tg u) h0 x) C hin tyX3_ok nmX3 rfl 0 (by decide) (by decide +kernel) rfl (hinit rfl) rfl rfl rfl (fun h hh => ⟨t, _, hh.1, Nat.le_of_ble_eq_true rfl, hup_s, hh.2.up hh.1 (Or.inl rfl)⟩) dX3_init_6 rfl ?_
  refine V_aload0 (pc' := 10) C dX3_init_9 rfl ?_
  refine V_new (pc' := 13) (T := TJx4a65c) (N := 3) (ty0 := tyJx4a65c) (ci := 4) (fs := [.int 0, .null, .int 0]) ts C (by decide +kernel) tyJx4a65c_ok (by decide +kernel) (by decide +kernel) (by decide +kernel) rfl (by decide) (Nat.le_of_ble_eq_true rfl) (Nat.le_of_ble_eq_true rfl) dX3_init_10 rfl (fun q1 => ?_)
  refine V_weak (I2 := fun x => (x la = some (t, .inr (8, [.int (iI z), .null, .null])) ∧ x q1 = some (ts, aNew)) ∧ Fr (fun u => u = t ∨ tL ts u ∨ tL tg u) h0 x) (fun x hx => by
    obtain ⟨h1, hh1, hq1, rfl⟩ := hx
    exact ⟨⟨hup_o hh1.1 hq1, hup_s⟩, hh1.2.new hq1⟩) ?_
  refine V_dup (pc' := 14) C rfl dX3_init_13 rfl ?_
  refine V_callI (n := 0) [] C (kJx4a65c_init_da8c8 (t := ts)) gX3_init_Jx4a65c_init_da8c8 (by decide +kernel) (by decide +kernel) (by decide +kernel) rfl ydJx4a65c_init_da8c8 ⟨Nat.le_of_ble_eq_true rfl, Nat.le_of_ble_eq_true rfl⟩ ⟨rfl, rfl⟩ rfl (fun h hh => hh.1.2) rfl (Nat.le_of_ble_eq_true rfl) dX3_init_14 ⟨Nat.le_of_ble_eq_true rfl, Nat.le_of_ble_eq_true rfl⟩ (fun h v h' hh hj => ?_)
  obtain ⟨rfl, hj1, hj2⟩ := hj
  refine V_weak (I2 := fun x => (x la = some (t, .inr (8, [.int (iI z), .null, .null])) ∧ LH cO ee q1 ts 0 none 0 (fun _ => none) x) ∧ Fr (fun u => u = t ∨ tL ts u ∨ tL tg u) h0 x) (fun x hx => by rw [hx]; exact ⟨⟨hj2 _ _ _ hh.1.1 ht.1, hj1⟩, hh.2.trans (hj2.mono (fun u hu => Or.inr (Or.inl hu)))⟩) ?_
  refine V_putF (pc' := 20) (T := TX3) (N := 3) (ci := 8) (I2 := fun x => (x la = some (t, .inr (8, [.int (iI z), .ref q1, .null])) ∧ LH cO ee q1 ts 0 none 0 (fun _ => none) x) ∧ Fr (fun u => u = t ∨ tL ts u ∨ tL tg u) h0 x) C hin tyX3_ok nmX3 rfl 1 (by decide) (by decide +kernel) rfl (hinit rfl) rfl rfl rfl (fun h hh => ⟨t, _, hh.1.1, Nat.le_of_ble_eq_true rfl, ⟨hup_s, (hh.1.2.fr (T := fun u => u = t) (Fr.refl.up hh.1.1 rfl) (fun z => ht.1 (by rw [← z]; exact tL_1)) (fun z => ht.1 (by rw [← z]; exact tL_2)))⟩, hh.2.up hh.1.1 (Or.inl rfl)⟩) dX3_init_17 rfl ?_
  refine V_aload0 (pc' := 21) C dX3_init_20 rfl ?_
  refine V_new (pc' := 24) (T := TJx4a65c) (N := 3) (ty0 := tyJx4a65c) (ci := 4) (fs := [.int 0, .null, .int 0]) tg C (by decide +kernel) tyJx4a65c_ok (by decide +kernel) (by decide +kernel) (by decide +kernel) rfl (by decide) (Nat.le_of_ble_eq_true rfl) (Nat.le_of_ble_eq_true rfl) dX3_init_21 rfl (fun q2 => ?_)
  refine V_weak (I2 := fun x => (x la = some (t, .inr (8, [.int (iI z), .ref q1, .null])) ∧ LH cO ee q1 ts 0 none 0 (fun _ => none) x ∧ x q2 = some (tg, aNew)) ∧ Fr (fun u => u = t ∨ tL ts u ∨ tL tg u) h0 x) (fun x hx => by
    obtain ⟨h1, hh1, hq1, rfl⟩ := hx
    exact ⟨⟨hup_o hh1.1.1 hq1, hh1.1.2.fr (T := fun _ => False) (Fr.refl.new hq1) (fun z => z) (fun z => z), hup_s⟩, hh1.2.new hq1⟩) ?_
  refine V_dup (pc' := 25) C rfl dX3_init_24 rfl ?_
  refine V_callI (n := 0) [] C (kJx4a65c_init_da8c8 (t := tg)) gX3_init_Jx4a65c_init_da8c8 (by decide +kernel) (by decide +kernel) (by decide +kernel) rfl ydJx4a65c_init_da8c8 ⟨Nat.le_of_ble_eq_true rfl, Nat.le_of_ble_eq_true rfl⟩ ⟨rfl, rfl⟩ rfl (fun h hh => hh.1.2.2) rfl (Nat.le_of_ble_eq_true rfl) dX3_init_25 ⟨Nat.le_of_ble_eq_true rfl, Nat.le_of_ble_eq_true rfl⟩ (fun h v h' hh hj => ?_)
  obtain ⟨rfl, hj1, hj2⟩ := hj
  refine V_weak (I2 := fun x => (x la = some (t, .inr (8, [.int (iI z), .ref q1, .null])) ∧ LH cO ee q1 ts 0 none 0 (fun _ => none) x ∧ LH cO ee q2 tg 0 none 0 (fun _ => none) x) ∧ Fr (fun u => u = t ∨ tL ts u ∨ tL tg u) h0 x) (fun x hx => by rw [hx]; exact ⟨⟨hj2 _ _ _ hh.1.1 ht.2.1, hh.1.2.1.fr hj2 ht.2.2.1 ht.2.2.2, hj1⟩, hh.2.trans (hj2.mono (fun u hu => Or.inr (Or.inr hu)))⟩) ?_
  refine V_putF (pc' := 31) (T := TX3) (N := 3) (ci := 8) (I2 := fun x => (x la = some (t, .inr (8, [.int (iI z), .ref q1, .ref q2])) ∧ LH cO ee q1 ts 0 none 0 (fun _ => none) x ∧ LH cO ee q2 tg 0 none 0 (fun _ => none) x) ∧ Fr (fun u => u = t ∨ tL ts u ∨ tL tg u) h0 x) C hin tyX3_ok nmX3 rfl 2 (by decide) (by decide +kernel) rfl (hinit rfl) rfl rfl rfl (fun h hh => ⟨t, _, hh.1.1, Nat.le_of_ble_eq_true rfl, ⟨hup_s, (hh.1.2.1.fr (T := fun u => u = t) (Fr.refl.up hh.1.1 rfl) (fun z => ht.1 (by rw [← z]; exact tL_1)) (fun z => ht.1 (by rw [← z]; exact tL_2))), (hh.1.2.2.fr (T := fun u => u = t) (Fr.refl.up hh.1.1 rfl) (fun z => ht.2.1 (by rw [← z]; exact tL_1)) (fun z => ht.2.1 (by rw [← z]; exact tL_2)))⟩, hh.2.up hh.1.1 (Or.inl rfl)⟩) dX3_init_28 rfl ?_
  exact V_endv C hr hlk (fun h' hh => ⟨rfl, ⟨q1, q2, hh.1⟩, hh.2⟩) ⟨Nat.le_of_ble_eq_true rfl, Nat.le_of_ble_eq_true rfl⟩ dX3_init_31
end

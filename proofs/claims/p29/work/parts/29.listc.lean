/-! lists that change -/
section VS9
variable {p : Program} {l : Launch} {e : Env} {R : Room} {s : State} {m : MethodId} {args : Array Value} {below : List Frame} {meth : Method} {c : Code} {cells slots : Nat} {Q : State → Prop} {D : va_G} {tys : List (ClassId × FieldType)} {A : Nat → Prop} {nL : Nat} {cc : ByteArray} {Ts : List Cond} {own : String} {ee : Nat × Nat}
variable {I : Hp → Prop} {pc pc' : Nat} {L : List (Option Value)} {st : List Value}
/-- a field that is named by a class below its own -/
theorem V_getfS {Cn ref : String} {T : u_T} {N ci index a : Nat} {v : Value} (C : Cx p m c cc nL s args Ts own D tys A ee) (hin : ∀ w ∈ u_ws Cn T N, w ∈ Ts) (hc : vwCl[ci]? = some (Cn, T, N)) (k : Nat) (hk : k < N) (hl : Cond.fieldLink own index ref (T k).2.1 (T k).2.2.1 ∈ Ts) (hs : Cond.sameField ref (T k).1 (T k).2.1 (T k).2.2.1 ∈ Ts) (he : ∀ h, I h → ∃ t fs, h a = some (t, .inr (ci, fs)) ∧ fs[k]? = some v) (d : decode cc pc = .ok (.getfield index, 3)) (e0 : pc + 3 = pc') (kk : Vx p l e R s m args below meth c cells slots Q D A nL I pc' L (v :: st)) : Vx p l e R s m args below meth c cells slots Q D A nL I pc L (.ref a :: st) := by
  subst e0
  intro h H locs ls hI hW hS hL
  obtain ⟨t, fs, h1, h2⟩ := he h hI
  obtain ⟨ws, hP, hD, hw⟩ := id hW
  obtain ⟨q0, hq⟩ := hw a t _ h1
  exact va_get C.1.1 C.1.2.1 C.1.2.2.2.2 hin C.1.2.2.2.1 C.2.1 hP q0 hq hc k hk (C.1.2.2.2.2 _ hl) (fun x h9 => u_same (C.1.2.2.2.2 _ hs) x h9) h2 d (kk h H locs ls hI hW hS hL)
theorem V_putfS {Cn ref : String} {T : u_T} {N ci index a : Nat} {v : Value} {I2 : Hp → Prop} {ty0 : Nat → FieldType} (C : Cx p m c cc nL s args Ts own D tys A ee) (hin : ∀ w ∈ u_ws Cn T N, w ∈ Ts) (hty : ∀ k, k < N → parseFieldDescriptor (T k).2.2.1 = some (ty0 k)) (hnm : ∀ a, a < N → ∀ b, b < N → a ≠ b → (T a).2.1 ≠ (T b).2.1) (hc : vwCl[ci]? = some (Cn, T, N)) (k : Nat) (hk : k < N) (hl : Cond.fieldLink own index ref (T k).2.1 (T k).2.2.1 ∈ Ts) (hs : Cond.sameField ref (T k).1 (T k).2.1 (T k).2.2.1 ∈ Ts) (hfin : (T k).2.2.2 = false) (hn : narrow (ty0 k) v = v) (hfit : fits (ty0 k) v = true) (he : ∀ h, I h → ∃ t fs, h a = some (t, .inr (ci, fs)) ∧ k < fs.length ∧ I2 (hup h a (t, .inr (ci, fs.set k v)))) (d : decode cc pc = .ok (.putfield index, 3)) (e0 : pc + 3 = pc') (kk : Vx p l e R s m args below meth c cells slots Q D A nL I2 pc' L st) : Vx p l e R s m args below meth c cells slots Q D A nL I pc L (v :: .ref a :: st) := by
  subst e0
  intro h H locs ls hI hW hS hL
  obtain ⟨t, fs, h1, h2, h3⟩ := he h hI
  obtain ⟨ws, hP, hD, hw⟩ := id hW
  obtain ⟨q0, hq⟩ := hw a t _ h1
  exact va_put C.1.1 C.1.2.1 C.1.2.2.2.2 hin ty0 hty hnm C.1.2.2.2.1 C.2.1 hP hD hS q0 hq hc k hk (C.1.2.2.2.2 _ hl) (fun x h9 => u_same (C.1.2.2.2.2 _ hs) x h9) hfin (hty k hk) hn hfit h2 d (fun H1 locs1 p1 d1 s1 => kk _ H1 locs1 ls h3 ⟨_, p1, d1, hpW_set hD hw hq⟩ s1 hL)
end VS9
abbrev aLst (md : Int) (x : Value) (sn : Int) : va_E := .inr (4, [.int (iI md), x, .int (iI sn)])
theorem LH_put0 {cO : ClassId} {ee : Nat × Nat} {la t : Nat} {md md' sn : Int} {ar : Option Nat} {f : Nat → Option Nat} {h : Hp} (H : LH cO ee la t md ar sn f h) : LH cO ee la t md' ar sn f (hup h la (t, aLst md' (.ref (ar.getD ee.1)) sn)) := by
  refine ⟨hup_s, fun q hq => ?_, H.2.2⟩
  rw [hup_n]
  · exact H.2.1 q hq
  · subst hq
    exact fun z => H.ne z.symm
theorem LH_put2 {cO : ClassId} {ee : Nat × Nat} {la t : Nat} {md sn sn' : Int} {q : Nat} {f : Nat → Option Nat} {h : Hp} (H : LH cO ee la t md (some q) sn f h) (h0 : 0 ≤ sn' ∧ sn' ≤ 10) : LH cO ee la t md (some q) sn' f (hup h la (t, aLst md (.ref q) sn')) := by
  refine ⟨hup_s, fun q' hq => ?_, (fun z => by cases z), h0⟩
  rw [hup_n]
  · exact H.2.1 q' hq
  · cases hq
    exact fun z => H.ne z.symm
theorem LH_put2N {cO : ClassId} {ee : Nat × Nat} {la t : Nat} {md sn : Int} {f : Nat → Option Nat} {h : Hp} (H : LH cO ee la t md none sn f h) : LH cO ee la t md none 0 f (hup h la (t, aLst md (.ref ee.1) 0)) := ⟨hup_s, (fun q' hq => by cases hq), fun _ => ⟨rfl, (H.2.2.1 rfl).2⟩, by omega, by omega⟩
theorem LH_st {cO : ClassId} {ee : Nat × Nat} {la t : Nat} {md sn : Int} {q : Nat} {f f' : Nat → Option Nat} {h : Hp} (H : LH cO ee la t md (some q) sn f h) : LH cO ee la t md (some q) sn f' (hup h q (t + 10, .inl (cO, qA 10 f'))) := ⟨by rw [hup_n H.ne]; exact H.1, (fun q' hq => by cases hq; exact hup_s), (fun z => by cases z), H.2.2.2⟩
theorem LH_grow {cO : ClassId} {ee : Nat × Nat} {la t q : Nat} {md sn : Int} {f : Nat → Option Nat} {h : Hp} (H : LH cO ee la t md none sn f h) (hq : h q = none) : LH cO ee la t md (some q) 0 f (hup (hup h q (t + 10, .inl (cO, qA 10 (fun _ => none)))) la (t, aLst md (.ref q) 0)) := by
  refine ⟨hup_s, fun q' e => ?_, (fun z => by cases z), by omega, by omega⟩
  cases e
  rw [hup_n, hup_s]
  · rw [show f = fun _ => none from funext (H.2.2.1 rfl).2]
  · intro z
    rw [z, H.1] at hq
    cases hq
theorem LH_gr1 {cO : ClassId} {ee : Nat × Nat} {la t q : Nat} {md sn : Int} {f : Nat → Option Nat} {h : Hp} {x : Nat × va_E} (H : LH cO ee la t md none sn f h) (hq : h q = none) : hup h q x la = some (t, aLst md (.ref ee.1) 0) := by
  rw [hup_n, H.1]
  · rw [(H.2.2.1 rfl).1]
    rfl
  · intro z
    rw [← z, H.1] at hq
    cases hq
theorem tL_1 {t : Nat} : tL t t := Or.inl rfl
theorem tL_2 {t : Nat} : tL t (t + 10) := Or.inr rfl
/-- a new list's fields -/
def aNew : va_E := .inr (4, [.int 0, .null, .int 0])
theorem va_cl {f : Nat → Option Nat} {j : Nat} : va_up (fun i => if i < j then none else f i) (j : Int).toNat none = fun i => if i < j + 1 then none else f i := by
  funext i
  unfold va_up
  by_cases h1 : i = j
  · rw [if_pos (by omega), if_pos (by omega)]
  · rw [if_neg (by omega)]
    dsimp only
    by_cases h2 : i < j
    · rw [if_pos h2, if_pos (by omega)]
    · rw [if_neg h2, if_neg (by omega)]
theorem ydJx4a65c_grow_92f84 : yJx4a65c_grow_92f84.cls = RJx4a65c ∧ yJx4a65c_grow_92f84.cls ≠ "java/lang/invoke/MethodHandle" ∧ yJx4a65c_grow_92f84.cls ≠ "java/lang/invoke/VarHandle" ∧ (parseMethodDescriptor yJx4a65c_grow_92f84.desc).map (fun d => d.parameters.length) = some 1 := by decide +kernel
theorem ydJx4a65c_grow_d5877 : yJx4a65c_grow_d5877.cls = RJx4a65c ∧ yJx4a65c_grow_d5877.cls ≠ "java/lang/invoke/MethodHandle" ∧ yJx4a65c_grow_d5877.cls ≠ "java/lang/invoke/VarHandle" ∧ (parseMethodDescriptor yJx4a65c_grow_d5877.desc).map (fun d => d.parameters.length) = some 0 := by decide +kernel
theorem ydJx4a65c_add_72be8 : yJx4a65c_add_72be8.cls = RJx4a65c ∧ yJx4a65c_add_72be8.cls ≠ "java/lang/invoke/MethodHandle" ∧ yJx4a65c_add_72be8.cls ≠ "java/lang/invoke/VarHandle" ∧ (parseMethodDescriptor yJx4a65c_add_72be8.desc).map (fun d => d.parameters.length) = some 3 := by decide +kernel
theorem ydJx4a65c_add_9ea2d : yJx4a65c_add_9ea2d.cls = RJx4a65c ∧ yJx4a65c_add_9ea2d.cls ≠ "java/lang/invoke/MethodHandle" ∧ yJx4a65c_add_9ea2d.cls ≠ "java/lang/invoke/VarHandle" ∧ (parseMethodDescriptor yJx4a65c_add_9ea2d.desc).map (fun d => d.parameters.length) = some 1 := by decide +kernel
theorem ydJx4a65c_clear_da8c8 : yJx4a65c_clear_da8c8.cls = RJx4a65c ∧ yJx4a65c_clear_da8c8.cls ≠ "java/lang/invoke/MethodHandle" ∧ yJx4a65c_clear_da8c8.cls ≠ "java/lang/invoke/VarHandle" ∧ (parseMethodDescriptor yJx4a65c_clear_da8c8.desc).map (fun d => d.parameters.length) = some 0 := by decide +kernel
theorem ydJxa1e45_init_da8c8 : yJxa1e45_init_da8c8.name = "<init>" ∧ yJxa1e45_init_da8c8.cls ≠ "java/lang/invoke/MethodHandle" ∧ yJxa1e45_init_da8c8.cls ≠ "java/lang/invoke/VarHandle" ∧ (parseMethodDescriptor yJxa1e45_init_da8c8.desc).map (fun d => d.parameters.length) = some 0 := by decide +kernel
theorem ydJxc12de_init_da8c8 : yJxc12de_init_da8c8.name = "<init>" ∧ yJxc12de_init_da8c8.cls ≠ "java/lang/invoke/MethodHandle" ∧ yJxc12de_init_da8c8.cls ≠ "java/lang/invoke/VarHandle" ∧ (parseMethodDescriptor yJxc12de_init_da8c8.desc).map (fun d => d.parameters.length) = some 0 := by decide +kernel
theorem ydJx4a65c_init_da8c8 : yJx4a65c_init_da8c8.name = "<init>" ∧ yJx4a65c_init_da8c8.cls ≠ "java/lang/invoke/MethodHandle" ∧ yJx4a65c_init_da8c8.cls ≠ "java/lang/invoke/VarHandle" ∧ (parseMethodDescriptor yJx4a65c_init_da8c8.desc).map (fun d => d.parameters.length) = some 0 := by decide +kernel
section
variable {l : Launch} {D : va_G} {cB cC cI cO cJ cD : ClassId} {ee : Nat × Nat} {la t : Nat} {md sn : Int} {ar : Option Nat} {f : Nat → Option Nat}
set_option maxHeartbeats 4000000 in
set_option maxRecDepth 100000 in
theorem kJx4a65c_grow_92f84 {mn : Int} (hm : rI mn ∧ mn ≤ 10) : Ct l yJx4a65c_grow_92f84 wsJx4a65c_grow_92f84 ({ frames := 1, cells := 1, slots := 10, locals := 22 } : Room) D (tyL cB cC cI cO cJ cD) ee [.ref la, .int (iI mn)] (LH cO ee la t md none sn f) (fun h v h' => ∃ q, v = some (.ref q) ∧ LH cO ee la t md (some q) 0 f h' ∧ Fr (tL t) h h') (1) (10) := by
  refine Ct_of (cc := cJx4a65c_grow_92f84) (own := RJx4a65c) [some (.ref la), some (.int (iI mn)), none, none] (by decide) rfl rfl (Nat.le_of_ble_eq_true rfl) (fun i9 v9 h9 => argL [.ref la, .int (iI mn)] 2 rfl i9 v9 h9) ?_
  intro p e s m9 args below meth c9 h0 sz hI C hr hlk hinit
  have hin : ∀ w ∈ wsJx4a65c0, w ∈ wsJx4a65c_grow_92f84 := by decide +kernel
  refine V_weak (I2 := fun x => LH cO ee la t (md) (none) (sn) (f) x ∧ Fr (tL t) h0 x) (fun x hx => by subst hx; exact ⟨hI, Fr.refl⟩) ?_
  refine V_aload0 (pc' := 1) C dJx4a65c_grow_92f84_0 rfl ?_
  refine V_getf (pc' := 4) (T := TJx4a65c) (N := 3) (ci := 4) C hin rfl 1 (by decide) (by decide +kernel) (fun h hh => ⟨t, _, hh.1.1, rfl⟩) dJx4a65c_grow_92f84_1 rfl ?_
  refine V_alenE (pc' := 5) C dJx4a65c_grow_92f84_4 rfl ?_
  refine V_istore2 (pc' := 6) C dJx4a65c_grow_92f84_5 rfl (by decide) rfl ?_
  refine V_iload2 (pc' := 7) C dJx4a65c_grow_92f84_6 rfl ?_
  refine V_ifgt (tgt := 20) C (by omega) dJx4a65c_grow_92f84_7 (by decide) rfl (fun c_7 => ?_) (fun c_7 => ?_)
  · exact absurd c_7 (by decide)
  · refine V_aload0 (pc' := 11) C dJx4a65c_grow_92f84_10 rfl ?_
    refine V_getf (pc' := 14) (T := TJx4a65c) (N := 3) (ci := 4) C hin rfl 1 (by decide) (by decide +kernel) (fun h hh => ⟨t, _, hh.1.1, rfl⟩) dJx4a65c_grow_92f84_11 rfl ?_
    refine V_getsE (pc' := 17) C (by decide +kernel) dJx4a65c_grow_92f84_14 rfl ?_
    refine V_acmpeq (tgt := 45) C dJx4a65c_grow_92f84_17 (by decide) rfl (fun c_17 => ?_) (fun c_17 => ?_)
    · refine V_aload0 (pc' := 46) C dJx4a65c_grow_92f84_45 rfl ?_
      refine V_bipush (pc' := 48) C dJx4a65c_grow_92f84_46 rfl (by decide) ?_
      refine V_iload1 (pc' := 49) C dJx4a65c_grow_92f84_48 rfl ?_
      refine V_mmax (pc' := 52) C (by decide +kernel) (by decide +kernel) (by decide +kernel) (by decide +kernel) ⟨Nat.le_of_ble_eq_true rfl, Nat.le_of_ble_eq_true rfl⟩ ⟨Nat.zero_le _, Nat.zero_le _⟩ (by decide) hm.1 dJx4a65c_grow_92f84_49 rfl ?_
      refine V_eq (st2 := [.int (iI 10), .ref la]) (by rw [if_neg (by omega)]) ?_
      refine V_anew (pc' := 55) (N := 10) (t + 10) C (by decide +kernel) 3 rfl ⟨rfl, by decide⟩ (Nat.le_of_ble_eq_true rfl) (Nat.le_of_ble_eq_true rfl) dJx4a65c_grow_92f84_52 rfl (fun q => ?_)
      refine V_dup_x1 (pc' := 56) C rfl rfl dJx4a65c_grow_92f84_55 rfl ?_
      refine V_putf (pc' := 59) (T := TJx4a65c) (N := 3) (ci := 4) (I2 := fun x => LH cO ee la t (md) (some q) (0) (f) x ∧ Fr (tL t) h0 x) C hin tyJx4a65c_ok nmJx4a65c rfl 1 (by decide) (by decide +kernel) rfl rfl rfl (fun h hh => by
        obtain ⟨h1, hh1, hq, rfl⟩ := hh
        exact ⟨t, _, LH_gr1 hh1.1 hq, Nat.le_of_ble_eq_true rfl, LH_grow hh1.1 hq, (hh1.2.new hq).up (LH_gr1 hh1.1 hq) tL_1⟩) dJx4a65c_grow_92f84_56 rfl ?_
      exact V_enda (v := some q) C hr (Or.inr ⟨_, rfl⟩) hlk (fun h' hh => ⟨q, rfl, hh.1, hh.2⟩) ⟨Nat.le_refl _, Nat.le_refl _⟩ dJx4a65c_grow_92f84_59
    · exact absurd c_17 (by simpa using c_17)
set_option maxHeartbeats 4000000 in
set_option maxRecDepth 100000 in
theorem kJx4a65c_grow_d5877 : Ct l yJx4a65c_grow_d5877 wsJx4a65c_grow_d5877 ({ frames := 2, cells := 1, slots := 10, locals := 45 } : Room) D (tyL cB cC cI cO cJ cD) ee [.ref la] (LH cO ee la t md none sn f) (fun h v h' => ∃ q, v = some (.ref q) ∧ LH cO ee la t md (some q) 0 f h' ∧ Fr (tL t) h h') (1) (10) := by
  refine Ct_of (cc := cJx4a65c_grow_d5877) (own := RJx4a65c) [some (.ref la)] (by decide) rfl rfl (Nat.le_of_ble_eq_true rfl) (fun i9 v9 h9 => argL [.ref la] 0 rfl i9 v9 h9) ?_
  intro p e s m9 args below meth c9 h0 sz hI C hr hlk hinit
  have hin : ∀ w ∈ wsJx4a65c0, w ∈ wsJx4a65c_grow_d5877 := by decide +kernel
  refine V_weak (I2 := fun x => LH cO ee la t (md) (none) (sn) (f) x ∧ Fr (tL t) h0 x) (fun x hx => by subst hx; exact ⟨hI, Fr.refl⟩) ?_
  refine V_aload0 (pc' := 1) C dJx4a65c_grow_d5877_0 rfl ?_
  refine V_aload0 (pc' := 2) C dJx4a65c_grow_d5877_1 rfl ?_
  refine V_getf (pc' := 5) (T := TJx4a65c) (N := 3) (ci := 4) C hin rfl 2 (by decide) (by decide +kernel) (fun h hh => ⟨t, _, hh.1.1, rfl⟩) dJx4a65c_grow_d5877_2 rfl ?_
  refine V_iconst (pc' := 6) C dJx4a65c_grow_d5877_5 rfl ?_
  refine V_iadd (pc' := 7) C dJx4a65c_grow_d5877_6 rfl ?_
  refine V_callV (ci := 4) (n := 1) [.int (iI (sn + 1))] C (kJx4a65c_grow_92f84 (mn := sn + 1) (by have := hI.2.2.1 rfl; omega)) gJx4a65c_grow_d5877_Jx4a65c_grow_92f84 rfl ydJx4a65c_grow_92f84 ⟨Nat.le_of_ble_eq_true rfl, Nat.le_of_ble_eq_true rfl⟩ ⟨rfl, rfl⟩ rfl rfl (fun h hh => ⟨t, _, hh.1.1⟩) (fun h hh => hh.1) rfl (Nat.le_of_ble_eq_true rfl) dJx4a65c_grow_d5877_7 ⟨Nat.le_of_ble_eq_true rfl, Nat.le_of_ble_eq_true rfl⟩ (fun h v h' hh hj => ?_)
  obtain ⟨q, rfl, hj1, hj2⟩ := hj
  refine V_weak (I2 := fun x => LH cO ee la t (md) (some q) (0) (f) x ∧ Fr (tL t) h0 x) (fun x hx => by rw [hx]; exact ⟨hj1, hh.2.trans hj2⟩) ?_
  exact V_enda (v := some q) C hr (Or.inr ⟨_, rfl⟩) hlk (fun h' hh => ⟨q, rfl, hh.1, hh.2⟩) ⟨Nat.le_refl _, Nat.le_refl _⟩ dJx4a65c_grow_d5877_10
set_option maxHeartbeats 4000000 in
set_option maxRecDepth 100000 in
theorem kJx4a65c_add_72be8_s {q : Nat} {bb tb ci : Nat} {fs : List Value} {r : vw_C} (hcl : vwCl[ci]? = some r) (hca : (r.1, "java/lang/Object") ∈ evCast) (htb : ¬ tL t tb) (hsn : sn < 10) : Ct l yJx4a65c_add_72be8 wsJx4a65c_add_72be8 ({ frames := 0, cells := 0, slots := 0, locals := 0 } : Room) D (tyL cB cC cI cO cJ cD) ee [.ref la, .ref bb, .ref q, .int (iI sn)] (fun x => LH cO ee la t (md) (some q) (sn) (f) x ∧ x bb = some (tb, .inr (ci, fs))) (fun h v h' => v = none ∧ (∃ q, LH cO ee la t (md) (some q) (sn + 1) (va_up f sn.toNat (some bb)) h') ∧ Fr (tL t) h h') (0) (0) := by
  refine Ct_of (cc := cJx4a65c_add_72be8) (own := RJx4a65c) [some (.ref la), some (.ref bb), some (.ref q), some (.int (iI sn))] (by decide) rfl rfl (Nat.le_of_ble_eq_true rfl) (fun i9 v9 h9 => argL [.ref la, .ref bb, .ref q, .int (iI sn)] 0 rfl i9 v9 h9) ?_
  intro p e s m9 args below meth c9 h0 sz hI C hr hlk hinit
  have hin : ∀ w ∈ wsJx4a65c0, w ∈ wsJx4a65c_add_72be8 := by decide +kernel
  refine V_weak (I2 := fun x => (LH cO ee la t (md) (some q) (sn) (f) x ∧ x bb = some (tb, .inr (ci, fs))) ∧ Fr (tL t) h0 x) (fun x hx => by subst hx; exact ⟨hI, Fr.refl⟩) ?_
  refine V_iload3 (pc' := 1) C dJx4a65c_add_72be8_0 rfl ?_
  refine V_aload2 (pc' := 2) C dJx4a65c_add_72be8_1 rfl ?_
  refine V_alen (pc' := 3) (n := 10) C 3 rfl (fun h hh => ⟨t + 10, hh.1.1.2.1 q rfl⟩) dJx4a65c_add_72be8_2 rfl ?_
  refine V_eq (st2 := [.int (iI 10), .int (iI sn)]) rfl ?_
  refine V_icmpne (tgt := 11) C ⟨by have := hI.1.2.2.2; omega, by decide⟩ dJx4a65c_add_72be8_3 (by decide) rfl (fun c_3 => ?_) (fun c_3 => ?_)
  · refine V_aload2 (pc' := 12) C dJx4a65c_add_72be8_11 rfl ?_
    refine V_iload3 (pc' := 13) C dJx4a65c_add_72be8_12 rfl ?_
    refine V_aload1 (pc' := 14) C dJx4a65c_add_72be8_13 rfl ?_
    refine V_aast (pc' := 15) (n := 10) (f := f) (E := "java/lang/Object") (I2 := fun x => LH cO ee la t (md) (some q) (sn) (va_up f sn.toNat (some bb)) x ∧ Fr (tL t) h0 x) C 3 rfl hcl hca (fun h hh => ⟨t + 10, tb, fs, hh.1.1.2.1 q rfl, hh.1.2, LH_st hh.1.1, hh.2.up (hh.1.1.2.1 q rfl) tL_2⟩) ⟨by have := hI.1.2.2.2; omega, by have := hI.1.2.2.2; omega, by have := hI.1.2.2.2; omega⟩ dJx4a65c_add_72be8_14 rfl ?_
    refine V_aload0 (pc' := 16) C dJx4a65c_add_72be8_15 rfl ?_
    refine V_iload3 (pc' := 17) C dJx4a65c_add_72be8_16 rfl ?_
    refine V_iconst (pc' := 18) C dJx4a65c_add_72be8_17 rfl ?_
    refine V_iadd (pc' := 19) C dJx4a65c_add_72be8_18 rfl ?_
    refine V_putf (pc' := 22) (T := TJx4a65c) (N := 3) (ci := 4) (I2 := fun x => LH cO ee la t (md) (some q) (sn + 1) (va_up f sn.toNat (some bb)) x ∧ Fr (tL t) h0 x) C hin tyJx4a65c_ok nmJx4a65c rfl 2 (by decide) (by decide +kernel) rfl rfl rfl (fun h hh => ⟨t, _, hh.1.1, Nat.le_of_ble_eq_true rfl, LH_put2 hh.1 (by have := hh.1.2.2.2; omega), hh.2.up hh.1.1 tL_1⟩) dJx4a65c_add_72be8_19 rfl ?_
    exact V_endv C hr hlk (fun h' hh => ⟨rfl, ⟨q, hh.1⟩, hh.2⟩) ⟨Nat.le_of_ble_eq_true rfl, Nat.le_of_ble_eq_true rfl⟩ dJx4a65c_add_72be8_22
  · exact absurd c_3 (by omega)
set_option maxHeartbeats 4000000 in
set_option maxRecDepth 100000 in
theorem kJx4a65c_add_72be8_n {bb tb ci : Nat} {fs : List Value} {r : vw_C} (hcl : vwCl[ci]? = some r) (hca : (r.1, "java/lang/Object") ∈ evCast) (htb : ¬ tL t tb) (hsn : sn < 10) : Ct l yJx4a65c_add_72be8 wsJx4a65c_add_72be8 ({ frames := 3, cells := 1, slots := 10, locals := 65 } : Room) D (tyL cB cC cI cO cJ cD) ee [.ref la, .ref bb, .ref ee.1, .int (iI sn)] (fun x => LH cO ee la t (md) (none) (sn) (f) x ∧ x bb = some (tb, .inr (ci, fs))) (fun h v h' => v = none ∧ (∃ q, LH cO ee la t (md) (some q) (sn + 1) (va_up f sn.toNat (some bb)) h') ∧ Fr (tL t) h h') (1) (10) := by
  refine Ct_of (cc := cJx4a65c_add_72be8) (own := RJx4a65c) [some (.ref la), some (.ref bb), some (.ref ee.1), some (.int (iI sn))] (by decide) rfl rfl (Nat.le_of_ble_eq_true rfl) (fun i9 v9 h9 => argL [.ref la, .ref bb, .ref ee.1, .int (iI sn)] 0 rfl i9 v9 h9) ?_
  intro p e s m9 args below meth c9 h0 sz hI C hr hlk hinit
  have hin : ∀ w ∈ wsJx4a65c0, w ∈ wsJx4a65c_add_72be8 := by decide +kernel
  refine V_weak (I2 := fun x => (LH cO ee la t (md) (none) (sn) (f) x ∧ x bb = some (tb, .inr (ci, fs))) ∧ Fr (tL t) h0 x) (fun x hx => by subst hx; exact ⟨hI, Fr.refl⟩) ?_
  refine V_iload3 (pc' := 1) C dJx4a65c_add_72be8_0 rfl ?_
  refine V_aload2 (pc' := 2) C dJx4a65c_add_72be8_1 rfl ?_
  refine V_alenE (pc' := 3) C dJx4a65c_add_72be8_2 rfl ?_
  refine V_icmpne (tgt := 11) C ⟨by have := hI.1.2.2.2; omega, by decide⟩ dJx4a65c_add_72be8_3 (by decide) rfl (fun c_3 => ?_) (fun c_3 => ?_)
  · exact absurd c_3 (by have := (hI.1.2.2.1 rfl).1; omega)
  · refine V_aload0 (pc' := 7) C dJx4a65c_add_72be8_6 rfl ?_
    refine V_callV (ci := 4) (n := 0) [] C (kJx4a65c_grow_d5877 (md := md) (sn := sn) (f := f)) gJx4a65c_add_72be8_Jx4a65c_grow_d5877 rfl ydJx4a65c_grow_d5877 ⟨Nat.le_of_ble_eq_true rfl, Nat.le_of_ble_eq_true rfl⟩ ⟨rfl, rfl⟩ rfl rfl (fun h hh => ⟨t, _, hh.1.1.1⟩) (fun h hh => hh.1.1) rfl (Nat.le_of_ble_eq_true rfl) dJx4a65c_add_72be8_7 ⟨Nat.le_of_ble_eq_true rfl, Nat.le_of_ble_eq_true rfl⟩ (fun h v h' hh hj => ?_)
    obtain ⟨q, rfl, hj1, hj2⟩ := hj
    have hs0 := (hI.1.2.2.1 rfl).1
    refine V_weak (I2 := fun x => (LH cO ee la t (md) (some q) (sn) (f) x ∧ x bb = some (tb, .inr (ci, fs))) ∧ Fr (tL t) h0 x) (fun x hx => by rw [hx]; exact ⟨⟨by rw [hs0]; exact hj1, hj2 _ _ _ hh.1.2 htb⟩, hh.2.trans hj2⟩) ?_
    refine V_astore2 (pc' := 11) C dJx4a65c_add_72be8_10 rfl (by decide) rfl ?_
    refine V_aload2 (pc' := 12) C dJx4a65c_add_72be8_11 rfl ?_
    refine V_iload3 (pc' := 13) C dJx4a65c_add_72be8_12 rfl ?_
    refine V_aload1 (pc' := 14) C dJx4a65c_add_72be8_13 rfl ?_
    refine V_aast (pc' := 15) (n := 10) (f := f) (E := "java/lang/Object") (I2 := fun x => LH cO ee la t (md) (some q) (sn) (va_up f sn.toNat (some bb)) x ∧ Fr (tL t) h0 x) C 3 rfl hcl hca (fun h hh => ⟨t + 10, tb, fs, hh.1.1.2.1 q rfl, hh.1.2, LH_st hh.1.1, hh.2.up (hh.1.1.2.1 q rfl) tL_2⟩) ⟨by have := hI.1.2.2.2; omega, by have := hI.1.2.2.2; omega, by have := hI.1.2.2.2; omega⟩ dJx4a65c_add_72be8_14 rfl ?_
    refine V_aload0 (pc' := 16) C dJx4a65c_add_72be8_15 rfl ?_
    refine V_iload3 (pc' := 17) C dJx4a65c_add_72be8_16 rfl ?_
    refine V_iconst (pc' := 18) C dJx4a65c_add_72be8_17 rfl ?_
    refine V_iadd (pc' := 19) C dJx4a65c_add_72be8_18 rfl ?_
    refine V_putf (pc' := 22) (T := TJx4a65c) (N := 3) (ci := 4) (I2 := fun x => LH cO ee la t (md) (some q) (sn + 1) (va_up f sn.toNat (some bb)) x ∧ Fr (tL t) h0 x) C hin tyJx4a65c_ok nmJx4a65c rfl 2 (by decide) (by decide +kernel) rfl rfl rfl (fun h hh => ⟨t, _, hh.1.1, Nat.le_of_ble_eq_true rfl, LH_put2 hh.1 (by have := hh.1.2.2.2; omega), hh.2.up hh.1.1 tL_1⟩) dJx4a65c_add_72be8_19 rfl ?_
    exact V_endv C hr hlk (fun h' hh => ⟨rfl, ⟨q, hh.1⟩, hh.2⟩) ⟨Nat.le_of_ble_eq_true rfl, Nat.le_of_ble_eq_true rfl⟩ dJx4a65c_add_72be8_22
set_option maxHeartbeats 4000000 in
set_option maxRecDepth 100000 in
theorem kJx4a65c_add_9ea2d_s {q : Nat} {bb tb ci : Nat} {fs : List Value} {r : vw_C} (hcl : vwCl[ci]? = some r) (hca : (r.1, "java/lang/Object") ∈ evCast) (htb : ¬ tL t tb) (hsn : sn < 10) : Ct l yJx4a65c_add_9ea2d wsJx4a65c_add_9ea2d ({ frames := 4, cells := 1, slots := 10, locals := 88 } : Room) D (tyL cB cC cI cO cJ cD) ee [.ref la, .ref bb] (fun x => LH cO ee la t (md) (some q) (sn) (f) x ∧ x bb = some (tb, .inr (ci, fs))) (fun h v h' => v = some (.int (iI (bI true))) ∧ (∃ q, LH cO ee la t (md + 1) (some q) (sn + 1) (va_up f sn.toNat (some bb)) h') ∧ Fr (tL t) h h') (1) (10) := by
  refine Ct_of (cc := cJx4a65c_add_9ea2d) (own := RJx4a65c) [some (.ref la), some (.ref bb)] (by decide) rfl rfl (Nat.le_of_ble_eq_true rfl) (fun i9 v9 h9 => argL [.ref la, .ref bb] 0 rfl i9 v9 h9) ?_
  intro p e s m9 args below meth c9 h0 sz hI C hr hlk hinit
  have hin : ∀ w ∈ wsJx4a65c0, w ∈ wsJx4a65c_add_9ea2d := by decide +kernel
  refine V_weak (I2 := fun x => (LH cO ee la t (md) (some q) (sn) (f) x ∧ x bb = some (tb, .inr (ci, fs))) ∧ Fr (tL t) h0 x) (fun x hx => by subst hx; exact ⟨hI, Fr.refl⟩) ?_
  refine V_aload0 (pc' := 1) C dJx4a65c_add_9ea2d_0 rfl ?_
  refine V_dup (pc' := 2) C rfl dJx4a65c_add_9ea2d_1 rfl ?_
  refine V_getfS (pc' := 5) (ref := "java/util/ArrayList") (T := TJx4a65c) (N := 3) (ci := 4) C hin rfl 0 (by decide) (by decide +kernel) (by decide +kernel) (fun h hh => ⟨t, _, hh.1.1.1, rfl⟩) dJx4a65c_add_9ea2d_2 rfl ?_
  refine V_iconst (pc' := 6) C dJx4a65c_add_9ea2d_5 rfl ?_
  refine V_iadd (pc' := 7) C dJx4a65c_add_9ea2d_6 rfl ?_
  refine V_putfS (pc' := 10) (ref := "java/util/ArrayList") (T := TJx4a65c) (N := 3) (ci := 4) (I2 := fun x => (LH cO ee la t (md + 1) (some q) (sn) (f) x ∧ x bb = some (tb, .inr (ci, fs))) ∧ Fr (tL t) h0 x) C hin tyJx4a65c_ok nmJx4a65c rfl 0 (by decide) (by decide +kernel) (by decide +kernel) rfl rfl rfl (fun h hh => ⟨t, _, hh.1.1.1, Nat.le_of_ble_eq_true rfl, ⟨LH_put0 hh.1.1, by rw [hup_n (fun z => htb (by rw [z, hh.1.1.1] at hh; have := (Prod.mk.inj (Option.some.inj hh.1.2)).1; rw [← this]; exact tL_1))]; exact hh.1.2⟩, hh.2.up hh.1.1.1 tL_1⟩) dJx4a65c_add_9ea2d_7 rfl ?_
  refine V_aload0 (pc' := 11) C dJx4a65c_add_9ea2d_10 rfl ?_
  refine V_aload1 (pc' := 12) C dJx4a65c_add_9ea2d_11 rfl ?_
  refine V_aload0 (pc' := 13) C dJx4a65c_add_9ea2d_12 rfl ?_
  refine V_getf (pc' := 16) (T := TJx4a65c) (N := 3) (ci := 4) C hin rfl 1 (by decide) (by decide +kernel) (fun h hh => ⟨t, _, hh.1.1.1, rfl⟩) dJx4a65c_add_9ea2d_13 rfl ?_
  refine V_aload0 (pc' := 17) C dJx4a65c_add_9ea2d_16 rfl ?_
  refine V_getf (pc' := 20) (T := TJx4a65c) (N := 3) (ci := 4) C hin rfl 2 (by decide) (by decide +kernel) (fun h hh => ⟨t, _, hh.1.1.1, rfl⟩) dJx4a65c_add_9ea2d_17 rfl ?_
  refine V_callV (ci := 4) (n := 3) [.ref bb, .ref q, .int (iI sn)] C (kJx4a65c_add_72be8_s (md := md + 1) (sn := sn) (f := f) (fs := fs) hcl hca htb hsn) gJx4a65c_add_9ea2d_Jx4a65c_add_72be8 rfl ydJx4a65c_add_72be8 ⟨Nat.le_of_ble_eq_true rfl, Nat.le_of_ble_eq_true rfl⟩ ⟨rfl, rfl⟩ rfl rfl (fun h hh => ⟨t, _, hh.1.1.1⟩) (fun h hh => hh.1) rfl (Nat.le_of_ble_eq_true rfl) dJx4a65c_add_9ea2d_20 ⟨Nat.le_of_ble_eq_true rfl, Nat.le_of_ble_eq_true rfl⟩ (fun h v h' hh hj => ?_)
  obtain ⟨rfl, ⟨q1, hj1⟩, hj2⟩ := hj
  refine V_weak (I2 := fun x => LH cO ee la t (md + 1) (some q1) (sn + 1) (va_up f sn.toNat (some bb)) x ∧ Fr (tL t) h0 x) (fun x hx => by rw [hx]; exact ⟨hj1, hh.2.trans hj2⟩) ?_
  refine V_iconst (pc' := 24) C dJx4a65c_add_9ea2d_23 rfl ?_
  exact V_endz (z := bI true) C hr hlk (nar_z true) (fun h' hh => ⟨rfl, ⟨q1, hh.1⟩, hh.2⟩) ⟨Nat.le_of_ble_eq_true rfl, Nat.le_of_ble_eq_true rfl⟩ dJx4a65c_add_9ea2d_24
set_option maxHeartbeats 4000000 in
set_option maxRecDepth 100000 in
theorem kJx4a65c_add_9ea2d_n {bb tb ci : Nat} {fs : List Value} {r : vw_C} (hcl : vwCl[ci]? = some r) (hca : (r.1, "java/lang/Object") ∈ evCast) (htb : ¬ tL t tb) (hsn : sn < 10) : Ct l yJx4a65c_add_9ea2d wsJx4a65c_add_9ea2d ({ frames := 4, cells := 1, slots := 10, locals := 88 } : Room) D (tyL cB cC cI cO cJ cD) ee [.ref la, .ref bb] (fun x => LH cO ee la t (md) (none) (sn) (f) x ∧ x bb = some (tb, .inr (ci, fs))) (fun h v h' => v = some (.int (iI (bI true))) ∧ (∃ q, LH cO ee la t (md + 1) (some q) (sn + 1) (va_up f sn.toNat (some bb)) h') ∧ Fr (tL t) h h') (1) (10) := by
  refine Ct_of (cc := cJx4a65c_add_9ea2d) (own := RJx4a65c) [some (.ref la), some (.ref bb)] (by decide) rfl rfl (Nat.le_of_ble_eq_true rfl) (fun i9 v9 h9 => argL [.ref la, .ref bb] 0 rfl i9 v9 h9) ?_
  intro p e s m9 args below meth c9 h0 sz hI C hr hlk hinit
  have hin : ∀ w ∈ wsJx4a65c0, w ∈ wsJx4a65c_add_9ea2d := by decide +kernel
  refine V_weak (I2 := fun x => (LH cO ee la t (md) (none) (sn) (f) x ∧ x bb = some (tb, .inr (ci, fs))) ∧ Fr (tL t) h0 x) (fun x hx => by subst hx; exact ⟨hI, Fr.refl⟩) ?_
  refine V_aload0 (pc' := 1) C dJx4a65c_add_9ea2d_0 rfl ?_
  refine V_dup (pc' := 2) C rfl dJx4a65c_add_9ea2d_1 rfl ?_
  refine V_getfS (pc' := 5) (ref := "java/util/ArrayList") (T := TJx4a65c) (N := 3) (ci := 4) C hin rfl 0 (by decide) (by decide +kernel) (by decide +kernel) (fun h hh => ⟨t, _, hh.1.1.1, rfl⟩) dJx4a65c_add_9ea2d_2 rfl ?_
  refine V_iconst (pc' := 6) C dJx4a65c_add_9ea2d_5 rfl ?_
  refine V_iadd (pc' := 7) C dJx4a65c_add_9ea2d_6 rfl ?_
  refine V_putfS (pc' := 10) (ref := "java/util/ArrayList") (T := TJx4a65c) (N := 3) (ci := 4) (I2 := fun x => (LH cO ee la t (md + 1) (none) (sn) (f) x ∧ x bb = some (tb, .inr (ci, fs))) ∧ Fr (tL t) h0 x) C hin tyJx4a65c_ok nmJx4a65c rfl 0 (by decide) (by decide +kernel) (by decide +kernel) rfl rfl rfl (fun h hh => ⟨t, _, hh.1.1.1, Nat.le_of_ble_eq_true rfl, ⟨LH_put0 hh.1.1, by rw [hup_n (fun z => htb (by rw [z, hh.1.1.1] at hh; have := (Prod.mk.inj (Option.some.inj hh.1.2)).1; rw [← this]; exact tL_1))]; exact hh.1.2⟩, hh.2.up hh.1.1.1 tL_1⟩) dJx4a65c_add_9ea2d_7 rfl ?_
  refine V_aload0 (pc' := 11) C dJx4a65c_add_9ea2d_10 rfl ?_
  refine V_aload1 (pc' := 12) C dJx4a65c_add_9ea2d_11 rfl ?_
  refine V_aload0 (pc' := 13) C dJx4a65c_add_9ea2d_12 rfl ?_
  refine V_getf (pc' := 16) (T := TJx4a65c) (N := 3) (ci := 4) C hin rfl 1 (by decide) (by decide +kernel) (fun h hh => ⟨t, _, hh.1.1.1, rfl⟩) dJx4a65c_add_9ea2d_13 rfl ?_
  refine V_aload0 (pc' := 17) C dJx4a65c_add_9ea2d_16 rfl ?_
  refine V_getf (pc' := 20) (T := TJx4a65c) (N := 3) (ci := 4) C hin rfl 2 (by decide) (by decide +kernel) (fun h hh => ⟨t, _, hh.1.1.1, rfl⟩) dJx4a65c_add_9ea2d_17 rfl ?_
  refine V_callV (ci := 4) (n := 3) [.ref bb, .ref ee.1, .int (iI sn)] C (kJx4a65c_add_72be8_n (md := md + 1) (sn := sn) (f := f) (fs := fs) hcl hca htb hsn) gJx4a65c_add_9ea2d_Jx4a65c_add_72be8 rfl ydJx4a65c_add_72be8 ⟨Nat.le_of_ble_eq_true rfl, Nat.le_of_ble_eq_true rfl⟩ ⟨rfl, rfl⟩ rfl rfl (fun h hh => ⟨t, _, hh.1.1.1⟩) (fun h hh => hh.1) rfl (Nat.le_of_ble_eq_true rfl) dJx4a65c_add_9ea2d_20 ⟨Nat.le_of_ble_eq_true rfl, Nat.le_of_ble_eq_true rfl⟩ (fun h v h' hh hj => ?_)
  obtain ⟨rfl, ⟨q1, hj1⟩, hj2⟩ := hj
  refine V_weak (I2 := fun x => LH cO ee la t (md + 1) (some q1) (sn + 1) (va_up f sn.toNat (some bb)) x ∧ Fr (tL t) h0 x) (fun x hx => by rw [hx]; exact ⟨hj1, hh.2.trans hj2⟩) ?_
  refine V_iconst (pc' := 24) C dJx4a65c_add_9ea2d_23 rfl ?_
  exact V_endz (z := bI true) C hr hlk (nar_z true) (fun h' hh => ⟨rfl, ⟨q1, hh.1⟩, hh.2⟩) ⟨Nat.le_of_ble_eq_true rfl, Nat.le_of_ble_eq_true rfl⟩ dJx4a65c_add_9ea2d_24
set_option maxHeartbeats 4000000 in
set_option maxRecDepth 100000 in
theorem kJx4a65c_clear_da8c8_s {q : Nat} : Ct l yJx4a65c_clear_da8c8 wsJx4a65c_clear_da8c8 ({ frames := 0, cells := 0, slots := 0, locals := 0 } : Room) D (tyL cB cC cI cO cJ cD) ee [.ref la] (LH cO ee la t md (some q) sn f) (fun h v h' => v = none ∧ LH cO ee la t (md + 1) (some q) 0 (fun i => if i < sn.toNat then none else f i) h' ∧ Fr (tL t) h h') (0) (0) := by
  refine Ct_of (cc := cJx4a65c_clear_da8c8) (own := RJx4a65c) [some (.ref la), none, none, none] (by decide) rfl rfl (Nat.le_of_ble_eq_true rfl) (fun i9 v9 h9 => argL [.ref la] 3 rfl i9 v9 h9) ?_
  intro p e s m9 args below meth c9 h0 sz hI C hr hlk hinit
  have hin : ∀ w ∈ wsJx4a65c0, w ∈ wsJx4a65c_clear_da8c8 := by decide +kernel
  refine V_weak (I2 := fun x => LH cO ee la t (md) (some q) (sn) (f) x ∧ Fr (tL t) h0 x) (fun x hx => by subst hx; exact ⟨hI, Fr.refl⟩) ?_
  refine V_aload0 (pc' := 1) C dJx4a65c_clear_da8c8_0 rfl ?_
  refine V_dup (pc' := 2) C rfl dJx4a65c_clear_da8c8_1 rfl ?_
  refine V_getfS (pc' := 5) (ref := "java/util/ArrayList") (T := TJx4a65c) (N := 3) (ci := 4) C hin rfl 0 (by decide) (by decide +kernel) (by decide +kernel) (fun h hh => ⟨t, _, hh.1.1, rfl⟩) dJx4a65c_clear_da8c8_2 rfl ?_
  refine V_iconst (pc' := 6) C dJx4a65c_clear_da8c8_5 rfl ?_
  refine V_iadd (pc' := 7) C dJx4a65c_clear_da8c8_6 rfl ?_
  refine V_putfS (pc' := 10) (ref := "java/util/ArrayList") (T := TJx4a65c) (N := 3) (ci := 4) (I2 := fun x => LH cO ee la t (md + 1) (some q) (sn) (f) x ∧ Fr (tL t) h0 x) C hin tyJx4a65c_ok nmJx4a65c rfl 0 (by decide) (by decide +kernel) (by decide +kernel) rfl rfl rfl (fun h hh => ⟨t, _, hh.1.1, Nat.le_of_ble_eq_true rfl, LH_put0 hh.1, hh.2.up hh.1.1 tL_1⟩) dJx4a65c_clear_da8c8_7 rfl ?_
  refine V_aload0 (pc' := 11) C dJx4a65c_clear_da8c8_10 rfl ?_
  refine V_getf (pc' := 14) (T := TJx4a65c) (N := 3) (ci := 4) C hin rfl 1 (by decide) (by decide +kernel) (fun h hh => ⟨t, _, hh.1.1, rfl⟩) dJx4a65c_clear_da8c8_11 rfl ?_
  refine V_astore1 (pc' := 15) C dJx4a65c_clear_da8c8_14 rfl (by decide) rfl ?_
  refine V_aload0 (pc' := 16) C dJx4a65c_clear_da8c8_15 rfl ?_
  refine V_getf (pc' := 19) (T := TJx4a65c) (N := 3) (ci := 4) C hin rfl 2 (by decide) (by decide +kernel) (fun h hh => ⟨t, _, hh.1.1, rfl⟩) dJx4a65c_clear_da8c8_16 rfl ?_
  refine V_istore2 (pc' := 20) C dJx4a65c_clear_da8c8_19 rfl (by decide) rfl ?_
  refine V_aload0 (pc' := 21) C dJx4a65c_clear_da8c8_20 rfl ?_
  refine V_iconst (pc' := 22) C dJx4a65c_clear_da8c8_21 rfl ?_
  refine V_dup_x1 (pc' := 23) C rfl rfl dJx4a65c_clear_da8c8_22 rfl ?_
  refine V_putf (pc' := 26) (T := TJx4a65c) (N := 3) (ci := 4) (I2 := fun x => LH cO ee la t (md + 1) (some q) (0) (f) x ∧ Fr (tL t) h0 x) C hin tyJx4a65c_ok nmJx4a65c rfl 2 (by decide) (by decide +kernel) rfl rfl rfl (fun h hh => ⟨t, _, hh.1.1, Nat.le_of_ble_eq_true rfl, LH_put2 hh.1 (by omega), hh.2.up hh.1.1 tL_1⟩) dJx4a65c_clear_da8c8_23 rfl ?_
  refine V_istore3 (pc' := 27) C dJx4a65c_clear_da8c8_26 rfl (by decide) rfl ?_
  refine V_for0 (N := sn.toNat) (fun j => fun x => LH cO ee la t (md + 1) (some q) (0) (fun i => if i < j then none else f i) x ∧ Fr (tL t) h0 x) (fun j => [some (.ref la), some (.ref q), some (.int (iI sn)), some (.int (iI j))]) (fun _ => True) trivial (fun h hh => by simpa using hh) rfl (fun j hj hv hk => ?_) (fun hv => ?_)
  · have hb9 := hI.2.2.2
    refine V_iload3 (pc' := 28) C dJx4a65c_clear_da8c8_27 rfl ?_
    refine V_iload2 (pc' := 29) C dJx4a65c_clear_da8c8_28 rfl ?_
    refine V_icmpge (tgt := 42) C ⟨by omega, by omega⟩ dJx4a65c_clear_da8c8_29 (by decide) rfl (fun c_29 => ?_) (fun c_29 => ?_)
    · exact absurd c_29 (by omega)
    · refine V_aload1 (pc' := 33) C dJx4a65c_clear_da8c8_32 rfl ?_
      refine V_iload3 (pc' := 34) C dJx4a65c_clear_da8c8_33 rfl ?_
      refine V_null (pc' := 35) C dJx4a65c_clear_da8c8_34 rfl ?_
      refine V_aastN (pc' := 36) (n := 10) (E := "java/lang/Object") (I2 := fun x => LH cO ee la t (md + 1) (some q) (0) (fun i => if i < j + 1 then none else f i) x ∧ Fr (tL t) h0 x) C 3 rfl (fun h hh => ⟨t + 10, hh.1.2.1 q rfl, by rw [va_cl]; exact LH_st hh.1, hh.2.up (hh.1.2.1 q rfl) tL_2⟩) ⟨by omega, by omega, by omega⟩ dJx4a65c_clear_da8c8_35 rfl ?_
      refine V_iinc3 (pc' := 39) C dJx4a65c_clear_da8c8_36 rfl (by decide) rfl ?_
      refine V_goto (tgt := 27) C dJx4a65c_clear_da8c8_39 (by decide) ?_
      exact hk trivial
  · have hb9 := hI.2.2.2
    refine V_iload3 (pc' := 28) C dJx4a65c_clear_da8c8_27 rfl ?_
    refine V_iload2 (pc' := 29) C dJx4a65c_clear_da8c8_28 rfl ?_
    refine V_icmpge (tgt := 42) C ⟨by omega, by omega⟩ dJx4a65c_clear_da8c8_29 (by decide) rfl (fun c_29 => ?_) (fun c_29 => ?_)
    · exact V_endv C hr hlk (fun h' hh => ⟨rfl, hh.1, hh.2⟩) ⟨Nat.le_refl _, Nat.le_refl _⟩ dJx4a65c_clear_da8c8_42
    · exact absurd c_29 (by omega)
set_option maxHeartbeats 4000000 in
set_option maxRecDepth 100000 in
theorem kJx4a65c_clear_da8c8_n : Ct l yJx4a65c_clear_da8c8 wsJx4a65c_clear_da8c8 ({ frames := 0, cells := 0, slots := 0, locals := 0 } : Room) D (tyL cB cC cI cO cJ cD) ee [.ref la] (LH cO ee la t md (none) sn f) (fun h v h' => v = none ∧ LH cO ee la t (md + 1) (none) 0 (fun i => if i < sn.toNat then none else f i) h' ∧ Fr (tL t) h h') (0) (0) := by
  refine Ct_of (cc := cJx4a65c_clear_da8c8) (own := RJx4a65c) [some (.ref la), none, none, none] (by decide) rfl rfl (Nat.le_of_ble_eq_true rfl) (fun i9 v9 h9 => argL [.ref la] 3 rfl i9 v9 h9) ?_
  intro p e s m9 args below meth c9 h0 sz hI C hr hlk hinit
  have hin : ∀ w ∈ wsJx4a65c0, w ∈ wsJx4a65c_clear_da8c8 := by decide +kernel
  refine V_weak (I2 := fun x => LH cO ee la t (md) (none) (sn) (f) x ∧ Fr (tL t) h0 x) (fun x hx => by subst hx; exact ⟨hI, Fr.refl⟩) ?_
  refine V_aload0 (pc' := 1) C dJx4a65c_clear_da8c8_0 rfl ?_
  refine V_dup (pc' := 2) C rfl dJx4a65c_clear_da8c8_1 rfl ?_
  refine V_getfS (pc' := 5) (ref := "java/util/ArrayList") (T := TJx4a65c) (N := 3) (ci := 4) C hin rfl 0 (by decide) (by decide +kernel) (by decide +kernel) (fun h hh => ⟨t, _, hh.1.1, rfl⟩) dJx4a65c_clear_da8c8_2 rfl ?_
  refine V_iconst (pc' := 6) C dJx4a65c_clear_da8c8_5 rfl ?_
  refine V_iadd (pc' := 7) C dJx4a65c_clear_da8c8_6 rfl ?_
  refine V_putfS (pc' := 10) (ref := "java/util/ArrayList") (T := TJx4a65c) (N := 3) (ci := 4) (I2 := fun x => LH cO ee la t (md + 1) (none) (sn) (f) x ∧ Fr (tL t) h0 x) C hin tyJx4a65c_ok nmJx4a65c rfl 0 (by decide) (by decide +kernel) (by decide +kernel) rfl rfl rfl (fun h hh => ⟨t, _, hh.1.1, Nat.le_of_ble_eq_true rfl, LH_put0 hh.1, hh.2.up hh.1.1 tL_1⟩) dJx4a65c_clear_da8c8_7 rfl ?_
  refine V_aload0 (pc' := 11) C dJx4a65c_clear_da8c8_10 rfl ?_
  refine V_getf (pc' := 14) (T := TJx4a65c) (N := 3) (ci := 4) C hin rfl 1 (by decide) (by decide +kernel) (fun h hh => ⟨t, _, hh.1.1, rfl⟩) dJx4a65c_clear_da8c8_11 rfl ?_
  refine V_astore1 (pc' := 15) C dJx4a65c_clear_da8c8_14 rfl (by decide) rfl ?_
  refine V_aload0 (pc' := 16) C dJx4a65c_clear_da8c8_15 rfl ?_
  refine V_getf (pc' := 19) (T := TJx4a65c) (N := 3) (ci := 4) C hin rfl 2 (by decide) (by decide +kernel) (fun h hh => ⟨t, _, hh.1.1, rfl⟩) dJx4a65c_clear_da8c8_16 rfl ?_
  refine V_istore2 (pc' := 20) C dJx4a65c_clear_da8c8_19 rfl (by decide) rfl ?_
  refine V_aload0 (pc' := 21) C dJx4a65c_clear_da8c8_20 rfl ?_
  refine V_iconst (pc' := 22) C dJx4a65c_clear_da8c8_21 rfl ?_
  refine V_dup_x1 (pc' := 23) C rfl rfl dJx4a65c_clear_da8c8_22 rfl ?_
  refine V_putf (pc' := 26) (T := TJx4a65c) (N := 3) (ci := 4) (I2 := fun x => LH cO ee la t (md + 1) (none) (0) (f) x ∧ Fr (tL t) h0 x) C hin tyJx4a65c_ok nmJx4a65c rfl 2 (by decide) (by decide +kernel) rfl rfl rfl (fun h hh => ⟨t, _, hh.1.1, Nat.le_of_ble_eq_true rfl, LH_put2N hh.1, hh.2.up hh.1.1 tL_1⟩) dJx4a65c_clear_da8c8_23 rfl ?_
  refine V_istore3 (pc' := 27) C dJx4a65c_clear_da8c8_26 rfl (by decide) rfl ?_
  refine V_iload3 (pc' := 28) C dJx4a65c_clear_da8c8_27 rfl ?_
  refine V_iload2 (pc' := 29) C dJx4a65c_clear_da8c8_28 rfl ?_
  refine V_icmpge (tgt := 42) C ⟨by decide, by have := (hI.2.2.1 rfl).1; omega⟩ dJx4a65c_clear_da8c8_29 (by decide) rfl (fun c_29 => ?_) (fun c_29 => ?_)
  · exact V_endv C hr hlk (fun h' hh => ⟨rfl, by have h8 := (hI.2.2.1 rfl).1; rw [h8]; simpa using hh.1, hh.2⟩) ⟨Nat.le_refl _, Nat.le_refl _⟩ dJx4a65c_clear_da8c8_42
  · exact absurd c_29 (by have := (hI.2.2.1 rfl).1; omega)
set_option maxHeartbeats 4000000 in
set_option maxRecDepth 100000 in
theorem kJxa1e45_init_da8c8 : Ct l yJxa1e45_init_da8c8 wsJxa1e45_init_da8c8 ({ frames := 1, cells := 0, slots := 0, locals := 20 } : Room) D (tyL cB cC cI cO cJ cD) ee [.ref la] (fun _ => True) (fun h v h' => v = none ∧ h' = h) (0) (0) := by
  refine Ct_of (cc := cJxa1e45_init_da8c8) (own := RJxa1e45) [some (.ref la)] (by decide) rfl rfl (Nat.le_of_ble_eq_true rfl) (fun i9 v9 h9 => argL [.ref la] 0 rfl i9 v9 h9) ?_
  intro p e s m9 args below meth c9 h0 sz hI C hr hlk hinit
  refine V_aload0 (pc' := 1) C dJxa1e45_init_da8c8_0 rfl ?_
  refine V_objInit (pc' := 4) C (by decide +kernel) (by decide +kernel) (by decide +kernel) ⟨Nat.le_of_ble_eq_true rfl, Nat.le_of_ble_eq_true rfl⟩ dJxa1e45_init_da8c8_1 rfl ?_
  exact V_endv C hr hlk (fun h' hh => ⟨rfl, hh⟩) ⟨Nat.le_refl _, Nat.le_refl _⟩ dJxa1e45_init_da8c8_4
set_option maxHeartbeats 4000000 in
set_option maxRecDepth 100000 in
theorem kJxc12de_init_da8c8 : Ct l yJxc12de_init_da8c8 wsJxc12de_init_da8c8 ({ frames := 2, cells := 0, slots := 0, locals := 40 } : Room) D (tyL cB cC cI cO cJ cD) ee [.ref la] (fun x => x la = some (t, aNew)) (fun h v h' => v = none ∧ h' la = some (t, aNew) ∧ Fr (tL t) h h') (0) (0) := by
  refine Ct_of (cc := cJxc12de_init_da8c8) (own := RJxc12de) [some (.ref la)] (by decide) rfl rfl (Nat.le_of_ble_eq_true rfl) (fun i9 v9 h9 => argL [.ref la] 0 rfl i9 v9 h9) ?_
  intro p e s m9 args below meth c9 h0 sz hI C hr hlk hinit
  have hin : ∀ w ∈ wsJx4a65c0, w ∈ wsJxc12de_init_da8c8 := by decide +kernel
  refine V_weak (I2 := fun x => x la = some (t, aNew) ∧ Fr (tL t) h0 x) (fun x hx => by subst hx; exact ⟨hI, Fr.refl⟩) ?_
  refine V_aload0 (pc' := 1) C dJxc12de_init_da8c8_0 rfl ?_
  refine V_callI (n := 0) [] C (kJxa1e45_init_da8c8) gJxc12de_init_da8c8_Jxa1e45_init_da8c8 (by decide +kernel) (by decide +kernel) (by decide +kernel) rfl ydJxa1e45_init_da8c8 ⟨Nat.le_of_ble_eq_true rfl, Nat.le_of_ble_eq_true rfl⟩ ⟨rfl, rfl⟩ rfl (fun h hh => trivial) rfl (Nat.le_of_ble_eq_true rfl) dJxc12de_init_da8c8_1 ⟨Nat.le_of_ble_eq_true rfl, Nat.le_of_ble_eq_true rfl⟩ (fun h v h' hh hj => ?_)
  obtain ⟨rfl, rfl⟩ := hj
  refine V_weak (I2 := fun x => x la = some (t, aNew) ∧ Fr (tL t) h0 x) (fun x hx => by rw [hx]; exact hh) ?_
  refine V_aload0 (pc' := 5) C dJxc12de_init_da8c8_4 rfl ?_
  refine V_iconst (pc' := 6) C dJxc12de_init_da8c8_5 rfl ?_
  refine V_putf (pc' := 9) (T := TJx4a65c) (N := 3) (ci := 4) (I2 := fun x => x la = some (t, aNew) ∧ Fr (tL t) h0 x) C hin tyJx4a65c_ok nmJx4a65c rfl 0 (by decide) (by decide +kernel) rfl rfl rfl (fun h hh => ⟨t, _, hh.1, Nat.le_of_ble_eq_true rfl, by rw [hup_s]; rfl, hh.2.up hh.1 tL_1⟩) dJxc12de_init_da8c8_6 rfl ?_
  exact V_endv C hr hlk (fun h' hh => ⟨rfl, hh.1, hh.2⟩) ⟨Nat.le_refl _, Nat.le_refl _⟩ dJxc12de_init_da8c8_9
set_option maxHeartbeats 4000000 in
set_option maxRecDepth 100000 in
theorem kJx4a65c_init_da8c8 : Ct l yJx4a65c_init_da8c8 wsJx4a65c_init_da8c8 ({ frames := 3, cells := 0, slots := 0, locals := 60 } : Room) D (tyL cB cC cI cO cJ cD) ee [.ref la] (fun x => x la = some (t, aNew)) (fun h v h' => v = none ∧ LH cO ee la t 0 none 0 (fun _ => none) h' ∧ Fr (tL t) h h') (0) (0) := by
  refine Ct_of (cc := cJx4a65c_init_da8c8) (own := RJx4a65c) [some (.ref la)] (by decide) rfl rfl (Nat.le_of_ble_eq_true rfl) (fun i9 v9 h9 => argL [.ref la] 0 rfl i9 v9 h9) ?_
  intro p e s m9 args below meth c9 h0 sz hI C hr hlk hinit
  have hin : ∀ w ∈ wsJx4a65c0, w ∈ wsJx4a65c_init_da8c8 := by decide +kernel
  refine V_weak (I2 := fun x => x la = some (t, aNew) ∧ Fr (tL t) h0 x) (fun x hx => by subst hx; exact ⟨hI, Fr.refl⟩) ?_
  refine V_aload0 (pc' := 1) C dJx4a65c_init_da8c8_0 rfl ?_
  refine V_callI (n := 0) [] C (kJxc12de_init_da8c8 (t := t)) gJx4a65c_init_da8c8_Jxc12de_init_da8c8 (by decide +kernel) (by decide +kernel) (by decide +kernel) rfl ydJxc12de_init_da8c8 ⟨Nat.le_of_ble_eq_true rfl, Nat.le_of_ble_eq_true rfl⟩ ⟨rfl, rfl⟩ rfl (fun h hh => hh.1) rfl (Nat.le_of_ble_eq_true rfl) dJx4a65c_init_da8c8_1 ⟨Nat.le_of_ble_eq_true rfl, Nat.le_of_ble_eq_true rfl⟩ (fun h v h' hh hj => ?_)
  obtain ⟨rfl, hj1, hj2⟩ := hj
  refine V_weak (I2 := fun x => x la = some (t, aNew) ∧ Fr (tL t) h0 x) (fun x hx => by rw [hx]; exact ⟨hj1, hh.2.trans hj2⟩) ?_
  refine V_aload0 (pc' := 5) C dJx4a65c_init_da8c8_4 rfl ?_
  refine V_getsE (pc' := 8) C (by decide +kernel) dJx4a65c_init_da8c8_5 rfl ?_
  refine V_putf (pc' := 11) (T := TJx4a65c) (N := 3) (ci := 4) (I2 := fun x => LH cO ee la t (0) (none) (0) (fun _ => none) x ∧ Fr (tL t) h0 x) C hin tyJx4a65c_ok nmJx4a65c rfl 1 (by decide) (by decide +kernel) rfl rfl rfl (fun h hh => ⟨t, _, hh.1, Nat.le_of_ble_eq_true rfl, ⟨hup_s, (fun q hq => by cases hq), fun _ => ⟨rfl, fun _ => rfl⟩, by omega, by omega⟩, hh.2.up hh.1 tL_1⟩) dJx4a65c_init_da8c8_8 rfl ?_
  exact V_endv C hr hlk (fun h' hh => ⟨rfl, hh.1, hh.2⟩) ⟨Nat.le_refl _, Nat.le_refl _⟩ dJx4a65c_init_da8c8_11
theorem kL_add {bb tb ci : Nat} {fs : List Value} {r : vw_C} (hcl : vwCl[ci]? = some r) (hca : (r.1, "java/lang/Object") ∈ evCast) (htb : ¬ tL t tb) (hsn : sn < 10) : Ct l yJx4a65c_add_9ea2d wsJx4a65c_add_9ea2d ({ frames := 4, cells := 1, slots := 10, locals := 88 } : Room) D (tyL cB cC cI cO cJ cD) ee [.ref la, .ref bb] (fun x => LH cO ee la t (md) (ar) (sn) (f) x ∧ x bb = some (tb, .inr (ci, fs))) (fun h v h' => v = some (.int (iI (bI true))) ∧ (∃ q, LH cO ee la t (md + 1) (some q) (sn + 1) (va_up f sn.toNat (some bb)) h') ∧ Fr (tL t) h h') 1 10 := by
  cases ar with
  | none => exact kJx4a65c_add_9ea2d_n hcl hca htb hsn
  | some q => exact kJx4a65c_add_9ea2d_s hcl hca htb hsn
theorem kL_clear : Ct l yJx4a65c_clear_da8c8 wsJx4a65c_clear_da8c8 ({ frames := 0, cells := 0, slots := 0, locals := 0 } : Room) D (tyL cB cC cI cO cJ cD) ee [.ref la] (LH cO ee la t md ar sn f) (fun h v h' => v = none ∧ LH cO ee la t (md + 1) ar 0 (fun i => if i < sn.toNat then none else f i) h' ∧ Fr (tL t) h h') 0 0 := by
  cases ar with
  | none => exact kJx4a65c_clear_da8c8_n
  | some q => exact kJx4a65c_clear_da8c8_s
theorem kL_get {i : Int} (hi : 0 ≤ i ∧ i < sn) : Ct l yJx4a65c_get_915e3 wsJx4a65c_get_915e3 ({ frames := 2, cells := 0, slots := 0, locals := 43 } : Room) D (tyL cB cC cI cO cJ cD) ee [.ref la, .int (iI i)] (LH cO ee la t md ar sn f) (fun h v h' => v = some (va_rf (f i.toNat)) ∧ h' = h) 0 0 := by
  cases ar with
  | none =>
    intro h sz hI
    have := (hI.2.2.1 rfl).1
    omega
  | some q => exact kJx4a65c_get_915e3 hi
end

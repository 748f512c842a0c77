/-! rows of V: references -/
section VR
variable {p : Program} {l : Launch} {e : Env} {R : Room} {s : State} {m : MethodId} {args : Array Value} {below : List Frame} {meth : Method} {c : Code} {cells slots : Nat} {Q : State → Prop} {D : va_G} {tys : List (ClassId × FieldType)} {A : Nat → Prop} {nL : Nat} {cc : ByteArray} {Ts : List Cond} {own : String} {ee : Nat × Nat}
variable {I : Hp → Prop} {pc pc' : Nat} {L : List (Option Value)} {st : List Value}
/-- an array of references -/
abbrev qA (n : Nat) (f : Nat → Option Nat) : vp_A := (n, .inr (.inr (.inr (.inr f))))
theorem V_aald {cA : ClassId} {a n : Nat} {f : Nat → Option Nat} {z : Int} {E : String} (C : Cx p m c cc nL s args Ts own D tys A ee) (t0 : Nat) (ht : tys[t0]? = some (cA, .object E)) (he : ∀ h, I h → ∃ t, h a = some (t, .inl (cA, qA n f))) (hz : 0 ≤ z ∧ z < n ∧ z ≤ 2147483647) (d : decode cc pc = .ok (.aaload, 1)) (e0 : pc + 1 = pc') (kk : Vx p l e R s m args below meth c cells slots Q D A nL I pc' L (va_rf (f z.toNat) :: st)) : Vx p l e R s m args below meth c cells slots Q D A nL I pc L (.int (iI z) :: .ref a :: st) := by
  subst e0
  intro h H locs ls hI hW hS hL
  obtain ⟨t, h1⟩ := he h hI
  obtain ⟨ws, hP, hD, hw⟩ := id hW
  obtain ⟨q0, hq⟩ := hw a t _ h1
  have hr : rI z := ⟨by omega, hz.2.2⟩
  refine va_aldq C.1.1 C.1.2.1 C.2.1 hP q0 t0 hq ht (iI_in hz.1 hz.2.1 hr) d ?_
  rw [iI_cl hr]
  exact kk h H locs ls hI hW hS hL
/-- a cell of ours into an array of references -/
theorem V_aast {cA : ClassId} {a b n ci : Nat} {f : Nat → Option Nat} {z : Int} {E : String} {r : vw_C} {I2 : Hp → Prop} (C : Cx p m c cc nL s args Ts own D tys A ee) (t0 : Nat) (ht : tys[t0]? = some (cA, .object E)) (hc : vwCl[ci]? = some r) (hca : (r.1, E) ∈ evCast) (he : ∀ h, I h → ∃ t tb fs, h a = some (t, .inl (cA, qA n f)) ∧ h b = some (tb, .inr (ci, fs)) ∧ I2 (hup h a (t, .inl (cA, qA n (va_up f z.toNat (some b)))))) (hz : 0 ≤ z ∧ z < n ∧ z ≤ 2147483647) (d : decode cc pc = .ok (.aastore, 1)) (e0 : pc + 1 = pc') (kk : Vx p l e R s m args below meth c cells slots Q D A nL I2 pc' L st) : Vx p l e R s m args below meth c cells slots Q D A nL I pc L (.ref b :: .int (iI z) :: .ref a :: st) := by
  subst e0
  intro h H locs ls hI hW hS hL
  obtain ⟨t, tb, fs, h1, h2, h3⟩ := he h hI
  obtain ⟨ws, hP, hD, hw⟩ := id hW
  obtain ⟨q0, hq⟩ := hw a t _ h1
  obtain ⟨qb, hqb⟩ := hw b tb _ h2
  have hr : rI z := ⟨by omega, hz.2.2⟩
  refine va_astqO C.1.1 C.1.2.1 C.2.1 hP hD hS q0 t0 qb ci hq ht (C.2.2.2.2.2.2.2.2.2.2.2.1 _ hca) hqb hc (iI_in hz.1 hz.2.1 hr) d (fun H1 locs1 p1 d1 s1 => ?_)
  rw [iI_cl hr] at p1 d1
  exact kk _ H1 locs1 ls h3 ⟨_, p1, d1, hpW_set hD hw hq⟩ s1 hL
theorem V_aastN {cA : ClassId} {a n : Nat} {f : Nat → Option Nat} {z : Int} {E : String} {I2 : Hp → Prop} (C : Cx p m c cc nL s args Ts own D tys A ee) (t0 : Nat) (ht : tys[t0]? = some (cA, .object E)) (he : ∀ h, I h → ∃ t, h a = some (t, .inl (cA, qA n f)) ∧ I2 (hup h a (t, .inl (cA, qA n (va_up f z.toNat none))))) (hz : 0 ≤ z ∧ z < n ∧ z ≤ 2147483647) (d : decode cc pc = .ok (.aastore, 1)) (e0 : pc + 1 = pc') (kk : Vx p l e R s m args below meth c cells slots Q D A nL I2 pc' L st) : Vx p l e R s m args below meth c cells slots Q D A nL I pc L (.null :: .int (iI z) :: .ref a :: st) := by
  subst e0
  intro h H locs ls hI hW hS hL
  obtain ⟨t, h1, h3⟩ := he h hI
  obtain ⟨ws, hP, hD, hw⟩ := id hW
  obtain ⟨q0, hq⟩ := hw a t _ h1
  have hr : rI z := ⟨by omega, hz.2.2⟩
  refine va_astqN C.1.1 C.1.2.1 C.2.1 hP hD hS q0 t0 hq ht (iI_in hz.1 hz.2.1 hr) d (fun H1 locs1 p1 d1 s1 => ?_)
  rw [iI_cl hr] at p1 d1
  exact kk _ H1 locs1 ls h3 ⟨_, p1, d1, hpW_set hD hw hq⟩ s1 hL
/-- the empty list's array -/
theorem V_getsE {index : Nat} (C : Cx p m c cc nL s args Ts own D tys A ee) (hl : Cond.fieldLink own index "java/util/ArrayList" "DEFAULTCAPACITY_EMPTY_ELEMENTDATA" "[Ljava/lang/Object;" ∈ Ts) (d : decode cc pc = .ok (.getstatic index, 3)) (e0 : pc + 3 = pc') (kk : Vx p l e R s m args below meth c cells slots Q D A nL I pc' L (.ref ee.1 :: st)) : Vx p l e R s m args below meth c cells slots Q D A nL I pc L st := by
  subst e0
  intro h H locs ls hI hW hS hL
  exact va_gets C.1.1 C.1.2.1 C.2.2.2.2.2.1.1 hS C.1.2.2.2.1 (C.1.2.2.2.2 _ hl) (fun _ h9 => h9) d (kk h H locs ls hI hW hS hL)
theorem V_alenE (C : Cx p m c cc nL s args Ts own D tys A ee) (d : decode cc pc = .ok (.arraylength, 1)) (e0 : pc + 1 = pc') (kk : Vx p l e R s m args below meth c cells slots Q D A nL I pc' L (.int (iI 0) :: st)) : Vx p l e R s m args below meth c cells slots Q D A nL I pc L (.ref ee.1 :: st) := by
  subst e0
  intro h H locs ls hI hW hS hL
  exact va_tlen C.1.1 C.1.2.1 C.2.2.2.2.2.1.2 hS rfl d (kk h H locs ls hI hW hS hL)
theorem V_acmpeq {x y tgt : Nat} {off : Int} (C : Cx p m c cc nL s args Ts own D tys A ee) (d : decode cc pc = .ok (.if_acmp .eq off, 3)) (ht : (pc : Int) + off = (tgt : Int)) (e0 : pc + 3 = pc') (k1 : x = y → Vx p l e R s m args below meth c cells slots Q D A nL I tgt L st) (k2 : ¬ x = y → Vx p l e R s m args below meth c cells slots Q D A nL I pc' L st) : Vx p l e R s m args below meth c cells slots Q D A nL I pc L (.ref y :: .ref x :: st) := by
  subst e0
  intro h H locs ls hI hW hS hL
  exact lv_acmp_eq (rx := some x) (ry := some y) C.1.1 C.1.2.1 d ht (fun q => k1 (Option.some.inj q) h H locs ls hI hW hS hL) (fun q => k2 (fun z => q (by rw [z])) h H locs ls hI hW hS hL)
theorem V_anew {cA : ClassId} {index : Nat} {z : Int} {N : Nat} (t : Nat) (C : Cx p m c cc nL s args Ts own D tys A ee) (hl : Cond.classLink own index "java/lang/Object" ∈ Ts) (t0 : Nat) (ht : tys[t0]? = some (cA, .object "java/lang/Object")) (hz : z = N ∧ N ≤ 33554432) (hcells : cells + 1 ≤ R.cells) (hslots : slots + N ≤ R.slots) (d : decode cc pc = .ok (.anewarray index, 3)) (e0 : pc + 3 = pc') (kk : ∀ q : Nat, Vx p l e R s m args below meth c (cells + 1) (slots + N) Q D A nL (fun h' => ∃ h, I h ∧ h q = none ∧ h' = hup h q (t, .inl (cA, qA N (fun _ => none)))) pc' L (.ref q :: st)) : Vx p l e R s m args below meth c cells slots Q D A nL I pc L (.int (iI z) :: st) := by
  subst e0
  intro h H locs ls hI hW hS hL
  obtain ⟨ws, hP, hD, hw⟩ := id hW
  have hr : rI z := by omega
  refine va_newq (N' := N) C.1.1 C.1.2.1 C.1.2.2.2.1 (C.1.2.2.2.2 _ hl) C.2.2.2.2.2.2.2.2.2.2.1 C.2.1 hP hD hS C.2.2.1 ?_ ?_ ?_ hcells hslots d (fun q cB H1 k1 p1 d1 s1 => ?_)
  · rw [← iI_0, iI_lt hr (by decide)]
    omega
  · rw [iI_cl hr]
    omega
  · omega
  have eq : cB = cA := RA_inj (k1.2 tys.length (cB, _) (by simp)).2 (C.2.1.2 t0 _ ht).2
  subst eq
  exact kk q _ H1 locs ls ⟨h, hI, hp_fresh d1 hw, rfl⟩ ⟨_, p1, d1, hpW_push hw⟩ s1 hL
theorem V_enda {h0 : Hp} {sz mc ms : Nat} {J : Hp → Option Value → Hp → Prop} {v : Option Nat} {rt : FieldType} (C : Cx p m c cc nL s args Ts own D tys (hA h0 sz) ee) (hr : meth.sig.returnType = some rt) (hrt : (∃ n, rt = .object n) ∨ ∃ t, rt = .array t) (hlk : meth.locks = false) (hJ : ∀ h', I h' → J h0 (some (va_rf v)) h') (hc : cells ≤ mc ∧ slots ≤ ms) (d : decode cc pc = .ok (.areturn, 1)) : Vx p l e R s m args below meth c cells slots (MQ below (ctQ D h0 sz J) args s mc ms (hA h0 sz)) D (hA h0 sz) nL I pc L [va_rf v] := by
  intro h H locs ls hI hW hS hL
  refine W.widen hc.1 hc.2 ?_
  exact W.aret C.1.1 C.1.2.1 hr hrt (by cases v with | none => exact Or.inl rfl | some a => exact Or.inr ⟨a, rfl⟩) (fun t ht hWm => ⟨⟨_, h, rfl, hJ h hI, by rw [ht]; exact hW⟩, hS.F ht⟩) hS.2.2 d hlk
theorem V_mmax {x y : Int} {index : Nat} (C : Cx p m c cc nL s args Ts own D tys A ee) (h1 : Cond.methodLink own index Lib.Math.max.name ∈ Ts) (h2 : Cond.static Lib.Math.max.name ∈ Ts) (h3 : Cond.initialized "java/lang/Math" ∈ Ts) (h4 : Cond.code Lib.Math.max.name Lib.Math.max.code 2 (some .int) ∈ Ts) (hf : 1 ≤ R.frames ∧ (st.map fun v => v.category).sum + 13 ≤ R.locals) (hc : cells ≤ R.cells ∧ slots ≤ R.slots) (hx : rI x) (hy : rI y) (d : decode cc pc = .ok (.invokestatic index, 3)) (e0 : pc + 3 = pc') (k : Vx p l e R s m args below meth c cells slots Q D A nL I pc' L (.int (iI (if x < y then y else x)) :: st)) : Vx p l e R s m args below meth c cells slots Q D A nL I pc L (.int (iI y) :: .int (iI x) :: st) := by
  subst e0
  have hts := C.1.2.2.2.2
  intro h H locs ls hI hW hS hL
  have hl1 : ls.size = nL := by obtain ⟨lx, h1, -⟩ := hL; exact h1.1
  refine va_mmax C.1.1 C.1.2.1 (C.1.2.2.1.trans hl1.symm) C.1.2.2.2.1 (hts _ h1) (hts _ h2) (hts _ h3) (hts _ h4) hf.1 hf.2 hc.1 hc.2 d ?_
  have e1 : (if iI x < iI y then iI y else iI x) = iI (if x < y then y else x) := by
    by_cases q : x < y
    · rw [if_pos q, if_pos ((iI_lt hx hy).mpr q)]
    · rw [if_neg q, if_neg (fun z => q ((iI_lt hx hy).mp z))]
  rw [e1]
  exact k h H locs ls hI hW hS hL
theorem V_mmin {x y : Int} {index : Nat} (C : Cx p m c cc nL s args Ts own D tys A ee) (h1 : Cond.methodLink own index Lib.Math.min.name ∈ Ts) (h2 : Cond.static Lib.Math.min.name ∈ Ts) (h3 : Cond.initialized "java/lang/Math" ∈ Ts) (h4 : Cond.code Lib.Math.min.name Lib.Math.min.code 2 (some .int) ∈ Ts) (hf : 1 ≤ R.frames ∧ (st.map fun v => v.category).sum + 13 ≤ R.locals) (hc : cells ≤ R.cells ∧ slots ≤ R.slots) (hx : rI x) (hy : rI y) (d : decode cc pc = .ok (.invokestatic index, 3)) (e0 : pc + 3 = pc') (k : Vx p l e R s m args below meth c cells slots Q D A nL I pc' L (.int (iI (if y < x then y else x)) :: st)) : Vx p l e R s m args below meth c cells slots Q D A nL I pc L (.int (iI y) :: .int (iI x) :: st) := by
  subst e0
  have hts := C.1.2.2.2.2
  intro h H locs ls hI hW hS hL
  have hl1 : ls.size = nL := by obtain ⟨lx, h1, -⟩ := hL; exact h1.1
  refine va_mmin C.1.1 C.1.2.1 (C.1.2.2.1.trans hl1.symm) C.1.2.2.2.1 (hts _ h1) (hts _ h2) (hts _ h3) (hts _ h4) hf.1 hf.2 hc.1 hc.2 d ?_
  have e1 : (if iI y < iI x then iI y else iI x) = iI (if y < x then y else x) := by
    by_cases q : y < x
    · rw [if_pos q, if_pos ((iI_lt hy hx).mpr q)]
    · rw [if_neg q, if_neg (fun z => q ((iI_lt hy hx).mp z))]
  rw [e1]
  exact k h H locs ls hI hW hS hL
end VR

/-! contracts over V's heaps, and the rows of calls -/
section VC
variable {p : Program} {l : Launch} {e : Env} {R : Room} {s : State} {m : MethodId} {args : Array Value} {below : List Frame} {meth : Method} {c : Code} {cells slots : Nat} {Q : State → Prop} {D : va_G} {tys : List (ClassId × FieldType)} {A : Nat → Prop} {nL : Nat} {cc : ByteArray} {Ts : List Cond} {own : String} {ee : Nat × Nat}
variable {I : Hp → Prop} {pc pc' : Nat} {L : List (Option Value)} {st : List Value}
theorem hpW_weak {B : Nat → Prop} {h : Hp} {H : Heap} (hAB : ∀ q, A q → B q) (hW : hpW D A h H) : hpW D B h H := by
  obtain ⟨ws, hP, hD, hw⟩ := hW
  exact ⟨ws, hP, hD.weaken (fun _ _ _ q => hAB _ q), hw⟩
def ctPc (D : va_G) (tys : List (ClassId × FieldType)) (ee : Nat × Nat) (as : List Value) (h : Hp) (sz : Nat) : Array Value → State → Prop := va_Pc as (fun U => U.heap.size = sz ∧ hpW D (fun _ => True) h U.heap ∧ va_K D vwCl tys U ∧ EV ee (hA h sz) U U.heap)
theorem ctPc_blind {as : List Value} {h : Hp} {sz : Nat} : FrameBlind (ctPc D tys ee as h sz) := fun a U g mk q => by
  obtain ⟨q0, q1, q2, q3, q4⟩ := q
  exact ⟨q0, q1, q2, va_K.moved (u := U) (U := U.calling g mk a) (Vm.Alike.refl U.vm) q3, EV.warm (U := U.calling g mk a) (State.WarmedH.refl U) q4⟩
def ctQ (D : va_G) (h : Hp) (sz : Nat) (J : Hp → Option Value → Hp → Prop) : Array Value → State → Outcome → State → Prop := fun _ st oc t => (∃ (v : Option Value) (h' : Hp), oc = .returned v ∧ J h v h' ∧ hpW D (hA h sz) h' t.heap) ∧ va_F (hA h sz) st t
/-- a contract: from every map with I, the method returns, J tells its answer and the new map by the old one -/
def Ct (l : Launch) (y : MethodName) (ws : List Cond) (rm : Room) (D : va_G) (tys : List (ClassId × FieldType)) (ee : Nat × Nat) (as : List Value) (I : Hp → Prop) (J : Hp → Option Value → Hp → Prop) (mc ms : Nat) : Prop := ∀ (h : Hp) (sz : Nat), I h → Met l y ws rm (ctPc D tys ee as h sz) (ctQ D h sz J) mc ms (hA h sz)
def Ji (J : Hp → Int → Hp → Prop) : Hp → Option Value → Hp → Prop := fun h v h' => ∃ z : Int, v = some (.int (iI z)) ∧ J h z h'
def Jv (J : Hp → Hp → Prop) : Hp → Option Value → Hp → Prop := fun h v h' => v = none ∧ J h h'
def Jr (J : Hp → Option Nat → Hp → Prop) : Hp → Option Value → Hp → Prop := fun h v h' => ∃ r : Option Nat, v = some (va_rf r) ∧ J h r h'
theorem Ct_of {y : MethodName} {ws ws' : List Cond} {rm : Room} {as : List Value} {I : Hp → Prop} {J : Hp → Option Value → Hp → Prop} {mc ms maxL : Nat} {ret : Option FieldType} (L : List (Option Value)) (hy : plainName y.cls = true) (hw : ws = Cond.code y cc maxL ret :: ws') (hown : y.cls = own) (hlen : (lg_sl as).length ≤ maxL) (hL : ∀ (i : Nat) (v : Value), L[i]? = some (some v) → (i, v) ∈ lv_args 0 as)
    (body : ∀ (p : Program) (e : Env) (s : State) (m : MethodId) (args : Array Value) (below : List Frame) (meth : Method) (c : Code) (h : Hp) (sz : Nat), I h → Cx p m c cc maxL s args ws own D tys (hA h sz) ee → meth.sig.returnType = ret → meth.locks = false → (y.name = "<init>" → meth.name = "<init>") → Vx p l e rm s m args below meth c 0 0 (MQ below (ctQ D h sz J) args s mc ms (hA h sz)) D (hA h sz) maxL (fun x => x = h) 0 L []) : Ct l y ws rm D tys ee as I J mc ms := by
  intro h sz hI
  refine Met.ofW (cc := cc) (maxL := maxL) (ret := ret) hy hw ?_
  intro p e s m args below meth c s₁ B hml hv
  obtain ⟨rfl, hsz, hW, hK, hE⟩ := hv
  have hA' : ∀ q : Nat, s.heap.size ≤ q → hA h sz q := fun q hq => Or.inr (by rw [← hsz]; exact hq)
  have hl := lv_entry as (n := maxL) hlen
  rw [lg_entry_eq]
  generalize (lg_sl as ++ List.replicate (maxL - (lg_sl as).length) Slot.unset).toArray = ls at hl ⊢
  have hn : s.vm.findClass own = some m.cls := by rw [← hown]; exact findClass_of_methodNamed B.named
  exact body p e s m _ below meth c h sz hI ⟨⟨B.exec, B.bytes, hml, hn, atoms_spec (ws := ws) B.pre⟩, hK, hA', hE⟩ B.returns B.notSynchronized (fun q => (name_of_methodNamed B.named B.method).1.trans q) h s.heap [] ls rfl (hpW_self hW) va_S.rf ⟨lv_args 0 as, hl, hL⟩
theorem hA_sub {h : Hp} {H : Heap} {locs : List Loc} (hW : hpW D A h H) (hS : va_S A s.heap H locs) (hA9 : ∀ q : Nat, s.heap.size ≤ q → A q) : ∀ q, hA h H.size q → A q := fun q hq => by
  rcases hq with hq | hq
  · cases hh : h q with
    | none => exact absurd hh hq
    | some x => exact hpW_A hW (t := x.1) (e := x.2) hh
  · exact hA9 q (Nat.le_trans hS.1 hq)
/-- behind a call that returned -/
theorem V_run {mc ms : Nat} {J : Hp → Option Value → Hp → Prop} {h : Hp} {H : Heap} {locs : List Loc} {ls : Array Slot} {st0 rest : List Value} {a : Array Value} (hI : I h) (hW : hpW D A h H) (hS : va_S A s.heap H locs) (hA9 : ∀ q : Nat, s.heap.size ≤ q → A q) (hL : lhas ls nL L) (hr : va_Run p l e R s m args below meth c H locs cells slots mc ms (F0 m pc ls st0) rest (ctQ D h H.size J a) (hA h H.size))
    (k : ∀ (v : Option Value) (h' : Hp), I h → J h v h' → Vx p l e R s m args below meth c (cells + mc) (slots + ms) Q D A nL (fun x => x = h') (pc + 3) L (v.toList ++ rest)) : W p l e R s m args below meth c H locs cells slots Q (F0 m pc ls st0) := by
  intro T hT X
  obtain ⟨v, st₀, t, T', Lc, h0, X', hLc, e1, e2, ⟨⟨v2, h', hv, hJ, hW'⟩, hz, hk⟩, stp⟩ := hr T hT X
  cases hv
  rw [h0] at hz hk
  have hs := hA_sub hW hS hA9
  have hW2 : hpW D A h' T'.heap := by rw [e1]; exact hpW_weak hs hW'
  have hS2 : va_S A s.heap T'.heap (locs ++ Lc) := ⟨Nat.le_trans hS.1 (by rw [e1]; exact hz), fun q h1 h2 => by rw [e1, hk q (Nat.lt_of_lt_of_le h1 hS.1) (fun z => h2 (hs q z))]; exact hS.2.1 q h1 h2, fun q hq => by
    rcases List.mem_append.mp hq with h | h
    · exact hS.2.2 q h
    · exact hs _ (hLc q h)⟩
  obtain ⟨t2, a1, b1⟩ := k v h' hI hJ h' T'.heap (locs ++ Lc) ls rfl hW2 hS2 hL T' rfl X'
  exact ⟨t2, stp t2 a1, b1⟩
theorem V_callV {Cn : String} {T : u_T} {N ci b idx n mc ms maxL : Nat} {y : MethodName} {ws ws' : List Cond} {rm : Room} {bytes : ByteArray} {ret : Option FieldType} {I' : Hp → Prop} {J : Hp → Option Value → Hp → Prop} {st0 : List Value} (As : List Value) (C : Cx p m c cc nL s args Ts own D tys A ee) (hM : Ct l y ws rm D tys ee (.ref b :: As) I' J mc ms) (hG : GoodIn Ts (wsV own idx Cn y ws)) (hw : ws = Cond.code y bytes maxL ret :: ws') (hd : y.cls = Cn ∧ y.cls ≠ "java/lang/invoke/MethodHandle" ∧ y.cls ≠ "java/lang/invoke/VarHandle" ∧ (parseMethodDescriptor y.desc).map (fun d => d.parameters.length) = some n) (hR : rm.frames + 1 ≤ R.frames ∧ 8 + (maxL + 11) + rm.locals ≤ R.locals) (hcs : rm.cells = mc ∧ rm.slots = ms) (hn : As.length = n) (hc : vwCl[ci]? = some (Cn, T, N)) (hrec : ∀ h, I h → ∃ t fs, h b = some (t, .inr (ci, fs))) (hpre : ∀ h, I h → I' h) (hst : st0 = As.reverse ++ .ref b :: st) (hcat : (st.map fun v => v.category).sum ≤ 8) (d : decode cc pc = .ok (.invokevirtual idx, 3)) (hroom : cells + mc ≤ R.cells ∧ slots + ms ≤ R.slots)
    (k : ∀ (h : Hp) (v : Option Value) (h' : Hp), I h → J h v h' → Vx p l e R s m args below meth c (cells + mc) (slots + ms) Q D A nL (fun x => x = h') (pc + 3) L (v.toList ++ st)) : Vx p l e R s m args below meth c cells slots Q D A nL I pc L st0 := by
  intro h H locs ls hI hW hS hL
  obtain ⟨t, fs, hb⟩ := hrec h hI
  obtain ⟨wsx, hP, hD, hwk⟩ := id hW
  obtain ⟨q0, hq⟩ := hwk b t _ hb
  have hl1 : ls.size = nL := by obtain ⟨lx, h1, -⟩ := hL; exact h1.1
  exact V_run hI hW hS C.2.2.1 hL (va_runV (As := As) (rest := st) C.1 (hM h H.size (hpre h hI)) (cwV n C.1.2.2.2.2 hG hw hcs.1 hcs.2 hd hR) ⟨ctPc_blind, va_recv C.2.1 hP hc hq, fun U hU hWm => ⟨rfl, by rw [hU], by rw [hU]; exact hpW_weak (fun _ _ => trivial) hW, va_K.moved hWm.alike C.2.1, EV.warm hWm (by rw [hU]; exact (EV.kept C.2.2.2 hS.2.1).narrow (hA_sub hW hS C.2.2.1))⟩⟩ rfl hn hl1 hst (lv_room hcat) d hroom) (fun v h' _ hJ => k h v h' hI hJ)
theorem V_callS {idx n mc ms maxL : Nat} {y : MethodName} {ws ws' : List Cond} {rm : Room} {bytes : ByteArray} {ret : Option FieldType} {I' : Hp → Prop} {J : Hp → Option Value → Hp → Prop} {st0 : List Value} (As : List Value) (C : Cx p m c cc nL s args Ts own D tys A ee) (hM : Ct l y ws rm D tys ee As I' J mc ms) (hG : GoodIn Ts (va_wsS own idx y ws)) (hw : ws = Cond.code y bytes maxL ret :: ws') (hd : y.cls ≠ "java/lang/invoke/MethodHandle" ∧ y.cls ≠ "java/lang/invoke/VarHandle" ∧ (parseMethodDescriptor y.desc).map (fun d => d.parameters.length) = some n) (hR : rm.frames + 1 ≤ R.frames ∧ 8 + (maxL + 11) + rm.locals ≤ R.locals) (hcs : rm.cells = mc ∧ rm.slots = ms) (hn : As.length = n) (hpre : ∀ h, I h → I' h) (hst : st0 = As.reverse ++ st) (hcat : (st.map fun v => v.category).sum ≤ 8) (d : decode cc pc = .ok (.invokestatic idx, 3)) (hroom : cells + mc ≤ R.cells ∧ slots + ms ≤ R.slots)
    (k : ∀ (h : Hp) (v : Option Value) (h' : Hp), I h → J h v h' → Vx p l e R s m args below meth c (cells + mc) (slots + ms) Q D A nL (fun x => x = h') (pc + 3) L (v.toList ++ st)) : Vx p l e R s m args below meth c cells slots Q D A nL I pc L st0 := by
  intro h H locs ls hI hW hS hL
  have hl1 : ls.size = nL := by obtain ⟨lx, h1, -⟩ := hL; exact h1.1
  exact V_run hI hW hS C.2.2.1 hL (va_runS (As := As) (rest := st) C.1 (hM h H.size (hpre h hI)) (va_cwS n C.1.2.2.2.2 hG hw hcs.1 hcs.2 hd hR) ⟨ctPc_blind, fun U hU hWm => ⟨rfl, by rw [hU], by rw [hU]; exact hpW_weak (fun _ _ => trivial) hW, va_K.moved hWm.alike C.2.1, EV.warm hWm (by rw [hU]; exact (EV.kept C.2.2.2 hS.2.1).narrow (hA_sub hW hS C.2.2.1))⟩⟩ rfl hn hl1 hst (lv_room hcat) d hroom) (fun v h' _ hJ => k h v h' hI hJ)
-- ends
theorem V_end {h0 : Hp} {sz mc ms : Nat} {J : Hp → Option Value → Hp → Prop} {z : Int} (C : Cx p m c cc nL s args Ts own D tys (hA h0 sz) ee) (hr : meth.sig.returnType = some .int) (hlk : meth.locks = false) (hJ : ∀ h', I h' → J h0 (some (.int (iI z))) h') (hc : cells ≤ mc ∧ slots ≤ ms) (d : decode cc pc = .ok (.ireturn, 1)) : Vx p l e R s m args below meth c cells slots (MQ below (ctQ D h0 sz J) args s mc ms (hA h0 sz)) D (hA h0 sz) nL I pc L [.int (iI z)] := by
  intro h H locs ls hI hW hS hL
  refine W.widen hc.1 hc.2 ?_
  exact W.iret C.1.1 C.1.2.1 hr (fun t ht hWm => ⟨⟨_, h, rfl, hJ h hI, by rw [ht]; exact hW⟩, hS.F ht⟩) hS.2.2 d hlk
theorem V_endz {h0 : Hp} {sz mc ms : Nat} {J : Hp → Option Value → Hp → Prop} {z : Int} {ty : FieldType} (C : Cx p m c cc nL s args Ts own D tys (hA h0 sz) ee) (hr : meth.sig.returnType = some ty) (hlk : meth.locks = false) (hnar : narrow ty (.int (iI z)) = .int (iI z)) (hJ : ∀ h', I h' → J h0 (some (.int (iI z))) h') (hc : cells ≤ mc ∧ slots ≤ ms) (d : decode cc pc = .ok (.ireturn, 1)) : Vx p l e R s m args below meth c cells slots (MQ below (ctQ D h0 sz J) args s mc ms (hA h0 sz)) D (hA h0 sz) nL I pc L [.int (iI z)] := by
  intro h H locs ls hI hW hS hL
  refine W.widen hc.1 hc.2 ?_
  exact W.zret C.1.1 C.1.2.1 hr hnar (fun t ht hWm => ⟨⟨_, h, rfl, hJ h hI, by rw [ht]; exact hW⟩, hS.F ht⟩) hS.2.2 d hlk
theorem V_endv {h0 : Hp} {sz mc ms : Nat} {J : Hp → Option Value → Hp → Prop} (C : Cx p m c cc nL s args Ts own D tys (hA h0 sz) ee) (hr : meth.sig.returnType = none) (hlk : meth.locks = false) (hJ : ∀ h', I h' → J h0 none h') (hc : cells ≤ mc ∧ slots ≤ ms) (d : decode cc pc = .ok (.return_, 1)) : Vx p l e R s m args below meth c cells slots (MQ below (ctQ D h0 sz J) args s mc ms (hA h0 sz)) D (hA h0 sz) nL I pc L [] := by
  intro h H locs ls hI hW hS hL
  refine W.widen hc.1 hc.2 ?_
  exact W.vret C.1.1 C.1.2.1 hr (fun t ht hWm => ⟨⟨_, h, rfl, hJ h hI, by rw [ht]; exact hW⟩, hS.F ht⟩) hS.2.2 d hlk
theorem nar_z (b : Bool) : narrow .boolean (.int (iI (bI b))) = .int (iI (bI b)) := by cases b <;> rfl
theorem iI_nI {z : Int} (h : 0 ≤ z) : iI z = nI z.toNat := by
  unfold iI nI
  conv => lhs; rw [show z = (z.toNat : Int) by omega]
  rfl
theorem nar_c {z : Int} (h0 : 0 ≤ z) (h1 : z < 65536) : narrow .char (.int (iI z)) = .int (iI z) := by
  rw [iI_nI h0]
  exact (pk_charN (by omega)).1
end VC

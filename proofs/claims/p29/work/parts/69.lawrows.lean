/-! the law: rows of its own; methods with a table of handlers; a throw that is caught -/
theorem room_mono {s : State} {pl : Platform} {r r' : Room} (hf : r.frames ≤ r'.frames) (hl : r.locals ≤ r'.locals) (hc : r.cells ≤ r'.cells) (hs : r.slots ≤ r'.slots) (h : s.hasRoom pl r' = true) : s.hasRoom pl r = true := by
  simp only [State.hasRoom, Bool.and_eq_true, decide_eq_true_eq] at h ⊢
  obtain ⟨⟨⟨⟨y, a, b, c, d, e⟩, f⟩, g⟩, i⟩ := h
  exact ⟨⟨⟨⟨by omega, by omega, by omega, by omega, by omega, e⟩, by omega⟩, by omega⟩, i⟩
section
variable {l : Launch} {D : va_G} {tys : List (ClassId × FieldType)} {ee : Nat × Nat}
/-- a contract stands in a larger room -/
theorem Ct_room {y : MethodName} {ws : List Cond} {rm rm' : Room} {as : List Value} {I : Hp → Prop} {J : Hp → Option Value → Hp → Prop} {mc ms mc' ms' : Nat} (h : Ct l y ws rm D tys ee as I J mc ms) (hf : rm.frames ≤ rm'.frames) (hl : rm.locals ≤ rm'.locals) (hc : rm.cells ≤ rm'.cells) (hs : rm.slots ≤ rm'.slots) (hm : mc ≤ mc' ∧ ms ≤ ms') : Ct l y ws rm' D tys ee as I J mc' ms' := by
  intro h0 sz hI p e ha hcs hk s m args below hfr happ hP hK
  obtain ⟨a1, a2, a3, a4, a5, a6, a7, a8⟩ := (Spec.appliesLoose_iff hfr).mp happ
  obtain ⟨n, o, h1, h2, h3, h4, L, ⟨h5, h6, h7⟩, h8⟩ := h h0 sz hI p e ha hcs hk s m args below hfr ((Spec.appliesLoose_iff hfr).mpr ⟨a1, a2, a3, a4, a5, a6, room_mono hf hl hc hs a7, a8⟩) hP hK
  exact ⟨n, o, h1, h2, h3, h4, L, ⟨h5, h6, h7.mono hm.1 hm.2⟩, h8⟩
theorem Ctw_of {y : MethodName} {ws ws' : List Cond} {rm : Room} {as : List Value} {I : Hp → Prop} {J : Hp → Option Value → Hp → Prop} {mc ms maxL : Nat} {ret : Option FieldType} {hh : List (Nat × Nat × Nat × Nat)} {cc : ByteArray} {own : String} (L : List (Option Value)) (hy : plainName y.cls = true) (hw : ws = Cond.codeWith y cc maxL ret hh :: ws') (hown : y.cls = own) (hlen : (lg_sl as).length ≤ maxL) (hL : ∀ (i : Nat) (v : Value), L[i]? = some (some v) → (i, v) ∈ lv_args 0 as)
    (body : ∀ (p : Program) (e : Env) (s : State) (m : MethodId) (args : Array Value) (below : List Frame) (meth : Method) (c : Code) (h : Hp) (sz : Nat), I h → Cx p m c cc maxL s args ws own D tys (hA h sz) ee → meth.sig.returnType = ret → meth.locks = false → c.exceptionTable.toList = tableOf hh → Vx p l e rm s m args below meth c 0 0 (MQ below (ctQ D h sz J) args s mc ms (hA h sz)) D (hA h sz) maxL (fun x => x = h) 0 L []) : Ct l y ws rm D tys ee as I J mc ms := by
  intro h sz hI
  refine MetFree.of_bodyS (code := cc) (maxLocals := maxL) (ret := ret) hy ?_ ?_
  · intro args s m h hn
    obtain ⟨m9, meth, c, hn9, h1, h2, h3, h4, -, h5, h6, -⟩ := Cond.codeWith_spec (atoms_spec (ws := ws) h _ (by rw [hw]; exact List.mem_cons_self))
    cases hn.symm.trans hn9
    exact ⟨meth, c, h1, h2, h3, h4, h5, h6⟩
  · intro p e s m args below meth c s₁ B hml hv _
    have hh0 : s₁.heap = s.heap := by rw [B.state]; rfl
    have ht : c.exceptionTable.toList = tableOf hh := vx_table (x := y) B (atoms_spec (ws := ws) B.pre _ (by rw [hw]; exact List.mem_cons_self))
    obtain ⟨rfl, hsz, hW, hK, hE⟩ := hv
    have hA' : ∀ q : Nat, s.heap.size ≤ q → hA h sz q := fun q hq => Or.inr (by rw [← hsz]; exact hq)
    have hl := lv_entry as (n := maxL) hlen
    have hn : s.vm.findClass own = some m.cls := by rw [← hown]; exact findClass_of_methodNamed B.named
    have K : W p l e rm s m (as.toArray) below meth c s.heap [] 0 0 (MQ below (ctQ D h sz J) as.toArray s mc ms (hA h sz)) (entryFrame m as.toArray maxL) := by
      rw [lg_entry_eq]
      generalize (lg_sl as ++ List.replicate (maxL - (lg_sl as).length) Slot.unset).toArray = ls at hl ⊢
      exact body p e s m _ below meth c h sz hI ⟨⟨B.exec, B.bytes, hml, hn, atoms_spec (ws := ws) B.pre⟩, hK, hA', hE⟩ B.returns B.notSynchronized ht h s.heap [] ls rfl (hpW_self hW) va_S.rf ⟨lv_args 0 as, hl, hL⟩
    obtain ⟨t, a1, o, b1, b2, b3⟩ := K s₁ hh0 (Stand.of_body B)
    exact ⟨t, o, a1, b1, b2, b3⟩
end
section VL
variable {p : Program} {l : Launch} {e : Env} {R : Room} {s : State} {m : MethodId} {args : Array Value} {below : List Frame} {meth : Method} {c : Code} {cells slots : Nat} {Q : State → Prop} {D : va_G} {tys : List (ClassId × FieldType)} {A : Nat → Prop} {nL : Nat} {cc : ByteArray} {Ts : List Cond} {own : String} {ee : Nat × Nat}
variable {I : Hp → Prop} {pc pc' : Nat} {L : List (Option Value)} {st : List Value} {t : List (Option Value)} {a0 a1 a2 a3 a4 a5 a6 a7 a8 a9 a10 w : Option Value}
/-- more room was taken than was -/
theorem V_widen {k n : Nat} (h1 : cells ≤ k) (h2 : slots ≤ n) (kk : Vx p l e R s m args below meth c k n Q D A nL I pc L st) : Vx p l e R s m args below meth c cells slots Q D A nL I pc L st := fun h H locs ls a b c d => W.widen h1 h2 (kk h H locs ls a b c d)
theorem V_callSW {idx n mc ms maxL : Nat} {y : MethodName} {ws ws' : List Cond} {rm : Room} {bytes : ByteArray} {ret : Option FieldType} {hh : List (Nat × Nat × Nat × Nat)} {I' : Hp → Prop} {J : Hp → Option Value → Hp → Prop} {st0 : List Value} (As : List Value) (C : Cx p m c cc nL s args Ts own D tys A ee) (hM : Ct l y ws rm D tys ee As I' J mc ms) (hG : GoodIn Ts (va_wsS own idx y ws)) (hw : ws = Cond.codeWith y bytes maxL ret hh :: ws') (hd : y.cls ≠ "java/lang/invoke/MethodHandle" ∧ y.cls ≠ "java/lang/invoke/VarHandle" ∧ (parseMethodDescriptor y.desc).map (fun d => d.parameters.length) = some n) (hR : rm.frames + 1 ≤ R.frames ∧ 8 + (maxL + 11) + rm.locals ≤ R.locals) (hcs : rm.cells = mc ∧ rm.slots = ms) (hn : As.length = n) (hpre : ∀ h, I h → I' h) (hst : st0 = As.reverse ++ st) (hcat : (st.map fun v => v.category).sum ≤ 8) (d : decode cc pc = .ok (.invokestatic idx, 3)) (hroom : cells + mc ≤ R.cells ∧ slots + ms ≤ R.slots)
    (k : ∀ (h : Hp) (v : Option Value) (h' : Hp), I h → J h v h' → Vx p l e R s m args below meth c (cells + mc) (slots + ms) Q D A nL (fun x => x = h') (pc + 3) L (v.toList ++ st)) : Vx p l e R s m args below meth c cells slots Q D A nL I pc L st0 := by
  intro h H locs ls hI hW hS hL
  have hl1 : ls.size = nL := by obtain ⟨lx, h1, -⟩ := hL; exact h1.1
  exact V_run hI hW hS C.2.2.1 hL (vx_runSW (As := As) (rest := st) C.1 (hM h H.size (hpre h hI)) (vx_cwSW n C.1.2.2.2.2 hG hw hcs.1 hcs.2 hd hR) ⟨ctPc_blind, fun U hU hWm => ⟨rfl, by rw [hU], by rw [hU]; exact hpW_weak (fun _ _ => trivial) hW, va_K.moved hWm.alike C.2.1, EV.warm hWm (by rw [hU]; exact (EV.kept C.2.2.2 hS.2.1).narrow (hA_sub hW hS C.2.2.1))⟩⟩ rfl hn hl1 hst (lv_room hcat) d hroom) (fun v h' _ hJ => k h v h' hI hJ)
/-- a call that throws, caught here by the row x of the table -/
theorem V_catchV {Cn : String} {T : u_T} {N ci b idx n mc' ms' maxL : Nat} {y : MethodName} {ws ws' : List Cond} {rm : Room} {bytes : ByteArray} {ret : Option FieldType} {I' : Hp → Prop} {E0 name : String} {JX' : Hp → Hp → Prop} {st0 : List Value} (As : List Value) (C : Cx p m c cc nL s args Ts own D tys A ee) (hM : Tx l y ws rm D tys ee (.ref b :: As) I' E0 JX' mc' ms') (hG : GoodIn Ts (wsV own idx Cn y ws)) (hw : ws = Cond.code y bytes maxL ret :: ws') (hd : y.cls = Cn ∧ y.cls ≠ "java/lang/invoke/MethodHandle" ∧ y.cls ≠ "java/lang/invoke/VarHandle" ∧ (parseMethodDescriptor y.desc).map (fun d => d.parameters.length) = some n) (hR : rm.frames + 1 ≤ R.frames ∧ 8 + (maxL + 11) + rm.locals ≤ R.locals) (hcs : rm.cells = mc' ∧ rm.slots = ms') (hn : As.length = n) (hci : vwCl[ci]? = some (Cn, T, N)) (hrec : ∀ h, I h → ∃ t fs, h b = some (t, .inr (ci, fs))) (hpre : ∀ h, I h → I' h) (hst : st0 = As.reverse ++ .ref b :: st) (hcat : (st.map fun v => v.category).sum ≤ 8) (d : decode cc pc = .ok (.invokevirtual idx, 3)) (hroom : cells + mc' ≤ R.cells ∧ slots + ms' ≤ R.slots)
    (pre : List ExceptionTableEntry) (x : ExceptionTableEntry) (suf : List ExceptionTableEntry) (hsplit : c.exceptionTable.toList = pre ++ x :: suf) (hpass : ∀ z ∈ pre, covers z pc = false ∨ (z.catchType ≠ 0 ∧ ∃ nm : String, Cond.classLink own z.catchType nm ∈ Ts ∧ (E0, nm) ∈ evNc)) (hx : covers x pc = true) (h0 : x.catchType ≠ 0) (hlink : Cond.classLink own x.catchType name ∈ Ts) (hcast : (E0, name) ∈ evCast)
    (kk : ∀ h h', I h → JX' h h' → ∀ q : Nat, Vx p l e R s m args below meth c (cells + mc') (slots + ms') Q D A nL (fun x => x = h') x.handlerPc L [.ref q]) : Vx p l e R s m args below meth c cells slots Q D A nL I pc L st0 := by
  intro h H locs ls hI hW hS hL
  obtain ⟨t, fs, hb⟩ := hrec h hI
  obtain ⟨wsx, hP, hD, hwk⟩ := id hW
  obtain ⟨q0, hq⟩ := hwk b t _ hb
  have hl1 : ls.size = nL := by obtain ⟨lx, h1, -⟩ := hL; exact h1.1
  have hr : vx_Run p l e R s m args below meth c H locs cells slots mc' ms' (F0 m pc ls st0) st (fun _ _ _ => False) (ctXC D h H.size E0 JX') (hA h H.size) := vx_runV (As := As) (rest := st) C.1 (hM h H.size (hpre h hI)) (cwV n C.1.2.2.2.2 hG hw hcs.1 hcs.2 hd hR) ⟨ctPc_blind, va_recv C.2.1 hP hci hq, fun U hU hWm => ⟨rfl, by rw [hU], by rw [hU]; exact hpW_weak (fun _ _ => trivial) hW, va_K.moved hWm.alike C.2.1, EV.warm hWm (by rw [hU]; exact (EV.kept C.2.2.2 hS.2.1).narrow (hA_sub hW hS C.2.2.1))⟩⟩ rfl hn hl1 hst (lv_room hcat) d hroom
  intro T hT X
  rcases hr T hT X with ⟨v, st₀, t, T', Lc, e0, X', hLc, e1, e2, hq, stp⟩ | ⟨q, st₀, t, T', Lc, E, ce, e0, X', hLc, e1, e2, ⟨rfl, ⟨h', hj, hW'⟩, hF⟩, hce, hcv, hcl, stp⟩
  · exact hq.elim
  · have hs := hA_sub hW hS C.2.2.1
    obtain ⟨hz, hk⟩ := hF
    rw [e0] at hz hk
    have hW2 : hpW D A h' T'.heap := by rw [e1]; exact hpW_weak hs hW'
    have hS2 : va_S A s.heap T'.heap (locs ++ Lc) := ⟨Nat.le_trans hS.1 (by rw [e1]; exact hz), fun q h1 h2 => by rw [e1, hk q (Nat.lt_of_lt_of_le h1 hS.1) (fun z => h2 (hs q z))]; exact hS.2.1 q h1 h2, fun q hq => by
      rcases List.mem_append.mp hq with h | h
      · exact hS.2.2 q h
      · exact hs _ (hLc q h)⟩
    have K := vx_catch (p := p) (l := l) (e := e) (R := R) (s := s) (m := m) (args := args) (below := below) (meth := meth) (c := c) (H := T'.heap) (locs := locs ++ Lc) (cells := cells + mc') (slots := slots + ms') (Q := Q) (ls := ls) (rest := st) (pc := pc) (q := q) (ce := ce) C.1.2.2.2.1 pre x suf hsplit
      (fun z hz => (hpass z hz).imp (fun h => h) (fun h => ⟨h.1, h.2.choose, C.1.2.2.2.2 _ h.2.choose_spec.1, C.2.2.2.2.2.2.2.2.2.2.2.2.1 _ h.2.choose_spec.2⟩)) hx h0 (C.1.2.2.2.2 _ hlink) (va_Nw.use (A := args) rfl (C.2.2.2.2.2.2.2.2.2.2.2.1 _ hcast)) (by rw [e1]; exact hce) hcv hcl (kk h h' hI hj q h' T'.heap (locs ++ Lc) ls rfl hW2 hS2 hL)
    obtain ⟨t2, a1, b1⟩ := K T' rfl X'
    exact ⟨t2, stp.trans a1, b1⟩
/-! longs, doubles, the script -/
def lI (z : Int) : Int64 := (iI z).toInt64
theorem lI_eq {x y : Int} (hx : rI x) (hy : rI y) : lI x = lI y ↔ x = y := by
  constructor
  · intro h
    have h1 := congrArg Int64.toInt h
    unfold lI at h1
    rw [Int32.toInt_toInt64, Int32.toInt_toInt64, iI_toInt hx, iI_toInt hy] at h1
    exact h1
  · rintro rfl
    rfl
theorem V_i2l {x : Int} (C : Cx p m c cc nL s args Ts own D tys A ee) (d : decode cc pc = .ok (.i2l, 1)) (e0 : pc + 1 = pc') (k : Vx p l e R s m args below meth c cells slots Q D A nL I pc' L (.long (lI x) :: st)) : Vx p l e R s m args below meth c cells slots Q D A nL I pc L (.int (iI x) :: st) := by
  subst e0
  exact V_of (fun H locs ls hl kk => lv_i2l C.1.1 C.1.2.1 d rfl kk) k
theorem V_lcmp {x y : Int64} (C : Cx p m c cc nL s args Ts own D tys A ee) (d : decode cc pc = .ok (.lcmp, 1)) (e0 : pc + 1 = pc') (k : Vx p l e R s m args below meth c cells slots Q D A nL I pc' L (.int (lg_cmp x y) :: st)) : Vx p l e R s m args below meth c cells slots Q D A nL I pc L (.long y :: .long x :: st) := by
  subst e0
  exact V_of (fun H locs ls hl kk => W.lcmp C.1.1 C.1.2.1 d kk) k
theorem V_dcmp {x y : UInt64} {op : CmpOp} (C : Cx p m c cc nL s args Ts own D tys A ee) (d : decode cc pc = .ok (.dcmp op, 1)) (e0 : pc + 1 = pc') (k : Vx p l e R s m args below meth c cells slots Q D A nL I pc' L (.int (Op.cmpValue (FP.dcmp x y) op) :: st)) : Vx p l e R s m args below meth c cells slots Q D A nL I pc L (.double y :: .double x :: st) := by
  subst e0
  exact V_of (fun H locs ls hl kk => lv_dcmp C.1.1 C.1.2.1 d kk) k
theorem V_f2d {x : UInt32} (C : Cx p m c cc nL s args Ts own D tys A ee) (hne : vf_n64 (FP.f2d x)) (d : decode cc pc = .ok (.f2d, 1)) (e0 : pc + 1 = pc') (k : Vx p l e R s m args below meth c cells slots Q D A nL I pc' L (.double (FP.f2d x) :: st)) : Vx p l e R s m args below meth c cells slots Q D A nL I pc L (.float x :: st) := by
  subst e0
  exact V_of (fun H locs ls hl kk => lv_f2d C.1.1 C.1.2.1 d hne kk) k
theorem V_dstore7 {z : UInt64} (C : Cx p m c cc nL s args Ts own D tys A ee) (d : decode cc pc = .ok (.dstore 7, 2)) (e0 : pc + 2 = pc') (hn : 8 < nL) (ho : oc1 a6 = true) (k : Vx p l e R s m args below meth c cells slots Q D A nL I pc' [a0, a1, a2, a3, a4, a5, a6, some (.double z), none] st) : Vx p l e R s m args below meth c cells slots Q D A nL I pc [a0, a1, a2, a3, a4, a5, a6, w, a8] (.double z :: st) := by
  subst e0
  intro h H locs ls hI hW hS hl
  obtain ⟨lx, h1, h2⟩ := hl
  refine lv_dstore C.1.1 C.1.2.1 d h1 hn rfl (fun ls' hl' => k h H locs ls' hI hW hS ⟨_, hl', fun i v hv => ?_⟩)
  by_cases q : i = 7
  · subst q
    cases hv
    exact List.mem_cons_self
  · refine List.mem_cons_of_mem _ (List.mem_filter.mpr ⟨h2 i v ?_, ?_⟩)
    · match i, hv, q with
      | 0, hv, _ => exact hv
      | 1, hv, _ => exact hv
      | 2, hv, _ => exact hv
      | 3, hv, _ => exact hv
      | 4, hv, _ => exact hv
      | 5, hv, _ => exact hv
      | 6, hv, _ => exact hv
      | 7, _, q => exact absurd rfl q
      | 8, hv, _ => cases hv
      | i + 9, hv, _ => cases hv
    · have e8 : i ≠ 8 := fun z => by subst z; cases hv
      have e1 : (i == 7) = false := by simpa using q
      have e2 : (i == 7 + 1) = false := by simpa using e8
      simp only [e1, e2, Bool.not_false, Bool.true_and, Bool.not_eq_true', Bool.and_eq_false_iff, beq_eq_false_iff_ne]
      by_cases z9 : i + 1 = 7
      · refine Or.inr ?_
        have e3 : i = 6 := by omega
        subst e3
        cases hv
        unfold oc1 at ho
        simp only [beq_iff_eq] at ho
        rw [ho]
        decide
      · exact Or.inl z9
theorem i0_cl : (iI 0).toNatClampNeg = 0 := by decide
theorem V_lald1 {a : Nat} {v : Int64} {cA : ClassId} (C : Cx p m c cc nL s args Ts own D tys A ee) (t0 : Nat) (ht : tys[t0]? = some (cA, .long)) (he : ∀ h, I h → ∃ (t : Nat) (f : Nat → Int64), f 0 = v ∧ h a = some (t, .inl (cA, 1, .inr (.inl f)))) (d : decode cc pc = .ok (.laload, 1)) (e0 : pc + 1 = pc') (kk : Vx p l e R s m args below meth c cells slots Q D A nL I pc' L (.long v :: st)) : Vx p l e R s m args below meth c cells slots Q D A nL I pc L (.int (iI 0) :: .ref a :: st) := by
  subst e0
  intro h H locs ls hI hW hS hL
  obtain ⟨t, f, rfl, h1⟩ := he h hI
  obtain ⟨ws, hP, hD, hw⟩ := id hW
  obtain ⟨q0, hq⟩ := hw a t _ h1
  exact va_lald C.1.1 C.1.2.1 C.2.1 hP q0 t0 hq ht (iI_in (by decide) (by decide) (by decide)) d (by rw [i0_cl]; exact kk h H locs ls hI hW hS hL)
theorem V_dald1 {a : Nat} {v : UInt64} {cA : ClassId} (C : Cx p m c cc nL s args Ts own D tys A ee) (t0 : Nat) (ht : tys[t0]? = some (cA, .double)) (he : ∀ h, I h → ∃ (t : Nat) (f : Nat → UInt64), f 0 = v ∧ h a = some (t, .inl (cA, 1, .inr (.inr (.inr (.inl f)))))) (d : decode cc pc = .ok (.daload, 1)) (e0 : pc + 1 = pc') (kk : Vx p l e R s m args below meth c cells slots Q D A nL I pc' L (.double v :: st)) : Vx p l e R s m args below meth c cells slots Q D A nL I pc L (.int (iI 0) :: .ref a :: st) := by
  subst e0
  intro h H locs ls hI hW hS hL
  obtain ⟨t, f, rfl, h1⟩ := he h hI
  obtain ⟨ws, hP, hD, hw⟩ := id hW
  obtain ⟨q0, hq⟩ := hw a t _ h1
  exact va_dald C.1.1 C.1.2.1 C.2.1 hP q0 t0 hq ht (iI_in (by decide) (by decide) (by decide)) d (by rw [i0_cl]; exact kk h H locs ls hI hW hS hL)
theorem V_last1 {a : Nat} {v : Int64} {cA : ClassId} {I2 : Hp → Prop} (C : Cx p m c cc nL s args Ts own D tys A ee) (t0 : Nat) (ht : tys[t0]? = some (cA, .long)) (he : ∀ h, I h → ∃ (t : Nat) (f : Nat → Int64), h a = some (t, .inl (cA, 1, .inr (.inl f))) ∧ ∀ g : Nat → Int64, g 0 = v → I2 (hup h a (t, .inl (cA, 1, .inr (.inl g))))) (d : decode cc pc = .ok (.lastore, 1)) (e0 : pc + 1 = pc') (kk : Vx p l e R s m args below meth c cells slots Q D A nL I2 pc' L st) : Vx p l e R s m args below meth c cells slots Q D A nL I pc L (.long v :: .int (iI 0) :: .ref a :: st) := by
  subst e0
  intro h H locs ls hI hW hS hL
  obtain ⟨t, f, h1, h2⟩ := he h hI
  obtain ⟨ws, hP, hD, hw⟩ := id hW
  obtain ⟨q0, hq⟩ := hw a t _ h1
  refine va_last C.1.1 C.1.2.1 C.2.1 hP hD hS q0 t0 hq ht (iI_in (by decide) (by decide) (by decide)) d (fun H1 locs1 p1 d1 s1 => ?_)
  rw [i0_cl] at p1 d1
  exact kk _ H1 locs1 ls (h2 _ (if_pos rfl)) ⟨_, p1, d1, hpW_set hD hw hq⟩ s1 hL
theorem V_dast1 {a : Nat} {v : UInt64} {cA : ClassId} {I2 : Hp → Prop} (C : Cx p m c cc nL s args Ts own D tys A ee) (t0 : Nat) (ht : tys[t0]? = some (cA, .double)) (he : ∀ h, I h → ∃ (t : Nat) (f : Nat → UInt64), h a = some (t, .inl (cA, 1, .inr (.inr (.inr (.inl f))))) ∧ ∀ g : Nat → UInt64, g 0 = v → I2 (hup h a (t, .inl (cA, 1, .inr (.inr (.inr (.inl g))))))) (d : decode cc pc = .ok (.dastore, 1)) (e0 : pc + 1 = pc') (kk : Vx p l e R s m args below meth c cells slots Q D A nL I2 pc' L st) : Vx p l e R s m args below meth c cells slots Q D A nL I pc L (.double v :: .int (iI 0) :: .ref a :: st) := by
  subst e0
  intro h H locs ls hI hW hS hL
  obtain ⟨t, f, h1, h2⟩ := he h hI
  obtain ⟨ws, hP, hD, hw⟩ := id hW
  obtain ⟨q0, hq⟩ := hw a t _ h1
  refine va_dast C.1.1 C.1.2.1 C.2.1 hP hD hS q0 t0 hq ht (iI_in (by decide) (by decide) (by decide)) d (fun H1 locs1 p1 d1 s1 => ?_)
  rw [i0_cl] at p1 d1
  exact kk _ H1 locs1 ls (h2 _ (if_pos rfl)) ⟨_, p1, d1, hpW_set hD hw hq⟩ s1 hL
theorem iI_and31 {x : Int} (hx : rI x) : iI x &&& iI 31 = iI (x % 32) := by
  apply Int32.toInt_inj.mp
  rw [iI_toInt ⟨by omega, by omega⟩]
  have h1 : (iI x &&& iI 31).toBitVec = (iI x).toBitVec &&& 31#32 := rfl
  have h2 : (iI x).toBitVec.toNat = (x % 4294967296).toNat := by
    show (BitVec.ofInt 32 x).toNat = _
    rw [BitVec.toNat_ofInt]
    rfl
  have h3 : (iI x &&& iI 31).toBitVec.toNat = (x % 32).toNat := by
    rw [h1, BitVec.toNat_and, h2]
    show (x % 4294967296).toNat &&& (2 ^ 5 - 1) = _
    rw [Nat.and_two_pow_sub_one_eq_mod]
    omega
  show (iI x &&& iI 31).toBitVec.toInt = _
  rw [BitVec.toInt_eq_toNat_of_lt (by rw [h3]; omega), h3]
  omega
theorem V_iand31L {x : Int} (C : Cx p m c cc nL s args Ts own D tys A ee) (hr : rI x) (d : decode cc pc = .ok (.iand, 1)) (e0 : pc + 1 = pc') (k : Vx p l e R s m args below meth c cells slots Q D A nL I pc' L (.int (iI (x % 32)) :: st)) : Vx p l e R s m args below meth c cells slots Q D A nL I pc L (.int (iI 31) :: .int (iI x) :: st) := by
  subst e0
  refine V_of (fun H locs ls hl kk => lv_iand C.1.1 C.1.2.1 d ?_) k
  rw [iI_and31 hr]
  exact kk
theorem V_tabIn {x : Int} {dflt lo hi : Int} {offs : Array Int} {len : Nat} {off : Int} {tgt : Nat} (C : Cx p m c cc nL s args Ts own D tys A ee) (hr : rI x) (d : decode cc pc = .ok (.tableswitch dflt lo hi offs, len)) (h1 : lo ≤ x ∧ x ≤ hi) (ho : offs[(x - lo).toNat]? = some off) (ht : (pc : Int) + off = (tgt : Int)) (k : Vx p l e R s m args below meth c cells slots Q D A nL I tgt L st) : Vx p l e R s m args below meth c cells slots Q D A nL I pc L (.int (iI x) :: st) :=
  V_of (fun H locs ls hl kk => lv_tableIn C.1.1 C.1.2.1 d (by rw [iI_toInt hr]; omega) (by rw [iI_toInt hr]; omega) (by rw [iI_toInt hr]; exact ho) ht kk) k
theorem V_tabOut {x : Int} {dflt lo hi : Int} {offs : Array Int} {len : Nat} {tgt : Nat} (C : Cx p m c cc nL s args Ts own D tys A ee) (hr : rI x) (d : decode cc pc = .ok (.tableswitch dflt lo hi offs, len)) (h1 : x < lo ∨ hi < x) (ht : (pc : Int) + dflt = (tgt : Int)) (k : Vx p l e R s m args below meth c cells slots Q D A nL I tgt L st) : Vx p l e R s m args below meth c cells slots Q D A nL I pc L (.int (iI x) :: st) :=
  V_of (fun H locs ls hl kk => lv_tableOut C.1.1 C.1.2.1 d (by rw [iI_toInt hr]; exact h1) ht kk) k
/-- the script, where ee's second tells it -/
theorem scr_get (C : Cx p m c cc nL s args Ts own D tys A ee) : ∃ (xs : Nat → Int32) (N : Nat), N ≤ 260 ∧ va_T .int ee.2 N (fun k => .int (xs k)) A s s.heap := C.2.2.2.2.2.2.1
theorem V_slen {xs : Nat → Int32} {N : Nat} (C : Cx p m c cc nL s args Ts own D tys A ee) (hT : va_T .int ee.2 N (fun k => .int (xs k)) A s s.heap) (d : decode cc pc = .ok (.arraylength, 1)) (e0 : pc + 1 = pc') (kk : Vx p l e R s m args below meth c cells slots Q D A nL I pc' L (.int (iI N) :: st)) : Vx p l e R s m args below meth c cells slots Q D A nL I pc L (.ref ee.2 :: st) := by
  subst e0
  intro h H locs ls hI hW hS hL
  exact va_tlen C.1.1 C.1.2.1 hT hS rfl d (kk h H locs ls hI hW hS hL)
theorem V_sld {xs : Nat → Int32} {N : Nat} {z : Int} (C : Cx p m c cc nL s args Ts own D tys A ee) (hT : va_T .int ee.2 N (fun k => .int (xs k)) A s s.heap) (hz : 0 ≤ z ∧ z < N ∧ z ≤ 2147483647) (d : decode cc pc = .ok (.iaload, 1)) (e0 : pc + 1 = pc') (kk : Vx p l e R s m args below meth c cells slots Q D A nL I pc' L (.int (xs z.toNat) :: st)) : Vx p l e R s m args below meth c cells slots Q D A nL I pc L (.int (iI z) :: .ref ee.2 :: st) := by
  subst e0
  intro h H locs ls hI hW hS hL
  have e9 : (Value.int (xs (iI z).toNatClampNeg)) = .int (xs z.toNat) := by rw [iI_cl ⟨by omega, hz.2.2⟩]
  exact va_ti C.1.1 C.1.2.1 hT hS (iI_in hz.1 hz.2.1 ⟨by omega, hz.2.2⟩) e9 d (kk h H locs ls hI hW hS hL)
theorem V_ixorA {x y : Int32} (C : Cx p m c cc nL s args Ts own D tys A ee) (d : decode cc pc = .ok (.ixor, 1)) (e0 : pc + 1 = pc') (k : ∀ z : Int, rI z → Vx p l e R s m args below meth c cells slots Q D A nL I pc' L (.int (iI z) :: st)) : Vx p l e R s m args below meth c cells slots Q D A nL I pc L (.int y :: .int x :: st) := by
  subst e0
  refine V_of (fun H locs ls hl kk => lv_ixor C.1.1 C.1.2.1 d ?_) (k (x ^^^ y).toInt (rI_of _))
  rw [iI_of] at kk
  exact kk
theorem V_iushrA {x y : Int32} (C : Cx p m c cc nL s args Ts own D tys A ee) (d : decode cc pc = .ok (.iushr, 1)) (e0 : pc + 1 = pc') (k : ∀ z : Int, rI z → Vx p l e R s m args below meth c cells slots Q D A nL I pc' L (.int (iI z) :: st)) : Vx p l e R s m args below meth c cells slots Q D A nL I pc L (.int y :: .int x :: st) := by
  subst e0
  refine V_of (fun H locs ls hl kk => lv_iushr C.1.1 C.1.2.1 d (iI_of _).symm kk) (k _ (rI_of _))
theorem V_iand31b {x : Int32} (C : Cx p m c cc nL s args Ts own D tys A ee) (d : decode cc pc = .ok (.iand, 1)) (e0 : pc + 1 = pc') (k : ∀ z : Int, 0 ≤ z → z ≤ 2147483647 → Vx p l e R s m args below meth c cells slots Q D A nL I pc' L (.int (iI z) :: st)) : Vx p l e R s m args below meth c cells slots Q D A nL I pc L (.int (iI 2147483647) :: .int x :: st) := by
  subst e0
  obtain ⟨j, hj, e⟩ := pk_andE x (m := iI 2147483647) 31 (by decide)
  exact V_of (fun H locs ls hl kk => lv_iand C.1.1 C.1.2.1 d (by rw [e]; exact kk)) (k (j : Int) (by omega) (by omega))
theorem V_ldc2d {index : Nat} {v : UInt64} (C : Cx p m c cc nL s args Ts own D tys A ee) (hw : Cond.constantDouble own index v ∈ Ts) (d : decode cc pc = .ok (.ldc2_w index, 3)) (e0 : pc + 3 = pc') (k : Vx p l e R s m args below meth c cells slots Q D A nL I pc' L (.double v :: st)) : Vx p l e R s m args below meth c cells slots Q D A nL I pc L st := by
  subst e0
  exact V_of (fun H locs ls hl kk => lv_ldc2d C.1.1 C.1.2.1 C.1.2.2.2.1 (C.1.2.2.2.2 _ hw) d kk) k
theorem V_same {z : Int} {off : Int} {tgt : Nat} (C : Cx p m c cc nL s args Ts own D tys A ee) (d : decode cc pc = .ok (.if_icmp .eq off, 3)) (ht : (pc : Int) + off = (tgt : Int)) (k : Vx p l e R s m args below meth c cells slots Q D A nL I tgt L st) : Vx p l e R s m args below meth c cells slots Q D A nL I pc L (.int (iI z) :: .int (iI z) :: st) := by
  refine V_eq (st2 := .int (iI (iI z).toInt) :: .int (iI (iI z).toInt) :: st) (by rw [iI_of]) ?_
  exact V_icmpeq C ⟨rI_of _, rI_of _⟩ d ht rfl (fun _ => k) (fun q => absurd rfl q)
theorem V_sameN {z : Int} {off : Int} {tgt : Nat} (C : Cx p m c cc nL s args Ts own D tys A ee) (d : decode cc pc = .ok (.if_icmp .ne off, 3)) (ht : (pc : Int) + off = (tgt : Int)) (e0 : pc + 3 = pc') (k : Vx p l e R s m args below meth c cells slots Q D A nL I pc' L st) : Vx p l e R s m args below meth c cells slots Q D A nL I pc L (.int (iI z) :: .int (iI z) :: st) := by
  refine V_eq (st2 := .int (iI (iI z).toInt) :: .int (iI (iI z).toInt) :: st) (by rw [iI_of]) ?_
  exact V_icmpne C ⟨rI_of _, rI_of _⟩ d ht e0 (fun q => absurd rfl q) (fun _ => k)
end VL

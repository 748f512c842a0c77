/-! contracts of methods that throw -/
section VX9
variable {p : Program} {l : Launch} {e : Env} {R : Room} {s : State} {m : MethodId} {args : Array Value} {below : List Frame} {meth : Method} {c : Code} {cells slots : Nat} {Q : State → Prop} {D : va_G} {tys : List (ClassId × FieldType)} {A : Nat → Prop} {nL : Nat} {cc : ByteArray} {Ts : List Cond} {own : String} {ee : Nat × Nat}
variable {I : Hp → Prop} {pc pc' : Nat} {L : List (Option Value)} {st : List Value} {h0 : Hp} {sz mc ms : Nat} {E0 : String} {JX : Hp → Hp → Prop} {Qc : Array Value → State → Outcome → State → Prop}
/-- behind a throw: the class, the map, and what was not touched -/
def ctXC (D : va_G) (h : Hp) (sz : Nat) (E0 : String) (JX : Hp → Hp → Prop) : String → State → State → Prop := fun E st t => E = E0 ∧ (∃ h', JX h h' ∧ hpW D (hA h sz) h' t.heap) ∧ va_F (hA h sz) st t
/-- from every map with I the method throws E0 -/
def Tx (l : Launch) (y : MethodName) (ws : List Cond) (rm : Room) (D : va_G) (tys : List (ClassId × FieldType)) (ee : Nat × Nat) (as : List Value) (I : Hp → Prop) (E0 : String) (JX : Hp → Hp → Prop) (mc ms : Nat) : Prop := ∀ (h : Hp) (sz : Nat), I h → vx_Met l y ws rm (ctPc D tys ee as h sz) (fun _ _ _ _ => False) (ctXC D h sz E0 JX) mc ms (hA h sz)
theorem hpW_kept {h : Hp} {H H1 : Heap} (hW : hpW D A h H) (hk : ∀ q : Nat, q < H.size → H1[q]? = H[q]?) : hpW D A h H1 := by
  obtain ⟨ws, hP, hD, hw⟩ := hW
  exact ⟨ws, hP.kept (fun k x hx => hk x.1 ((hP k x hx).lt)), hD, hw⟩
theorem Tx_of {y : MethodName} {ws ws' : List Cond} {rm : Room} {as : List Value} {I : Hp → Prop} {maxL : Nat} {ret : Option FieldType} (L : List (Option Value)) (hy : plainName y.cls = true) (hw : ws = Cond.code y cc maxL ret :: ws') (hown : y.cls = own) (hlen : (lg_sl as).length ≤ maxL) (hL : ∀ (i : Nat) (v : Value), L[i]? = some (some v) → (i, v) ∈ lv_args 0 as)
    (body : ∀ (p : Program) (e : Env) (s : State) (m : MethodId) (args : Array Value) (below : List Frame) (meth : Method) (c : Code) (h : Hp) (sz : Nat), I h → Cx p m c cc maxL s args ws own D tys (hA h sz) ee → meth.locks = false → (∀ x ∈ c.exceptionTable.toList, False) → Vx p l e rm s m args below meth c 0 0 (vx_MQ below (fun _ _ _ _ => False) (ctXC D h sz E0 JX) args s mc ms (hA h sz)) D (hA h sz) maxL (fun x => x = h) 0 L []) : Tx l y ws rm D tys ee as I E0 JX mc ms := by
  intro h sz hI
  refine vx_ofW (cc := cc) (maxL := maxL) (ret := ret) hy hw ?_
  intro p e s m args below meth c s₁ B hml hxt hv
  obtain ⟨rfl, hsz, hW, hK, hE⟩ := hv
  have hA' : ∀ q : Nat, s.heap.size ≤ q → hA h sz q := fun q hq => Or.inr (by rw [← hsz]; exact hq)
  have hl := lv_entry as (n := maxL) hlen
  rw [lg_entry_eq]
  generalize (lg_sl as ++ List.replicate (maxL - (lg_sl as).length) Slot.unset).toArray = ls at hl ⊢
  have hn : s.vm.findClass own = some m.cls := by rw [← hown]; exact findClass_of_methodNamed B.named
  exact body p e s m _ below meth c h sz hI ⟨⟨B.exec, B.bytes, hml, hn, atoms_spec (ws := ws) B.pre⟩, hK, hA', hE⟩ B.notSynchronized hxt h s.heap [] ls rfl (hpW_self hW) va_S.rf ⟨lv_args 0 as, hl, hL⟩
/-- the words of a throw that are no good words: out of the surroundings -/
theorem ev_hat {args : Array Value} {U : State} {H : Heap} {L : List Cond} (hE : EV ee A U H) (h1 : ∀ w ∈ L.filter goodWord, w.before args U = true) (h2 : ∀ w ∈ L.filter (fun w => !goodWord w), w ∈ evDc.map (fun y => Cond.declares y) ++ evCast.map (fun q => Cond.castable q.1 q.2)) : ∀ w ∈ L, w.before args U = true := by
  refine vx_hat h1 h2 (fun w hw => ?_)
  rcases List.mem_append.mp hw with h | h
  · obtain ⟨y, hy, rfl⟩ := List.mem_map.mp h
    exact va_Nw.use (A := args) rfl (hE.2.2.2.2.2.2.2.2.2.2.1 y hy)
  · obtain ⟨q, hq, rfl⟩ := List.mem_map.mp h
    exact va_Nw.use (A := args) rfl (hE.2.2.2.2.2.2.2.2.1 q hq)
theorem V_throwS {cls text : String} {names : List String} {ik is ic : Nat} (C : Cx p m c cc nL s args Ts own D tys (hA h0 sz) ee) (hl : l.stackTraces = false) (hcls : Bundle.fit cls = true) (hnames : ∀ n ∈ names, Bundle.fit n = true) (hk : Cond.classLink own ik cls ∈ Ts) (hini : Cond.initialized cls ∈ Ts) (hstr : (own, is, text) ∈ evStrs) (hat : ∀ w ∈ (vx_atS own ic cls names).filter goodWord, w ∈ Ts) (hat2 : ∀ w ∈ (vx_atS own ic cls names).filter (fun w => !goodWord w), w ∈ evDc.map (fun y => Cond.declares y) ++ evCast.map (fun q => Cond.castable q.1 q.2)) (hgood : ∀ w ∈ Cond.classLink own ik cls :: Cond.initialized cls :: vx_atS own ic cls names, vx_ot w = true)
    (d0 : decode cc pc = .ok (.new ik, 3)) (d3 : decode cc (pc + 3) = .ok (.dup, 1)) (d4 : decode cc (pc + 4) = .ok (.ldc is, 2)) (d6 : decode cc (pc + 6) = .ok (.invokespecial ic, 3)) (d9 : decode cc (pc + 9) = .ok (.athrow, 1)) (hout : ∀ x ∈ c.exceptionTable.toList, False) (hRf : names.length + 3 < R.frames) (hRl : (st.map fun v => v.category).sum + (13 * (names.length + 1) + 43) ≤ R.locals) (hRc : cells + 1 ≤ R.cells ∧ slots + 6 ≤ R.slots) (hlocks : meth.locks = false) (hJ : ∀ h', I h' → JX h0 h') (hE0 : E0 = cls) (hc : cells + 1 ≤ mc ∧ slots + 6 ≤ ms) : Vx p l e R s m args below meth c cells slots (vx_MQ below Qc (ctXC D h0 sz E0 JX) args s mc ms (hA h0 sz)) D (hA h0 sz) nL I pc L st := by
  subst hE0
  intro h H locs ls hI hW hS hL
  have hl1 : ls.size = nL := by obtain ⟨lx, h1, -⟩ := hL; exact h1.1
  have hts := C.1.2.2.2.2
  obtain ⟨sa, hsa⟩ := C.2.2.2.2.2.2.2.2.2.1 _ hstr
  exact vx_throwS C.1.1 C.1.2.1 hl C.1.2.2.2.1 hcls hnames (hts _ hk) (hts _ hini) hsa (ev_hat C.2.2.2 (fun w hw => hts _ (hat w hw)) hat2) hgood C.2.2.2.1 C.2.2.2.2.1 hS (hl1.trans C.1.2.2.1.symm) d0 d3 d4 d6 d9 (fun x hx => (hout x hx).elim) hRf hRl hRc.1 hRc.2 hlocks
    (fun t hvm hz hk => ⟨rfl, ⟨h, hJ h hI, hpW_kept hW hk⟩, Nat.le_trans hS.1 hz, fun q h1 h2 => by rw [hk q (Nat.lt_of_lt_of_le h1 hS.1)]; exact hS.2.1 q h1 h2⟩) hS.2.2 hc.1 hc.2
/-- a call that throws, in a method that catches nothing -/
theorem V_outRun {mc' ms' : Nat} {JX' : Hp → Hp → Prop} {h : Hp} {H : Heap} {locs : List Loc} {ls : Array Slot} {st0 rest : List Value} (hW : hpW D (hA h0 sz) h H) (hS : va_S (hA h0 sz) s.heap H locs) (hA9 : ∀ q : Nat, s.heap.size ≤ q → hA h0 sz q) (hr : vx_Run p l e R s m args below meth c H locs cells slots mc' ms' (F0 m pc ls st0) rest (fun _ _ _ => False) (ctXC D h H.size E0 JX') (hA h H.size)) (hout : ∀ x ∈ c.exceptionTable.toList, False) (hlocks : meth.locks = false) (hJ : ∀ h', JX' h h' → JX h0 h') (hc : cells + mc' ≤ mc ∧ slots + ms' ≤ ms) : W p l e R s m args below meth c H locs cells slots (vx_MQ below Qc (ctXC D h0 sz E0 JX) args s mc ms (hA h0 sz)) (F0 m pc ls st0) := by
  intro T hT X
  rcases hr T hT X with ⟨v, st₀, t, T', Lc, e0, X', hLc, e1, e2, hq, stp⟩ | ⟨q, st₀, t, T', Lc, E, ce, e0, X', hLc, e1, e2, ⟨rfl, ⟨h', hj, hW'⟩, hF⟩, hce, hcv, hcl, stp⟩
  · exact hq.elim
  · have hs := hA_sub hW hS hA9
    obtain ⟨hz, hk⟩ := hF
    rw [e0] at hz hk
    have hS2 : va_S (hA h0 sz) s.heap T'.heap (locs ++ Lc) := ⟨Nat.le_trans hS.1 (by rw [e1]; exact hz), fun q h1 h2 => by rw [e1, hk q (Nat.lt_of_lt_of_le h1 hS.1) (fun z => h2 (hs q z))]; exact hS.2.1 q h1 h2, fun q hq => by
      rcases List.mem_append.mp hq with h | h
      · exact hS.2.2 q h
      · exact hs _ (hLc q h)⟩
    have K := vx_out (p := p) (l := l) (e := e) (R := R) (s := s) (m := m) (args := args) (below := below) (meth := meth) (c := c) (H := T'.heap) (locs := locs ++ Lc) (cells := cells + mc') (slots := slots + ms') (Qc := Qc) (XC := ctXC D h0 sz E JX) (free := hA h0 sz) (ls := ls) (rest := rest) (pc := pc) (fun x hx => (hout x hx).elim) hlocks (by rw [e1]; exact hce) hcv hcl (fun t9 ht9 hvm => ⟨rfl, ⟨h', hJ h' hj, by rw [ht9, e1]; exact hpW_weak hs hW'⟩, by rw [ht9]; exact hS2.1, fun q h1 h2 => by rw [ht9]; exact hS2.2.1 q h1 h2⟩) hS2.2.2 hc.1 hc.2
    obtain ⟨t2, a1, b1⟩ := K T' rfl X'
    exact ⟨t2, stp.trans a1, b1⟩
theorem V_outS {idx n mc' ms' maxL : Nat} {y : MethodName} {ws ws' : List Cond} {rm : Room} {bytes : ByteArray} {ret : Option FieldType} {I' : Hp → Prop} {JX' : Hp → Hp → Prop} {st0 : List Value} (As : List Value) (C : Cx p m c cc nL s args Ts own D tys (hA h0 sz) ee) (hM : Tx l y ws rm D tys ee As I' E0 JX' mc' ms') (hG : GoodIn Ts (va_wsS own idx y ws)) (hw : ws = Cond.code y bytes maxL ret :: ws') (hd : y.cls ≠ "java/lang/invoke/MethodHandle" ∧ y.cls ≠ "java/lang/invoke/VarHandle" ∧ (parseMethodDescriptor y.desc).map (fun d => d.parameters.length) = some n) (hR : rm.frames + 1 ≤ R.frames ∧ 8 + (maxL + 11) + rm.locals ≤ R.locals) (hcs : rm.cells = mc' ∧ rm.slots = ms') (hn : As.length = n) (hpre : ∀ h, I h → I' h) (hst : st0 = As.reverse ++ st) (hcat : (st.map fun v => v.category).sum ≤ 8) (d : decode cc pc = .ok (.invokestatic idx, 3)) (hroom : cells + mc' ≤ R.cells ∧ slots + ms' ≤ R.slots) (hout : ∀ x ∈ c.exceptionTable.toList, False) (hlocks : meth.locks = false) (hJ : ∀ h h', I h → JX' h h' → JX h0 h') (hc : cells + mc' ≤ mc ∧ slots + ms' ≤ ms) : Vx p l e R s m args below meth c cells slots (vx_MQ below Qc (ctXC D h0 sz E0 JX) args s mc ms (hA h0 sz)) D (hA h0 sz) nL I pc L st0 := by
  intro h H locs ls hI hW hS hL
  have hl1 : ls.size = nL := by obtain ⟨lx, h1, -⟩ := hL; exact h1.1
  exact V_outRun hW hS C.2.2.1 (vx_runS (As := As) (rest := st) C.1 (hM h H.size (hpre h hI)) (va_cwS n C.1.2.2.2.2 hG hw hcs.1 hcs.2 hd hR) ⟨ctPc_blind, fun U hU hWm => ⟨rfl, by rw [hU], by rw [hU]; exact hpW_weak (fun _ _ => trivial) hW, va_K.moved hWm.alike C.2.1, EV.warm hWm (by rw [hU]; exact (EV.kept C.2.2.2 hS.2.1).narrow (hA_sub hW hS C.2.2.1))⟩⟩ rfl hn hl1 hst (lv_room hcat) d hroom) hout hlocks (fun h' hj => hJ h h' hI hj) hc
theorem V_outV {Cn : String} {T : u_T} {N ci b idx n mc' ms' maxL : Nat} {y : MethodName} {ws ws' : List Cond} {rm : Room} {bytes : ByteArray} {ret : Option FieldType} {I' : Hp → Prop} {JX' : Hp → Hp → Prop} {st0 : List Value} (As : List Value) (C : Cx p m c cc nL s args Ts own D tys (hA h0 sz) ee) (hM : Tx l y ws rm D tys ee (.ref b :: As) I' E0 JX' mc' ms') (hG : GoodIn Ts (wsV own idx Cn y ws)) (hw : ws = Cond.code y bytes maxL ret :: ws') (hd : y.cls = Cn ∧ y.cls ≠ "java/lang/invoke/MethodHandle" ∧ y.cls ≠ "java/lang/invoke/VarHandle" ∧ (parseMethodDescriptor y.desc).map (fun d => d.parameters.length) = some n) (hR : rm.frames + 1 ≤ R.frames ∧ 8 + (maxL + 11) + rm.locals ≤ R.locals) (hcs : rm.cells = mc' ∧ rm.slots = ms') (hn : As.length = n) (hci : vwCl[ci]? = some (Cn, T, N)) (hrec : ∀ h, I h → ∃ t fs, h b = some (t, .inr (ci, fs))) (hpre : ∀ h, I h → I' h) (hst : st0 = As.reverse ++ .ref b :: st) (hcat : (st.map fun v => v.category).sum ≤ 8) (d : decode cc pc = .ok (.invokevirtual idx, 3)) (hroom : cells + mc' ≤ R.cells ∧ slots + ms' ≤ R.slots) (hout : ∀ x ∈ c.exceptionTable.toList, False) (hlocks : meth.locks = false) (hJ : ∀ h h', I h → JX' h h' → JX h0 h') (hc : cells + mc' ≤ mc ∧ slots + ms' ≤ ms) : Vx p l e R s m args below meth c cells slots (vx_MQ below Qc (ctXC D h0 sz E0 JX) args s mc ms (hA h0 sz)) D (hA h0 sz) nL I pc L st0 := by
  intro h H locs ls hI hW hS hL
  obtain ⟨t, fs, hb⟩ := hrec h hI
  obtain ⟨wsx, hP, hD, hwk⟩ := id hW
  obtain ⟨q0, hq⟩ := hwk b t _ hb
  have hl1 : ls.size = nL := by obtain ⟨lx, h1, -⟩ := hL; exact h1.1
  exact V_outRun hW hS C.2.2.1 (vx_runV (As := As) (rest := st) C.1 (hM h H.size (hpre h hI)) (cwV n C.1.2.2.2.2 hG hw hcs.1 hcs.2 hd hR) ⟨ctPc_blind, va_recv C.2.1 hP hci hq, fun U hU hWm => ⟨rfl, by rw [hU], by rw [hU]; exact hpW_weak (fun _ _ => trivial) hW, va_K.moved hWm.alike C.2.1, EV.warm hWm (by rw [hU]; exact (EV.kept C.2.2.2 hS.2.1).narrow (hA_sub hW hS C.2.2.1))⟩⟩ rfl hn hl1 hst (lv_room hcat) d hroom) hout hlocks (fun h' hj => hJ h h' hI hj) hc
end VX9

/-! cells that are none; the class's helpers that throw -/
section VX9b
variable {p : Program} {l : Launch} {e : Env} {R : Room} {s : State} {m : MethodId} {args : Array Value} {below : List Frame} {meth : Method} {c : Code} {cells slots : Nat} {Q : State → Prop} {D : va_G} {tys : List (ClassId × FieldType)} {A : Nat → Prop} {nL : Nat} {cc : ByteArray} {Ts : List Cond} {own : String} {ee : Nat × Nat}
variable {I : Hp → Prop} {pc pc' : Nat} {L : List (Option Value)} {st : List Value} {h0 : Hp} {sz mc ms : Nat} {E0 : String} {JX : Hp → Hp → Prop} {Qc : Array Value → State → Outcome → State → Prop}
theorem V_throwSW {cls text : String} {names : List String} {ik is ic : Nat} (C : Cx p m c cc nL s args Ts own D tys (hA h0 sz) ee) (hl : l.stackTraces = false) (hcls : Bundle.fit cls = true) (hnames : ∀ n ∈ names, Bundle.fit n = true) (hk : Cond.classLink own ik cls ∈ Ts) (hini : Cond.initialized cls ∈ Ts) (hstr : (own, is, text) ∈ evStrs) (hat : ∀ w ∈ (vx_atS own ic cls names).filter goodWord, w ∈ Ts) (hat2 : ∀ w ∈ (vx_atS own ic cls names).filter (fun w => !goodWord w), w ∈ evDc.map (fun y => Cond.declares y) ++ evCast.map (fun q => Cond.castable q.1 q.2)) (hgood : ∀ w ∈ Cond.classLink own ik cls :: Cond.initialized cls :: vx_atS own ic cls names, vx_ot w = true)
    (d0 : decode cc pc = .ok (.new ik, 3)) (d3 : decode cc (pc + 3) = .ok (.dup, 1)) (d4 : decode cc (pc + 4) = .ok (.ldc_w is, 3)) (d7 : decode cc (pc + 7) = .ok (.invokespecial ic, 3)) (d10 : decode cc (pc + 10) = .ok (.athrow, 1)) (hout : ∀ x ∈ c.exceptionTable.toList, False) (hRf : names.length + 3 < R.frames) (hRl : (st.map fun v => v.category).sum + (13 * (names.length + 1) + 43) ≤ R.locals) (hRc : cells + 1 ≤ R.cells ∧ slots + 6 ≤ R.slots) (hlocks : meth.locks = false) (hJ : ∀ h', I h' → JX h0 h') (hE0 : E0 = cls) (hc : cells + 1 ≤ mc ∧ slots + 6 ≤ ms) : Vx p l e R s m args below meth c cells slots (vx_MQ below Qc (ctXC D h0 sz E0 JX) args s mc ms (hA h0 sz)) D (hA h0 sz) nL I pc L st := by
  subst hE0
  intro h H locs ls hI hW hS hL
  have hl1 : ls.size = nL := by obtain ⟨lx, h1, -⟩ := hL; exact h1.1
  have hts := C.1.2.2.2.2
  obtain ⟨sa, hsa⟩ := C.2.2.2.2.2.2.2.2.2.1 _ hstr
  exact vx_throwSW C.1.1 C.1.2.1 hl C.1.2.2.2.1 hcls hnames (hts _ hk) (hts _ hini) hsa (ev_hat C.2.2.2 (fun w hw => hts _ (hat w hw)) hat2) hgood C.2.2.2.1 C.2.2.2.2.1 hS (hl1.trans C.1.2.2.1.symm) d0 d3 d4 d7 d10 (fun x hx => (hout x hx).elim) hRf hRl hRc.1 hRc.2 hlocks
    (fun t hvm hz hk => ⟨rfl, ⟨h, hJ h hI, hpW_kept hW hk⟩, Nat.le_trans hS.1 hz, fun q h1 h2 => by rw [hk q (Nat.lt_of_lt_of_le h1 hS.1)]; exact hS.2.1 q h1 h2⟩) hS.2.2 hc.1 hc.2
end VX9b
theorem ydX7_needCell : yX7_needCell.cls ≠ "java/lang/invoke/MethodHandle" ∧ yX7_needCell.cls ≠ "java/lang/invoke/VarHandle" ∧ (parseMethodDescriptor yX7_needCell.desc).map (fun d => d.parameters.length) = some 2 := by decide +kernel
section
variable {l : Launch} {D : va_G} {cB cC cI cO cJ cD : ClassId} {ee : Nat × Nat} {la t : Nat} {md sn : Int} {ar : Option Nat} {f : Nat → Option Nat}
variable {v : Nat → Nat} {F : Nat → Int → Int} {n : Int} {len : Nat}
variable {q tq nl tn : Nat} {g : Int → Int}
set_option maxHeartbeats 4000000 in
set_option maxRecDepth 100000 in
theorem kX7_needCell {c r : Int} (hr2 : rI c ∧ rI r) (hc2 : isCellB c r = true) : Ct l yX7_needCell wsX7_needCell ({ frames := 1, cells := 0, slots := 0, locals := 21 } : Room) D (tyL cB cC cI cO cJ cD) ee [.int (iI c), .int (iI r)] (fun _ => True) (fun h v9 h' => v9 = none ∧ h' = h) (0) (0) := by
  refine Ct_of (cc := cX7_needCell) (own := RX7) [some (.int (iI c)), some (.int (iI r))] (by decide) rfl rfl (Nat.le_of_ble_eq_true rfl) (fun i9 v9 h9 => argL [.int (iI c), .int (iI r)] 0 rfl i9 v9 h9) ?_
  intro p e s m9 args below meth c9 h0 sz hI C hr hlk hinit
  refine V_weak (I2 := fun x => x = h0) (fun x hx => hx) ?_
  refine V_iload0 (pc' := 1) C dX7_needCell_0 rfl ?_
  refine V_iload1 (pc' := 2) C dX7_needCell_1 rfl ?_
  refine sCall2 (pc' := 5) C (kX7_isCell (c := c) (r := r) hr2) gX7_needCell_X7_isCell rfl ydX7_isCell ⟨Nat.le_of_ble_eq_true rfl, Nat.le_of_ble_eq_true rfl⟩ ⟨rfl, rfl⟩ (Nat.le_of_ble_eq_true rfl) dX7_needCell_2 ⟨Nat.zero_le _, Nat.zero_le _⟩ rfl ?_
  refine V_ifneB (tgt := 19) C dX7_needCell_5 (by decide) rfl (fun c_5 => ?_) (fun c_5 => ?_)
  · exact V_endv C hr hlk (fun h' hh => ⟨rfl, hh⟩) ⟨Nat.le_refl _, Nat.le_refl _⟩ dX7_needCell_19
  · exact absurd c_5 (by simp_all)
set_option maxHeartbeats 4000000 in
set_option maxRecDepth 100000 in
theorem xX7_needCell {c r : Int} (hr2 : rI c ∧ rI r) (hc2 : isCellB c r = false) (hst : l.stackTraces = false) : Tx l yX7_needCell wsX7_needCell ({ frames := 6, cells := 1, slots := 6, locals := 120 } : Room) D (tyL cB cC cI cO cJ cD) ee [.int (iI c), .int (iI r)] (fun _ => True) "java/lang/IndexOutOfBoundsException" (fun h h' => h' = h) (1) (6) := by
  refine Tx_of (cc := cX7_needCell) (own := RX7) [some (.int (iI c)), some (.int (iI r))] (by decide) rfl rfl (Nat.le_of_ble_eq_true rfl) (fun i9 v9 h9 => argL [.int (iI c), .int (iI r)] 0 rfl i9 v9 h9) ?_
  intro p e s m9 args below meth c9 h0 sz hI C hlk hxt
  refine V_weak (I2 := fun x => x = h0) (fun x hx => hx) ?_
  refine V_iload0 (pc' := 1) C dX7_needCell_0 rfl ?_
  refine V_iload1 (pc' := 2) C dX7_needCell_1 rfl ?_
  refine sCall2 (pc' := 5) C (kX7_isCell (c := c) (r := r) hr2) gX7_needCell_X7_isCell rfl ydX7_isCell ⟨Nat.le_of_ble_eq_true rfl, Nat.le_of_ble_eq_true rfl⟩ ⟨rfl, rfl⟩ (Nat.le_of_ble_eq_true rfl) dX7_needCell_2 ⟨Nat.zero_le _, Nat.zero_le _⟩ rfl ?_
  refine V_ifneB (tgt := 19) C dX7_needCell_5 (by decide) rfl (fun c_5 => ?_) (fun c_5 => ?_)
  · exact absurd c_5 (by simp_all)
  · exact V_throwSW (text := "no such cell") (names := ["java/lang/RuntimeException", "java/lang/Exception"]) C hst (by decide +kernel) (by decide +kernel) (by decide +kernel) (by decide +kernel) (by decide +kernel) (by decide +kernel) (by decide +kernel) (by decide +kernel) dX7_needCell_8 dX7_needCell_11 dX7_needCell_12 dX7_needCell_15 dX7_needCell_18 hxt (Nat.le_of_ble_eq_true rfl) (Nat.le_of_ble_eq_true rfl) ⟨Nat.le_of_ble_eq_true rfl, Nat.le_of_ble_eq_true rfl⟩ hlk (fun h' hh => hh) rfl ⟨Nat.le_of_ble_eq_true rfl, Nat.le_of_ble_eq_true rfl⟩
end

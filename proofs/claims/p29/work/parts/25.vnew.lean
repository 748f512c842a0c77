/-! rows of V: what is made -/
section VN
variable {p : Program} {l : Launch} {e : Env} {R : Room} {s : State} {m : MethodId} {args : Array Value} {below : List Frame} {meth : Method} {c : Code} {cells slots : Nat} {Q : State → Prop} {D : va_G} {tys : List (ClassId × FieldType)} {A : Nat → Prop} {nL : Nat} {cc : ByteArray} {Ts : List Cond} {own : String} {ee : Nat × Nat}
variable {I : Hp → Prop} {pc pc' : Nat} {L : List (Option Value)} {st : List Value}
theorem RA_inj {U : State} {cA cB : ClassId} {ty : FieldType} (h1 : va_RA U cA ty) (h2 : va_RA U cB ty) : cA = cB := by
  cases ty with
  | object C =>
    obtain ⟨_, _, _, _, _, e1⟩ := h1
    obtain ⟨_, _, _, _, _, e2⟩ := h2
    exact Option.some.inj (e1.symm.trans e2)
  | _ => exact Option.some.inj ((show _ = _ from h1).symm.trans (show _ = _ from h2))
theorem hp_fresh {h : Hp} {ws : va_W} {q : Nat} {x : va_E} (hd : va_D A (ws ++ [(q, x)])) (hw : ∀ (a t : Nat) (e : va_E), h a = some (t, e) → ∃ k : Nat, ws[k]? = some (a, e)) : h q = none := by
  cases hh : h q with
  | none => rfl
  | some y =>
    obtain ⟨k, hk⟩ := hw q y.1 y.2 hh
    have hlt := (List.getElem?_eq_some_iff.mp hk).1
    have := hd.1 k ws.length (q, y.2) (q, x) (by rw [List.getElem?_append_left hlt]; exact hk) (by simp) rfl
    omega
theorem V_newarr {cA : ClassId} {ty : FieldType} {atype : ArrayType} {z : Int} {N : Nat} {a0 : vp_A} (t : Nat) (C : Cx p m c cc nL s args Ts own D tys A ee) (harr : Cond.arrayClass ty ∈ Ts) (hty : newarray.typeOf atype = ty) (t0 : Nat) (ht : tys[t0]? = some (cA, ty)) (ha : ∀ cA : ClassId, vp_cell cA a0 = arrV cA N (fun _ => defaultValue ty)) (hz : z = N ∧ N ≤ 33554432) (hcells : cells + 1 ≤ R.cells) (hslots : slots + N ≤ R.slots) (d : decode cc pc = .ok (.newarray atype, 2)) (e0 : pc + 2 = pc') (kk : ∀ q : Nat, Vx p l e R s m args below meth c (cells + 1) (slots + N) Q D A nL (fun h' => ∃ h, I h ∧ h q = none ∧ h' = hup h q (t, .inl (cA, a0))) pc' L (.ref q :: st)) : Vx p l e R s m args below meth c cells slots Q D A nL I pc L (.int (iI z) :: st) := by
  subst e0
  subst hty
  intro h H locs ls hI hW hS hL
  obtain ⟨ws, hP, hD, hw⟩ := id hW
  have hr : rI z := by omega
  have hcb : componentBytes (newarray.typeOf atype) ≤ 8 := by cases atype <;> decide
  refine va_newa (N' := N) C.1.1 C.1.2.1 (C.1.2.2.2.2 _ harr) rfl C.2.1 hP hD hS C.2.2.1 ha ?_ ?_ ?_ hcells hslots d (fun q cB H1 k1 p1 d1 s1 => ?_)
  · rw [← iI_0, iI_lt hr (by decide)]
    omega
  · rw [iI_cl hr]
    omega
  · exact Nat.le_trans (Nat.mul_le_mul hz.2 hcb) (by decide)
  have eq : cB = cA := RA_inj (k1.2 tys.length (cB, _) (by simp)).2 (C.2.1.2 t0 _ ht).2
  subst eq
  exact kk q _ H1 locs ls ⟨h, hI, hp_fresh d1 hw, rfl⟩ ⟨_, p1, d1, hpW_push hw⟩ s1 hL
theorem V_new {Cn : String} {T : u_T} {N ci index : Nat} {ty0 : Nat → FieldType} {fs : List Value} (t : Nat) (C : Cx p m c cc nL s args Ts own D tys A ee) (hin : ∀ w ∈ u_ws Cn T N, w ∈ Ts) (hty : ∀ k, k < N → parseFieldDescriptor (T k).2.2.1 = some (ty0 k)) (hcl : Cond.classLink own index Cn ∈ Ts) (hinst : Cond.instantiable Cn N ∈ Ts) (hini : Cond.initialized Cn ∈ Ts) (hc : vwCl[ci]? = some (Cn, T, N)) (hfs : ∀ j, j < N → defaultValue (ty0 j) = vp_V fs j) (hcells : cells + 1 ≤ R.cells) (hslots : slots + N ≤ R.slots) (d : decode cc pc = .ok (.new index, 3)) (e0 : pc + 3 = pc') (kk : ∀ q : Nat, Vx p l e R s m args below meth c (cells + 1) (slots + N) Q D A nL (fun h' => ∃ h, I h ∧ h q = none ∧ h' = hup h q (t, .inr (ci, fs))) pc' L (.ref q :: st)) : Vx p l e R s m args below meth c cells slots Q D A nL I pc L st := by
  subst e0
  intro h H locs ls hI hW hS hL
  obtain ⟨ws, hP, hD, hw⟩ := id hW
  exact va_new C.1.1 C.1.2.1 C.1.2.2.2.2 hin ty0 hty C.1.2.2.2.1 (C.1.2.2.2.2 _ hcl) (C.1.2.2.2.2 _ hinst) (C.1.2.2.2.2 _ hini) C.2.1 hP hD hS C.2.2.1 hc hfs hcells hslots d (fun q H1 p1 d1 s1 => kk q _ H1 locs ls ⟨h, hI, hp_fresh d1 hw, rfl⟩ ⟨_, p1, d1, hpW_push hw⟩ s1 hL)
theorem V_objInit {idx a : Nat} (C : Cx p m c cc nL s args Ts own D tys A ee) (h1 : Cond.methodLink own idx Lib.objectInit ∈ Ts) (h2 : Cond.instanceMethod Lib.objectInit ∈ Ts) (h3 : Cond.code Lib.objectInit ⟨#[0xb1]⟩ 1 none ∈ Ts) (hf : 1 ≤ R.frames ∧ (st.map fun v => v.category).sum + 12 ≤ R.locals) (d : decode cc pc = .ok (.invokespecial idx, 3)) (e0 : pc + 3 = pc') (kk : Vx p l e R s m args below meth c cells slots Q D A nL I pc' L st) : Vx p l e R s m args below meth c cells slots Q D A nL I pc L (.ref a :: st) := by
  subst e0
  intro h H locs ls hI hW hS hL
  have hl1 : ls.size = nL := by obtain ⟨lx, h1, -⟩ := hL; exact h1.1
  exact W.objInit C.1.1 C.1.2.1 C.1.2.2.2.1 (C.1.2.2.2.2 _ h1) (C.1.2.2.2.2 _ h2) (C.1.2.2.2.2 _ h3) rfl (hl1.trans C.1.2.2.1.symm) rfl d hf.1 (by show 2 * 0 + _ + 12 ≤ _; omega) (kk h H locs ls hI hW hS hL)
theorem V_callI {b idx n mc ms maxL : Nat} {y : MethodName} {ws ws' : List Cond} {rm : Room} {bytes : ByteArray} {I' : Hp → Prop} {J : Hp → Option Value → Hp → Prop} {st0 : List Value} (As : List Value) (C : Cx p m c cc nL s args Ts own D tys A ee) (hM : Ct l y ws rm D tys ee (.ref b :: As) I' J mc ms) (hG : GoodIn Ts ws) (hini : Cond.initialized y.cls ∈ Ts) (hlk : Cond.methodLink own idx y ∈ Ts) (hin : Cond.instanceMethod y ∈ Ts) (hw : ws = Cond.code y bytes maxL none :: ws') (hd : y.name = "<init>" ∧ y.cls ≠ "java/lang/invoke/MethodHandle" ∧ y.cls ≠ "java/lang/invoke/VarHandle" ∧ (parseMethodDescriptor y.desc).map (fun d => d.parameters.length) = some n) (hR : rm.frames + 1 ≤ R.frames ∧ 8 + (maxL + 11) + rm.locals ≤ R.locals) (hcs : rm.cells = mc ∧ rm.slots = ms) (hn : As.length = n) (hpre : ∀ h, I h → I' h) (hst : st0 = As.reverse ++ .ref b :: st) (hcat : (st.map fun v => v.category).sum ≤ 8) (d : decode cc pc = .ok (.invokespecial idx, 3)) (hroom : cells + mc ≤ R.cells ∧ slots + ms ≤ R.slots)
    (k : ∀ (h : Hp) (v : Option Value) (h' : Hp), I h → J h v h' → Vx p l e R s m args below meth c (cells + mc) (slots + ms) Q D A nL (fun x => x = h') (pc + 3) L (v.toList ++ st)) : Vx p l e R s m args below meth c cells slots Q D A nL I pc L st0 := by
  intro h H locs ls hI hW hS hL
  have hl1 : ls.size = nL := by obtain ⟨lx, h1, -⟩ := hL; exact h1.1
  have hts := C.1.2.2.2.2
  exact V_run hI hW hS C.2.2.1 hL (va_runI (As := As) (rest := st) C.1 (hM h H.size (hpre h hI)) (cwI n hts hG hw hcs.1 hcs.2 (hts _ hini) (hts _ hlk) (hts _ hin) hd.1 hd.2 hR) ⟨ctPc_blind, fun U hU hWm => ⟨rfl, by rw [hU], by rw [hU]; exact hpW_weak (fun _ _ => trivial) hW, va_K.moved hWm.alike C.2.1, EV.warm hWm (by rw [hU]; exact (EV.kept C.2.2.2 hS.2.1).narrow (hA_sub hW hS C.2.2.1))⟩⟩ rfl hn hl1 hst (lv_room hcat) d hroom) (fun v h' _ hJ => k h v h' hI hJ)
end VN

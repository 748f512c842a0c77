/-! the text: a StringBuilder of one array, 16 bytes, Latin 1, not grown -/
def SbH (cB : ClassId) (a v t : Nat) (ml : Int) (n : Int) (g : Int → Int) (h : Hp) : Prop := h a = some (t, .inr (1, [.ref v, iV 0, iV ml, iV n])) ∧ h v = some (t + 1, .inl (cB, 16, .inl (iF g))) ∧ 0 ≤ n ∧ n ≤ 16
section VT9
variable {p : Program} {l : Launch} {e : Env} {R : Room} {s : State} {m : MethodId} {args : Array Value} {below : List Frame} {meth : Method} {c : Code} {cells slots : Nat} {Q : State → Prop} {D : va_G} {tys : List (ClassId × FieldType)} {A : Nat → Prop} {nL : Nat} {cc : ByteArray} {Ts : List Cond} {own : String} {ee : Nat × Nat}
variable {I : Hp → Prop} {pc pc' : Nat} {L : List (Option Value)} {st : List Value}
theorem V_getsC {index : Nat} (C : Cx p m c cc nL s args Ts own D tys A ee) (hl : Cond.fieldLink own index "java/lang/String" "COMPACT_STRINGS" "Z" ∈ Ts) (d : decode cc pc = .ok (.getstatic index, 3)) (e0 : pc + 3 = pc') (kk : Vx p l e R s m args below meth c cells slots Q D A nL I pc' L (.int (iI (bI true)) :: st)) : Vx p l e R s m args below meth c cells slots Q D A nL I pc L st := by
  subst e0
  intro h H locs ls hI hW hS hL
  exact va_gets C.1.1 C.1.2.1 C.2.2.2.2.2.2.2.2.1 hS C.1.2.2.2.1 (C.1.2.2.2.2 _ hl) (fun _ h9 => h9) d (kk h H locs ls hI hW hS hL)
end VT9
section
variable {l : Launch} {D : va_G} {cB cC cI cO cJ cD : ClassId} {ee : Nat × Nat} {la v t : Nat} {ml n : Int} {g : Int → Int}
end

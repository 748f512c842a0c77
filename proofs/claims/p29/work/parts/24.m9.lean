/-! floats: rows of V, contracts, and the reference's last calls -/
section VF
variable {p : Program} {l : Launch} {e : Env} {R : Room} {s : State} {m : MethodId} {args : Array Value} {below : List Frame} {meth : Method} {c : Code} {cells slots : Nat} {Q : State → Prop} {D : va_G} {tys : List (ClassId × FieldType)} {A : Nat → Prop} {nL : Nat} {cc : ByteArray} {Ts : List Cond} {own : String} {ee : Nat × Nat}
variable {I : Hp → Prop} {pc pc' : Nat} {L : List (Option Value)} {st : List Value}
theorem V_i2f {x : Int} (C : Cx p m c cc nL s args Ts own D tys A ee) (d : decode cc pc = .ok (.i2f, 1)) (e0 : pc + 1 = pc') (k : Vx p l e R s m args below meth c cells slots Q D A nL I pc' L (.float (FP.i2f (iI x)) :: st)) : Vx p l e R s m args below meth c cells slots Q D A nL I pc L (.int (iI x) :: st) := by
  subst e0
  exact V_of (fun H locs ls hl kk => lv_i2f C.1.1 C.1.2.1 d kk) k
theorem V_i2d {x : Int} (C : Cx p m c cc nL s args Ts own D tys A ee) (d : decode cc pc = .ok (.i2d, 1)) (e0 : pc + 1 = pc') (k : Vx p l e R s m args below meth c cells slots Q D A nL I pc' L (.double (FP.i2d (iI x)) :: st)) : Vx p l e R s m args below meth c cells slots Q D A nL I pc L (.int (iI x) :: st) := by
  subst e0
  exact V_of (fun H locs ls hl kk => lv_i2d C.1.1 C.1.2.1 d kk) k
theorem V_fconst (C : Cx p m c cc nL s args Ts own D tys A ee) (d : decode cc pc = .ok (.fconst 0, 1)) (e0 : pc + 1 = pc') (k : Vx p l e R s m args below meth c cells slots Q D A nL I pc' L (.float FP.fconst0 :: st)) : Vx p l e R s m args below meth c cells slots Q D A nL I pc L st := by
  subst e0
  exact V_of (fun H locs ls hl kk => lv_fconst0 C.1.1 C.1.2.1 d kk) k
theorem V_dconst (C : Cx p m c cc nL s args Ts own D tys A ee) (d : decode cc pc = .ok (.dconst 0, 1)) (e0 : pc + 1 = pc') (k : Vx p l e R s m args below meth c cells slots Q D A nL I pc' L (.double FP.dconst0 :: st)) : Vx p l e R s m args below meth c cells slots Q D A nL I pc L st := by
  subst e0
  exact V_of (fun H locs ls hl kk => lv_dconst0 C.1.1 C.1.2.1 d kk) k
theorem V_fdiv {a b : Int} (C : Cx p m c cc nL s args Ts own D tys A ee) (hr : (-16777216 < a ∧ a < 16777216) ∧ (-16777216 < b ∧ b < 16777216) ∧ b ≠ 0) (d : decode cc pc = .ok (.fdiv, 1)) (e0 : pc + 1 = pc') (k : Vx p l e R s m args below meth c cells slots Q D A nL I pc' L (.float (shareF a b) :: st)) : Vx p l e R s m args below meth c cells slots Q D A nL I pc L (.float (FP.i2f (iI b)) :: .float (FP.i2f (iI a)) :: st) := by
  subst e0
  exact V_of (fun H locs ls hl kk => lv_fdiv C.1.1 C.1.2.1 d (shareF_n hr.1 hr.2.1 hr.2.2) kk) k
theorem V_ddiv {a b : Int} (C : Cx p m c cc nL s args Ts own D tys A ee) (hr : rI a ∧ rI b ∧ b ≠ 0) (d : decode cc pc = .ok (.ddiv, 1)) (e0 : pc + 1 = pc') (k : Vx p l e R s m args below meth c cells slots Q D A nL I pc' L (.double (meanD a b) :: st)) : Vx p l e R s m args below meth c cells slots Q D A nL I pc L (.double (FP.i2d (iI b)) :: .double (FP.i2d (iI a)) :: st) := by
  subst e0
  exact V_of (fun H locs ls hl kk => lv_ddiv C.1.1 C.1.2.1 d (meanD_n hr.1 hr.2.1 hr.2.2) kk) k
theorem V_endf {h0 : Hp} {sz mc ms : Nat} {J : Hp → Option Value → Hp → Prop} {r : UInt32} (C : Cx p m c cc nL s args Ts own D tys (hA h0 sz) ee) (hr : meth.sig.returnType = some .float) (hlk : meth.locks = false) (hJ : ∀ h', I h' → J h0 (some (.float r)) h') (hc : cells ≤ mc ∧ slots ≤ ms) (d : decode cc pc = .ok (.freturn, 1)) : Vx p l e R s m args below meth c cells slots (MQ below (ctQ D h0 sz J) args s mc ms (hA h0 sz)) D (hA h0 sz) nL I pc L [.float r] := by
  intro h H locs ls hI hW hS hL
  refine W.widen hc.1 hc.2 ?_
  exact W.fret C.1.1 C.1.2.1 hr (fun t ht hWm => ⟨⟨_, h, rfl, hJ h hI, by rw [ht]; exact hW⟩, hS.F ht⟩) hS.2.2 d hlk
theorem V_endd {h0 : Hp} {sz mc ms : Nat} {J : Hp → Option Value → Hp → Prop} {r : UInt64} (C : Cx p m c cc nL s args Ts own D tys (hA h0 sz) ee) (hr : meth.sig.returnType = some .double) (hlk : meth.locks = false) (hJ : ∀ h', I h' → J h0 (some (.double r)) h') (hc : cells ≤ mc ∧ slots ≤ ms) (d : decode cc pc = .ok (.dreturn, 1)) : Vx p l e R s m args below meth c cells slots (MQ below (ctQ D h0 sz J) args s mc ms (hA h0 sz)) D (hA h0 sz) nL I pc L [.double r] := by
  intro h H locs ls hI hW hS hL
  refine W.widen hc.1 hc.2 ?_
  exact W.dret C.1.1 C.1.2.1 hr (fun t ht hWm => ⟨⟨_, h, rfl, hJ h hI, by rw [ht]; exact hW⟩, hS.F ht⟩) hS.2.2 d hlk
variable {cB cC cI cO cJ cD : ClassId} {mo : Nat} {Pm : Nat → Nat} {S : MSt} {h0 : Hp}
def Mw (l : Launch) (D : va_G) (cB cC cI cO cJ cD : ClassId) (ee : Nat × Nat) (y : MethodName) (ws : List Cond) (rm : Room) (mo : Nat) (Pm : Nat → Nat) (As : List Value) (S : MSt) (v : Value) (S' : MSt) : Prop := Ct l y ws rm D (tyL cB cC cI cO cJ cD) ee (.ref mo :: As) (MS cC cI mo Pm S) (fun h v' h' => v' = some v ∧ MS cC cI mo Pm S' h' ∧ Fr tM h h') 0 0
theorem mEndf {sz : Nat} {r : UInt32} {X : UInt32 × MSt} (C : Cx p m c cc nL s args Ts own D (tyL cB cC cI cO cJ cD) (hA h0 sz) ee) (hr : meth.sig.returnType = some .float) (hlk : meth.locks = false) (hc : cells ≤ 0 ∧ slots ≤ 0) (d : decode cc pc = .ok (.freturn, 1)) (hz : (r, S) = X) : Vx p l e R s m args below meth c cells slots (MQ below (ctQ D h0 sz (fun h v' h' => v' = some (.float X.1) ∧ MS cC cI mo Pm X.2 h' ∧ Fr tM h h')) args s 0 0 (hA h0 sz)) D (hA h0 sz) nL (MI cC cI h0 mo Pm S) pc L [.float r] := by
  subst hz
  exact V_endf C hr hlk (fun h' hI => ⟨rfl, hI.1, hI.2⟩) hc d
theorem mEndd {sz : Nat} {r : UInt64} {X : UInt64 × MSt} (C : Cx p m c cc nL s args Ts own D (tyL cB cC cI cO cJ cD) (hA h0 sz) ee) (hr : meth.sig.returnType = some .double) (hlk : meth.locks = false) (hc : cells ≤ 0 ∧ slots ≤ 0) (d : decode cc pc = .ok (.dreturn, 1)) (hz : (r, S) = X) : Vx p l e R s m args below meth c cells slots (MQ below (ctQ D h0 sz (fun h v' h' => v' = some (.double X.1) ∧ MS cC cI mo Pm X.2 h' ∧ Fr tM h h')) args s 0 0 (hA h0 sz)) D (hA h0 sz) nL (MI cC cI h0 mo Pm S) pc L [.double r] := by
  subst hz
  exact V_endd C hr hlk (fun h' hI => ⟨rfl, hI.1, hI.2⟩) hc d
end VF
theorem allN_in (S : MSt) (w : Int) : ∀ n : Nat, S.1 3 (w + 1) ≤ allN S w n ∧ allN S w n ≤ S.1 3 (w + 1) + n
  | 0 => by simp [allN]
  | n + 1 => by
    have ih := allN_in S w n
    rw [allN]
    split <;> omega
def macroShareX (S : MSt) : UInt32 × MSt := if S.2 29 + S.2 24 = 0 then (FP.fconst0, uG S 31 1) else (shareF (S.2 29 + S.2 24 - allI S (-1)) (S.2 29 + S.2 24), uG S 31 0)
def smN (S : MSt) : Nat → Int
  | 0 => 0
  | n + 1 => smN S n + S.1 0 n
def cnN (S : MSt) : Nat → Int
  | 0 => 0
  | n + 1 => cnN S n + (if S.1 0 n = 0 then 0 else 1)
theorem smN_in {S : MSt} (h : WFp S) : ∀ n : Nat, n ≤ 48 → -9999 * n ≤ smN S n ∧ smN S n ≤ 9999 * n
  | 0, _ => by simp [smN]
  | n + 1, hn => by
    have ih := smN_in h n (by omega)
    have := h.2.2.2.2.2 n (by omega) (by omega)
    rw [smN]
    omega
theorem cnN_in (S : MSt) : ∀ n : Nat, 0 ≤ cnN S n ∧ cnN S n ≤ n
  | 0 => by simp [cnN]
  | n + 1 => by
    have ih := cnN_in S n
    rw [cnN]
    split <;> omega
def meanValueX (S : MSt) : UInt64 × MSt := if cnN S 48 = 0 then (FP.dconst0, uG S 31 1) else (meanD (smN S 48) (cnN S 48), uG S 31 0)

section
variable {l : Launch} {D : va_G} {cB cC cI cO cJ cD : ClassId} {ee : Nat × Nat} {mo : Nat} {Pm : Nat → Nat} {S : MSt} {b : Int}
end

/-! the reference: its one object and its 22 arrays; its state S: the arrays' contents (S.1, by the field's place) and its numbers (S.2) -/
abbrev tyL (cB cC cI cO cJ cD : ClassId) : List (ClassId × FieldType) := [(cB, .byte), (cI, .int), (cI, .int), (cO, .object "java/lang/Object"), (cI, .int), (cI, .int)]
abbrev MSt : Type := (Nat → Int → Int) × (Nat → Int)
def uA (S : MSt) (k : Nat) (z v : Int) : MSt := (fun j => if j = k then upZ (S.1 k) z v else S.1 j, S.2)
def uG (S : MSt) (k : Nat) (v : Int) : MSt := (S.1, fun j => if j = k then v else S.2 j)
theorem uA_s (S : MSt) (k : Nat) (z v : Int) : (uA S k z v).1 k = upZ (S.1 k) z v := if_pos rfl
theorem uA_n (S : MSt) {k j : Nat} (n : j ≠ k) (z v : Int) : (uA S k z v).1 j = S.1 j := if_neg n
theorem uA_2 (S : MSt) (k : Nat) (z v : Int) : (uA S k z v).2 = S.2 := rfl
theorem uG_s (S : MSt) (k : Nat) (v : Int) : (uG S k v).2 k = v := if_pos rfl
theorem uG_n (S : MSt) {k j : Nat} (n : j ≠ k) (v : Int) : (uG S k v).2 j = S.2 j := if_neg n
theorem uG_1 (S : MSt) (k : Nat) (v : Int) : (uG S k v).1 = S.1 := rfl
def mLen (k : Nat) : Nat := [48, 48, 48, 7, 6, 60, 60, 60, 60, 6, 24, 24, 6, 6, 6, 6, 2100, 2100, 2100, 2100, 9, 40].getD k 0
def mCl (cC cI : ClassId) (k : Nat) : ClassId := if k = 21 then cC else cI
def mFs (P : Nat → Nat) (S : MSt) : List Value := [.ref (P 0), .ref (P 1), .ref (P 2), .ref (P 3), .ref (P 4), .ref (P 5), .ref (P 6), .ref (P 7), .ref (P 8), .ref (P 9), .ref (P 10), .ref (P 11), .ref (P 12), .ref (P 13), .ref (P 14), .ref (P 15), .ref (P 16), .ref (P 17), .ref (P 18), .ref (P 19), .ref (P 20), .ref (P 21), .int (iI (S.2 22)), .int (iI (S.2 23)), .int (iI (S.2 24)), .int (iI (S.2 25)), .int (iI (S.2 26)), .int (iI (S.2 27)), .int (iI (S.2 28)), .int (iI (S.2 29)), .int (iI (S.2 30)), .int (iI (S.2 31))]
/-- the tags of the reference's cells are 1000 and above -/
def tM : Nat → Prop := fun t => 1000 ≤ t
/-- what a part with other tags keeps -/
def Fr (T : Nat → Prop) (h h' : Hp) : Prop := ∀ (a t : Nat) (e : va_E), h a = some (t, e) → ¬ T t → h' a = some (t, e)
theorem Fr.refl {T : Nat → Prop} {h : Hp} : Fr T h h := fun _ _ _ q _ => q
theorem Fr.trans {T : Nat → Prop} {h1 h2 h3 : Hp} (a : Fr T h1 h2) (b : Fr T h2 h3) : Fr T h1 h3 := fun q t e h n => b q t e (a q t e h n) n
theorem Fr.up {T : Nat → Prop} {h0 h : Hp} {a t : Nat} {e : va_E} {x : Nat × va_E} (f : Fr T h0 h) (ha : h a = some (t, e)) (ht : T t) : Fr T h0 (hup h a x) := fun b u g hb n => by
  have h1 := f b u g hb n
  rw [hup_n, h1]
  intro q
  subst q
  rw [ha] at h1
  cases h1
  exact n ht
def MS (cC cI : ClassId) (mo : Nat) (P : Nat → Nat) (S : MSt) (h : Hp) : Prop := h mo = some (1000, .inr (13, mFs P S)) ∧ ∀ k, k < 22 → h (P k) = some (1001 + k, .inl (mCl cC cI k, mLen k, .inl (iF (S.1 k))))
def MI (cC cI : ClassId) (h0 : Hp) (mo : Nat) (P : Nat → Nat) (S : MSt) : Hp → Prop := fun h => MS cC cI mo P S h ∧ Fr tM h0 h
theorem mFs_I (P : Nat → Nat) (S : MSt) (k : Nat) (h1 : 22 ≤ k) (h2 : k < 32) : (mFs P S)[k]? = some (.int (iI (S.2 k))) := by
  match k, h1, h2 with
  | 22, _, _ => rfl
  | 23, _, _ => rfl
  | 24, _, _ => rfl
  | 25, _, _ => rfl
  | 26, _, _ => rfl
  | 27, _, _ => rfl
  | 28, _, _ => rfl
  | 29, _, _ => rfl
  | 30, _, _ => rfl
  | 31, _, _ => rfl
  | k + 32, _, h => exact absurd h (by omega)
theorem mFs_R (P : Nat → Nat) (S : MSt) (k : Nat) (h2 : k < 22) : (mFs P S)[k]? = some (.ref (P k)) := by
  match k, h2 with
  | 0, _ => rfl
  | 1, _ => rfl
  | 2, _ => rfl
  | 3, _ => rfl
  | 4, _ => rfl
  | 5, _ => rfl
  | 6, _ => rfl
  | 7, _ => rfl
  | 8, _ => rfl
  | 9, _ => rfl
  | 10, _ => rfl
  | 11, _ => rfl
  | 12, _ => rfl
  | 13, _ => rfl
  | 14, _ => rfl
  | 15, _ => rfl
  | 16, _ => rfl
  | 17, _ => rfl
  | 18, _ => rfl
  | 19, _ => rfl
  | 20, _ => rfl
  | 21, _ => rfl
  | k + 22, h => exact absurd h (by omega)
theorem mFs_set (P : Nat → Nat) (S : MSt) (k : Nat) (v : Int) (h1 : 22 ≤ k) (h2 : k < 32) : (mFs P S).set k (.int (iI v)) = mFs P (uG S k v) := by
  match k, h1, h2 with
  | 22, _, _ => rfl
  | 23, _, _ => rfl
  | 24, _, _ => rfl
  | 25, _, _ => rfl
  | 26, _, _ => rfl
  | 27, _, _ => rfl
  | 28, _, _ => rfl
  | 29, _, _ => rfl
  | 30, _, _ => rfl
  | 31, _, _ => rfl
  | k + 32, _, h => exact absurd h (by omega)
theorem mFs_A (P : Nat → Nat) (S : MSt) (k : Nat) (z v : Int) : mFs P (uA S k z v) = mFs P S := rfl
theorem mFs_len (P : Nat → Nat) (S : MSt) : (mFs P S).length = 32 := rfl
section VM
variable {p : Program} {l : Launch} {e : Env} {R : Room} {s : State} {m : MethodId} {args : Array Value} {below : List Frame} {meth : Method} {c : Code} {cells slots : Nat} {Q : State → Prop} {D : va_G} {A : Nat → Prop} {nL : Nat} {cc : ByteArray} {Ts : List Cond} {own : String} {ee : Nat × Nat}
variable {pc pc' : Nat} {L : List (Option Value)} {st : List Value} {cB cC cI cO cJ cD : ClassId} {h0 : Hp} {mo : Nat} {Pm : Nat → Nat} {S : MSt}
theorem MI_uG {k : Nat} {v : Int} {h : Hp} (h1 : 22 ≤ k) (h2 : k < 32) (hI : MI cC cI h0 mo Pm S h) : MI cC cI h0 mo Pm (uG S k v) (hup h mo (1000, .inr (13, (mFs Pm S).set k (.int (iI v))))) := by
  obtain ⟨⟨q1, q2⟩, q3⟩ := hI
  refine ⟨⟨by rw [hup_s, mFs_set Pm S k v h1 h2], fun j hj => ?_⟩, q3.up q1 (Nat.le_refl _)⟩
  rw [hup_n, q2 j hj]
  · rfl
  · intro q
    have := q2 j hj
    rw [q, q1] at this
    simp at this
theorem MI_uA {k : Nat} {z v : Int} {h : Hp} (h2 : k < 22) (hI : MI cC cI h0 mo Pm S h) : MI cC cI h0 mo Pm (uA S k z v) (hup h (Pm k) (1001 + k, .inl (mCl cC cI k, mLen k, .inl (iF (upZ (S.1 k) z v))))) := by
  obtain ⟨⟨q1, q2⟩, q3⟩ := hI
  have hne : mo ≠ Pm k := by
    intro q
    have := q2 k h2
    rw [← q, q1] at this
    simp at this
  refine ⟨⟨by rw [hup_n hne, q1, mFs_A], fun j hj => ?_⟩, q3.up (q2 k h2) (show 1000 ≤ 1001 + k by omega)⟩
  by_cases n : j = k
  · subst n
    rw [hup_s, uA_s]
  · rw [hup_n, q2 j hj, uA_n S n]
    intro q
    have e1 := q2 j hj
    rw [q, q2 k h2] at e1
    simp only [Option.some.injEq, Prod.mk.injEq] at e1
    omega
theorem tyX8_int' : ∀ k, k < 32 → 22 ≤ k → tyX8 k = .int := by decide
theorem tyX8_int (k : Nat) (h1 : 22 ≤ k) (h2 : k < 32) : tyX8 k = .int := tyX8_int' k h2 h1
theorem TX8_fin' : ∀ k, k < 32 → 22 ≤ k → (TX8 k).2.2.2 = false := by decide
theorem TX8_fin (k : Nat) (h1 : 22 ≤ k) (h2 : k < 32) : (TX8 k).2.2.2 = false := TX8_fin' k h2 h1
theorem mLd {n : Nat} {z : Int} (k : Nat) (C : Cx p m c cc nL s args Ts own D (tyL cB cC cI cO cJ cD) A ee) (hk : k < 21) (hn : mLen k = n) (hz : 0 ≤ z ∧ z < n ∧ z ≤ 2147483647) (d : decode cc pc = .ok (.iaload, 1)) (e0 : pc + 1 = pc') (kk : Vx p l e R s m args below meth c cells slots Q D A nL (MI cC cI h0 mo Pm S) pc' L (.int (iI (S.1 k z)) :: st)) : Vx p l e R s m args below meth c cells slots Q D A nL (MI cC cI h0 mo Pm S) pc L (.int (iI z) :: .ref (Pm k) :: st) := by
  subst hn
  exact V_iald C 2 (cA := cI) rfl (fun h hI => ⟨1001 + k, by rw [hI.1.2 k (by omega), mCl, if_neg (by omega)]⟩) hz d e0 kk
theorem mSt {n : Nat} {z v : Int} (k : Nat) (C : Cx p m c cc nL s args Ts own D (tyL cB cC cI cO cJ cD) A ee) (hk : k < 21) (hn : mLen k = n) (hz : 0 ≤ z ∧ z < n ∧ z ≤ 2147483647) (d : decode cc pc = .ok (.iastore, 1)) (e0 : pc + 1 = pc') (kk : Vx p l e R s m args below meth c cells slots Q D A nL (MI cC cI h0 mo Pm (uA S k z v)) pc' L st) : Vx p l e R s m args below meth c cells slots Q D A nL (MI cC cI h0 mo Pm S) pc L (.int (iI v) :: .int (iI z) :: .ref (Pm k) :: st) := by
  subst hn
  refine V_iast C 2 (cA := cI) rfl (fun h hI => ⟨1001 + k, by rw [hI.1.2 k (by omega), mCl, if_neg (by omega)], ?_⟩) hz d e0 kk
  have := MI_uA (z := z) (v := v) (show k < 22 by omega) hI
  rw [mCl, if_neg (by omega)] at this
  exact this
/-- contracts of the reference's methods: the answer r, the state behind it S' -/
def Mf (l : Launch) (D : va_G) (cB cC cI cO cJ cD : ClassId) (ee : Nat × Nat) (y : MethodName) (ws : List Cond) (rm : Room) (mo : Nat) (Pm : Nat → Nat) (As : List Value) (S : MSt) (X : Int × MSt) : Prop := Ct l y ws rm D (tyL cB cC cI cO cJ cD) ee (.ref mo :: As) (MS cC cI mo Pm S) (Ji fun h z h' => z = X.1 ∧ MS cC cI mo Pm X.2 h' ∧ Fr tM h h') 0 0
def Mv (l : Launch) (D : va_G) (cB cC cI cO cJ cD : ClassId) (ee : Nat × Nat) (y : MethodName) (ws : List Cond) (rm : Room) (mo : Nat) (Pm : Nat → Nat) (As : List Value) (S : MSt) (S' : MSt) : Prop := Ct l y ws rm D (tyL cB cC cI cO cJ cD) ee (.ref mo :: As) (MS cC cI mo Pm S) (Jv fun h h' => MS cC cI mo Pm S' h' ∧ Fr tM h h') 0 0
/-- a static method that reads no cell -/
def Sf (l : Launch) (D : va_G) (cB cC cI cO cJ cD : ClassId) (ee : Nat × Nat) (y : MethodName) (ws : List Cond) (rm : Room) (As : List Value) (r : Int) : Prop := Ct l y ws rm D (tyL cB cC cI cO cJ cD) ee As (fun _ => True) (Ji fun h z h' => z = r ∧ h' = h) 0 0
theorem mEnd {sz : Nat} {z : Int} {X : Int × MSt} (C : Cx p m c cc nL s args Ts own D (tyL cB cC cI cO cJ cD) (hA h0 sz) ee) (hr : meth.sig.returnType = some .int) (hlk : meth.locks = false) (hc : cells ≤ 0 ∧ slots ≤ 0) (d : decode cc pc = .ok (.ireturn, 1)) (hz : (z, S) = X) : Vx p l e R s m args below meth c cells slots (MQ below (ctQ D h0 sz (Ji fun h z h' => z = X.1 ∧ MS cC cI mo Pm X.2 h' ∧ Fr tM h h')) args s 0 0 (hA h0 sz)) D (hA h0 sz) nL (MI cC cI h0 mo Pm S) pc L [.int (iI z)] := by
  subst hz
  exact V_end C hr hlk (fun h' hI => ⟨_, rfl, rfl, hI.1, hI.2⟩) hc d
theorem mEndz {sz : Nat} {b : Bool} {X : Int × MSt} (C : Cx p m c cc nL s args Ts own D (tyL cB cC cI cO cJ cD) (hA h0 sz) ee) (hr : meth.sig.returnType = some .boolean) (hlk : meth.locks = false) (hc : cells ≤ 0 ∧ slots ≤ 0) (d : decode cc pc = .ok (.ireturn, 1)) (hz : (bI b, S) = X) : Vx p l e R s m args below meth c cells slots (MQ below (ctQ D h0 sz (Ji fun h z h' => z = X.1 ∧ MS cC cI mo Pm X.2 h' ∧ Fr tM h h')) args s 0 0 (hA h0 sz)) D (hA h0 sz) nL (MI cC cI h0 mo Pm S) pc L [.int (iI (bI b))] := by
  subst hz
  exact V_endz C hr hlk (nar_z b) (fun h' hI => ⟨_, rfl, rfl, hI.1, hI.2⟩) hc d
theorem mEndc {sz : Nat} {z : Int} {X : Int × MSt} (C : Cx p m c cc nL s args Ts own D (tyL cB cC cI cO cJ cD) (hA h0 sz) ee) (hr : meth.sig.returnType = some .char) (hlk : meth.locks = false) (hc : cells ≤ 0 ∧ slots ≤ 0) (d : decode cc pc = .ok (.ireturn, 1)) (hb : 0 ≤ z ∧ z < 65536) (hz : (z, S) = X) : Vx p l e R s m args below meth c cells slots (MQ below (ctQ D h0 sz (Ji fun h z h' => z = X.1 ∧ MS cC cI mo Pm X.2 h' ∧ Fr tM h h')) args s 0 0 (hA h0 sz)) D (hA h0 sz) nL (MI cC cI h0 mo Pm S) pc L [.int (iI z)] := by
  subst hz
  exact V_endz C hr hlk (nar_c hb.1 hb.2) (fun h' hI => ⟨_, rfl, rfl, hI.1, hI.2⟩) hc d
theorem mEndv {sz : Nat} {S' : MSt} (C : Cx p m c cc nL s args Ts own D (tyL cB cC cI cO cJ cD) (hA h0 sz) ee) (hr : meth.sig.returnType = none) (hlk : meth.locks = false) (hc : cells ≤ 0 ∧ slots ≤ 0) (d : decode cc pc = .ok (.return_, 1)) (hz : S = S') : Vx p l e R s m args below meth c cells slots (MQ below (ctQ D h0 sz (Jv fun h h' => MS cC cI mo Pm S' h' ∧ Fr tM h h')) args s 0 0 (hA h0 sz)) D (hA h0 sz) nL (MI cC cI h0 mo Pm S) pc L [] := by
  subst hz
  exact V_endv C hr hlk (fun h' hI => ⟨rfl, hI.1, hI.2⟩) hc d
theorem sEnd {sz : Nat} {z r : Int} (C : Cx p m c cc nL s args Ts own D (tyL cB cC cI cO cJ cD) (hA h0 sz) ee) (hr : meth.sig.returnType = some .int) (hlk : meth.locks = false) (hc : cells ≤ 0 ∧ slots ≤ 0) (d : decode cc pc = .ok (.ireturn, 1)) (hz : z = r) : Vx p l e R s m args below meth c cells slots (MQ below (ctQ D h0 sz (Ji fun h z h' => z = r ∧ h' = h)) args s 0 0 (hA h0 sz)) D (hA h0 sz) nL (fun x => x = h0) pc L [.int (iI z)] := by
  subst hz
  exact V_end C hr hlk (fun h' hI => ⟨_, rfl, rfl, hI⟩) hc d
theorem sEndz {sz : Nat} {b : Bool} {r : Int} (C : Cx p m c cc nL s args Ts own D (tyL cB cC cI cO cJ cD) (hA h0 sz) ee) (hr : meth.sig.returnType = some .boolean) (hlk : meth.locks = false) (hc : cells ≤ 0 ∧ slots ≤ 0) (d : decode cc pc = .ok (.ireturn, 1)) (hz : bI b = r) : Vx p l e R s m args below meth c cells slots (MQ below (ctQ D h0 sz (Ji fun h z h' => z = r ∧ h' = h)) args s 0 0 (hA h0 sz)) D (hA h0 sz) nL (fun x => x = h0) pc L [.int (iI (bI b))] := by
  subst hz
  exact V_endz C hr hlk (nar_z b) (fun h' hI => ⟨_, rfl, rfl, hI⟩) hc d
theorem MI_of {h h' : Hp} {S' : MSt} (hI : MI cC cI h0 mo Pm S h) (h1 : MS cC cI mo Pm S' h') (h2 : Fr tM h h') : MI cC cI h0 mo Pm S' h' := ⟨h1, hI.2.trans h2⟩
theorem sCall1 {x1 : Value} {idx maxL : Nat} {y : MethodName} {ws ws' : List Cond} {rm : Room} {bytes : ByteArray} {ret : Option FieldType} {I : Hp → Prop} {r : Int} (C : Cx p m c cc nL s args Ts own D (tyL cB cC cI cO cJ cD) A ee) (hM : Sf l D cB cC cI cO cJ cD ee y ws rm [x1] r) (hG : GoodIn Ts (va_wsS own idx y ws)) (hw : ws = Cond.code y bytes maxL ret :: ws') (hd : y.cls ≠ "java/lang/invoke/MethodHandle" ∧ y.cls ≠ "java/lang/invoke/VarHandle" ∧ (parseMethodDescriptor y.desc).map (fun d => d.parameters.length) = some 1) (hR : rm.frames + 1 ≤ R.frames ∧ 8 + (maxL + 11) + rm.locals ≤ R.locals) (hcs : rm.cells = 0 ∧ rm.slots = 0) (hcat : (st.map fun v => v.category).sum ≤ 8) (d : decode cc pc = .ok (.invokestatic idx, 3)) (hroom : cells ≤ R.cells ∧ slots ≤ R.slots) (e0 : pc + 3 = pc') (k : Vx p l e R s m args below meth c cells slots Q D A nL I pc' L (.int (iI r) :: st)) : Vx p l e R s m args below meth c cells slots Q D A nL I pc L (x1 :: st) := by
  subst e0
  exact V_callS [x1] C hM hG hw hd hR hcs rfl (fun h hI => trivial) rfl hcat d hroom (fun h v h' hI hJ => by
    obtain ⟨z, rfl, rfl, rfl⟩ := hJ
    exact V_weak (fun x hx => by rw [hx]; exact hI) k)
theorem sCall2 {x1 x2 : Value} {idx maxL : Nat} {y : MethodName} {ws ws' : List Cond} {rm : Room} {bytes : ByteArray} {ret : Option FieldType} {I : Hp → Prop} {r : Int} (C : Cx p m c cc nL s args Ts own D (tyL cB cC cI cO cJ cD) A ee) (hM : Sf l D cB cC cI cO cJ cD ee y ws rm [x1, x2] r) (hG : GoodIn Ts (va_wsS own idx y ws)) (hw : ws = Cond.code y bytes maxL ret :: ws') (hd : y.cls ≠ "java/lang/invoke/MethodHandle" ∧ y.cls ≠ "java/lang/invoke/VarHandle" ∧ (parseMethodDescriptor y.desc).map (fun d => d.parameters.length) = some 2) (hR : rm.frames + 1 ≤ R.frames ∧ 8 + (maxL + 11) + rm.locals ≤ R.locals) (hcs : rm.cells = 0 ∧ rm.slots = 0) (hcat : (st.map fun v => v.category).sum ≤ 8) (d : decode cc pc = .ok (.invokestatic idx, 3)) (hroom : cells ≤ R.cells ∧ slots ≤ R.slots) (e0 : pc + 3 = pc') (k : Vx p l e R s m args below meth c cells slots Q D A nL I pc' L (.int (iI r) :: st)) : Vx p l e R s m args below meth c cells slots Q D A nL I pc L (x2 :: x1 :: st) := by
  subst e0
  exact V_callS [x1, x2] C hM hG hw hd hR hcs rfl (fun h hI => trivial) rfl hcat d hroom (fun h v h' hI hJ => by
    obtain ⟨z, rfl, rfl, rfl⟩ := hJ
    exact V_weak (fun x hx => by rw [hx]; exact hI) k)
theorem sCall3 {x1 x2 x3 : Value} {idx maxL : Nat} {y : MethodName} {ws ws' : List Cond} {rm : Room} {bytes : ByteArray} {ret : Option FieldType} {I : Hp → Prop} {r : Int} (C : Cx p m c cc nL s args Ts own D (tyL cB cC cI cO cJ cD) A ee) (hM : Sf l D cB cC cI cO cJ cD ee y ws rm [x1, x2, x3] r) (hG : GoodIn Ts (va_wsS own idx y ws)) (hw : ws = Cond.code y bytes maxL ret :: ws') (hd : y.cls ≠ "java/lang/invoke/MethodHandle" ∧ y.cls ≠ "java/lang/invoke/VarHandle" ∧ (parseMethodDescriptor y.desc).map (fun d => d.parameters.length) = some 3) (hR : rm.frames + 1 ≤ R.frames ∧ 8 + (maxL + 11) + rm.locals ≤ R.locals) (hcs : rm.cells = 0 ∧ rm.slots = 0) (hcat : (st.map fun v => v.category).sum ≤ 8) (d : decode cc pc = .ok (.invokestatic idx, 3)) (hroom : cells ≤ R.cells ∧ slots ≤ R.slots) (e0 : pc + 3 = pc') (k : Vx p l e R s m args below meth c cells slots Q D A nL I pc' L (.int (iI r) :: st)) : Vx p l e R s m args below meth c cells slots Q D A nL I pc L (x3 :: x2 :: x1 :: st) := by
  subst e0
  exact V_callS [x1, x2, x3] C hM hG hw hd hR hcs rfl (fun h hI => trivial) rfl hcat d hroom (fun h v h' hI hJ => by
    obtain ⟨z, rfl, rfl, rfl⟩ := hJ
    exact V_weak (fun x hx => by rw [hx]; exact hI) k)
theorem sCall4 {x1 x2 x3 x4 : Value} {idx maxL : Nat} {y : MethodName} {ws ws' : List Cond} {rm : Room} {bytes : ByteArray} {ret : Option FieldType} {I : Hp → Prop} {r : Int} (C : Cx p m c cc nL s args Ts own D (tyL cB cC cI cO cJ cD) A ee) (hM : Sf l D cB cC cI cO cJ cD ee y ws rm [x1, x2, x3, x4] r) (hG : GoodIn Ts (va_wsS own idx y ws)) (hw : ws = Cond.code y bytes maxL ret :: ws') (hd : y.cls ≠ "java/lang/invoke/MethodHandle" ∧ y.cls ≠ "java/lang/invoke/VarHandle" ∧ (parseMethodDescriptor y.desc).map (fun d => d.parameters.length) = some 4) (hR : rm.frames + 1 ≤ R.frames ∧ 8 + (maxL + 11) + rm.locals ≤ R.locals) (hcs : rm.cells = 0 ∧ rm.slots = 0) (hcat : (st.map fun v => v.category).sum ≤ 8) (d : decode cc pc = .ok (.invokestatic idx, 3)) (hroom : cells ≤ R.cells ∧ slots ≤ R.slots) (e0 : pc + 3 = pc') (k : Vx p l e R s m args below meth c cells slots Q D A nL I pc' L (.int (iI r) :: st)) : Vx p l e R s m args below meth c cells slots Q D A nL I pc L (x4 :: x3 :: x2 :: x1 :: st) := by
  subst e0
  exact V_callS [x1, x2, x3, x4] C hM hG hw hd hR hcs rfl (fun h hI => trivial) rfl hcat d hroom (fun h v h' hI hJ => by
    obtain ⟨z, rfl, rfl, rfl⟩ := hJ
    exact V_weak (fun x hx => by rw [hx]; exact hI) k)
theorem sCall5 {x1 x2 x3 x4 x5 : Value} {idx maxL : Nat} {y : MethodName} {ws ws' : List Cond} {rm : Room} {bytes : ByteArray} {ret : Option FieldType} {I : Hp → Prop} {r : Int} (C : Cx p m c cc nL s args Ts own D (tyL cB cC cI cO cJ cD) A ee) (hM : Sf l D cB cC cI cO cJ cD ee y ws rm [x1, x2, x3, x4, x5] r) (hG : GoodIn Ts (va_wsS own idx y ws)) (hw : ws = Cond.code y bytes maxL ret :: ws') (hd : y.cls ≠ "java/lang/invoke/MethodHandle" ∧ y.cls ≠ "java/lang/invoke/VarHandle" ∧ (parseMethodDescriptor y.desc).map (fun d => d.parameters.length) = some 5) (hR : rm.frames + 1 ≤ R.frames ∧ 8 + (maxL + 11) + rm.locals ≤ R.locals) (hcs : rm.cells = 0 ∧ rm.slots = 0) (hcat : (st.map fun v => v.category).sum ≤ 8) (d : decode cc pc = .ok (.invokestatic idx, 3)) (hroom : cells ≤ R.cells ∧ slots ≤ R.slots) (e0 : pc + 3 = pc') (k : Vx p l e R s m args below meth c cells slots Q D A nL I pc' L (.int (iI r) :: st)) : Vx p l e R s m args below meth c cells slots Q D A nL I pc L (x5 :: x4 :: x3 :: x2 :: x1 :: st) := by
  subst e0
  exact V_callS [x1, x2, x3, x4, x5] C hM hG hw hd hR hcs rfl (fun h hI => trivial) rfl hcat d hroom (fun h v h' hI hJ => by
    obtain ⟨z, rfl, rfl, rfl⟩ := hJ
    exact V_weak (fun x hx => by rw [hx]; exact hI) k)
theorem sCall6 {x1 x2 x3 x4 x5 x6 : Value} {idx maxL : Nat} {y : MethodName} {ws ws' : List Cond} {rm : Room} {bytes : ByteArray} {ret : Option FieldType} {I : Hp → Prop} {r : Int} (C : Cx p m c cc nL s args Ts own D (tyL cB cC cI cO cJ cD) A ee) (hM : Sf l D cB cC cI cO cJ cD ee y ws rm [x1, x2, x3, x4, x5, x6] r) (hG : GoodIn Ts (va_wsS own idx y ws)) (hw : ws = Cond.code y bytes maxL ret :: ws') (hd : y.cls ≠ "java/lang/invoke/MethodHandle" ∧ y.cls ≠ "java/lang/invoke/VarHandle" ∧ (parseMethodDescriptor y.desc).map (fun d => d.parameters.length) = some 6) (hR : rm.frames + 1 ≤ R.frames ∧ 8 + (maxL + 11) + rm.locals ≤ R.locals) (hcs : rm.cells = 0 ∧ rm.slots = 0) (hcat : (st.map fun v => v.category).sum ≤ 8) (d : decode cc pc = .ok (.invokestatic idx, 3)) (hroom : cells ≤ R.cells ∧ slots ≤ R.slots) (e0 : pc + 3 = pc') (k : Vx p l e R s m args below meth c cells slots Q D A nL I pc' L (.int (iI r) :: st)) : Vx p l e R s m args below meth c cells slots Q D A nL I pc L (x6 :: x5 :: x4 :: x3 :: x2 :: x1 :: st) := by
  subst e0
  exact V_callS [x1, x2, x3, x4, x5, x6] C hM hG hw hd hR hcs rfl (fun h hI => trivial) rfl hcat d hroom (fun h v h' hI hJ => by
    obtain ⟨z, rfl, rfl, rfl⟩ := hJ
    exact V_weak (fun x hx => by rw [hx]; exact hI) k)
end VM

/-! floats: rows of V, contracts, and the reference's last calls -/
section VF
variable {p : Program} {l : Launch} {e : Env} {R : Room} {s : State} {m : MethodId} {args : Array Value} {below : List Frame} {meth : Method} {c : Code} {cells slots : Nat} {Q : State → Prop} {D : va_G} {tys : List (ClassId × FieldType)} {A : Nat → Prop} {nL : Nat} {cc : ByteArray} {Ts : List Cond} {own : String} {ee : Nat}
variable {I : Hp → Prop} {pc pc' : Nat} {L : List (Option Value)} {st : List Value}
theorem V_i2f {x : Int} (C : Cx p m c cc nL s args Ts own D tys A ee) (d : decode cc pc = .ok (.i2f, 1)) (e0 : pc + 1 = pc') (k : Vx p l e R s m args below meth c cells slots Q D A nL I pc' L (.float (FP.i2f (iI x)) :: st)) : Vx p l e R s m args below meth c cells slots Q D A nL I pc L (.int (iI x) :: st) := by
  subst e0
  exact V_of (fun H locs ls hl kk => lv_i2f C.1.1 C.1.2.1 d kk) k
theorem V_i2d {x : Int} (C : Cx p m c cc nL s args Ts own D tys A ee) (d : decode cc pc = .ok (.i2d, 1)) (e0 : pc + 1 = pc') (k : Vx p l e R s m args below meth c cells slots Q D A nL I pc' L (.double (FP.i2d (iI x)) :: st)) : Vx p l e R s m args below meth c cells slots Q D A nL I pc L (.int (iI x) :: st) := by
  subst e0
  exact V_of (fun H locs ls hl kk => lv_i2d C.1.1 C.1.2.1 d kk) k
theorem V_fconst (C : Cx p m c cc nL s args Ts own D tys A ee) (d : decode cc pc = .ok (.fconst 0, 1)) (e0 : pc + 1 = pc') (k : Vx p l e R s m args below meth c cells slots Q D A nL I pc' L (.float FP.fconst0 :: st)) : Vx p l e R s m args below meth c cells slots Q D A nL I pc L st := by
  subst e0
  exact V_of (fun H locs ls hl kk => lv_fconst0 C.1.1 C.1.2.1 d kk) k
theorem V_dconst (C : Cx p m c cc nL s args Ts own D tys A ee) (d : decode cc pc = .ok (.dconst 0, 1)) (e0 : pc + 1 = pc') (k : Vx p l e R s m args below meth c cells slots Q D A nL I pc' L (.double FP.dconst0 :: st)) : Vx p l e R s m args below meth c cells slots Q D A nL I pc L st := by
  subst e0
  exact V_of (fun H locs ls hl kk => lv_dconst0 C.1.1 C.1.2.1 d kk) k
theorem V_fdiv {a b : Int} (C : Cx p m c cc nL s args Ts own D tys A ee) (hr : (-16777216 < a ∧ a < 16777216) ∧ (-16777216 < b ∧ b < 16777216) ∧ b ≠ 0) (d : decode cc pc = .ok (.fdiv, 1)) (e0 : pc + 1 = pc') (k : Vx p l e R s m args below meth c cells slots Q D A nL I pc' L (.float (shareF a b) :: st)) : Vx p l e R s m args below meth c cells slots Q D A nL I pc L (.float (FP.i2f (iI b)) :: .float (FP.i2f (iI a)) :: st) := by
  subst e0
  exact V_of (fun H locs ls hl kk => lv_fdiv C.1.1 C.1.2.1 d (shareF_n hr.1 hr.2.1 hr.2.2) kk) k
theorem V_ddiv {a b : Int} (C : Cx p m c cc nL s args Ts own D tys A ee) (hr : rI a ∧ rI b ∧ b ≠ 0) (d : decode cc pc = .ok (.ddiv, 1)) (e0 : pc + 1 = pc') (k : Vx p l e R s m args below meth c cells slots Q D A nL I pc' L (.double (meanD a b) :: st)) : Vx p l e R s m args below meth c cells slots Q D A nL I pc L (.double (FP.i2d (iI b)) :: .double (FP.i2d (iI a)) :: st) := by
  subst e0
  exact V_of (fun H locs ls hl kk => lv_ddiv C.1.1 C.1.2.1 d (meanD_n hr.1 hr.2.1 hr.2.2) kk) k
theorem V_endf {h0 : Hp} {sz mc ms : Nat} {J : Hp → Option Value → Hp → Prop} {r : UInt32} (C : Cx p m c cc nL s args Ts own D tys (hA h0 sz) ee) (hr : meth.sig.returnType = some .float) (hlk : meth.locks = false) (hJ : ∀ h', I h' → J h0 (some (.float r)) h') (hc : cells ≤ mc ∧ slots ≤ ms) (d : decode cc pc = .ok (.freturn, 1)) : Vx p l e R s m args below meth c cells slots (MQ below (ctQ D h0 sz J) args s mc ms (hA h0 sz)) D (hA h0 sz) nL I pc L [.float r] := by
  intro h H locs ls hI hW hS hL
  refine W.widen hc.1 hc.2 ?_
  exact W.fret C.1.1 C.1.2.1 hr (fun t ht hWm => ⟨⟨_, h, rfl, hJ h hI, by rw [ht]; exact hW⟩, hS.F ht⟩) hS.2.2 d hlk
theorem V_endd {h0 : Hp} {sz mc ms : Nat} {J : Hp → Option Value → Hp → Prop} {r : UInt64} (C : Cx p m c cc nL s args Ts own D tys (hA h0 sz) ee) (hr : meth.sig.returnType = some .double) (hlk : meth.locks = false) (hJ : ∀ h', I h' → J h0 (some (.double r)) h') (hc : cells ≤ mc ∧ slots ≤ ms) (d : decode cc pc = .ok (.dreturn, 1)) : Vx p l e R s m args below meth c cells slots (MQ below (ctQ D h0 sz J) args s mc ms (hA h0 sz)) D (hA h0 sz) nL I pc L [.double r] := by
  intro h H locs ls hI hW hS hL
  refine W.widen hc.1 hc.2 ?_
  exact W.dret C.1.1 C.1.2.1 hr (fun t ht hWm => ⟨⟨_, h, rfl, hJ h hI, by rw [ht]; exact hW⟩, hS.F ht⟩) hS.2.2 d hlk
variable {cB cC cI cO cJ cD : ClassId} {mo : Nat} {Pm : Nat → Nat} {S : MSt} {h0 : Hp}
def Mw (l : Launch) (D : va_G) (cB cC cI cO cJ cD : ClassId) (ee : Nat) (y : MethodName) (ws : List Cond) (rm : Room) (mo : Nat) (Pm : Nat → Nat) (As : List Value) (S : MSt) (v : Value) (S' : MSt) : Prop := Ct l y ws rm D (tyL cB cC cI cO cJ cD) ee (.ref mo :: As) (MS cC cI mo Pm S) (fun h v' h' => v' = some v ∧ MS cC cI mo Pm S' h' ∧ Fr tM h h') 0 0
theorem mEndf {sz : Nat} {r : UInt32} {X : UInt32 × MSt} (C : Cx p m c cc nL s args Ts own D (tyL cB cC cI cO cJ cD) (hA h0 sz) ee) (hr : meth.sig.returnType = some .float) (hlk : meth.locks = false) (hc : cells ≤ 0 ∧ slots ≤ 0) (d : decode cc pc = .ok (.freturn, 1)) (hz : (r, S) = X) : Vx p l e R s m args below meth c cells slots (MQ below (ctQ D h0 sz (fun h v' h' => v' = some (.float X.1) ∧ MS cC cI mo Pm X.2 h' ∧ Fr tM h h')) args s 0 0 (hA h0 sz)) D (hA h0 sz) nL (MI cC cI h0 mo Pm S) pc L [.float r] := by
  subst hz
  exact V_endf C hr hlk (fun h' hI => ⟨rfl, hI.1, hI.2⟩) hc d
theorem mEndd {sz : Nat} {r : UInt64} {X : UInt64 × MSt} (C : Cx p m c cc nL s args Ts own D (tyL cB cC cI cO cJ cD) (hA h0 sz) ee) (hr : meth.sig.returnType = some .double) (hlk : meth.locks = false) (hc : cells ≤ 0 ∧ slots ≤ 0) (d : decode cc pc = .ok (.dreturn, 1)) (hz : (r, S) = X) : Vx p l e R s m args below meth c cells slots (MQ below (ctQ D h0 sz (fun h v' h' => v' = some (.double X.1) ∧ MS cC cI mo Pm X.2 h' ∧ Fr tM h h')) args s 0 0 (hA h0 sz)) D (hA h0 sz) nL (MI cC cI h0 mo Pm S) pc L [.double r] := by
  subst hz
  exact V_endd C hr hlk (fun h' hI => ⟨rfl, hI.1, hI.2⟩) hc d
theorem mCallW0 {idx maxL : Nat} {y : MethodName} {ws ws' : List Cond} {rm : Room} {bytes : ByteArray} {ret : Option FieldType} {v0 : Value} {S' : MSt} (C : Cx p m c cc nL s args Ts own D (tyL cB cC cI cO cJ cD) A ee) (hM : Mw l D cB cC cI cO cJ cD ee y ws rm mo Pm [] S v0 S') (hG : GoodIn Ts (wsV own idx RX8 y ws)) (hw : ws = Cond.code y bytes maxL ret :: ws') (hd : y.cls = RX8 ∧ y.cls ≠ "java/lang/invoke/MethodHandle" ∧ y.cls ≠ "java/lang/invoke/VarHandle" ∧ (parseMethodDescriptor y.desc).map (fun d => d.parameters.length) = some 0) (hR : rm.frames + 1 ≤ R.frames ∧ 8 + (maxL + 11) + rm.locals ≤ R.locals) (hcs : rm.cells = 0 ∧ rm.slots = 0) (hcat : (st.map fun v => v.category).sum ≤ 8) (d : decode cc pc = .ok (.invokevirtual idx, 3)) (hroom : cells ≤ R.cells ∧ slots ≤ R.slots) (e0 : pc + 3 = pc') (k : Vx p l e R s m args below meth c cells slots Q D A nL (MI cC cI h0 mo Pm S') pc' L (v0 :: st)) : Vx p l e R s m args below meth c cells slots Q D A nL (MI cC cI h0 mo Pm S) pc L (.ref mo :: st) := by
  subst e0
  exact V_callV [] C hM hG hw hd hR hcs rfl (ci := 13) rfl (fun h hI => ⟨1000, _, hI.1.1⟩) (fun h hI => hI.1) rfl hcat d hroom (fun h v h' hI hJ => by
    obtain ⟨rfl, h1, h2⟩ := hJ
    exact V_weak (fun x hx => by rw [hx]; exact MI_of hI h1 h2) k)
end VF
theorem allN_in (S : MSt) (w : Int) : ∀ n : Nat, S.1 3 (w + 1) ≤ allN S w n ∧ allN S w n ≤ S.1 3 (w + 1) + n
  | 0 => by simp [allN]
  | n + 1 => by
    have ih := allN_in S w n
    rw [allN]
    split <;> omega
def macroShareX (S : MSt) : UInt32 × MSt := if S.2 29 + S.2 24 = 0 then (FP.fconst0, uG S 31 1) else (shareF (S.2 29 + S.2 24 - allI S (-1)) (S.2 29 + S.2 24), uG S 31 0)
def smN (S : MSt) : Nat → Int
  | 0 => 0
  | n + 1 => smN S n + S.1 0 n
def cnN (S : MSt) : Nat → Int
  | 0 => 0
  | n + 1 => cnN S n + (if S.1 0 n = 0 then 0 else 1)
theorem smN_in {S : MSt} (h : WFp S) : ∀ n : Nat, n ≤ 48 → -9999 * n ≤ smN S n ∧ smN S n ≤ 9999 * n
  | 0, _ => by simp [smN]
  | n + 1, hn => by
    have ih := smN_in h n (by omega)
    have := h.2.2.2.2.2 n (by omega) (by omega)
    rw [smN]
    omega
theorem cnN_in (S : MSt) : ∀ n : Nat, 0 ≤ cnN S n ∧ cnN S n ≤ n
  | 0 => by simp [cnN]
  | n + 1 => by
    have ih := cnN_in S n
    rw [cnN]
    split <;> omega
def meanValueX (S : MSt) : UInt64 × MSt := if cnN S 48 = 0 then (FP.dconst0, uG S 31 1) else (meanD (smN S 48) (cnN S 48), uG S 31 0)

theorem ydX8_macroShare : yX8_macroShare.cls = RX8 ∧ yX8_macroShare.cls ≠ "java/lang/invoke/MethodHandle" ∧ yX8_macroShare.cls ≠ "java/lang/invoke/VarHandle" ∧ (parseMethodDescriptor yX8_macroShare.desc).map (fun d => d.parameters.length) = some 0 := by decide +kernel
theorem ydX8_meanValue : yX8_meanValue.cls = RX8 ∧ yX8_meanValue.cls ≠ "java/lang/invoke/MethodHandle" ∧ yX8_meanValue.cls ≠ "java/lang/invoke/VarHandle" ∧ (parseMethodDescriptor yX8_meanValue.desc).map (fun d => d.parameters.length) = some 0 := by decide +kernel
section
variable {l : Launch} {D : va_G} {cB cC cI cO cJ cD : ClassId} {ee mo : Nat} {Pm : Nat → Nat} {S : MSt} {b : Int}
set_option maxHeartbeats 4000000 in
set_option maxRecDepth 100000 in
theorem kX8_macroShare (hmw : MW S b) (h3 : 0 ≤ S.1 3 0 ∧ S.1 3 0 ≤ S.2 29) : Mw l D cB cC cI cO cJ cD ee yX8_macroShare wsX8_macroShare ({ frames := 1, cells := 0, slots := 0, locals := 23 } : Room) mo Pm [] S (.float (macroShareX S).1) (macroShareX S).2 := by
  refine Ct_of (cc := cX8_macroShare) (own := RX8) [some (.ref mo), none] (by decide) rfl rfl (Nat.le_of_ble_eq_true rfl) (fun i9 v9 h9 => argL (.ref mo :: []) 1 rfl i9 v9 h9) ?_
  intro p e s m9 args below meth c9 h0 sz hI C hr hlk hinit
  have hin : ∀ w ∈ wsX80, w ∈ wsX8_macroShare := by decide +kernel
  refine V_weak (I2 := MI cC cI h0 mo Pm S) (fun x hx => by subst hx; exact ⟨hI, Fr.refl⟩) ?_
  obtain ⟨hwp, hwl, hwh, hwr, hws, hwt⟩ := id hmw
  obtain ⟨hw1, hw2, hw3, hw4, hw5, hw6⟩ := id hwp
  obtain ⟨ws1, ws2, ws3, ws4⟩ := id hws
  have hll := hwl.1
  have an9 := allN_in S (-1) (S.2 24).toNat
  rw [show (-1 : Int) + 1 = 0 by rfl] at an9
  have an8 : allI S (-1) = allN S (-1) (S.2 24).toNat := rfl
  refine V_aload0 (pc' := 1) C dX8_macroShare_0 rfl ?_
  refine mGetI (pc' := 4) 29 C hin (by decide) (by decide +kernel) dX8_macroShare_1 rfl ?_
  refine V_aload0 (pc' := 5) C dX8_macroShare_4 rfl ?_
  refine mGetI (pc' := 8) 24 C hin (by decide) (by decide +kernel) dX8_macroShare_5 rfl ?_
  refine V_iadd (pc' := 9) C dX8_macroShare_8 rfl ?_
  refine V_istore1 (pc' := 10) C dX8_macroShare_9 rfl (by decide) rfl ?_
  refine V_aload0 (pc' := 11) C dX8_macroShare_10 rfl ?_
  refine V_iload1 (pc' := 12) C dX8_macroShare_11 rfl ?_
  refine V_ifne (tgt := 19) C (by first | omega | (simp [uA, uG, thS] <;> omega)) dX8_macroShare_12 (by decide) rfl (fun c_12 => ?_) (fun c_12 => ?_)
  · refine V_iconst (pc' := 20) C dX8_macroShare_19 rfl ?_
    refine V_iconst (pc' := 21) C dX8_macroShare_20 rfl ?_
    refine mCallF2 (pc' := 24) C (kX8_isThrown false _ ) gX8_macroShare_X8_isThrown rfl ydX8_isThrown ⟨Nat.le_of_ble_eq_true rfl, Nat.le_of_ble_eq_true rfl⟩ ⟨rfl, rfl⟩ (Nat.le_of_ble_eq_true rfl) dX8_macroShare_21 ⟨Nat.zero_le _, Nat.zero_le _⟩ rfl ?_
    refine V_ifeqB (tgt := 31) C dX8_macroShare_24 (by decide) rfl (fun c_24 => ?_) (fun c_24 => ?_)
    · refine V_weak (I2 := MI cC cI h0 mo Pm (uG S 31 0)) (fun h q => by first | exact q | (simpa [thS, uG_uG] using q)) ?_
      have hmw9 : MW (uG S 31 0) b := hmw
      refine V_iload1 (pc' := 32) C dX8_macroShare_31 rfl ?_
      refine V_aload0 (pc' := 33) C dX8_macroShare_32 rfl ?_
      refine V_iconst (pc' := 34) C dX8_macroShare_33 rfl ?_
      refine mCallF1 (pc' := 37) C (kX8_all (b := b) (S := uG S 31 0) _ hmw9 (by omega) (by omega)) gX8_macroShare_X8_all rfl ydX8_all ⟨Nat.le_of_ble_eq_true rfl, Nat.le_of_ble_eq_true rfl⟩ ⟨rfl, rfl⟩ (Nat.le_of_ble_eq_true rfl) dX8_macroShare_34 ⟨Nat.zero_le _, Nat.zero_le _⟩ rfl ?_
      refine V_eq (st2 := [Value.int (iI (allI S (-1))), .int (iI (S.2 29 + S.2 24))]) (by rw [allI_u]) ?_
      refine V_isub (pc' := 38) C dX8_macroShare_37 rfl ?_
      refine V_i2f (pc' := 39) C dX8_macroShare_38 rfl ?_
      refine V_iload1 (pc' := 40) C dX8_macroShare_39 rfl ?_
      refine V_i2f (pc' := 41) C dX8_macroShare_40 rfl ?_
      refine V_fdiv (pc' := 42) C (by first | omega | (simp [uA, uG, thS] <;> omega)) dX8_macroShare_41 rfl ?_
      exact mEndf C hr hlk ⟨Nat.le_refl _, Nat.le_refl _⟩ dX8_macroShare_42 (by first | (unfold macroShareX; rw [if_neg (by omega)]; done) | (unfold macroShareX; rw [if_pos (by omega)]; simp [thS]; done))
    · exact absurd c_24 (by decide)
  · refine V_iconst (pc' := 16) C dX8_macroShare_15 rfl ?_
    refine V_goto (tgt := 20) C dX8_macroShare_16 (by decide) ?_
    refine V_iconst (pc' := 21) C dX8_macroShare_20 rfl ?_
    refine mCallF2 (pc' := 24) C (kX8_isThrown true _ ) gX8_macroShare_X8_isThrown rfl ydX8_isThrown ⟨Nat.le_of_ble_eq_true rfl, Nat.le_of_ble_eq_true rfl⟩ ⟨rfl, rfl⟩ (Nat.le_of_ble_eq_true rfl) dX8_macroShare_21 ⟨Nat.zero_le _, Nat.zero_le _⟩ rfl ?_
    refine V_ifeqB (tgt := 31) C dX8_macroShare_24 (by decide) rfl (fun c_24 => ?_) (fun c_24 => ?_)
    · exact absurd c_24 (by decide)
    · refine V_fconst (pc' := 28) C dX8_macroShare_27 rfl ?_
      refine V_goto (tgt := 42) C dX8_macroShare_28 (by decide) ?_
      exact mEndf C hr hlk ⟨Nat.le_refl _, Nat.le_refl _⟩ dX8_macroShare_42 (by first | (unfold macroShareX; rw [if_neg (by omega)]; done) | (unfold macroShareX; rw [if_pos (by omega)]; simp [thS]; done))
set_option maxHeartbeats 4000000 in
set_option maxRecDepth 100000 in
theorem kX8_meanValue (hmw : MW S b) : Mw l D cB cC cI cO cJ cD ee yX8_meanValue wsX8_meanValue ({ frames := 1, cells := 0, slots := 0, locals := 22 } : Room) mo Pm [] S (.double (meanValueX S).1) (meanValueX S).2 := by
  refine Ct_of (cc := cX8_meanValue) (own := RX8) [some (.ref mo), none, none, none] (by decide) rfl rfl (Nat.le_of_ble_eq_true rfl) (fun i9 v9 h9 => argL (.ref mo :: []) 3 rfl i9 v9 h9) ?_
  intro p e s m9 args below meth c9 h0 sz hI C hr hlk hinit
  have hin : ∀ w ∈ wsX80, w ∈ wsX8_meanValue := by decide +kernel
  refine V_weak (I2 := MI cC cI h0 mo Pm S) (fun x hx => by subst hx; exact ⟨hI, Fr.refl⟩) ?_
  obtain ⟨hwp, hwl, hwh, hwr, hws, hwt⟩ := id hmw
  obtain ⟨hw1, hw2, hw3, hw4, hw5, hw6⟩ := id hwp
  refine V_iconst (pc' := 1) C dX8_meanValue_0 rfl ?_
  refine V_istore1 (pc' := 2) C dX8_meanValue_1 rfl (by decide) rfl ?_
  refine V_iconst (pc' := 3) C dX8_meanValue_2 rfl ?_
  refine V_istore2 (pc' := 4) C dX8_meanValue_3 rfl (by decide) rfl ?_
  refine V_iconst (pc' := 5) C dX8_meanValue_4 rfl ?_
  refine V_istore3 (pc' := 6) C dX8_meanValue_5 rfl (by decide) rfl ?_
  refine V_for0 (N := 48) (fun j => MI cC cI h0 mo Pm (S)) (fun j => [some (.ref mo), some (.int (iI (smN S j))), some (.int (iI (cnN S j))), some (.int (iI j))]) (fun _ => True) trivial (fun h q => q) rfl (fun j hj hv hk => ?_) (fun hv => ?_)
  · have hc9 := hw6 j (by omega) (by omega)
    have sm9 := smN_in hwp j (by omega)
    have cn9 := cnN_in S j
    refine V_iload3 (pc' := 7) C dX8_meanValue_6 rfl ?_
    refine V_bipush (pc' := 9) C dX8_meanValue_7 rfl (by decide) ?_
    refine V_icmpge (tgt := 44) C (by first | omega | (simp [uA, uG, thS] <;> omega)) dX8_meanValue_9 (by decide) rfl (fun c_9 => ?_) (fun c_9 => ?_)
    · exact absurd c_9 (by omega)
    · refine V_iload1 (pc' := 13) C dX8_meanValue_12 rfl ?_
      refine V_aload0 (pc' := 14) C dX8_meanValue_13 rfl ?_
      refine mGetA (pc' := 17) 0 C hin (by decide) (by decide +kernel) dX8_meanValue_14 rfl ?_
      refine V_iload3 (pc' := 18) C dX8_meanValue_17 rfl ?_
      refine mLd (pc' := 19) (n := 48) 0 C (by decide) rfl (by first | omega | (simp [uA, uG, thS] <;> omega)) dX8_meanValue_18 rfl ?_
      refine V_iadd (pc' := 20) C dX8_meanValue_19 rfl ?_
      refine V_istore1 (pc' := 21) C dX8_meanValue_20 rfl (by decide) rfl ?_
      refine V_iload2 (pc' := 22) C dX8_meanValue_21 rfl ?_
      refine V_aload0 (pc' := 23) C dX8_meanValue_22 rfl ?_
      refine mGetA (pc' := 26) 0 C hin (by decide) (by decide +kernel) dX8_meanValue_23 rfl ?_
      refine V_iload3 (pc' := 27) C dX8_meanValue_26 rfl ?_
      refine mLd (pc' := 28) (n := 48) 0 C (by decide) rfl (by first | omega | (simp [uA, uG, thS] <;> omega)) dX8_meanValue_27 rfl ?_
      refine V_ifne (tgt := 35) C (by first | omega | (simp [uA, uG, thS] <;> omega)) dX8_meanValue_28 (by decide) rfl (fun c_28 => ?_) (fun c_28 => ?_)
      · refine V_iconst (pc' := 36) C dX8_meanValue_35 rfl ?_
        refine V_iadd (pc' := 37) C dX8_meanValue_36 rfl ?_
        refine V_istore2 (pc' := 38) C dX8_meanValue_37 rfl (by decide) rfl ?_
        refine V_iinc3 (pc' := 41) C dX8_meanValue_38 rfl (by decide) rfl ?_
        refine V_goto (tgt := 6) C dX8_meanValue_41 (by decide) ?_
        exact V_conv (fun h q => q) (by simp_all [smN, cnN]) (hk trivial)
      · refine V_iconst (pc' := 32) C dX8_meanValue_31 rfl ?_
        refine V_goto (tgt := 36) C dX8_meanValue_32 (by decide) ?_
        refine V_iadd (pc' := 37) C dX8_meanValue_36 rfl ?_
        refine V_istore2 (pc' := 38) C dX8_meanValue_37 rfl (by decide) rfl ?_
        refine V_iinc3 (pc' := 41) C dX8_meanValue_38 rfl (by decide) rfl ?_
        refine V_goto (tgt := 6) C dX8_meanValue_41 (by decide) ?_
        exact V_conv (fun h q => q) (by simp_all [smN, cnN]) (hk trivial)
  · have sm9 := smN_in hwp 48 (by omega)
    have cn9 := cnN_in S 48
    refine V_iload3 (pc' := 7) C dX8_meanValue_6 rfl ?_
    refine V_bipush (pc' := 9) C dX8_meanValue_7 rfl (by decide) ?_
    refine V_icmpge (tgt := 44) C (by first | omega | (simp [uA, uG, thS] <;> omega)) dX8_meanValue_9 (by decide) rfl (fun c_9 => ?_) (fun c_9 => ?_)
    · refine V_aload0 (pc' := 45) C dX8_meanValue_44 rfl ?_
      refine V_iload2 (pc' := 46) C dX8_meanValue_45 rfl ?_
      refine V_ifne (tgt := 53) C (by first | omega | (simp [uA, uG, thS] <;> omega)) dX8_meanValue_46 (by decide) rfl (fun c_46 => ?_) (fun c_46 => ?_)
      · refine V_iconst (pc' := 54) C dX8_meanValue_53 rfl ?_
        refine V_iconst (pc' := 55) C dX8_meanValue_54 rfl ?_
        refine mCallF2 (pc' := 58) C (kX8_isThrown false _ ) gX8_meanValue_X8_isThrown rfl ydX8_isThrown ⟨Nat.le_of_ble_eq_true rfl, Nat.le_of_ble_eq_true rfl⟩ ⟨rfl, rfl⟩ (Nat.le_of_ble_eq_true rfl) dX8_meanValue_55 ⟨Nat.zero_le _, Nat.zero_le _⟩ rfl ?_
        refine V_ifeqB (tgt := 65) C dX8_meanValue_58 (by decide) rfl (fun c_58 => ?_) (fun c_58 => ?_)
        · refine V_weak (I2 := MI cC cI h0 mo Pm (uG S 31 0)) (fun h q => by first | exact q | (simpa [thS, uG_uG] using q)) ?_
          refine V_iload1 (pc' := 66) C dX8_meanValue_65 rfl ?_
          refine V_i2d (pc' := 67) C dX8_meanValue_66 rfl ?_
          refine V_iload2 (pc' := 68) C dX8_meanValue_67 rfl ?_
          refine V_i2d (pc' := 69) C dX8_meanValue_68 rfl ?_
          refine V_ddiv (pc' := 70) C (by first | omega | (simp [uA, uG, thS] <;> omega)) dX8_meanValue_69 rfl ?_
          exact mEndd C hr hlk ⟨Nat.le_refl _, Nat.le_refl _⟩ dX8_meanValue_70 (by first | (unfold meanValueX; rw [if_neg (by omega)]; done) | (unfold meanValueX; rw [if_pos (by omega)]; simp [thS]; done))
        · exact absurd c_58 (by decide)
      · refine V_iconst (pc' := 50) C dX8_meanValue_49 rfl ?_
        refine V_goto (tgt := 54) C dX8_meanValue_50 (by decide) ?_
        refine V_iconst (pc' := 55) C dX8_meanValue_54 rfl ?_
        refine mCallF2 (pc' := 58) C (kX8_isThrown true _ ) gX8_meanValue_X8_isThrown rfl ydX8_isThrown ⟨Nat.le_of_ble_eq_true rfl, Nat.le_of_ble_eq_true rfl⟩ ⟨rfl, rfl⟩ (Nat.le_of_ble_eq_true rfl) dX8_meanValue_55 ⟨Nat.zero_le _, Nat.zero_le _⟩ rfl ?_
        refine V_ifeqB (tgt := 65) C dX8_meanValue_58 (by decide) rfl (fun c_58 => ?_) (fun c_58 => ?_)
        · exact absurd c_58 (by decide)
        · refine V_dconst (pc' := 62) C dX8_meanValue_61 rfl ?_
          refine V_goto (tgt := 70) C dX8_meanValue_62 (by decide) ?_
          exact mEndd C hr hlk ⟨Nat.le_refl _, Nat.le_refl _⟩ dX8_meanValue_70 (by first | (unfold meanValueX; rw [if_neg (by omega)]; done) | (unfold meanValueX; rw [if_pos (by omega)]; simp [thS]; done))
    · exact absurd c_9 (by omega)
end

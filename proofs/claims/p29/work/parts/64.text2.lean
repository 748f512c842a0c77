/-! the text: inherited methods, a super's methods, bytes -/
section VU9
variable {p : Program} {l : Launch} {e : Env} {R : Room} {s : State} {m : MethodId} {args : Array Value} {below : List Frame} {meth : Method} {c : Code} {cells slots : Nat} {Q : State → Prop} {D : va_G} {tys : List (ClassId × FieldType)} {A : Nat → Prop} {nL : Nat} {cc : ByteArray} {Ts : List Cond} {own : String} {ee : Nat × Nat}
variable {I : Hp → Prop} {pc pc' : Nat} {L : List (Option Value)} {st : List Value}
theorem V_callU {Cn owner : String} {T : u_T} {N ci b idx n mc ms maxL : Nat} {x y : MethodName} {ws ws' : List Cond} {rm : Room} {bytes : ByteArray} {ret : Option FieldType} {I' : Hp → Prop} {J : Hp → Option Value → Hp → Prop} {st0 : List Value} (As : List Value) (C : Cx p m c cc nL s args Ts own D tys A ee) (hM : Ct l y ws rm D tys ee (.ref b :: As) I' J mc ms) (hG : GoodIn Ts (va_wsU own idx Cn owner x y ws)) (hw : ws = Cond.code y bytes maxL ret :: ws') (hyx : y = ⟨owner, x.name, x.desc⟩) (hd : owner ≠ "java/lang/invoke/MethodHandle" ∧ owner ≠ "java/lang/invoke/VarHandle" ∧ (parseMethodDescriptor x.desc).map (fun d => d.parameters.length) = some n) (hR : rm.frames + 1 ≤ R.frames ∧ 8 + (maxL + 11) + rm.locals ≤ R.locals) (hcs : rm.cells = mc ∧ rm.slots = ms) (hn : As.length = n) (hc : vwCl[ci]? = some (Cn, T, N)) (hrec : ∀ h, I h → ∃ t fs, h b = some (t, .inr (ci, fs))) (hpre : ∀ h, I h → I' h) (hst : st0 = As.reverse ++ .ref b :: st) (hcat : (st.map fun v => v.category).sum ≤ 8) (d : decode cc pc = .ok (.invokevirtual idx, 3)) (hroom : cells + mc ≤ R.cells ∧ slots + ms ≤ R.slots)
    (k : ∀ (h : Hp) (v : Option Value) (h' : Hp), I h → J h v h' → Vx p l e R s m args below meth c (cells + mc) (slots + ms) Q D A nL (fun x => x = h') (pc + 3) L (v.toList ++ st)) : Vx p l e R s m args below meth c cells slots Q D A nL I pc L st0 := by
  intro h H locs ls hI hW hS hL
  obtain ⟨t, fs, hb⟩ := hrec h hI
  obtain ⟨wsx, hP, hD, hwk⟩ := id hW
  obtain ⟨q0, hq⟩ := hwk b t _ hb
  have hl1 : ls.size = nL := by obtain ⟨lx, h1, -⟩ := hL; exact h1.1
  exact V_run hI hW hS C.2.2.1 hL (va_runU (As := As) (rest := st) C.1 (hM h H.size (hpre h hI)) (va_cwU n C.1.2.2.2.2 hG hw hcs.1 hcs.2 hyx hd hR) ⟨ctPc_blind, va_recv C.2.1 hP hc hq, fun U hU hWm => ⟨rfl, by rw [hU], by rw [hU]; exact hpW_weak (fun _ _ => trivial) hW, va_K.moved hWm.alike C.2.1, EV.warm hWm (by rw [hU]; exact (EV.kept C.2.2.2 hS.2.1).narrow (hA_sub hW hS C.2.2.1))⟩⟩ rfl hn hl1 hst (lv_room hcat) d hroom) (fun v h' _ hJ => k h v h' hI hJ)
theorem V_callSU {Cn : String} {T : u_T} {N ci b idx n mc ms maxL : Nat} {y : MethodName} {ws ws' : List Cond} {rm : Room} {bytes : ByteArray} {ret : Option FieldType} {I' : Hp → Prop} {J : Hp → Option Value → Hp → Prop} {st0 : List Value} (As : List Value) (C : Cx p m c cc nL s args Ts own D tys A ee) (hM : Ct l y ws rm D tys ee (.ref b :: As) I' J mc ms) (hG : GoodIn Ts (va_wsSU own idx y ws)) (hw : ws = Cond.code y bytes maxL ret :: ws') (hd : y.name ≠ "<init>" ∧ (parseMethodDescriptor y.desc).map (fun d => d.parameters.length) = some n) (hR : rm.frames + 1 ≤ R.frames ∧ 8 + (maxL + 11) + rm.locals ≤ R.locals) (hcs : rm.cells = mc ∧ rm.slots = ms) (hn : As.length = n) (hc : vwCl[ci]? = some (Cn, T, N)) (hrec : ∀ h, I h → ∃ t fs, h b = some (t, .inr (ci, fs))) (hpre : ∀ h, I h → I' h) (hst : st0 = As.reverse ++ .ref b :: st) (hcat : (st.map fun v => v.category).sum ≤ 8) (d : decode cc pc = .ok (.invokespecial idx, 3)) (hroom : cells + mc ≤ R.cells ∧ slots + ms ≤ R.slots)
    (k : ∀ (h : Hp) (v : Option Value) (h' : Hp), I h → J h v h' → Vx p l e R s m args below meth c (cells + mc) (slots + ms) Q D A nL (fun x => x = h') (pc + 3) L (v.toList ++ st)) : Vx p l e R s m args below meth c cells slots Q D A nL I pc L st0 := by
  intro h H locs ls hI hW hS hL
  obtain ⟨t, fs, hb⟩ := hrec h hI
  obtain ⟨wsx, hP, hD, hwk⟩ := id hW
  obtain ⟨q0, hq⟩ := hwk b t _ hb
  have hl1 : ls.size = nL := by obtain ⟨lx, h1, -⟩ := hL; exact h1.1
  exact V_run hI hW hS C.2.2.1 hL (va_runSU (C := Cn) (As := As) (rest := st) (C.2.1.1 ci _ hc).2 C.1 (hM h H.size (hpre h hI)) (va_cwSU n C.1.2.2.2.2 hG hw hcs.1 hcs.2 hd hR) ⟨ctPc_blind, va_recv C.2.1 hP hc hq, fun U hU hWm => ⟨rfl, by rw [hU], by rw [hU]; exact hpW_weak (fun _ _ => trivial) hW, va_K.moved hWm.alike C.2.1, EV.warm hWm (by rw [hU]; exact (EV.kept C.2.2.2 hS.2.1).narrow (hA_sub hW hS C.2.2.1))⟩⟩ rfl hn hl1 hst (lv_room hcat) d hroom) (fun v h' _ hJ => k h v h' hI hJ)
theorem V_ishr0 {x : Int} (C : Cx p m c cc nL s args Ts own D tys A ee) (d : decode cc pc = .ok (.ishr, 1)) (e0 : pc + 1 = pc') (k : Vx p l e R s m args below meth c cells slots Q D A nL I pc' L (.int (iI x) :: st)) : Vx p l e R s m args below meth c cells slots Q D A nL I pc L (.int (iI 0) :: .int (iI x) :: st) := by
  subst e0
  refine V_of (fun H locs ls hl kk => lv_ishr C.1.1 C.1.2.1 d ?_) k
  rw [show iI x >>> (iI 0 &&& 31) = iI x by
    rw [show iI 0 &&& 31 = (0 : Int32) by decide]
    exact Int32.shiftRight_zero]
  exact kk
theorem by_n : ∀ n : Nat, n < 128 → vp_nar .byte (nI n) = nI n ∧ (nI n).toInt8.toInt32 = nI n ∧ nI n &&& nI 255 = nI n := by decide +kernel
theorem by_nar {z : Int} (h : 0 ≤ z ∧ z < 128) : vp_nar .byte (iI z) = iI z := by
  rw [iI_nI h.1]
  exact (by_n _ (by omega)).1
theorem V_i2b {x : Int} (C : Cx p m c cc nL s args Ts own D tys A ee) (hr : 0 ≤ x ∧ x < 128) (d : decode cc pc = .ok (.i2b, 1)) (e0 : pc + 1 = pc') (k : Vx p l e R s m args below meth c cells slots Q D A nL I pc' L (.int (iI x) :: st)) : Vx p l e R s m args below meth c cells slots Q D A nL I pc L (.int (iI x) :: st) := by
  subst e0
  exact V_of (fun H locs ls hl kk => lv_i2b (v := iI x) C.1.1 C.1.2.1 d (by rw [iI_nI hr.1]; exact (by_n _ (by omega)).2.1) kk) k
theorem V_iand255 {x : Int} (C : Cx p m c cc nL s args Ts own D tys A ee) (hr : 0 ≤ x ∧ x < 128) (d : decode cc pc = .ok (.iand, 1)) (e0 : pc + 1 = pc') (k : Vx p l e R s m args below meth c cells slots Q D A nL I pc' L (.int (iI x) :: st)) : Vx p l e R s m args below meth c cells slots Q D A nL I pc L (.int (iI 255) :: .int (iI x) :: st) := by
  subst e0
  refine V_of (fun H locs ls hl kk => lv_iand C.1.1 C.1.2.1 d ?_) k
  rw [show iI x &&& iI 255 = iI x by rw [iI_nI hr.1, show iI 255 = nI 255 by decide]; exact (by_n _ (by omega)).2.2]
  exact kk
theorem iI_divN {a : Int} (ha : 0 ≤ a) (h9 : a ≤ 2147483647) : iI (-a) / iI 100 = iI (-(a / 100)) := by
  have hq : 0 ≤ a / 100 ∧ a / 100 ≤ a := ⟨by omega, by omega⟩
  apply Int32.toInt_inj.mp
  rw [Int32.toInt_div, iI_toInt (by omega), iI_toInt (by decide), iI_toInt (by omega), Int.neg_tdiv, Int.tdiv_eq_ediv_of_nonneg ha]
  exact Int.bmod_eq_of_le (by omega) (by omega)
theorem V_idivN {a : Int} (C : Cx p m c cc nL s args Ts own D tys A ee) (hr : 0 ≤ a ∧ a ≤ 2147483647) (d : decode cc pc = .ok (.idiv, 1)) (e0 : pc + 1 = pc') (k : Vx p l e R s m args below meth c cells slots Q D A nL I pc' L (.int (iI (-(a / 100))) :: st)) : Vx p l e R s m args below meth c cells slots Q D A nL I pc L (.int (iI 100) :: .int (iI (-a)) :: st) := by
  subst e0
  exact V_of (fun H locs ls hl kk => lv_idiv C.1.1 C.1.2.1 d (by decide) (by rw [iI_divN hr.1 hr.2]; exact kk)) k
end VU9
theorem hup_id {h : Hp} {a : Nat} {x : Nat × va_E} (e : h a = some x) : hup h a x = h := by
  funext b
  unfold hup
  by_cases q : b = a
  · rw [if_pos q, q, e]
  · rw [if_neg q]
/-- the class's text and the reference's -/
def agr (g : Int → Int) (S : MSt) : Prop := ∀ z, 0 ≤ z → z < S.2 30 → g z = S.1 21 z
theorem agr_ch {g : Int → Int} {S : MSt} (h : agr g S) (c : Int) : agr (upZ g (S.2 30) c) (wrS S c) := fun z z0 z1 => by
  rw [wrS_30] at z1
  show upZ g (S.2 30) c z = upZ (S.1 21) (S.2 30) c z
  by_cases q : z = S.2 30
  · rw [q, upZ_s, upZ_s]
  · rw [upZ_n q, upZ_n q]
    exact h z z0 (by omega)
def szI (i : Int) : Int := (if i < 0 then 1 else 0) + (if absI i < 10 then 1 else if absI i < 100 then 2 else if absI i < 1000 then 3 else 4)
theorem wr_21 (S : MSt) (c : Int) : (wrS S c).1 21 = upZ (S.1 21) (S.2 30) c := by unfold wrS; rw [uG_1, uA_s]
theorem dig1 {S : MSt} {a : Int} (h : 0 ≤ a ∧ a < 10) : digN 4 S a = wrS S (48 + a % 10) := by
  show wrS (if 9 < a then _ else S) _ = _
  rw [if_neg (by omega)]
theorem dig2 {S : MSt} {a : Int} (h : 10 ≤ a ∧ a < 100) : digN 4 S a = wrS (wrS S (48 + a / 10 % 10)) (48 + a % 10) := by
  show wrS (if 9 < a then wrS (if 9 < a / 10 then _ else S) _ else S) _ = _
  rw [if_pos (by omega), if_neg (by omega)]
theorem dig3 {S : MSt} {a : Int} (h : 100 ≤ a ∧ a < 1000) : digN 4 S a = wrS (wrS (wrS S (48 + a / 10 / 10 % 10)) (48 + a / 10 % 10)) (48 + a % 10) := by
  show wrS (if 9 < a then wrS (if 9 < a / 10 then wrS (if 9 < a / 10 / 10 then _ else S) _ else S) _ else S) _ = _
  rw [if_pos (by omega), if_pos (by omega), if_neg (by omega)]
theorem dig4 {S : MSt} {a : Int} (h : 1000 ≤ a ∧ a < 10000) : digN 4 S a = wrS (wrS (wrS (wrS S (48 + a / 10 / 10 / 10 % 10)) (48 + a / 10 / 10 % 10)) (48 + a / 10 % 10)) (48 + a % 10) := by
  show wrS (if 9 < a then wrS (if 9 < a / 10 then wrS (if 9 < a / 10 / 10 then wrS (if 9 < a / 10 / 10 / 10 then _ else S) _ else S) _ else S) _ else S) _ = _
  rw [if_pos (by omega), if_pos (by omega), if_pos (by omega), if_neg (by omega)]
theorem szI_p {a : Int} (h : 0 ≤ a) : szI a = if a < 10 then 1 else if a < 100 then 2 else if a < 1000 then 3 else 4 := by
  unfold szI absI
  rw [if_neg (by omega), if_pos h, Int.zero_add]
theorem szI_m {a : Int} (h : 0 < a) : szI (-a) = 1 + if a < 10 then 1 else if a < 100 then 2 else if a < 1000 then 3 else 4 := by
  have e : absI (-a) = a := by unfold absI; rw [if_neg (by omega), Int.neg_neg]
  unfold szI
  rw [e, if_pos (by omega)]
theorem num_p {S : MSt} {a : Int} (h : 0 ≤ a) : numS S a = digN 4 S a := by
  unfold numS absI
  rw [if_pos h, if_pos h]
theorem num_m {S : MSt} {a : Int} (h : 0 < a) : numS S (-a) = digN 4 (wrS S 45) a := by
  unfold numS absI
  rw [if_neg (by omega), if_neg (by omega), Int.neg_neg]
/-- what a number's writing owes: the text goes on as the reference's -/
def nmW (g g' : Int → Int) (n i : Int) : Prop := ∀ S : MSt, S.2 30 = n → agr g S → agr g' (numS S i) ∧ (numS S i).2 30 = n + szI i
theorem lf_p1 {g : Int → Int} {n p a : Int} (hn : 0 ≤ n) (h : 0 ≤ a ∧ a < 10) (hp : p = n + 1) : nmW g (upZ (g) (p + (-1)) (48 + a % 10)) n a := fun S hS hA => by
  rw [num_p (by omega), dig1 ⟨by omega, h.2⟩, szI_p (by omega), if_pos h.2]
  refine ⟨fun z z0 z1 => ?_, by simp only [wrS_30]; omega⟩
  simp only [wrS_30] at z1
  simp only [wr_21, wrS_30, hS, hp]
  unfold upZ
  repeat' split
  all_goals first | omega | exact hA z z0 (by omega)
theorem lf_p2 {g : Int → Int} {n p a : Int} (hn : 0 ≤ n) (h : 10 ≤ a ∧ a < 100) (hp : p = n + 2) : nmW g (upZ (upZ (g) (p + (-1)) (48 + a % 10)) (p + (-1) + (-1)) (48 + a / 10)) n a := fun S hS hA => by
  rw [num_p (by omega), dig2 ⟨by omega, h.2⟩, szI_p (by omega), if_neg (by omega), if_pos h.2]
  refine ⟨fun z z0 z1 => ?_, by simp only [wrS_30]; omega⟩
  simp only [wrS_30] at z1
  simp only [wr_21, wrS_30, hS, hp]
  unfold upZ
  repeat' split
  all_goals first | omega | exact hA z z0 (by omega)
theorem lf_p3 {g : Int → Int} {n p a : Int} (hn : 0 ≤ n) (h : 100 ≤ a ∧ a < 1000) (hp : p = n + 3) : nmW g (upZ (upZ (upZ (g) (p + (-1)) (48 + a % 100 % 10)) (p + (-1) + (-1)) (48 + a % 100 / 10)) (p + (-1) + (-1) + (-1)) (48 + a / 100 % 10)) n a := fun S hS hA => by
  rw [num_p (by omega), dig3 ⟨by omega, h.2⟩, szI_p (by omega), if_neg (by omega), if_neg (by omega), if_pos h.2]
  refine ⟨fun z z0 z1 => ?_, by simp only [wrS_30]; omega⟩
  simp only [wrS_30] at z1
  simp only [wr_21, wrS_30, hS, hp]
  unfold upZ
  repeat' split
  all_goals first | omega | exact hA z z0 (by omega)
theorem lf_p4 {g : Int → Int} {n p a : Int} (hn : 0 ≤ n) (h : 1000 ≤ a ∧ a < 10000) (hp : p = n + 4) : nmW g (upZ (upZ (upZ (upZ (g) (p + (-1)) (48 + a % 100 % 10)) (p + (-1) + (-1)) (48 + a % 100 / 10)) (p + (-1) + (-1) + (-1)) (48 + a / 100 % 10)) (p + (-1) + (-1) + (-1) + (-1)) (48 + a / 100 / 10)) n a := fun S hS hA => by
  rw [num_p (by omega), dig4 ⟨by omega, h.2⟩, szI_p (by omega), if_neg (by omega), if_neg (by omega), if_neg (by omega)]
  refine ⟨fun z z0 z1 => ?_, by simp only [wrS_30]; omega⟩
  simp only [wrS_30] at z1
  simp only [wr_21, wrS_30, hS, hp]
  unfold upZ
  repeat' split
  all_goals first | omega | exact hA z z0 (by omega)
theorem lf_m1 {g : Int → Int} {n p a : Int} (hn : 0 ≤ n) (h : 0 < a ∧ a < 10) (hp : p = n + 2) : nmW g (upZ (upZ (g) (p + (-1)) (48 + a % 10)) (p + (-1) + (-1)) 45) n (-a) := fun S hS hA => by
  rw [num_m (by omega), dig1 ⟨by omega, h.2⟩, szI_m (by omega), if_pos h.2]
  refine ⟨fun z z0 z1 => ?_, by simp only [wrS_30]; omega⟩
  simp only [wrS_30] at z1
  simp only [wr_21, wrS_30, hS, hp]
  unfold upZ
  repeat' split
  all_goals first | omega | exact hA z z0 (by omega)
theorem lf_m2 {g : Int → Int} {n p a : Int} (hn : 0 ≤ n) (h : 10 ≤ a ∧ a < 100) (hp : p = n + 3) : nmW g (upZ (upZ (upZ (g) (p + (-1)) (48 + a % 10)) (p + (-1) + (-1)) (48 + a / 10)) (p + (-1) + (-1) + (-1)) 45) n (-a) := fun S hS hA => by
  rw [num_m (by omega), dig2 ⟨by omega, h.2⟩, szI_m (by omega), if_neg (by omega), if_pos h.2]
  refine ⟨fun z z0 z1 => ?_, by simp only [wrS_30]; omega⟩
  simp only [wrS_30] at z1
  simp only [wr_21, wrS_30, hS, hp]
  unfold upZ
  repeat' split
  all_goals first | omega | exact hA z z0 (by omega)
theorem lf_m3 {g : Int → Int} {n p a : Int} (hn : 0 ≤ n) (h : 100 ≤ a ∧ a < 1000) (hp : p = n + 4) : nmW g (upZ (upZ (upZ (upZ (g) (p + (-1)) (48 + a % 100 % 10)) (p + (-1) + (-1)) (48 + a % 100 / 10)) (p + (-1) + (-1) + (-1)) (48 + a / 100 % 10)) (p + (-1) + (-1) + (-1) + (-1)) 45) n (-a) := fun S hS hA => by
  rw [num_m (by omega), dig3 ⟨by omega, h.2⟩, szI_m (by omega), if_neg (by omega), if_neg (by omega), if_pos h.2]
  refine ⟨fun z z0 z1 => ?_, by simp only [wrS_30]; omega⟩
  simp only [wrS_30] at z1
  simp only [wr_21, wrS_30, hS, hp]
  unfold upZ
  repeat' split
  all_goals first | omega | exact hA z z0 (by omega)
theorem lf_m4 {g : Int → Int} {n p a : Int} (hn : 0 ≤ n) (h : 1000 ≤ a ∧ a < 10000) (hp : p = n + 5) : nmW g (upZ (upZ (upZ (upZ (upZ (g) (p + (-1)) (48 + a % 100 % 10)) (p + (-1) + (-1)) (48 + a % 100 / 10)) (p + (-1) + (-1) + (-1)) (48 + a / 100 % 10)) (p + (-1) + (-1) + (-1) + (-1)) (48 + a / 100 / 10)) (p + (-1) + (-1) + (-1) + (-1) + (-1)) 45) n (-a) := fun S hS hA => by
  rw [num_m (by omega), dig4 ⟨by omega, h.2⟩, szI_m (by omega), if_neg (by omega), if_neg (by omega), if_neg (by omega)]
  refine ⟨fun z z0 z1 => ?_, by simp only [wrS_30]; omega⟩
  simp only [wrS_30] at z1
  simp only [wr_21, wrS_30, hS, hp]
  unfold upZ
  repeat' split
  all_goals first | omega | exact hA z z0 (by omega)

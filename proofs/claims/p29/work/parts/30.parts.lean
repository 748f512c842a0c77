/-! the class's parts: cells, steps, ranges, rules, the history -/
/-- a copy within int arrays -/
def cpyZ (f g : Int → Int) (sp dp n : Int) : Int → Int := fun z => if dp ≤ z ∧ z < dp + n then f (sp + (z - dp)) else g z
section VCP
variable {p : Program} {l : Launch} {e : Env} {R : Room} {s : State} {m : MethodId} {args : Array Value} {below : List Frame} {meth : Method} {c : Code} {cells slots : Nat} {Q : State → Prop} {D : va_G} {tys : List (ClassId × FieldType)} {A : Nat → Prop} {nL : Nat} {cc : ByteArray} {Ts : List Cond} {own : String} {ee : Nat × Nat}
variable {I : Hp → Prop} {pc pc' : Nat} {L : List (Option Value)} {st : List Value}
theorem iF_cpy {f g : Int → Int} {sp dp n : Int} (h1 : 0 ≤ sp ∧ rI sp) (h2 : 0 ≤ dp ∧ rI dp) (h3 : 0 ≤ n ∧ rI n) : va_cpy (iF f) (iF g) (iI sp).toNatClampNeg (iI dp).toNatClampNeg (iI n).toNatClampNeg = iF (cpyZ f g sp dp n) := by
  rw [iI_cl h1.2, iI_cl h2.2, iI_cl h3.2]
  funext k
  unfold va_cpy iF cpyZ
  by_cases q : dp.toNat ≤ k ∧ k < dp.toNat + n.toNat
  · rw [if_pos q, if_pos (by omega)]
    congr 2
    omega
  · rw [if_neg q, if_neg (by omega)]
theorem V_copyi {cA cB : ClassId} {a b n0 n1 index : Nat} {f g : Int → Int} {sp dp n : Int} {I2 : Hp → Prop} (C : Cx p m c cc nL s args Ts own D tys A ee) (h1 : Cond.methodLink own index arraycopyName ∈ Ts) (h2 : Cond.native arraycopyName ∈ Ts) (h3 : Cond.static arraycopyName ∈ Ts) (h4 : Cond.initialized "java/lang/System" ∈ Ts) (t0 t1 : Nat) (ht0 : tys[t0]? = some (cA, .int)) (ht1 : tys[t1]? = some (cB, .int)) (he : ∀ h, I h → ∃ ta tb, h a = some (ta, .inl (cA, n0, .inl (iF f))) ∧ h b = some (tb, .inl (cB, n1, .inl (iF g))) ∧ I2 (hup h b (tb, .inl (cB, n1, .inl (iF (cpyZ f g sp dp n)))))) (hb : 0 ≤ sp ∧ 0 ≤ dp ∧ 0 ≤ n ∧ sp + n ≤ n0 ∧ dp + n ≤ n1 ∧ n0 ≤ 2147483647 ∧ n1 ≤ 2147483647) (hf : 1 ≤ R.frames ∧ (st.map fun v => v.category).sum + (nativeFrameWords "java/lang/System" "arraycopy" 5 + 11) ≤ R.locals) (d : decode cc pc = .ok (.invokestatic index, 3)) (e0 : pc + 3 = pc') (kk : Vx p l e R s m args below meth c cells slots Q D A nL I2 pc' L st) : Vx p l e R s m args below meth c cells slots Q D A nL I pc L (.int (iI n) :: .int (iI dp) :: .ref b :: .int (iI sp) :: .ref a :: st) := by
  subst e0
  have hts := C.1.2.2.2.2
  intro h H locs ls hI hW hS hL
  obtain ⟨ta, tb, q1, q2, q3⟩ := he h hI
  obtain ⟨ws, hP, hD, hw⟩ := id hW
  obtain ⟨ka, hka⟩ := hw a ta _ q1
  obtain ⟨kb, hkb⟩ := hw b tb _ q2
  have hl1 : ls.size = nL := by obtain ⟨lx, h1, -⟩ := hL; exact h1.1
  have r1 : rI sp := by omega
  have r2 : rI dp := by omega
  have r3 : rI n := by omega
  refine va_copyi C.1.1 C.1.2.1 (C.1.2.2.1.trans hl1.symm) C.1.2.2.2.1 (hts _ h1) (hts _ h2) (hts _ h3) (hts _ h4) C.2.1 hP hD hS ka kb t0 t1 hka hkb ht0 ht1 rfl ?_ ?_ ?_ ?_ ?_ (fun i hi => rfl) hf.1 hf.2 d (fun H1 locs1 p1 d1 s1 => ?_)
  · rw [← iI_0, iI_lt r1 (by decide)]
    omega
  · rw [← iI_0, iI_lt r2 (by decide)]
    omega
  · rw [← iI_0, iI_lt r3 (by decide)]
    omega
  · rw [iI_cl r1, iI_cl r3]
    omega
  · rw [iI_cl r2, iI_cl r3]
    omega
  rw [iF_cpy ⟨hb.1, r1⟩ ⟨hb.2.1, r2⟩ ⟨hb.2.2.1, r3⟩] at p1 d1
  exact kk _ H1 locs1 ls q3 ⟨_, p1, d1, hpW_set hD hw hkb⟩ s1 hL
end VCP
def CeH (cI : ClassId) (a v t : Nat) (f : Int → Int) (h : Hp) : Prop := h a = some (t, .inr (6, [.ref v])) ∧ h v = some (t + 1, .inl (cI, 48, .inl (iF f)))
def tC (t : Nat) : Nat → Prop := fun u => u = t ∨ u = t + 1
theorem tC_1 {t : Nat} : tC t t := Or.inl rfl
theorem tC_2 {t : Nat} : tC t (t + 1) := Or.inr rfl
theorem CeH.fr {cI : ClassId} {a v t : Nat} {f : Int → Int} {h h' : Hp} {T : Nat → Prop} (H : CeH cI a v t f h) (hF : Fr T h h') (h1 : ¬ T t) (h2 : ¬ T (t + 1)) : CeH cI a v t f h' := ⟨hF _ _ _ H.1 h1, hF _ _ _ H.2 h2⟩
theorem CeH.ne {cI : ClassId} {a v t : Nat} {f : Int → Int} {h : Hp} (H : CeH cI a v t f h) : a ≠ v := fun z => by
  have := H.1
  rw [z, H.2] at this
  cases this
theorem CeH.up {cI : ClassId} {a v t : Nat} {f g : Int → Int} {h : Hp} (H : CeH cI a v t f h) : CeH cI a v t g (hup h v (t + 1, .inl (cI, 48, .inl (iF g)))) := ⟨by rw [hup_n H.ne]; exact H.1, hup_s⟩
/-- what a step makes of a cell -/
def vbI (k n b0 b : Int) : Int := if k = 99 then b else if k = 97 then b0 + n else n
def holdsB (c0 r0 c1 r1 c r : Int) : Bool := decide (c0 ≤ c) && decide (c ≤ c1) && decide (r0 ≤ r) && decide (r ≤ r1)
/-- the history: where its actions begin, and how many there are -/
def HiH (cI : ClassId) (a v t : Nat) (f : Int → Int) (n : Int) (h : Hp) : Prop := h a = some (t, .inr (7, [.ref v, .int (iI n)])) ∧ h v = some (t + 1, .inl (cI, 8, .inl (iF f)))
theorem HiH.fr {cI : ClassId} {a v t : Nat} {f : Int → Int} {n : Int} {h h' : Hp} {T : Nat → Prop} (H : HiH cI a v t f n h) (hF : Fr T h h') (h1 : ¬ T t) (h2 : ¬ T (t + 1)) : HiH cI a v t f n h' := ⟨hF _ _ _ H.1 h1, hF _ _ _ H.2 h2⟩
theorem HiH.ne {cI : ClassId} {a v t : Nat} {f : Int → Int} {n : Int} {h : Hp} (H : HiH cI a v t f n h) : a ≠ v := fun z => by
  have := H.1
  rw [z, H.2] at this
  cases this
theorem HiH.up {cI : ClassId} {a v t : Nat} {f g : Int → Int} {n : Int} {h : Hp} (H : HiH cI a v t f n h) : HiH cI a v t g n (hup h v (t + 1, .inl (cI, 8, .inl (iF g)))) := ⟨by rw [hup_n H.ne]; exact H.1, hup_s⟩
theorem HiH.put {cI : ClassId} {a v t : Nat} {f : Int → Int} {n n' : Int} {h : Hp} (H : HiH cI a v t f n h) : HiH cI a v t f n' (hup h a (t, .inr (7, [.ref v, .int (iI n')]))) := ⟨hup_s, by rw [hup_n H.ne.symm]; exact H.2⟩
def keepF (f : Int → Int) (n x : Int) : Int → Int := if 8 ≤ n then upZ (cpyZ f f 1 0 7) 7 x else upZ f n x
def keepN (n : Int) : Int := if 8 ≤ n then 8 else n + 1
theorem fit_c {z : Int} (h0 : 0 ≤ z) (h1 : z < 65536) : fits .char (.int (iI z)) = true := by
  rw [iI_nI h0]
  exact (pk_charN (by omega)).2
theorem ydX1_isPlace : yX1_isPlace.cls = RX1 ∧ yX1_isPlace.cls ≠ "java/lang/invoke/MethodHandle" ∧ yX1_isPlace.cls ≠ "java/lang/invoke/VarHandle" ∧ (parseMethodDescriptor yX1_isPlace.desc).map (fun d => d.parameters.length) = some 1 := by decide +kernel
theorem ydX1_valueAt : yX1_valueAt.cls = RX1 ∧ yX1_valueAt.cls ≠ "java/lang/invoke/MethodHandle" ∧ yX1_valueAt.cls ≠ "java/lang/invoke/VarHandle" ∧ (parseMethodDescriptor yX1_valueAt.desc).map (fun d => d.parameters.length) = some 1 := by decide +kernel
theorem ydX1_put : yX1_put.cls = RX1 ∧ yX1_put.cls ≠ "java/lang/invoke/MethodHandle" ∧ yX1_put.cls ≠ "java/lang/invoke/VarHandle" ∧ (parseMethodDescriptor yX1_put.desc).map (fun d => d.parameters.length) = some 2 := by decide +kernel
theorem ydX1_copyFrom : yX1_copyFrom.cls = RX1 ∧ yX1_copyFrom.cls ≠ "java/lang/invoke/MethodHandle" ∧ yX1_copyFrom.cls ≠ "java/lang/invoke/VarHandle" ∧ (parseMethodDescriptor yX1_copyFrom.desc).map (fun d => d.parameters.length) = some 1 := by decide +kernel
theorem ydX6_valueBehind : yX6_valueBehind.cls = RX6 ∧ yX6_valueBehind.cls ≠ "java/lang/invoke/MethodHandle" ∧ yX6_valueBehind.cls ≠ "java/lang/invoke/VarHandle" ∧ (parseMethodDescriptor yX6_valueBehind.desc).map (fun d => d.parameters.length) = some 2 := by decide +kernel
theorem ydX6_init : yX6_init.name = "<init>" ∧ yX6_init.cls ≠ "java/lang/invoke/MethodHandle" ∧ yX6_init.cls ≠ "java/lang/invoke/VarHandle" ∧ (parseMethodDescriptor yX6_init.desc).map (fun d => d.parameters.length) = some 4 := by decide +kernel
theorem ydX4_init : yX4_init.name = "<init>" ∧ yX4_init.cls ≠ "java/lang/invoke/MethodHandle" ∧ yX4_init.cls ≠ "java/lang/invoke/VarHandle" ∧ (parseMethodDescriptor yX4_init.desc).map (fun d => d.parameters.length) = some 4 := by decide +kernel
theorem ydX5_init : yX5_init.name = "<init>" ∧ yX5_init.cls ≠ "java/lang/invoke/MethodHandle" ∧ yX5_init.cls ≠ "java/lang/invoke/VarHandle" ∧ (parseMethodDescriptor yX5_init.desc).map (fun d => d.parameters.length) = some 3 := by decide +kernel
theorem ydX4_holds : yX4_holds.cls = RX4 ∧ yX4_holds.cls ≠ "java/lang/invoke/MethodHandle" ∧ yX4_holds.cls ≠ "java/lang/invoke/VarHandle" ∧ (parseMethodDescriptor yX4_holds.desc).map (fun d => d.parameters.length) = some 2 := by decide +kernel
theorem ydX2_keep : yX2_keep.cls = RX2 ∧ yX2_keep.cls ≠ "java/lang/invoke/MethodHandle" ∧ yX2_keep.cls ≠ "java/lang/invoke/VarHandle" ∧ (parseMethodDescriptor yX2_keep.desc).map (fun d => d.parameters.length) = some 1 := by decide +kernel
theorem ydX2_takeLatest : yX2_takeLatest.cls = RX2 ∧ yX2_takeLatest.cls ≠ "java/lang/invoke/MethodHandle" ∧ yX2_takeLatest.cls ≠ "java/lang/invoke/VarHandle" ∧ (parseMethodDescriptor yX2_takeLatest.desc).map (fun d => d.parameters.length) = some 0 := by decide +kernel
section
variable {l : Launch} {D : va_G} {cB cC cI cO cJ cD : ClassId} {ee : Nat × Nat} {la t : Nat} {md sn : Int} {ar : Option Nat} {f : Nat → Option Nat}
set_option maxHeartbeats 4000000 in
set_option maxRecDepth 100000 in
theorem kX1_isPlace {v : Nat} {g : Int → Int} {z : Int} (hz : 0 ≤ z ∧ z < 48) : Ct l yX1_isPlace wsX1_isPlace ({ frames := 0, cells := 0, slots := 0, locals := 0 } : Room) D (tyL cB cC cI cO cJ cD) ee [.ref la, .int (iI z)] (CeH cI la v t g) (Ji fun h z9 h' => z9 = bI true ∧ h' = h) 0 0 := by
  refine Ct_of (cc := cX1_isPlace) (own := RX1) [some (.ref la), some (.int (iI z))] (by decide) rfl rfl (Nat.le_of_ble_eq_true rfl) (fun i9 v9 h9 => argL [.ref la, .int (iI z)] 0 rfl i9 v9 h9) ?_
  intro p e s m9 args below meth c9 h0 sz hI C hr hlk hinit
  have hin : ∀ w ∈ wsX10, w ∈ wsX1_isPlace := by decide +kernel
  refine V_weak (I2 := fun x => CeH cI la v t g x ∧ x = h0) (fun x hx => by subst hx; exact ⟨hI, rfl⟩) ?_
  refine V_iload1 (pc' := 1) C dX1_isPlace_0 rfl ?_
  refine V_iflt (tgt := 17) C (by omega) dX1_isPlace_1 (by decide) rfl (fun c_1 => ?_) (fun c_1 => ?_)
  · exact absurd c_1 (by omega)
  · refine V_iload1 (pc' := 5) C dX1_isPlace_4 rfl ?_
    refine V_aload0 (pc' := 6) C dX1_isPlace_5 rfl ?_
    refine V_getf (pc' := 9) (T := TX1) (N := 1) (ci := 6) C hin rfl 0 (by decide) (by decide +kernel) (fun h hh => ⟨t, _, hh.1.1, rfl⟩) dX1_isPlace_6 rfl ?_
    refine V_alen (pc' := 10) (n := 48) C 2 rfl (fun h hh => ⟨t + 1, hh.1.2⟩) dX1_isPlace_9 rfl ?_
    refine V_eq (st2 := [.int (iI 48), .int (iI z)]) rfl ?_
    refine V_icmpge (tgt := 17) C (by omega) dX1_isPlace_10 (by decide) rfl (fun c_10 => ?_) (fun c_10 => ?_)
    · exact absurd c_10 (by omega)
    · refine V_iconst (pc' := 14) C dX1_isPlace_13 rfl ?_
      refine V_goto (tgt := 18) C dX1_isPlace_14 (by decide) ?_
      exact V_endz (z := bI true) C hr hlk (nar_z true) (fun h' hh => ⟨_, rfl, rfl, hh.2⟩) ⟨Nat.le_refl _, Nat.le_refl _⟩ dX1_isPlace_18
set_option maxHeartbeats 4000000 in
set_option maxRecDepth 100000 in
theorem kX1_valueAt {v : Nat} {g : Int → Int} {z : Int} (hz : 0 ≤ z ∧ z < 48) : Ct l yX1_valueAt wsX1_valueAt ({ frames := 1, cells := 0, slots := 0, locals := 21 } : Room) D (tyL cB cC cI cO cJ cD) ee [.ref la, .int (iI z)] (CeH cI la v t g) (Ji fun h r h' => r = g z ∧ h' = h) 0 0 := by
  refine Ct_of (cc := cX1_valueAt) (own := RX1) [some (.ref la), some (.int (iI z))] (by decide) rfl rfl (Nat.le_of_ble_eq_true rfl) (fun i9 v9 h9 => argL [.ref la, .int (iI z)] 0 rfl i9 v9 h9) ?_
  intro p e s m9 args below meth c9 h0 sz hI C hr hlk hinit
  have hin : ∀ w ∈ wsX10, w ∈ wsX1_valueAt := by decide +kernel
  refine V_weak (I2 := fun x => CeH cI la v t g x ∧ x = h0) (fun x hx => by subst hx; exact ⟨hI, rfl⟩) ?_
  refine V_aload0 (pc' := 1) C dX1_valueAt_0 rfl ?_
  refine V_iload1 (pc' := 2) C dX1_valueAt_1 rfl ?_
  refine V_callV (ci := 6) (n := 1) [.int (iI z)] C (kX1_isPlace (v := v) (g := g) hz) gX1_valueAt_X1_isPlace rfl ydX1_isPlace ⟨Nat.le_of_ble_eq_true rfl, Nat.le_of_ble_eq_true rfl⟩ ⟨rfl, rfl⟩ rfl rfl (fun h hh => ⟨t, _, hh.1.1⟩) (fun h hh => hh.1) rfl (Nat.le_of_ble_eq_true rfl) dX1_valueAt_2 ⟨Nat.le_of_ble_eq_true rfl, Nat.le_of_ble_eq_true rfl⟩ (fun h v h' hh hj => ?_)
  obtain ⟨r9, rfl, rfl, rfl⟩ := hj
  refine V_weak (I2 := fun x => CeH cI la v t g x ∧ x = h0) (fun x hx => by rw [hx]; exact hh) ?_
  refine V_ifeqB (tgt := 17) C dX1_valueAt_5 (by decide) rfl (fun c_5 => ?_) (fun c_5 => ?_)
  · exact absurd c_5 (by decide)
  · refine V_aload0 (pc' := 9) C dX1_valueAt_8 rfl ?_
    refine V_getf (pc' := 12) (T := TX1) (N := 1) (ci := 6) C hin rfl 0 (by decide) (by decide +kernel) (fun h hh => ⟨t, _, hh.1.1, rfl⟩) dX1_valueAt_9 rfl ?_
    refine V_iload1 (pc' := 13) C dX1_valueAt_12 rfl ?_
    refine V_iald (pc' := 14) (n := 48) (f := g) C 2 rfl (fun h hh => ⟨t + 1, hh.1.2⟩) ⟨hz.1, hz.2, by omega⟩ dX1_valueAt_13 rfl ?_
    refine V_goto (tgt := 18) C dX1_valueAt_14 (by decide) ?_
    exact V_end C hr hlk (fun h' hh => ⟨_, rfl, rfl, hh.2⟩) ⟨Nat.le_refl _, Nat.le_refl _⟩ dX1_valueAt_18
set_option maxHeartbeats 4000000 in
set_option maxRecDepth 100000 in
theorem kX1_put {v : Nat} {g : Int → Int} {z : Int} (hz : 0 ≤ z ∧ z < 48) (x : Int) : Ct l yX1_put wsX1_put ({ frames := 1, cells := 0, slots := 0, locals := 21 } : Room) D (tyL cB cC cI cO cJ cD) ee [.ref la, .int (iI z), .int (iI x)] (CeH cI la v t g) (fun h v9 h' => v9 = none ∧ CeH cI la v t (upZ g z x) h' ∧ Fr (tC t) h h') 0 0 := by
  refine Ct_of (cc := cX1_put) (own := RX1) [some (.ref la), some (.int (iI z)), some (.int (iI x))] (by decide) rfl rfl (Nat.le_of_ble_eq_true rfl) (fun i9 v9 h9 => argL [.ref la, .int (iI z), .int (iI x)] 0 rfl i9 v9 h9) ?_
  intro p e s m9 args below meth c9 h0 sz hI C hr hlk hinit
  have hin : ∀ w ∈ wsX10, w ∈ wsX1_put := by decide +kernel
  refine V_weak (I2 := fun x => CeH cI la v t g x ∧ x = h0) (fun x hx => by subst hx; exact ⟨hI, rfl⟩) ?_
  refine V_aload0 (pc' := 1) C dX1_put_0 rfl ?_
  refine V_iload1 (pc' := 2) C dX1_put_1 rfl ?_
  refine V_callV (ci := 6) (n := 1) [.int (iI z)] C (kX1_isPlace (v := v) (g := g) hz) gX1_put_X1_isPlace rfl ydX1_isPlace ⟨Nat.le_of_ble_eq_true rfl, Nat.le_of_ble_eq_true rfl⟩ ⟨rfl, rfl⟩ rfl rfl (fun h hh => ⟨t, _, hh.1.1⟩) (fun h hh => hh.1) rfl (Nat.le_of_ble_eq_true rfl) dX1_put_2 ⟨Nat.le_of_ble_eq_true rfl, Nat.le_of_ble_eq_true rfl⟩ (fun h v h' hh hj => ?_)
  obtain ⟨r9, rfl, rfl, rfl⟩ := hj
  refine V_weak (I2 := fun x => CeH cI la v t g x ∧ x = h0) (fun x hx => by rw [hx]; exact hh) ?_
  refine V_ifeqB (tgt := 15) C dX1_put_5 (by decide) rfl (fun c_5 => ?_) (fun c_5 => ?_)
  · exact absurd c_5 (by decide)
  · refine V_aload0 (pc' := 9) C dX1_put_8 rfl ?_
    refine V_getf (pc' := 12) (T := TX1) (N := 1) (ci := 6) C hin rfl 0 (by decide) (by decide +kernel) (fun h hh => ⟨t, _, hh.1.1, rfl⟩) dX1_put_9 rfl ?_
    refine V_iload1 (pc' := 13) C dX1_put_12 rfl ?_
    refine V_iload2 (pc' := 14) C dX1_put_13 rfl ?_
    refine V_iast (pc' := 15) (n := 48) (f := g) (I2 := fun x9 => CeH cI la v t (upZ g z x) x9 ∧ Fr (tC t) h0 x9) C 2 rfl (fun h hh => ⟨t + 1, hh.1.2, hh.1.up, by obtain ⟨h1, rfl⟩ := hh; exact Fr.refl.up h1.2 tC_2⟩) ⟨hz.1, hz.2, by omega⟩ dX1_put_14 rfl ?_
    exact V_endv C hr hlk (fun h' hh => ⟨rfl, hh.1, hh.2⟩) ⟨Nat.le_refl _, Nat.le_refl _⟩ dX1_put_15
set_option maxHeartbeats 4000000 in
set_option maxRecDepth 100000 in
theorem kX1_copyFrom {v : Nat} {g : Int → Int} {lb vb tb : Nat} {gb : Int → Int} (htb : ¬ tC t tb ∧ ¬ tC t (tb + 1)) : Ct l yX1_copyFrom wsX1_copyFrom ({ frames := 1, cells := 0, slots := 0, locals := 40 } : Room) D (tyL cB cC cI cO cJ cD) ee [.ref la, .ref lb] (fun x => CeH cI la v t g x ∧ CeH cI lb vb tb gb x) (fun h v9 h' => v9 = none ∧ CeH cI la v t (cpyZ gb g 0 0 48) h' ∧ Fr (tC t) h h') 0 0 := by
  refine Ct_of (cc := cX1_copyFrom) (own := RX1) [some (.ref la), some (.ref lb)] (by decide) rfl rfl (Nat.le_of_ble_eq_true rfl) (fun i9 v9 h9 => argL [.ref la, .ref lb] 0 rfl i9 v9 h9) ?_
  intro p e s m9 args below meth c9 h0 sz hI C hr hlk hinit
  have hin : ∀ w ∈ wsX10, w ∈ wsX1_copyFrom := by decide +kernel
  refine V_weak (I2 := fun x => (CeH cI la v t g x ∧ CeH cI lb vb tb gb x) ∧ x = h0) (fun x hx => by subst hx; exact ⟨hI, rfl⟩) ?_
  refine V_aload1 (pc' := 1) C dX1_copyFrom_0 rfl ?_
  refine V_getf (pc' := 4) (T := TX1) (N := 1) (ci := 6) C hin rfl 0 (by decide) (by decide +kernel) (fun h hh => ⟨tb, _, hh.1.2.1, rfl⟩) dX1_copyFrom_1 rfl ?_
  refine V_iconst (pc' := 5) C dX1_copyFrom_4 rfl ?_
  refine V_aload0 (pc' := 6) C dX1_copyFrom_5 rfl ?_
  refine V_getf (pc' := 9) (T := TX1) (N := 1) (ci := 6) C hin rfl 0 (by decide) (by decide +kernel) (fun h hh => ⟨t, _, hh.1.1.1, rfl⟩) dX1_copyFrom_6 rfl ?_
  refine V_iconst (pc' := 10) C dX1_copyFrom_9 rfl ?_
  refine V_bipush (pc' := 12) C dX1_copyFrom_10 rfl (by decide) ?_
  refine V_copyi (pc' := 15) (n0 := 48) (n1 := 48) (f := gb) (g := g) (I2 := fun x9 => CeH cI la v t (cpyZ gb g 0 0 48) x9 ∧ Fr (tC t) h0 x9) C (by decide +kernel) (by decide +kernel) (by decide +kernel) (by decide +kernel) 2 2 rfl rfl (fun h hh => ⟨tb + 1, t + 1, hh.1.2.2, hh.1.1.2, hh.1.1.up, by obtain ⟨h1, rfl⟩ := hh; exact Fr.refl.up h1.1.2 tC_2⟩) (by omega) ⟨Nat.le_of_ble_eq_true rfl, Nat.le_of_ble_eq_true rfl⟩ dX1_copyFrom_12 rfl ?_
  exact V_endv C hr hlk (fun h' hh => ⟨rfl, hh.1, hh.2⟩) ⟨Nat.le_refl _, Nat.le_refl _⟩ dX1_copyFrom_15
set_option maxHeartbeats 4000000 in
set_option maxRecDepth 100000 in
theorem kX6_valueBehind {k c r n : Int} {b0 b1 : Int} (hk : 0 ≤ k ∧ k ≤ 255) : Ct l yX6_valueBehind wsX6_valueBehind ({ frames := 0, cells := 0, slots := 0, locals := 0 } : Room) D (tyL cB cC cI cO cJ cD) ee [.ref la, .int (iI b0), .int (iI b1)] (fun x => x la = some (t, .inr (11, [.int (iI k), .int (iI c), .int (iI r), .int (iI n)]))) (Ji fun h z h' => z = vbI k n b0 b1 ∧ h' = h) 0 0 := by
  refine Ct_of (cc := cX6_valueBehind) (own := RX6) [some (.ref la), some (.int (iI b0)), some (.int (iI b1))] (by decide) rfl rfl (Nat.le_of_ble_eq_true rfl) (fun i9 v9 h9 => argL [.ref la, .int (iI b0), .int (iI b1)] 0 rfl i9 v9 h9) ?_
  intro p e s m9 args below meth c9 h0 sz hI C hr hlk hinit
  have hin : ∀ w ∈ wsX60, w ∈ wsX6_valueBehind := by decide +kernel
  refine V_weak (I2 := fun x => x la = some (t, .inr (11, [.int (iI k), .int (iI c), .int (iI r), .int (iI n)])) ∧ x = h0) (fun x hx => by subst hx; exact ⟨hI, rfl⟩) ?_
  refine V_aload0 (pc' := 1) C dX6_valueBehind_0 rfl ?_
  refine V_getf (pc' := 4) (T := TX6) (N := 4) (ci := 11) C hin rfl 0 (by decide) (by decide +kernel) (fun h hh => ⟨t, _, hh.1, rfl⟩) dX6_valueBehind_1 rfl ?_
  refine V_bipush (pc' := 6) C dX6_valueBehind_4 rfl (by decide) ?_
  refine V_icmpne (tgt := 11) C ⟨by omega, by decide⟩ dX6_valueBehind_6 (by decide) rfl (fun c_6 => ?_) (fun c_6 => ?_)
  · refine V_aload0 (pc' := 12) C dX6_valueBehind_11 rfl ?_
    refine V_getf (pc' := 15) (T := TX6) (N := 4) (ci := 11) C hin rfl 0 (by decide) (by decide +kernel) (fun h hh => ⟨t, _, hh.1, rfl⟩) dX6_valueBehind_12 rfl ?_
    refine V_bipush (pc' := 17) C dX6_valueBehind_15 rfl (by decide) ?_
    refine V_icmpne (tgt := 29) C ⟨by omega, by decide⟩ dX6_valueBehind_17 (by decide) rfl (fun c_17 => ?_) (fun c_17 => ?_)
    · refine V_aload0 (pc' := 30) C dX6_valueBehind_29 rfl ?_
      refine V_getf (pc' := 33) (T := TX6) (N := 4) (ci := 11) C hin rfl 3 (by decide) (by decide +kernel) (fun h hh => ⟨t, _, hh.1, rfl⟩) dX6_valueBehind_30 rfl ?_
      exact V_end C hr hlk (fun h' hh => ⟨_, rfl, by unfold vbI; first | (rw [if_pos (by omega)]; done) | (rw [if_neg (by omega), if_pos (by omega)]; done) | (rw [if_neg (by omega), if_neg (by omega)]; done), hh.2⟩) ⟨Nat.le_refl _, Nat.le_refl _⟩ dX6_valueBehind_33
    · refine V_iload1 (pc' := 21) C dX6_valueBehind_20 rfl ?_
      refine V_aload0 (pc' := 22) C dX6_valueBehind_21 rfl ?_
      refine V_getf (pc' := 25) (T := TX6) (N := 4) (ci := 11) C hin rfl 3 (by decide) (by decide +kernel) (fun h hh => ⟨t, _, hh.1, rfl⟩) dX6_valueBehind_22 rfl ?_
      refine V_iadd (pc' := 26) C dX6_valueBehind_25 rfl ?_
      refine V_goto (tgt := 33) C dX6_valueBehind_26 (by decide) ?_
      exact V_end C hr hlk (fun h' hh => ⟨_, rfl, by unfold vbI; first | (rw [if_pos (by omega)]; done) | (rw [if_neg (by omega), if_pos (by omega)]; done) | (rw [if_neg (by omega), if_neg (by omega)]; done), hh.2⟩) ⟨Nat.le_refl _, Nat.le_refl _⟩ dX6_valueBehind_33
  · refine V_iload2 (pc' := 10) C dX6_valueBehind_9 rfl ?_
    exact V_end C hr hlk (fun h' hh => ⟨_, rfl, by unfold vbI; first | (rw [if_pos (by omega)]; done) | (rw [if_neg (by omega), if_pos (by omega)]; done) | (rw [if_neg (by omega), if_neg (by omega)]; done), hh.2⟩) ⟨Nat.le_refl _, Nat.le_refl _⟩ dX6_valueBehind_10
set_option maxHeartbeats 4000000 in
set_option maxRecDepth 100000 in
theorem kX6_init {k c r n : Int} (hk : 0 ≤ k ∧ k < 65536) : Ct l yX6_init wsX6_init ({ frames := 1, cells := 0, slots := 0, locals := 20 } : Room) D (tyL cB cC cI cO cJ cD) ee [.ref la, .int (iI k), .int (iI c), .int (iI r), .int (iI n)] (fun x => x la = some (t, .inr (11, [.int 0, .int 0, .int 0, .int 0]))) (fun h v9 h' => v9 = none ∧ h' la = some (t, .inr (11, [.int (iI k), .int (iI c), .int (iI r), .int (iI n)])) ∧ Fr (fun u => u = t) h h') 0 0 := by
  refine Ct_of (cc := cX6_init) (own := RX6) [some (.ref la), some (.int (iI k)), some (.int (iI c)), some (.int (iI r)), some (.int (iI n))] (by decide) rfl rfl (Nat.le_of_ble_eq_true rfl) (fun i9 v9 h9 => argL [.ref la, .int (iI k), .int (iI c), .int (iI r), .int (iI n)] 0 rfl i9 v9 h9) ?_
  intro p e s m9 args below meth c9 h0 sz hI C hr hlk hinit
  have hin : ∀ w ∈ wsX60, w ∈ wsX6_init := by decide +kernel
  refine V_weak (I2 := fun x => x la = some (t, .inr (11, [.int 0, .int 0, .int 0, .int 0])) ∧ Fr (fun u => u = t) h0 x) (fun x hx => by subst hx; exact ⟨hI, Fr.refl⟩) ?_
  refine V_aload0 (pc' := 1) C dX6_init_0 rfl ?_
  refine V_objInit (pc' := 4) C (by decide +kernel) (by decide +kernel) (by decide +kernel) ⟨Nat.le_of_ble_eq_true rfl, Nat.le_of_ble_eq_true rfl⟩ dX6_init_1 rfl ?_
  refine V_aload0 (pc' := 5) C dX6_init_4 rfl ?_
  refine V_iload1 (pc' := 6) C dX6_init_5 rfl ?_
  refine V_putF (pc' := 9) (T := TX6) (N := 4) (ci := 11) (I2 := fun x => x la = some (t, .inr (11, [.int (iI k), .int 0, .int 0, .int 0])) ∧ Fr (fun u => u = t) h0 x) C hin tyX6_ok nmX6 rfl 0 (by decide) (by decide +kernel) rfl (hinit rfl) rfl (nar_c hk.1 hk.2) (fit_c hk.1 hk.2) (fun h hh => ⟨t, _, hh.1, Nat.le_of_ble_eq_true rfl, hup_s, hh.2.up hh.1 rfl⟩) dX6_init_6 rfl ?_
  refine V_aload0 (pc' := 10) C dX6_init_9 rfl ?_
  refine V_iload2 (pc' := 11) C dX6_init_10 rfl ?_
  refine V_putF (pc' := 14) (T := TX6) (N := 4) (ci := 11) (I2 := fun x => x la = some (t, .inr (11, [.int (iI k), .int (iI c), .int 0, .int 0])) ∧ Fr (fun u => u = t) h0 x) C hin tyX6_ok nmX6 rfl 1 (by decide) (by decide +kernel) rfl (hinit rfl) rfl rfl rfl (fun h hh => ⟨t, _, hh.1, Nat.le_of_ble_eq_true rfl, hup_s, hh.2.up hh.1 rfl⟩) dX6_init_11 rfl ?_
  refine V_aload0 (pc' := 15) C dX6_init_14 rfl ?_
  refine V_iload3 (pc' := 16) C dX6_init_15 rfl ?_
  refine V_putF (pc' := 19) (T := TX6) (N := 4) (ci := 11) (I2 := fun x => x la = some (t, .inr (11, [.int (iI k), .int (iI c), .int (iI r), .int 0])) ∧ Fr (fun u => u = t) h0 x) C hin tyX6_ok nmX6 rfl 2 (by decide) (by decide +kernel) rfl (hinit rfl) rfl rfl rfl (fun h hh => ⟨t, _, hh.1, Nat.le_of_ble_eq_true rfl, hup_s, hh.2.up hh.1 rfl⟩) dX6_init_16 rfl ?_
  refine V_aload0 (pc' := 20) C dX6_init_19 rfl ?_
  refine V_iload4 (pc' := 22) C dX6_init_20 rfl ?_
  refine V_putF (pc' := 25) (T := TX6) (N := 4) (ci := 11) (I2 := fun x => x la = some (t, .inr (11, [.int (iI k), .int (iI c), .int (iI r), .int (iI n)])) ∧ Fr (fun u => u = t) h0 x) C hin tyX6_ok nmX6 rfl 3 (by decide) (by decide +kernel) rfl (hinit rfl) rfl rfl rfl (fun h hh => ⟨t, _, hh.1, Nat.le_of_ble_eq_true rfl, hup_s, hh.2.up hh.1 rfl⟩) dX6_init_22 rfl ?_
  exact V_endv C hr hlk (fun h' hh => ⟨rfl, hh.1, hh.2⟩) ⟨Nat.le_refl _, Nat.le_refl _⟩ dX6_init_25
set_option maxHeartbeats 4000000 in
set_option maxRecDepth 100000 in
theorem kX4_init {c r c2 r2 : Int} : Ct l yX4_init wsX4_init ({ frames := 1, cells := 0, slots := 0, locals := 20 } : Room) D (tyL cB cC cI cO cJ cD) ee [.ref la, .int (iI c), .int (iI r), .int (iI c2), .int (iI r2)] (fun x => x la = some (t, .inr (9, [.int 0, .int 0, .int 0, .int 0]))) (fun h v9 h' => v9 = none ∧ h' la = some (t, .inr (9, [.int (iI c), .int (iI r), .int (iI c2), .int (iI r2)])) ∧ Fr (fun u => u = t) h h') 0 0 := by
  refine Ct_of (cc := cX4_init) (own := RX4) [some (.ref la), some (.int (iI c)), some (.int (iI r)), some (.int (iI c2)), some (.int (iI r2))] (by decide) rfl rfl (Nat.le_of_ble_eq_true rfl) (fun i9 v9 h9 => argL [.ref la, .int (iI c), .int (iI r), .int (iI c2), .int (iI r2)] 0 rfl i9 v9 h9) ?_
  intro p e s m9 args below meth c9 h0 sz hI C hr hlk hinit
  have hin : ∀ w ∈ wsX40, w ∈ wsX4_init := by decide +kernel
  refine V_weak (I2 := fun x => x la = some (t, .inr (9, [.int 0, .int 0, .int 0, .int 0])) ∧ Fr (fun u => u = t) h0 x) (fun x hx => by subst hx; exact ⟨hI, Fr.refl⟩) ?_
  refine V_aload0 (pc' := 1) C dX4_init_0 rfl ?_
  refine V_objInit (pc' := 4) C (by decide +kernel) (by decide +kernel) (by decide +kernel) ⟨Nat.le_of_ble_eq_true rfl, Nat.le_of_ble_eq_true rfl⟩ dX4_init_1 rfl ?_
  refine V_aload0 (pc' := 5) C dX4_init_4 rfl ?_
  refine V_iload1 (pc' := 6) C dX4_init_5 rfl ?_
  refine V_putF (pc' := 9) (T := TX4) (N := 4) (ci := 9) (I2 := fun x => x la = some (t, .inr (9, [.int (iI c), .int 0, .int 0, .int 0])) ∧ Fr (fun u => u = t) h0 x) C hin tyX4_ok nmX4 rfl 0 (by decide) (by decide +kernel) rfl (hinit rfl) rfl rfl rfl (fun h hh => ⟨t, _, hh.1, Nat.le_of_ble_eq_true rfl, hup_s, hh.2.up hh.1 rfl⟩) dX4_init_6 rfl ?_
  refine V_aload0 (pc' := 10) C dX4_init_9 rfl ?_
  refine V_iload2 (pc' := 11) C dX4_init_10 rfl ?_
  refine V_putF (pc' := 14) (T := TX4) (N := 4) (ci := 9) (I2 := fun x => x la = some (t, .inr (9, [.int (iI c), .int (iI r), .int 0, .int 0])) ∧ Fr (fun u => u = t) h0 x) C hin tyX4_ok nmX4 rfl 1 (by decide) (by decide +kernel) rfl (hinit rfl) rfl rfl rfl (fun h hh => ⟨t, _, hh.1, Nat.le_of_ble_eq_true rfl, hup_s, hh.2.up hh.1 rfl⟩) dX4_init_11 rfl ?_
  refine V_aload0 (pc' := 15) C dX4_init_14 rfl ?_
  refine V_iload3 (pc' := 16) C dX4_init_15 rfl ?_
  refine V_putF (pc' := 19) (T := TX4) (N := 4) (ci := 9) (I2 := fun x => x la = some (t, .inr (9, [.int (iI c), .int (iI r), .int (iI c2), .int 0])) ∧ Fr (fun u => u = t) h0 x) C hin tyX4_ok nmX4 rfl 2 (by decide) (by decide +kernel) rfl (hinit rfl) rfl rfl rfl (fun h hh => ⟨t, _, hh.1, Nat.le_of_ble_eq_true rfl, hup_s, hh.2.up hh.1 rfl⟩) dX4_init_16 rfl ?_
  refine V_aload0 (pc' := 20) C dX4_init_19 rfl ?_
  refine V_iload4 (pc' := 22) C dX4_init_20 rfl ?_
  refine V_putF (pc' := 25) (T := TX4) (N := 4) (ci := 9) (I2 := fun x => x la = some (t, .inr (9, [.int (iI c), .int (iI r), .int (iI c2), .int (iI r2)])) ∧ Fr (fun u => u = t) h0 x) C hin tyX4_ok nmX4 rfl 3 (by decide) (by decide +kernel) rfl (hinit rfl) rfl rfl rfl (fun h hh => ⟨t, _, hh.1, Nat.le_of_ble_eq_true rfl, hup_s, hh.2.up hh.1 rfl⟩) dX4_init_22 rfl ?_
  exact V_endv C hr hlk (fun h' hh => ⟨rfl, hh.1, hh.2⟩) ⟨Nat.le_refl _, Nat.le_refl _⟩ dX4_init_25
set_option maxHeartbeats 4000000 in
set_option maxRecDepth 100000 in
theorem kX5_init {q1 q2 : Nat} {k : Int} : Ct l yX5_init wsX5_init ({ frames := 1, cells := 0, slots := 0, locals := 20 } : Room) D (tyL cB cC cI cO cJ cD) ee [.ref la, .ref q1, .ref q2, .int (iI k)] (fun x => x la = some (t, .inr (10, [.null, .null, .int 0]))) (fun h v9 h' => v9 = none ∧ h' la = some (t, .inr (10, [.ref q1, .ref q2, .int (iI k)])) ∧ Fr (fun u => u = t) h h') 0 0 := by
  refine Ct_of (cc := cX5_init) (own := RX5) [some (.ref la), some (.ref q1), some (.ref q2), some (.int (iI k))] (by decide) rfl rfl (Nat.le_of_ble_eq_true rfl) (fun i9 v9 h9 => argL [.ref la, .ref q1, .ref q2, .int (iI k)] 0 rfl i9 v9 h9) ?_
  intro p e s m9 args below meth c9 h0 sz hI C hr hlk hinit
  have hin : ∀ w ∈ wsX50, w ∈ wsX5_init := by decide +kernel
  refine V_weak (I2 := fun x => x la = some (t, .inr (10, [.null, .null, .int 0])) ∧ Fr (fun u => u = t) h0 x) (fun x hx => by subst hx; exact ⟨hI, Fr.refl⟩) ?_
  refine V_aload0 (pc' := 1) C dX5_init_0 rfl ?_
  refine V_objInit (pc' := 4) C (by decide +kernel) (by decide +kernel) (by decide +kernel) ⟨Nat.le_of_ble_eq_true rfl, Nat.le_of_ble_eq_true rfl⟩ dX5_init_1 rfl ?_
  refine V_aload0 (pc' := 5) C dX5_init_4 rfl ?_
  refine V_aload1 (pc' := 6) C dX5_init_5 rfl ?_
  refine V_putF (pc' := 9) (T := TX5) (N := 3) (ci := 10) (I2 := fun x => x la = some (t, .inr (10, [.ref q1, .null, .int 0])) ∧ Fr (fun u => u = t) h0 x) C hin tyX5_ok nmX5 rfl 0 (by decide) (by decide +kernel) rfl (hinit rfl) rfl rfl rfl (fun h hh => ⟨t, _, hh.1, Nat.le_of_ble_eq_true rfl, hup_s, hh.2.up hh.1 rfl⟩) dX5_init_6 rfl ?_
  refine V_aload0 (pc' := 10) C dX5_init_9 rfl ?_
  refine V_aload2 (pc' := 11) C dX5_init_10 rfl ?_
  refine V_putF (pc' := 14) (T := TX5) (N := 3) (ci := 10) (I2 := fun x => x la = some (t, .inr (10, [.ref q1, .ref q2, .int 0])) ∧ Fr (fun u => u = t) h0 x) C hin tyX5_ok nmX5 rfl 1 (by decide) (by decide +kernel) rfl (hinit rfl) rfl rfl rfl (fun h hh => ⟨t, _, hh.1, Nat.le_of_ble_eq_true rfl, hup_s, hh.2.up hh.1 rfl⟩) dX5_init_11 rfl ?_
  refine V_aload0 (pc' := 15) C dX5_init_14 rfl ?_
  refine V_iload3 (pc' := 16) C dX5_init_15 rfl ?_
  refine V_putf (pc' := 19) (T := TX5) (N := 3) (ci := 10) (I2 := fun x => x la = some (t, .inr (10, [.ref q1, .ref q2, .int (iI k)])) ∧ Fr (fun u => u = t) h0 x) C hin tyX5_ok nmX5 rfl 2 (by decide) (by decide +kernel) rfl rfl rfl (fun h hh => ⟨t, _, hh.1, Nat.le_of_ble_eq_true rfl, hup_s, hh.2.up hh.1 rfl⟩) dX5_init_16 rfl ?_
  exact V_endv C hr hlk (fun h' hh => ⟨rfl, hh.1, hh.2⟩) ⟨Nat.le_refl _, Nat.le_refl _⟩ dX5_init_19
set_option maxHeartbeats 4000000 in
set_option maxRecDepth 100000 in
theorem kX4_holds {c r c2 r2 x0 y0 : Int} (hr0 : rI c ∧ rI r ∧ rI c2 ∧ rI r2 ∧ rI x0 ∧ rI y0) : Ct l yX4_holds wsX4_holds ({ frames := 0, cells := 0, slots := 0, locals := 0 } : Room) D (tyL cB cC cI cO cJ cD) ee [.ref la, .int (iI x0), .int (iI y0)] (fun x => x la = some (t, .inr (9, [.int (iI c), .int (iI r), .int (iI c2), .int (iI r2)]))) (Ji fun h z h' => z = bI (holdsB c r c2 r2 x0 y0) ∧ h' = h) 0 0 := by
  refine Ct_of (cc := cX4_holds) (own := RX4) [some (.ref la), some (.int (iI x0)), some (.int (iI y0))] (by decide) rfl rfl (Nat.le_of_ble_eq_true rfl) (fun i9 v9 h9 => argL [.ref la, .int (iI x0), .int (iI y0)] 0 rfl i9 v9 h9) ?_
  intro p e s m9 args below meth c9 h0 sz hI C hr hlk hinit
  have hin : ∀ w ∈ wsX40, w ∈ wsX4_holds := by decide +kernel
  refine V_weak (I2 := fun x => x la = some (t, .inr (9, [.int (iI c), .int (iI r), .int (iI c2), .int (iI r2)])) ∧ x = h0) (fun x hx => by subst hx; exact ⟨hI, rfl⟩) ?_
  refine V_iload1 (pc' := 1) C dX4_holds_0 rfl ?_
  refine V_aload0 (pc' := 2) C dX4_holds_1 rfl ?_
  refine V_getf (pc' := 5) (T := TX4) (N := 4) (ci := 9) C hin rfl 0 (by decide) (by decide +kernel) (fun h hh => ⟨t, _, hh.1, rfl⟩) dX4_holds_2 rfl ?_
  refine V_icmplt (tgt := 36) C (by omega) dX4_holds_5 (by decide) rfl (fun c_5 => ?_) (fun c_5 => ?_)
  · refine V_iconst (pc' := 37) C dX4_holds_36 rfl ?_
    first | (have hb9 : holdsB c r c2 r2 x0 y0 = true := by (simp [holdsB]; omega)) | (have hb9 : holdsB c r c2 r2 x0 y0 = false := by (simp [holdsB]; omega))
    refine V_eq (st2 := [.int (iI (bI (holdsB c r c2 r2 x0 y0)))]) (by rw [hb9]; rfl) ?_
    exact V_endz C hr hlk (z := bI (holdsB c r c2 r2 x0 y0)) (nar_z _) (fun h' hh => ⟨_, rfl, rfl, hh.2⟩) ⟨Nat.le_refl _, Nat.le_refl _⟩ dX4_holds_37
  · refine V_iload1 (pc' := 9) C dX4_holds_8 rfl ?_
    refine V_aload0 (pc' := 10) C dX4_holds_9 rfl ?_
    refine V_getf (pc' := 13) (T := TX4) (N := 4) (ci := 9) C hin rfl 2 (by decide) (by decide +kernel) (fun h hh => ⟨t, _, hh.1, rfl⟩) dX4_holds_10 rfl ?_
    refine V_icmpgt (tgt := 36) C (by omega) dX4_holds_13 (by decide) rfl (fun c_13 => ?_) (fun c_13 => ?_)
    · refine V_iconst (pc' := 37) C dX4_holds_36 rfl ?_
      first | (have hb9 : holdsB c r c2 r2 x0 y0 = true := by (simp [holdsB]; omega)) | (have hb9 : holdsB c r c2 r2 x0 y0 = false := by (simp [holdsB]; omega))
      refine V_eq (st2 := [.int (iI (bI (holdsB c r c2 r2 x0 y0)))]) (by rw [hb9]; rfl) ?_
      exact V_endz C hr hlk (z := bI (holdsB c r c2 r2 x0 y0)) (nar_z _) (fun h' hh => ⟨_, rfl, rfl, hh.2⟩) ⟨Nat.le_refl _, Nat.le_refl _⟩ dX4_holds_37
    · refine V_iload2 (pc' := 17) C dX4_holds_16 rfl ?_
      refine V_aload0 (pc' := 18) C dX4_holds_17 rfl ?_
      refine V_getf (pc' := 21) (T := TX4) (N := 4) (ci := 9) C hin rfl 1 (by decide) (by decide +kernel) (fun h hh => ⟨t, _, hh.1, rfl⟩) dX4_holds_18 rfl ?_
      refine V_icmplt (tgt := 36) C (by omega) dX4_holds_21 (by decide) rfl (fun c_21 => ?_) (fun c_21 => ?_)
      · refine V_iconst (pc' := 37) C dX4_holds_36 rfl ?_
        first | (have hb9 : holdsB c r c2 r2 x0 y0 = true := by (simp [holdsB]; omega)) | (have hb9 : holdsB c r c2 r2 x0 y0 = false := by (simp [holdsB]; omega))
        refine V_eq (st2 := [.int (iI (bI (holdsB c r c2 r2 x0 y0)))]) (by rw [hb9]; rfl) ?_
        exact V_endz C hr hlk (z := bI (holdsB c r c2 r2 x0 y0)) (nar_z _) (fun h' hh => ⟨_, rfl, rfl, hh.2⟩) ⟨Nat.le_refl _, Nat.le_refl _⟩ dX4_holds_37
      · refine V_iload2 (pc' := 25) C dX4_holds_24 rfl ?_
        refine V_aload0 (pc' := 26) C dX4_holds_25 rfl ?_
        refine V_getf (pc' := 29) (T := TX4) (N := 4) (ci := 9) C hin rfl 3 (by decide) (by decide +kernel) (fun h hh => ⟨t, _, hh.1, rfl⟩) dX4_holds_26 rfl ?_
        refine V_icmpgt (tgt := 36) C (by omega) dX4_holds_29 (by decide) rfl (fun c_29 => ?_) (fun c_29 => ?_)
        · refine V_iconst (pc' := 37) C dX4_holds_36 rfl ?_
          first | (have hb9 : holdsB c r c2 r2 x0 y0 = true := by (simp [holdsB]; omega)) | (have hb9 : holdsB c r c2 r2 x0 y0 = false := by (simp [holdsB]; omega))
          refine V_eq (st2 := [.int (iI (bI (holdsB c r c2 r2 x0 y0)))]) (by rw [hb9]; rfl) ?_
          exact V_endz C hr hlk (z := bI (holdsB c r c2 r2 x0 y0)) (nar_z _) (fun h' hh => ⟨_, rfl, rfl, hh.2⟩) ⟨Nat.le_refl _, Nat.le_refl _⟩ dX4_holds_37
        · refine V_iconst (pc' := 33) C dX4_holds_32 rfl ?_
          refine V_goto (tgt := 37) C dX4_holds_33 (by decide) ?_
          first | (have hb9 : holdsB c r c2 r2 x0 y0 = true := by (simp [holdsB]; omega)) | (have hb9 : holdsB c r c2 r2 x0 y0 = false := by (simp [holdsB]; omega))
          refine V_eq (st2 := [.int (iI (bI (holdsB c r c2 r2 x0 y0)))]) (by rw [hb9]; rfl) ?_
          exact V_endz C hr hlk (z := bI (holdsB c r c2 r2 x0 y0)) (nar_z _) (fun h' hh => ⟨_, rfl, rfl, hh.2⟩) ⟨Nat.le_refl _, Nat.le_refl _⟩ dX4_holds_37
set_option maxHeartbeats 4000000 in
set_option maxRecDepth 100000 in
theorem kX2_keep_s {v : Nat} {g : Int → Int} {n : Int} {x : Int} (hn : 0 ≤ n ∧ n < 8) : Ct l yX2_keep wsX2_keep ({ frames := 0, cells := 0, slots := 0, locals := 0 } : Room) D (tyL cB cC cI cO cJ cD) ee [.ref la, .int (iI x)] (HiH cI la v t g n) (fun h v9 h' => v9 = none ∧ HiH cI la v t (keepF g n x) (keepN n) h' ∧ Fr (tC t) h h') 0 0 := by
  refine Ct_of (cc := cX2_keep) (own := RX2) [some (.ref la), some (.int (iI x))] (by decide) rfl rfl (Nat.le_of_ble_eq_true rfl) (fun i9 v9 h9 => argL [.ref la, .int (iI x)] 0 rfl i9 v9 h9) ?_
  intro p e s m9 args below meth c9 h0 sz hI C hr hlk hinit
  have hin : ∀ w ∈ wsX20, w ∈ wsX2_keep := by decide +kernel
  refine V_weak (I2 := fun x9 => HiH cI la v t (g) (n) x9 ∧ Fr (tC t) h0 x9) (fun x hx => by subst hx; exact ⟨hI, Fr.refl⟩) ?_
  refine V_aload0 (pc' := 1) C dX2_keep_0 rfl ?_
  refine V_getf (pc' := 4) (T := TX2) (N := 2) (ci := 7) C hin rfl 1 (by decide) (by decide +kernel) (fun h hh => ⟨t, _, hh.1.1, rfl⟩) dX2_keep_1 rfl ?_
  refine V_bipush (pc' := 6) C dX2_keep_4 rfl (by decide) ?_
  refine V_icmplt (tgt := 30) C ⟨by omega, by decide⟩ dX2_keep_6 (by decide) rfl (fun c_6 => ?_) (fun c_6 => ?_)
  · refine V_aload0 (pc' := 31) C dX2_keep_30 rfl ?_
    refine V_getf (pc' := 34) (T := TX2) (N := 2) (ci := 7) C hin rfl 0 (by decide) (by decide +kernel) (fun h hh => ⟨t, _, hh.1.1, rfl⟩) dX2_keep_31 rfl ?_
    refine V_aload0 (pc' := 35) C dX2_keep_34 rfl ?_
    refine V_getf (pc' := 38) (T := TX2) (N := 2) (ci := 7) C hin rfl 1 (by decide) (by decide +kernel) (fun h hh => ⟨t, _, hh.1.1, rfl⟩) dX2_keep_35 rfl ?_
    refine V_iload1 (pc' := 39) C dX2_keep_38 rfl ?_
    refine V_iast (pc' := 40) (n := 8) (f := g) (I2 := fun x9 => HiH cI la v t (upZ (g) (n) x) (n) x9 ∧ Fr (tC t) h0 x9) C 2 rfl (fun h hh => ⟨t + 1, hh.1.2, hh.1.up, hh.2.up hh.1.2 tC_2⟩) ⟨by omega, by omega, by omega⟩ dX2_keep_39 rfl ?_
    refine V_aload0 (pc' := 41) C dX2_keep_40 rfl ?_
    refine V_dup (pc' := 42) C rfl dX2_keep_41 rfl ?_
    refine V_getf (pc' := 45) (T := TX2) (N := 2) (ci := 7) C hin rfl 1 (by decide) (by decide +kernel) (fun h hh => ⟨t, _, hh.1.1, rfl⟩) dX2_keep_42 rfl ?_
    refine V_iconst (pc' := 46) C dX2_keep_45 rfl ?_
    refine V_iadd (pc' := 47) C dX2_keep_46 rfl ?_
    refine V_putf (pc' := 50) (T := TX2) (N := 2) (ci := 7) (I2 := fun x9 => HiH cI la v t (upZ (g) (n) x) (n + 1) x9 ∧ Fr (tC t) h0 x9) C hin tyX2_ok nmX2 rfl 1 (by decide) (by decide +kernel) rfl rfl rfl (fun h hh => ⟨t, _, hh.1.1, Nat.le_of_ble_eq_true rfl, hh.1.put, hh.2.up hh.1.1 tC_1⟩) dX2_keep_47 rfl ?_
    exact V_endv C hr hlk (fun h' hh => ⟨rfl, by unfold keepF keepN; rw [if_neg (by omega), if_neg (by omega)]; exact hh.1, hh.2⟩) ⟨Nat.le_refl _, Nat.le_refl _⟩ dX2_keep_50
  · exact absurd c_6 (by omega)
set_option maxHeartbeats 4000000 in
set_option maxRecDepth 100000 in
theorem kX2_keep_b {v : Nat} {g : Int → Int} {n : Int} {x : Int} (hn : n = 8) : Ct l yX2_keep wsX2_keep ({ frames := 1, cells := 0, slots := 0, locals := 40 } : Room) D (tyL cB cC cI cO cJ cD) ee [.ref la, .int (iI x)] (HiH cI la v t g n) (fun h v9 h' => v9 = none ∧ HiH cI la v t (keepF g n x) (keepN n) h' ∧ Fr (tC t) h h') 0 0 := by
  refine Ct_of (cc := cX2_keep) (own := RX2) [some (.ref la), some (.int (iI x))] (by decide) rfl rfl (Nat.le_of_ble_eq_true rfl) (fun i9 v9 h9 => argL [.ref la, .int (iI x)] 0 rfl i9 v9 h9) ?_
  intro p e s m9 args below meth c9 h0 sz hI C hr hlk hinit
  have hin : ∀ w ∈ wsX20, w ∈ wsX2_keep := by decide +kernel
  refine V_weak (I2 := fun x9 => HiH cI la v t (g) (n) x9 ∧ Fr (tC t) h0 x9) (fun x hx => by subst hx; exact ⟨hI, Fr.refl⟩) ?_
  refine V_aload0 (pc' := 1) C dX2_keep_0 rfl ?_
  refine V_getf (pc' := 4) (T := TX2) (N := 2) (ci := 7) C hin rfl 1 (by decide) (by decide +kernel) (fun h hh => ⟨t, _, hh.1.1, rfl⟩) dX2_keep_1 rfl ?_
  refine V_bipush (pc' := 6) C dX2_keep_4 rfl (by decide) ?_
  refine V_icmplt (tgt := 30) C ⟨by omega, by decide⟩ dX2_keep_6 (by decide) rfl (fun c_6 => ?_) (fun c_6 => ?_)
  · exact absurd c_6 (by omega)
  · refine V_aload0 (pc' := 10) C dX2_keep_9 rfl ?_
    refine V_getf (pc' := 13) (T := TX2) (N := 2) (ci := 7) C hin rfl 0 (by decide) (by decide +kernel) (fun h hh => ⟨t, _, hh.1.1, rfl⟩) dX2_keep_10 rfl ?_
    refine V_iconst (pc' := 14) C dX2_keep_13 rfl ?_
    refine V_aload0 (pc' := 15) C dX2_keep_14 rfl ?_
    refine V_getf (pc' := 18) (T := TX2) (N := 2) (ci := 7) C hin rfl 0 (by decide) (by decide +kernel) (fun h hh => ⟨t, _, hh.1.1, rfl⟩) dX2_keep_15 rfl ?_
    refine V_iconst (pc' := 19) C dX2_keep_18 rfl ?_
    refine V_bipush (pc' := 21) C dX2_keep_19 rfl (by decide) ?_
    refine V_copyi (pc' := 24) (n0 := 8) (n1 := 8) (f := g) (g := g) (I2 := fun x9 => HiH cI la v t (cpyZ g g 1 0 7) (n) x9 ∧ Fr (tC t) h0 x9) C (by decide +kernel) (by decide +kernel) (by decide +kernel) (by decide +kernel) 2 2 rfl rfl (fun h hh => ⟨t + 1, t + 1, hh.1.2, hh.1.2, hh.1.up, hh.2.up hh.1.2 tC_2⟩) (by omega) ⟨Nat.le_of_ble_eq_true rfl, Nat.le_of_ble_eq_true rfl⟩ dX2_keep_21 rfl ?_
    refine V_aload0 (pc' := 25) C dX2_keep_24 rfl ?_
    refine V_bipush (pc' := 27) C dX2_keep_25 rfl (by decide) ?_
    refine V_putf (pc' := 30) (T := TX2) (N := 2) (ci := 7) (I2 := fun x9 => HiH cI la v t (cpyZ g g 1 0 7) (7) x9 ∧ Fr (tC t) h0 x9) C hin tyX2_ok nmX2 rfl 1 (by decide) (by decide +kernel) rfl rfl rfl (fun h hh => ⟨t, _, hh.1.1, Nat.le_of_ble_eq_true rfl, hh.1.put, hh.2.up hh.1.1 tC_1⟩) dX2_keep_27 rfl ?_
    refine V_aload0 (pc' := 31) C dX2_keep_30 rfl ?_
    refine V_getf (pc' := 34) (T := TX2) (N := 2) (ci := 7) C hin rfl 0 (by decide) (by decide +kernel) (fun h hh => ⟨t, _, hh.1.1, rfl⟩) dX2_keep_31 rfl ?_
    refine V_aload0 (pc' := 35) C dX2_keep_34 rfl ?_
    refine V_getf (pc' := 38) (T := TX2) (N := 2) (ci := 7) C hin rfl 1 (by decide) (by decide +kernel) (fun h hh => ⟨t, _, hh.1.1, rfl⟩) dX2_keep_35 rfl ?_
    refine V_iload1 (pc' := 39) C dX2_keep_38 rfl ?_
    refine V_iast (pc' := 40) (n := 8) (f := cpyZ g g 1 0 7) (I2 := fun x9 => HiH cI la v t (upZ (cpyZ g g 1 0 7) (7) x) (7) x9 ∧ Fr (tC t) h0 x9) C 2 rfl (fun h hh => ⟨t + 1, hh.1.2, hh.1.up, hh.2.up hh.1.2 tC_2⟩) ⟨by omega, by omega, by omega⟩ dX2_keep_39 rfl ?_
    refine V_aload0 (pc' := 41) C dX2_keep_40 rfl ?_
    refine V_dup (pc' := 42) C rfl dX2_keep_41 rfl ?_
    refine V_getf (pc' := 45) (T := TX2) (N := 2) (ci := 7) C hin rfl 1 (by decide) (by decide +kernel) (fun h hh => ⟨t, _, hh.1.1, rfl⟩) dX2_keep_42 rfl ?_
    refine V_iconst (pc' := 46) C dX2_keep_45 rfl ?_
    refine V_iadd (pc' := 47) C dX2_keep_46 rfl ?_
    refine V_putf (pc' := 50) (T := TX2) (N := 2) (ci := 7) (I2 := fun x9 => HiH cI la v t (upZ (cpyZ g g 1 0 7) (7) x) (7 + 1) x9 ∧ Fr (tC t) h0 x9) C hin tyX2_ok nmX2 rfl 1 (by decide) (by decide +kernel) rfl rfl rfl (fun h hh => ⟨t, _, hh.1.1, Nat.le_of_ble_eq_true rfl, hh.1.put, hh.2.up hh.1.1 tC_1⟩) dX2_keep_47 rfl ?_
    exact V_endv C hr hlk (fun h' hh => ⟨rfl, by unfold keepF keepN; rw [if_pos (by omega), if_pos (by omega)]; exact hh.1, hh.2⟩) ⟨Nat.le_refl _, Nat.le_refl _⟩ dX2_keep_50
set_option maxHeartbeats 4000000 in
set_option maxRecDepth 100000 in
theorem kX2_takeLatest_0 {v : Nat} {g : Int → Int} (hn : True) : Ct l yX2_takeLatest wsX2_takeLatest ({ frames := 0, cells := 0, slots := 0, locals := 0 } : Room) D (tyL cB cC cI cO cJ cD) ee [.ref la] (HiH cI la v t g 0) (Ji fun h r h' => r = -1 ∧ h' = h) 0 0 := by
  refine Ct_of (cc := cX2_takeLatest) (own := RX2) [some (.ref la)] (by decide) rfl rfl (Nat.le_of_ble_eq_true rfl) (fun i9 v9 h9 => argL [.ref la] 0 rfl i9 v9 h9) ?_
  intro p e s m9 args below meth c9 h0 sz hI C hr hlk hinit
  have hin : ∀ w ∈ wsX20, w ∈ wsX2_takeLatest := by decide +kernel
  refine V_weak (I2 := fun x => HiH cI la v t g 0 x ∧ x = h0) (fun x hx => by subst hx; exact ⟨hI, rfl⟩) ?_
  refine V_aload0 (pc' := 1) C dX2_takeLatest_0 rfl ?_
  refine V_getf (pc' := 4) (T := TX2) (N := 2) (ci := 7) C hin rfl 1 (by decide) (by decide +kernel) (fun h hh => ⟨t, _, hh.1.1, rfl⟩) dX2_takeLatest_1 rfl ?_
  refine V_ifgt (tgt := 9) C (by omega) dX2_takeLatest_4 (by decide) rfl (fun c_4 => ?_) (fun c_4 => ?_)
  · exact absurd c_4 (by decide)
  · refine V_iconst (pc' := 8) C dX2_takeLatest_7 rfl ?_
    exact V_end C hr hlk (fun h' hh => ⟨_, rfl, rfl, hh.2⟩) ⟨Nat.le_refl _, Nat.le_refl _⟩ dX2_takeLatest_8
set_option maxHeartbeats 4000000 in
set_option maxRecDepth 100000 in
theorem kX2_takeLatest_s {v : Nat} {g : Int → Int} {n : Int} (hn : 0 < n ∧ n ≤ 8) : Ct l yX2_takeLatest wsX2_takeLatest ({ frames := 0, cells := 0, slots := 0, locals := 0 } : Room) D (tyL cB cC cI cO cJ cD) ee [.ref la] (HiH cI la v t g n) (Ji fun h r h' => r = g (n - 1) ∧ HiH cI la v t g (n - 1) h' ∧ Fr (tC t) h h') 0 0 := by
  refine Ct_of (cc := cX2_takeLatest) (own := RX2) [some (.ref la)] (by decide) rfl rfl (Nat.le_of_ble_eq_true rfl) (fun i9 v9 h9 => argL [.ref la] 0 rfl i9 v9 h9) ?_
  intro p e s m9 args below meth c9 h0 sz hI C hr hlk hinit
  have hin : ∀ w ∈ wsX20, w ∈ wsX2_takeLatest := by decide +kernel
  refine V_weak (I2 := fun x9 => HiH cI la v t (g) (n) x9 ∧ Fr (tC t) h0 x9) (fun x hx => by subst hx; exact ⟨hI, Fr.refl⟩) ?_
  refine V_aload0 (pc' := 1) C dX2_takeLatest_0 rfl ?_
  refine V_getf (pc' := 4) (T := TX2) (N := 2) (ci := 7) C hin rfl 1 (by decide) (by decide +kernel) (fun h hh => ⟨t, _, hh.1.1, rfl⟩) dX2_takeLatest_1 rfl ?_
  refine V_ifgt (tgt := 9) C (by omega) dX2_takeLatest_4 (by decide) rfl (fun c_4 => ?_) (fun c_4 => ?_)
  · refine V_aload0 (pc' := 10) C dX2_takeLatest_9 rfl ?_
    refine V_dup (pc' := 11) C rfl dX2_takeLatest_10 rfl ?_
    refine V_getf (pc' := 14) (T := TX2) (N := 2) (ci := 7) C hin rfl 1 (by decide) (by decide +kernel) (fun h hh => ⟨t, _, hh.1.1, rfl⟩) dX2_takeLatest_11 rfl ?_
    refine V_iconst (pc' := 15) C dX2_takeLatest_14 rfl ?_
    refine V_isub (pc' := 16) C dX2_takeLatest_15 rfl ?_
    refine V_putf (pc' := 19) (T := TX2) (N := 2) (ci := 7) (I2 := fun x9 => HiH cI la v t (g) (n - 1) x9 ∧ Fr (tC t) h0 x9) C hin tyX2_ok nmX2 rfl 1 (by decide) (by decide +kernel) rfl rfl rfl (fun h hh => ⟨t, _, hh.1.1, Nat.le_of_ble_eq_true rfl, hh.1.put, hh.2.up hh.1.1 tC_1⟩) dX2_takeLatest_16 rfl ?_
    refine V_aload0 (pc' := 20) C dX2_takeLatest_19 rfl ?_
    refine V_getf (pc' := 23) (T := TX2) (N := 2) (ci := 7) C hin rfl 0 (by decide) (by decide +kernel) (fun h hh => ⟨t, _, hh.1.1, rfl⟩) dX2_takeLatest_20 rfl ?_
    refine V_aload0 (pc' := 24) C dX2_takeLatest_23 rfl ?_
    refine V_getf (pc' := 27) (T := TX2) (N := 2) (ci := 7) C hin rfl 1 (by decide) (by decide +kernel) (fun h hh => ⟨t, _, hh.1.1, rfl⟩) dX2_takeLatest_24 rfl ?_
    refine V_iald (pc' := 28) (n := 8) (f := g) C 2 rfl (fun h hh => ⟨t + 1, hh.1.2⟩) ⟨by omega, by omega, by omega⟩ dX2_takeLatest_27 rfl ?_
    exact V_end C hr hlk (fun h' hh => ⟨_, rfl, rfl, hh.1, hh.2⟩) ⟨Nat.le_refl _, Nat.le_refl _⟩ dX2_takeLatest_28
  · exact absurd c_4 (by omega)
end

/-! the audit's making of room; constructors -/
def AuG (cI : ClassId) (a : Nat) (v : Nat → Nat) (t : Nat) (F : Nat → Int → Int) (n : Int) (ll : Nat → Nat) (h : Hp) : Prop := h a = some (t, .inr (5, [.ref (v 0), .ref (v 1), .ref (v 2), .ref (v 3), .int (iI n)])) ∧ ∀ k, k < 4 → h (v k) = some (t + 1 + k, .inl (cI, ll k, .inl (iF (F k))))
theorem AuG_set (v : Nat → Nat) (n : Int) (q : Nat) : ∀ k, k < 4 → ([.ref (v 0), .ref (v 1), .ref (v 2), .ref (v 3), .int (iI n)] : List Value).set k (.ref q) = [.ref (va_up v k q 0), .ref (va_up v k q 1), .ref (va_up v k q 2), .ref (va_up v k q 3), .int (iI n)]
  | 0, _ => rfl
  | 1, _ => rfl
  | 2, _ => rfl
  | 3, _ => rfl
theorem AuG.nw {cI : ClassId} {a : Nat} {v : Nat → Nat} {t : Nat} {F : Nat → Int → Int} {n : Int} {ll : Nat → Nat} {h : Hp} (H : AuG cI a v t F n ll h) {q k nl : Nat} {g : Int → Int} (hq : h q = none) (hk : k < 4) : AuG cI a (va_up v k q) t (va_up F k g) n (va_up ll k nl) (hup (hup h q (t + 1 + k, .inl (cI, nl, .inl (iF g)))) a (t, .inr (5, ([.ref (v 0), .ref (v 1), .ref (v 2), .ref (v 3), .int (iI n)] : List Value).set k (.ref q)))) := by
  have ha : a ≠ q := fun z => by
    have h1 := H.1
    rw [z, hq] at h1
    cases h1
  refine ⟨by rw [hup_s, AuG_set v n q k hk], fun j hj => ?_⟩
  have hv : ∀ j, j < 4 → a ≠ v j := fun j hj z => by
    have h1 := H.1
    rw [z, H.2 j hj] at h1
    have := (Prod.mk.inj (Option.some.inj h1)).1
    omega
  by_cases e : j = k
  · subst e
    rw [va_up_self, va_up_self, va_up_self, hup_n ha.symm, hup_s]
  · rw [va_up_ne _ _ e, va_up_ne _ _ e, va_up_ne _ _ e, hup_n (hv j hj).symm, hup_n]
    · exact H.2 j hj
    · intro z
      have h1 := H.2 j hj
      rw [z, hq] at h1
      cases h1
theorem AuG.a1 {cI : ClassId} {a : Nat} {v : Nat → Nat} {t : Nat} {F : Nat → Int → Int} {n : Int} {ll : Nat → Nat} {h : Hp} (H : AuG cI a v t F n ll h) {q : Nat} {x : Nat × va_E} (hq : h q = none) : hup h q x a = some (t, .inr (5, [.ref (v 0), .ref (v 1), .ref (v 2), .ref (v 3), .int (iI n)])) := by
  rw [hup_n, H.1]
  intro z
  have h1 := H.1
  rw [z, hq] at h1
  cases h1
def grF (F : Nat → Int → Int) (len : Nat) : Nat → Int → Int := fun k => cpyZ (F k) (fun _ => 0) 0 0 len
theorem AuG.fin {cI : ClassId} {a : Nat} {v : Nat → Nat} {t : Nat} {F : Nat → Int → Int} {n : Int} {len q0 q1 q2 q3 : Nat} {h : Hp} (hb : 0 ≤ n ∧ n ≤ len ∧ 2 * len ≤ 107520) (H : AuG cI a (va_up (va_up (va_up (va_up v 0 q0) 1 q1) 2 q2) 3 q3) t (va_up (va_up (va_up (va_up F 0 (cpyZ (F 0) (fun _ => 0) 0 0 len)) 1 (cpyZ (F 1) (fun _ => 0) 0 0 len)) 2 (cpyZ (F 2) (fun _ => 0) 0 0 len)) 3 (cpyZ (F 3) (fun _ => 0) 0 0 len)) n (va_up (va_up (va_up (va_up (fun _ => len) 0 (2 * len)) 1 (2 * len)) 2 (2 * len)) 3 (2 * len)) h) : AuH cI a (va_up (va_up (va_up (va_up v 0 q0) 1 q1) 2 q2) 3 q3) t (grF F len) n (2 * len) h := by
  refine ⟨H.1, fun k hk => ?_, hb.1, by omega, by omega⟩
  match k, hk with
  | 0, _ => exact H.2 0 (by decide)
  | 1, _ => exact H.2 1 (by decide)
  | 2, _ => exact H.2 2 (by decide)
  | 3, _ => exact H.2 3 (by decide)
theorem grF_at {F : Nat → Int → Int} {len k : Nat} {z : Int} (h : 0 ≤ z ∧ z < len) : grF F len k z = F k z := by
  unfold grF cpyZ
  rw [if_pos (by omega)]
  congr 1
  omega
theorem ydJ7_copyOf_59c91 : yJ7_copyOf_59c91.cls ≠ "java/lang/invoke/MethodHandle" ∧ yJ7_copyOf_59c91.cls ≠ "java/lang/invoke/VarHandle" ∧ (parseMethodDescriptor yJ7_copyOf_59c91.desc).map (fun d => d.parameters.length) = some 2 := by decide +kernel
theorem ydX0_makeRoom : yX0_makeRoom.cls = RX0 ∧ yX0_makeRoom.cls ≠ "java/lang/invoke/MethodHandle" ∧ yX0_makeRoom.cls ≠ "java/lang/invoke/VarHandle" ∧ (parseMethodDescriptor yX0_makeRoom.desc).map (fun d => d.parameters.length) = some 0 := by decide +kernel
section
variable {l : Launch} {D : va_G} {cB cC cI cO cJ cD : ClassId} {ee : Nat × Nat} {la t : Nat} {md sn : Int} {ar : Option Nat} {f : Nat → Option Nat}
variable {v : Nat → Nat} {F : Nat → Int → Int} {n : Int} {len : Nat}
variable {q tq nl tn : Nat} {g : Int → Int}
set_option maxHeartbeats 4000000 in
set_option maxRecDepth 100000 in
theorem kJ7_copyOf_59c91 (hnl : len < nl ∧ nl ≤ 33554432) : Ct l yJ7_copyOf_59c91 wsJ7_copyOf_59c91 ({ frames := 1, cells := 1, slots := nl, locals := 40 } : Room) D (tyL cB cC cI cO cJ cD) ee [.ref q, .int (iI nl)] (fun x => x q = some (tq, .inl (cI, len, .inl (iF g)))) (fun h v9 h' => ∃ q', v9 = some (.ref q') ∧ h q' = none ∧ h' = hup h q' (tn, .inl (cI, nl, .inl (iF (cpyZ g (fun _ => 0) 0 0 len))))) (1) (nl) := by
  refine Ct_of (cc := cJ7_copyOf_59c91) (own := RJ7) [some (.ref q), some (.int (iI (nl : Int))), none] (by decide) rfl rfl (Nat.le_of_ble_eq_true rfl) (fun i9 v9 h9 => argL [.ref q, .int (iI nl)] 1 rfl i9 v9 h9) ?_
  intro p e s m9 args below meth c9 h0 sz hI C hr hlk hinit
  refine V_weak (I2 := fun x => x = h0) (fun x hx => hx) ?_
  refine V_iload1 (pc' := 1) C dJ7_copyOf_59c91_0 rfl ?_
  refine V_aload0 (pc' := 2) C dJ7_copyOf_59c91_1 rfl ?_
  refine V_alen (pc' := 3) (n := len) C 2 rfl (fun h hh => by subst hh; exact ⟨tq, hI⟩) dJ7_copyOf_59c91_2 rfl ?_
  refine V_icmpne (tgt := 14) C (by omega) dJ7_copyOf_59c91_3 (by decide) rfl (fun c_3 => ?_) (fun c_3 => ?_)
  · refine V_iload1 (pc' := 15) C dJ7_copyOf_59c91_14 rfl ?_
    refine V_newarr (pc' := 17) (N := nl) (atype := .int) (ty := .int) (a0 := (nl, .inl (iF fun _ => 0))) tn C (by decide +kernel) rfl 2 rfl (fun cA => rfl) ⟨rfl, hnl.2⟩ (Nat.le_refl _) (by show 0 + nl ≤ nl; omega) dJ7_copyOf_59c91_15 rfl (fun q1 => ?_)
    refine V_weak (I2 := fun x => h0 q1 = none ∧ x = hup h0 q1 (tn, .inl (cI, nl, .inl (iF fun _ => 0)))) (fun x hx => by obtain ⟨h1, rfl, hx2, rfl⟩ := hx; exact ⟨hx2, rfl⟩) ?_
    refine V_astore2 (pc' := 18) C dJ7_copyOf_59c91_17 rfl (by decide) rfl ?_
    refine V_aload0 (pc' := 19) C dJ7_copyOf_59c91_18 rfl ?_
    refine V_iconst (pc' := 20) C dJ7_copyOf_59c91_19 rfl ?_
    refine V_aload2 (pc' := 21) C dJ7_copyOf_59c91_20 rfl ?_
    refine V_iconst (pc' := 22) C dJ7_copyOf_59c91_21 rfl ?_
    refine V_aload0 (pc' := 23) C dJ7_copyOf_59c91_22 rfl ?_
    have hq9 : ∀ q1, h0 q1 = none → q ≠ q1 := fun q1 hz z => by rw [← z, hI] at hz; cases hz
    refine V_alen (pc' := 24) (n := len) C 2 rfl (fun h hh => ⟨tq, by rw [hh.2, hup_n (hq9 _ hh.1)]; exact hI⟩) dJ7_copyOf_59c91_23 rfl ?_
    refine V_iload1 (pc' := 25) C dJ7_copyOf_59c91_24 rfl ?_
    refine V_mmin (pc' := 28) C (by decide +kernel) (by decide +kernel) (by decide +kernel) (by decide +kernel) ⟨Nat.le_of_ble_eq_true rfl, Nat.le_of_ble_eq_true rfl⟩ ⟨Nat.le_refl _, by show 0 + nl ≤ nl; omega⟩ (by omega) (by omega) dJ7_copyOf_59c91_25 rfl ?_
    refine V_eq (st2 := [.int (iI (len : Int)), .int (iI 0), .ref q1, .int (iI 0), .ref q]) (by rw [if_neg (by omega)]) ?_
    refine V_copyi (pc' := 31) (n0 := len) (n1 := nl) (f := g) (g := fun _ => 0) (I2 := fun x => h0 q1 = none ∧ x = hup h0 q1 (tn, .inl (cI, nl, .inl (iF (cpyZ g (fun _ => 0) 0 0 len))))) C (by decide +kernel) (by decide +kernel) (by decide +kernel) (by decide +kernel) 2 2 rfl rfl (fun h hh => ⟨tq, tn, by rw [hh.2, hup_n (hq9 _ hh.1)]; exact hI, by rw [hh.2]; exact hup_s, hh.1, by rw [hh.2, hup_hup]⟩) (by omega) ⟨Nat.le_of_ble_eq_true rfl, Nat.le_of_ble_eq_true rfl⟩ dJ7_copyOf_59c91_28 rfl ?_
    refine V_aload2 (pc' := 32) C dJ7_copyOf_59c91_31 rfl ?_
    exact V_enda (v := some q1) C hr (Or.inr ⟨_, rfl⟩) hlk (fun h' hh => ⟨q1, rfl, hh⟩) ⟨Nat.le_refl _, by omega⟩ dJ7_copyOf_59c91_32
  · exact absurd c_3 (by omega)
set_option maxHeartbeats 4000000 in
set_option maxRecDepth 100000 in
theorem kX0_makeRoom_s (hs : n + 210 ≤ len ∨ 107520 ≤ len) : Ct l yX0_makeRoom wsX0_makeRoom ({ frames := 2, cells := 0, slots := 0, locals := 62 } : Room) D (tyL cB cC cI cO cJ cD) ee [.ref la] (AuH cI la v t F n len) (fun h v9 h' => v9 = none ∧ h' = h) (0) (0) := by
  refine Ct_of (cc := cX0_makeRoom) (own := RX0) [some (.ref la), none] (by decide) rfl rfl (Nat.le_of_ble_eq_true rfl) (fun i9 v9 h9 => argL [.ref la] 1 rfl i9 v9 h9) ?_
  intro p e s m9 args below meth c9 h0 sz hI C hr hlk hinit
  have hin : ∀ w ∈ wsX00, w ∈ wsX0_makeRoom := by decide +kernel
  have hb9 : 0 ≤ n ∧ n ≤ len ∧ len ≤ 107520 := hI.2.2
  refine V_weak (I2 := fun x => AuH cI la v t F n len x ∧ x = h0) (fun x hx => by subst hx; exact ⟨hI, rfl⟩) ?_
  refine V_aload0 (pc' := 1) C dX0_makeRoom_0 rfl ?_
  refine V_getf (pc' := 4) (T := TX0) (N := 5) (ci := 5) C hin rfl 0 (by decide) (by decide +kernel) (fun h hh => ⟨t, _, hh.1.1, rfl⟩) dX0_makeRoom_1 rfl ?_
  refine V_alen (pc' := 5) (n := len) C 2 rfl (fun h hh => ⟨t + 1, hh.1.2.1 0 (by decide)⟩) dX0_makeRoom_4 rfl ?_
  refine V_istore1 (pc' := 6) C dX0_makeRoom_5 rfl (by decide) rfl ?_
  refine V_aload0 (pc' := 7) C dX0_makeRoom_6 rfl ?_
  refine V_getf (pc' := 10) (T := TX0) (N := 5) (ci := 5) C hin rfl 4 (by decide) (by decide +kernel) (fun h hh => ⟨t, _, hh.1.1, rfl⟩) dX0_makeRoom_7 rfl ?_
  refine V_sipush (pc' := 13) C dX0_makeRoom_10 rfl (by decide) ?_
  refine V_iadd (pc' := 14) C dX0_makeRoom_13 rfl ?_
  refine V_iload1 (pc' := 15) C dX0_makeRoom_14 rfl ?_
  refine V_icmple (tgt := 24) C (by omega) dX0_makeRoom_15 (by decide) rfl (fun c_15 => ?_) (fun c_15 => ?_)
  · exact V_endv C hr hlk (fun h' hh => ⟨rfl, hh.2⟩) ⟨Nat.le_refl _, Nat.le_refl _⟩ dX0_makeRoom_24
  · refine V_iload1 (pc' := 19) C dX0_makeRoom_18 rfl ?_
    refine V_ldc (pc' := 21) (v := 107520) (n := 107520) C (by decide +kernel) dX0_makeRoom_19 rfl (by decide) ?_
    refine V_icmplt (tgt := 25) C (by omega) dX0_makeRoom_21 (by decide) rfl (fun c_21 => ?_) (fun c_21 => ?_)
    · exfalso
      omega
    · exact V_endv C hr hlk (fun h' hh => ⟨rfl, hh.2⟩) ⟨Nat.le_refl _, Nat.le_refl _⟩ dX0_makeRoom_24
set_option maxHeartbeats 4000000 in
set_option maxRecDepth 100000 in
theorem kX0_makeRoom_g (hs : ¬ (n + 210 ≤ len ∨ 107520 ≤ len)) (h2 : 210 ≤ len ∧ 2 * len ≤ 107520) : Ct l yX0_makeRoom wsX0_makeRoom ({ frames := 2, cells := 4, slots := 8 * len, locals := 62 } : Room) D (tyL cB cC cI cO cJ cD) ee [.ref la] (AuH cI la v t F n len) (fun h v9 h' => v9 = none ∧ (∃ v', AuH cI la v' t (grF F len) n (2 * len) h') ∧ Fr (tU t) h h') (4) (8 * len) := by
  refine Ct_of (cc := cX0_makeRoom) (own := RX0) [some (.ref la), none] (by decide) rfl rfl (Nat.le_of_ble_eq_true rfl) (fun i9 v9 h9 => argL [.ref la] 1 rfl i9 v9 h9) ?_
  intro p e s m9 args below meth c9 h0 sz hI C hr hlk hinit
  have hin : ∀ w ∈ wsX00, w ∈ wsX0_makeRoom := by decide +kernel
  have hb9 : 0 ≤ n ∧ n ≤ len ∧ len ≤ 107520 := hI.2.2
  refine V_weak (I2 := fun x => AuH cI la v t F n len x ∧ x = h0) (fun x hx => by subst hx; exact ⟨hI, rfl⟩) ?_
  refine V_aload0 (pc' := 1) C dX0_makeRoom_0 rfl ?_
  refine V_getf (pc' := 4) (T := TX0) (N := 5) (ci := 5) C hin rfl 0 (by decide) (by decide +kernel) (fun h hh => ⟨t, _, hh.1.1, rfl⟩) dX0_makeRoom_1 rfl ?_
  refine V_alen (pc' := 5) (n := len) C 2 rfl (fun h hh => ⟨t + 1, hh.1.2.1 0 (by decide)⟩) dX0_makeRoom_4 rfl ?_
  refine V_istore1 (pc' := 6) C dX0_makeRoom_5 rfl (by decide) rfl ?_
  refine V_aload0 (pc' := 7) C dX0_makeRoom_6 rfl ?_
  refine V_getf (pc' := 10) (T := TX0) (N := 5) (ci := 5) C hin rfl 4 (by decide) (by decide +kernel) (fun h hh => ⟨t, _, hh.1.1, rfl⟩) dX0_makeRoom_7 rfl ?_
  refine V_sipush (pc' := 13) C dX0_makeRoom_10 rfl (by decide) ?_
  refine V_iadd (pc' := 14) C dX0_makeRoom_13 rfl ?_
  refine V_iload1 (pc' := 15) C dX0_makeRoom_14 rfl ?_
  refine V_icmple (tgt := 24) C (by omega) dX0_makeRoom_15 (by decide) rfl (fun c_15 => ?_) (fun c_15 => ?_)
  · exact absurd c_15 (by omega)
  · refine V_iload1 (pc' := 19) C dX0_makeRoom_18 rfl ?_
    refine V_ldc (pc' := 21) (v := 107520) (n := 107520) C (by decide +kernel) dX0_makeRoom_19 rfl (by decide) ?_
    refine V_icmplt (tgt := 25) C (by omega) dX0_makeRoom_21 (by decide) rfl (fun c_21 => ?_) (fun c_21 => ?_)
    · refine V_aload0 (pc' := 26) C dX0_makeRoom_25 rfl ?_
      refine V_aload0 (pc' := 27) C dX0_makeRoom_26 rfl ?_
      refine V_weak (I2 := fun x9 => AuG cI la (v) t (F) n (fun _ => len) x9 ∧ Fr (tU t) h0 x9) (fun x hx => ⟨⟨hx.1.1, hx.1.2.1⟩, by rw [hx.2]; exact Fr.refl⟩) ?_
      refine V_getf (pc' := 30) (T := TX0) (N := 5) (ci := 5) C hin rfl 0 (by decide) (by decide +kernel) (fun h hh => ⟨t, _, hh.1.1, rfl⟩) dX0_makeRoom_27 rfl ?_
      refine V_iconst (pc' := 31) C dX0_makeRoom_30 rfl ?_
      refine V_iload1 (pc' := 32) C dX0_makeRoom_31 rfl ?_
      refine V_imul (pc' := 33) C dX0_makeRoom_32 rfl ?_
      refine V_eq (st2 := [.int (iI ((2 * len : Nat) : Int)), .ref ((v) 0), .ref la]) (by rw [show ((2 * len : Nat) : Int) = 2 * (len : Int) by omega]) ?_
      refine V_callS (n := 2) [.ref ((v) 0), .int (iI ((2 * len : Nat) : Int))] C (kJ7_copyOf_59c91 (tq := t + 1 + 0) (len := len) (g := F 0) (tn := t + 1 + 0) (nl := 2 * len) (by omega)) gX0_makeRoom_J7_copyOf_59c91 rfl ydJ7_copyOf_59c91 ⟨Nat.le_of_ble_eq_true rfl, Nat.le_of_ble_eq_true rfl⟩ ⟨rfl, rfl⟩ rfl (fun h hh => hh.1.2 0 (by decide)) rfl (Nat.le_of_ble_eq_true rfl) dX0_makeRoom_33 ⟨Nat.le_of_ble_eq_true rfl, by show _ ≤ 8 * len; omega⟩ (fun h v9 h' hh hj => ?_)
      obtain ⟨q0, rfl, hj1, hj2⟩ := hj
      refine V_weak (I2 := fun x9 => ∃ h1, (AuG cI la (v) t (F) n (fun _ => len) h1 ∧ Fr (tU t) h0 h1) ∧ h1 q0 = none ∧ x9 = hup h1 q0 (t + 1 + 0, .inl (cI, 2 * len, .inl (iF (cpyZ (F 0) (fun _ => 0) 0 0 len))))) (fun x9 hx => ⟨h, hh, hj1, by rw [hx]; exact hj2⟩) ?_
      refine V_putf (pc' := 39) (T := TX0) (N := 5) (ci := 5) (I2 := fun x9 => AuG cI la (va_up (v) 0 q0) t (va_up (F) 0 (cpyZ (F 0) (fun _ => 0) 0 0 len)) n (va_up (fun _ => len) 0 (2 * len)) x9 ∧ Fr (tU t) h0 x9) C hin tyX0_ok nmX0 rfl 0 (by decide) (by decide +kernel) rfl rfl rfl (fun h hh => by
        obtain ⟨h1, hh1, hq1, rfl⟩ := hh
        exact ⟨t, _, hh1.1.a1 hq1, Nat.le_of_ble_eq_true rfl, hh1.1.nw hq1 (by decide), (hh1.2.new hq1).up (hh1.1.a1 hq1) tU_1⟩) dX0_makeRoom_36 rfl ?_
      refine V_aload0 (pc' := 40) C dX0_makeRoom_39 rfl ?_
      refine V_aload0 (pc' := 41) C dX0_makeRoom_40 rfl ?_
      refine V_getf (pc' := 44) (T := TX0) (N := 5) (ci := 5) C hin rfl 1 (by decide) (by decide +kernel) (fun h hh => ⟨t, _, hh.1.1, rfl⟩) dX0_makeRoom_41 rfl ?_
      refine V_iconst (pc' := 45) C dX0_makeRoom_44 rfl ?_
      refine V_iload1 (pc' := 46) C dX0_makeRoom_45 rfl ?_
      refine V_imul (pc' := 47) C dX0_makeRoom_46 rfl ?_
      refine V_eq (st2 := [.int (iI ((2 * len : Nat) : Int)), .ref ((va_up (v) 0 q0) 1), .ref la]) (by rw [show ((2 * len : Nat) : Int) = 2 * (len : Int) by omega]) ?_
      refine V_callS (n := 2) [.ref ((va_up (v) 0 q0) 1), .int (iI ((2 * len : Nat) : Int))] C (kJ7_copyOf_59c91 (tq := t + 1 + 1) (len := len) (g := F 1) (tn := t + 1 + 1) (nl := 2 * len) (by omega)) gX0_makeRoom_J7_copyOf_59c91 rfl ydJ7_copyOf_59c91 ⟨Nat.le_of_ble_eq_true rfl, Nat.le_of_ble_eq_true rfl⟩ ⟨rfl, rfl⟩ rfl (fun h hh => hh.1.2 1 (by decide)) rfl (Nat.le_of_ble_eq_true rfl) dX0_makeRoom_47 ⟨Nat.le_of_ble_eq_true rfl, by show _ ≤ 8 * len; omega⟩ (fun h v9 h' hh hj => ?_)
      obtain ⟨q1, rfl, hj1, hj2⟩ := hj
      refine V_weak (I2 := fun x9 => ∃ h1, (AuG cI la (va_up (v) 0 q0) t (va_up (F) 0 (cpyZ (F 0) (fun _ => 0) 0 0 len)) n (va_up (fun _ => len) 0 (2 * len)) h1 ∧ Fr (tU t) h0 h1) ∧ h1 q1 = none ∧ x9 = hup h1 q1 (t + 1 + 1, .inl (cI, 2 * len, .inl (iF (cpyZ (F 1) (fun _ => 0) 0 0 len))))) (fun x9 hx => ⟨h, hh, hj1, by rw [hx]; exact hj2⟩) ?_
      refine V_putf (pc' := 53) (T := TX0) (N := 5) (ci := 5) (I2 := fun x9 => AuG cI la (va_up (va_up (v) 0 q0) 1 q1) t (va_up (va_up (F) 0 (cpyZ (F 0) (fun _ => 0) 0 0 len)) 1 (cpyZ (F 1) (fun _ => 0) 0 0 len)) n (va_up (va_up (fun _ => len) 0 (2 * len)) 1 (2 * len)) x9 ∧ Fr (tU t) h0 x9) C hin tyX0_ok nmX0 rfl 1 (by decide) (by decide +kernel) rfl rfl rfl (fun h hh => by
        obtain ⟨h1, hh1, hq1, rfl⟩ := hh
        exact ⟨t, _, hh1.1.a1 hq1, Nat.le_of_ble_eq_true rfl, hh1.1.nw hq1 (by decide), (hh1.2.new hq1).up (hh1.1.a1 hq1) tU_1⟩) dX0_makeRoom_50 rfl ?_
      refine V_aload0 (pc' := 54) C dX0_makeRoom_53 rfl ?_
      refine V_aload0 (pc' := 55) C dX0_makeRoom_54 rfl ?_
      refine V_getf (pc' := 58) (T := TX0) (N := 5) (ci := 5) C hin rfl 2 (by decide) (by decide +kernel) (fun h hh => ⟨t, _, hh.1.1, rfl⟩) dX0_makeRoom_55 rfl ?_
      refine V_iconst (pc' := 59) C dX0_makeRoom_58 rfl ?_
      refine V_iload1 (pc' := 60) C dX0_makeRoom_59 rfl ?_
      refine V_imul (pc' := 61) C dX0_makeRoom_60 rfl ?_
      refine V_eq (st2 := [.int (iI ((2 * len : Nat) : Int)), .ref ((va_up (va_up (v) 0 q0) 1 q1) 2), .ref la]) (by rw [show ((2 * len : Nat) : Int) = 2 * (len : Int) by omega]) ?_
      refine V_callS (n := 2) [.ref ((va_up (va_up (v) 0 q0) 1 q1) 2), .int (iI ((2 * len : Nat) : Int))] C (kJ7_copyOf_59c91 (tq := t + 1 + 2) (len := len) (g := F 2) (tn := t + 1 + 2) (nl := 2 * len) (by omega)) gX0_makeRoom_J7_copyOf_59c91 rfl ydJ7_copyOf_59c91 ⟨Nat.le_of_ble_eq_true rfl, Nat.le_of_ble_eq_true rfl⟩ ⟨rfl, rfl⟩ rfl (fun h hh => hh.1.2 2 (by decide)) rfl (Nat.le_of_ble_eq_true rfl) dX0_makeRoom_61 ⟨Nat.le_of_ble_eq_true rfl, by show _ ≤ 8 * len; omega⟩ (fun h v9 h' hh hj => ?_)
      obtain ⟨q2, rfl, hj1, hj2⟩ := hj
      refine V_weak (I2 := fun x9 => ∃ h1, (AuG cI la (va_up (va_up (v) 0 q0) 1 q1) t (va_up (va_up (F) 0 (cpyZ (F 0) (fun _ => 0) 0 0 len)) 1 (cpyZ (F 1) (fun _ => 0) 0 0 len)) n (va_up (va_up (fun _ => len) 0 (2 * len)) 1 (2 * len)) h1 ∧ Fr (tU t) h0 h1) ∧ h1 q2 = none ∧ x9 = hup h1 q2 (t + 1 + 2, .inl (cI, 2 * len, .inl (iF (cpyZ (F 2) (fun _ => 0) 0 0 len))))) (fun x9 hx => ⟨h, hh, hj1, by rw [hx]; exact hj2⟩) ?_
      refine V_putf (pc' := 67) (T := TX0) (N := 5) (ci := 5) (I2 := fun x9 => AuG cI la (va_up (va_up (va_up (v) 0 q0) 1 q1) 2 q2) t (va_up (va_up (va_up (F) 0 (cpyZ (F 0) (fun _ => 0) 0 0 len)) 1 (cpyZ (F 1) (fun _ => 0) 0 0 len)) 2 (cpyZ (F 2) (fun _ => 0) 0 0 len)) n (va_up (va_up (va_up (fun _ => len) 0 (2 * len)) 1 (2 * len)) 2 (2 * len)) x9 ∧ Fr (tU t) h0 x9) C hin tyX0_ok nmX0 rfl 2 (by decide) (by decide +kernel) rfl rfl rfl (fun h hh => by
        obtain ⟨h1, hh1, hq1, rfl⟩ := hh
        exact ⟨t, _, hh1.1.a1 hq1, Nat.le_of_ble_eq_true rfl, hh1.1.nw hq1 (by decide), (hh1.2.new hq1).up (hh1.1.a1 hq1) tU_1⟩) dX0_makeRoom_64 rfl ?_
      refine V_aload0 (pc' := 68) C dX0_makeRoom_67 rfl ?_
      refine V_aload0 (pc' := 69) C dX0_makeRoom_68 rfl ?_
      refine V_getf (pc' := 72) (T := TX0) (N := 5) (ci := 5) C hin rfl 3 (by decide) (by decide +kernel) (fun h hh => ⟨t, _, hh.1.1, rfl⟩) dX0_makeRoom_69 rfl ?_
      refine V_iconst (pc' := 73) C dX0_makeRoom_72 rfl ?_
      refine V_iload1 (pc' := 74) C dX0_makeRoom_73 rfl ?_
      refine V_imul (pc' := 75) C dX0_makeRoom_74 rfl ?_
      refine V_eq (st2 := [.int (iI ((2 * len : Nat) : Int)), .ref ((va_up (va_up (va_up (v) 0 q0) 1 q1) 2 q2) 3), .ref la]) (by rw [show ((2 * len : Nat) : Int) = 2 * (len : Int) by omega]) ?_
      refine V_callS (n := 2) [.ref ((va_up (va_up (va_up (v) 0 q0) 1 q1) 2 q2) 3), .int (iI ((2 * len : Nat) : Int))] C (kJ7_copyOf_59c91 (tq := t + 1 + 3) (len := len) (g := F 3) (tn := t + 1 + 3) (nl := 2 * len) (by omega)) gX0_makeRoom_J7_copyOf_59c91 rfl ydJ7_copyOf_59c91 ⟨Nat.le_of_ble_eq_true rfl, Nat.le_of_ble_eq_true rfl⟩ ⟨rfl, rfl⟩ rfl (fun h hh => hh.1.2 3 (by decide)) rfl (Nat.le_of_ble_eq_true rfl) dX0_makeRoom_75 ⟨Nat.le_of_ble_eq_true rfl, by show _ ≤ 8 * len; omega⟩ (fun h v9 h' hh hj => ?_)
      obtain ⟨q3, rfl, hj1, hj2⟩ := hj
      refine V_weak (I2 := fun x9 => ∃ h1, (AuG cI la (va_up (va_up (va_up (v) 0 q0) 1 q1) 2 q2) t (va_up (va_up (va_up (F) 0 (cpyZ (F 0) (fun _ => 0) 0 0 len)) 1 (cpyZ (F 1) (fun _ => 0) 0 0 len)) 2 (cpyZ (F 2) (fun _ => 0) 0 0 len)) n (va_up (va_up (va_up (fun _ => len) 0 (2 * len)) 1 (2 * len)) 2 (2 * len)) h1 ∧ Fr (tU t) h0 h1) ∧ h1 q3 = none ∧ x9 = hup h1 q3 (t + 1 + 3, .inl (cI, 2 * len, .inl (iF (cpyZ (F 3) (fun _ => 0) 0 0 len))))) (fun x9 hx => ⟨h, hh, hj1, by rw [hx]; exact hj2⟩) ?_
      refine V_putf (pc' := 81) (T := TX0) (N := 5) (ci := 5) (I2 := fun x9 => AuG cI la (va_up (va_up (va_up (va_up (v) 0 q0) 1 q1) 2 q2) 3 q3) t (va_up (va_up (va_up (va_up (F) 0 (cpyZ (F 0) (fun _ => 0) 0 0 len)) 1 (cpyZ (F 1) (fun _ => 0) 0 0 len)) 2 (cpyZ (F 2) (fun _ => 0) 0 0 len)) 3 (cpyZ (F 3) (fun _ => 0) 0 0 len)) n (va_up (va_up (va_up (va_up (fun _ => len) 0 (2 * len)) 1 (2 * len)) 2 (2 * len)) 3 (2 * len)) x9 ∧ Fr (tU t) h0 x9) C hin tyX0_ok nmX0 rfl 3 (by decide) (by decide +kernel) rfl rfl rfl (fun h hh => by
        obtain ⟨h1, hh1, hq1, rfl⟩ := hh
        exact ⟨t, _, hh1.1.a1 hq1, Nat.le_of_ble_eq_true rfl, hh1.1.nw hq1 (by decide), (hh1.2.new hq1).up (hh1.1.a1 hq1) tU_1⟩) dX0_makeRoom_78 rfl ?_
      exact V_endv C hr hlk (fun h' hh => ⟨rfl, ⟨_, hh.1.fin (by omega)⟩, hh.2⟩) ⟨Nat.le_of_ble_eq_true rfl, by omega⟩ dX0_makeRoom_81
    · exact absurd c_21 (by omega)
end

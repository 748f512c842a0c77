/-! the audit -/
def AuH (cI : ClassId) (a : Nat) (v : Nat → Nat) (t : Nat) (F : Nat → Int → Int) (n : Int) (len : Nat) (h : Hp) : Prop := h a = some (t, .inr (5, [.ref (v 0), .ref (v 1), .ref (v 2), .ref (v 3), .int (iI n)])) ∧ (∀ k, k < 4 → h (v k) = some (t + 1 + k, .inl (cI, len, .inl (iF (F k))))) ∧ 0 ≤ n ∧ n ≤ len ∧ len ≤ 107520
def tU (t : Nat) : Nat → Prop := fun u => t ≤ u ∧ u < t + 5
theorem tU_1 {t : Nat} : tU t t := ⟨Nat.le_refl _, by omega⟩
theorem tU_k {t k : Nat} (h : k < 4) : tU t (t + 1 + k) := ⟨by omega, by omega⟩
theorem AuH.fr {cI : ClassId} {a : Nat} {v : Nat → Nat} {t : Nat} {F : Nat → Int → Int} {n : Int} {len : Nat} {h h' : Hp} {T : Nat → Prop} (H : AuH cI a v t F n len h) (hF : Fr T h h') (h1 : ∀ u, t ≤ u → u < t + 5 → ¬ T u) : AuH cI a v t F n len h' := ⟨hF _ _ _ H.1 (h1 _ (Nat.le_refl _) (by omega)), fun k hk => hF _ _ _ (H.2.1 k hk) (h1 _ (by omega) (by omega)), H.2.2⟩
theorem AuH.ne {cI : ClassId} {a : Nat} {v : Nat → Nat} {t : Nat} {F : Nat → Int → Int} {n : Int} {len : Nat} {h : Hp} (H : AuH cI a v t F n len h) {k : Nat} (hk : k < 4) : a ≠ v k := fun z => by
  have := H.1
  rw [z, H.2.1 k hk] at this
  have := (Prod.mk.inj (Option.some.inj this)).1
  omega
theorem AuH.ne2 {cI : ClassId} {a : Nat} {v : Nat → Nat} {t : Nat} {F : Nat → Int → Int} {n : Int} {len : Nat} {h : Hp} (H : AuH cI a v t F n len h) {j k : Nat} (hj : j < 4) (hk : k < 4) (n0 : j ≠ k) : v j ≠ v k := fun z => by
  have h1 := H.2.1 j hj
  rw [z, H.2.1 k hk] at h1
  have := (Prod.mk.inj (Option.some.inj h1)).1
  omega
theorem AuH.st {cI : ClassId} {a : Nat} {v : Nat → Nat} {t : Nat} {F : Nat → Int → Int} {n : Int} {len : Nat} {h : Hp} (H : AuH cI a v t F n len h) (k : Nat) (hk : k < 4) (g : Int → Int) : AuH cI a v t (fun j => if j = k then g else F j) n len (hup h (v k) (t + 1 + k, .inl (cI, len, .inl (iF g)))) := by
  refine ⟨by rw [hup_n (H.ne hk)]; exact H.1, fun j hj => ?_, H.2.2⟩
  by_cases e : j = k
  · subst e
    dsimp only
    rw [if_pos rfl, hup_s]
  · dsimp only
    rw [if_neg e, hup_n (H.ne2 hj hk e)]
    exact H.2.1 j hj
theorem AuH.put {cI : ClassId} {a : Nat} {v : Nat → Nat} {t : Nat} {F : Nat → Int → Int} {n n' : Int} {len : Nat} {h : Hp} (H : AuH cI a v t F n len h) (h0 : 0 ≤ n' ∧ n' ≤ len) : AuH cI a v t F n' len (hup h a (t, .inr (5, [.ref (v 0), .ref (v 1), .ref (v 2), .ref (v 3), .int (iI n')]))) := ⟨hup_s, fun k hk => by rw [hup_n (H.ne hk).symm]; exact H.2.1 k hk, h0.1, h0.2, H.2.2.2.2⟩
theorem AuH.eq {cI : ClassId} {a : Nat} {v : Nat → Nat} {t : Nat} {F G : Nat → Int → Int} {n : Int} {len : Nat} {h : Hp} (H : AuH cI a v t F n len h) (e : ∀ k, k < 4 → F k = G k) : AuH cI a v t G n len h := ⟨H.1, fun k hk => by rw [← e k hk]; exact H.2.1 k hk, H.2.2⟩
def nt4 (p b h m : Int) (k : Nat) : Int := if k = 0 then p else if k = 1 then b else if k = 2 then h else m
def noteF (F : Nat → Int → Int) (n : Int) (p b h m : Int) : Nat → Int → Int := fun k => upZ (F k) n (nt4 p b h m k)
theorem noteF_eq (F : Nat → Int → Int) (n p b h m : Int) : ∀ k, k < 4 → (fun j => if j = 3 then upZ (F 3) n m else (fun j => if j = 2 then upZ (F 2) n h else (fun j => if j = 1 then upZ (F 1) n b else (fun j => if j = 0 then upZ (F 0) n p else F j) j) j) j) k = noteF F n p b h m k
  | 0, _ => rfl
  | 1, _ => rfl
  | 2, _ => rfl
  | 3, _ => rfl
/-- a cell's value by the first entries -/
def anewN (F : Nat → Int → Int) (z : Int) : Nat → Int
  | 0 => 0
  | j + 1 => if F 0 j = z then F 2 j else anewN F z j
def cntN (F : Nat → Int → Int) (w : Int) : Nat → Int
  | 0 => 0
  | j + 1 => if F 3 j = w then cntN F w j + 1 else cntN F w j
theorem cntN_in (F : Nat → Int → Int) (w : Int) : ∀ j : Nat, 0 ≤ cntN F w j ∧ cntN F w j ≤ j
  | 0 => by simp [cntN]
  | j + 1 => by
    have ih := cntN_in F w j
    rw [cntN]
    split <;> omega
def latN (F : Nat → Int → Int) (z : Int) : Nat → Int
  | 0 => -1
  | j + 1 => if F 0 j = z then j else latN F z j
/-- the audit's length behind its making of room, and what that costs -/
def lenG (n : Int) (len : Nat) : Nat := if n + 210 ≤ len ∨ 107520 ≤ len then len else 2 * len
def growS (n : Int) (len : Nat) : Nat := if n + 210 ≤ len ∨ 107520 ≤ len then 0 else 8 * len
def growC (n : Int) (len : Nat) : Nat := if n + 210 ≤ len ∨ 107520 ≤ len then 0 else 4
theorem hup_hup {h : Hp} {a : Nat} {x y : Nat × va_E} : hup (hup h a x) a y = hup h a y := by
  funext b
  unfold hup
  by_cases e : b = a
  · rw [if_pos e, if_pos e]
  · rw [if_neg e, if_neg e, if_neg e]
theorem ydX0_size : yX0_size.cls = RX0 ∧ yX0_size.cls ≠ "java/lang/invoke/MethodHandle" ∧ yX0_size.cls ≠ "java/lang/invoke/VarHandle" ∧ (parseMethodDescriptor yX0_size.desc).map (fun d => d.parameters.length) = some 0 := by decide +kernel
theorem ydX0_isFull : yX0_isFull.cls = RX0 ∧ yX0_isFull.cls ≠ "java/lang/invoke/MethodHandle" ∧ yX0_isFull.cls ≠ "java/lang/invoke/VarHandle" ∧ (parseMethodDescriptor yX0_isFull.desc).map (fun d => d.parameters.length) = some 0 := by decide +kernel
theorem ydX0_placeAt : yX0_placeAt.cls = RX0 ∧ yX0_placeAt.cls ≠ "java/lang/invoke/MethodHandle" ∧ yX0_placeAt.cls ≠ "java/lang/invoke/VarHandle" ∧ (parseMethodDescriptor yX0_placeAt.desc).map (fun d => d.parameters.length) = some 1 := by decide +kernel
theorem ydX0_beforeAt : yX0_beforeAt.cls = RX0 ∧ yX0_beforeAt.cls ≠ "java/lang/invoke/MethodHandle" ∧ yX0_beforeAt.cls ≠ "java/lang/invoke/VarHandle" ∧ (parseMethodDescriptor yX0_beforeAt.desc).map (fun d => d.parameters.length) = some 1 := by decide +kernel
theorem ydX0_cutTo : yX0_cutTo.cls = RX0 ∧ yX0_cutTo.cls ≠ "java/lang/invoke/MethodHandle" ∧ yX0_cutTo.cls ≠ "java/lang/invoke/VarHandle" ∧ (parseMethodDescriptor yX0_cutTo.desc).map (fun d => d.parameters.length) = some 1 := by decide +kernel
theorem ydX0_note : yX0_note.cls = RX0 ∧ yX0_note.cls ≠ "java/lang/invoke/MethodHandle" ∧ yX0_note.cls ≠ "java/lang/invoke/VarHandle" ∧ (parseMethodDescriptor yX0_note.desc).map (fun d => d.parameters.length) = some 4 := by decide +kernel
theorem ydX0_valueAnew : yX0_valueAnew.cls = RX0 ∧ yX0_valueAnew.cls ≠ "java/lang/invoke/MethodHandle" ∧ yX0_valueAnew.cls ≠ "java/lang/invoke/VarHandle" ∧ (parseMethodDescriptor yX0_valueAnew.desc).map (fun d => d.parameters.length) = some 1 := by decide +kernel
section
variable {l : Launch} {D : va_G} {cB cC cI cO cJ cD : ClassId} {ee : Nat × Nat} {la t : Nat} {md sn : Int} {ar : Option Nat} {f : Nat → Option Nat}
variable {v : Nat → Nat} {F : Nat → Int → Int} {n : Int} {len : Nat}
set_option maxHeartbeats 4000000 in
set_option maxRecDepth 100000 in
theorem kX0_size : Ct l yX0_size wsX0_size ({ frames := 0, cells := 0, slots := 0, locals := 0 } : Room) D (tyL cB cC cI cO cJ cD) ee [.ref la] (AuH cI la v t F n len) (Ji fun h z h' => z = n ∧ h' = h) 0 0 := by
  refine Ct_of (cc := cX0_size) (own := RX0) [some (.ref la)] (by decide) rfl rfl (Nat.le_of_ble_eq_true rfl) (fun i9 v9 h9 => argL [.ref la] 0 rfl i9 v9 h9) ?_
  intro p e s m9 args below meth c9 h0 sz hI C hr hlk hinit
  have hin : ∀ w ∈ wsX00, w ∈ wsX0_size := by decide +kernel
  have hb9 : 0 ≤ n ∧ n ≤ len ∧ len ≤ 107520 := hI.2.2
  refine V_weak (I2 := fun x => AuH cI la v t F n len x ∧ x = h0) (fun x hx => by subst hx; exact ⟨hI, rfl⟩) ?_
  refine V_aload0 (pc' := 1) C dX0_size_0 rfl ?_
  refine V_getf (pc' := 4) (T := TX0) (N := 5) (ci := 5) C hin rfl 4 (by decide) (by decide +kernel) (fun h hh => ⟨t, _, hh.1.1, rfl⟩) dX0_size_1 rfl ?_
  exact V_end C hr hlk (fun h' hh => ⟨_, rfl, rfl, hh.2⟩) ⟨Nat.le_refl _, Nat.le_refl _⟩ dX0_size_4
set_option maxHeartbeats 4000000 in
set_option maxRecDepth 100000 in
theorem kX0_isFull : Ct l yX0_isFull wsX0_isFull ({ frames := 0, cells := 0, slots := 0, locals := 0 } : Room) D (tyL cB cC cI cO cJ cD) ee [.ref la] (AuH cI la v t F n len) (Ji fun h z h' => z = bI (decide ((len : Int) ≤ n)) ∧ h' = h) 0 0 := by
  refine Ct_of (cc := cX0_isFull) (own := RX0) [some (.ref la)] (by decide) rfl rfl (Nat.le_of_ble_eq_true rfl) (fun i9 v9 h9 => argL [.ref la] 0 rfl i9 v9 h9) ?_
  intro p e s m9 args below meth c9 h0 sz hI C hr hlk hinit
  have hin : ∀ w ∈ wsX00, w ∈ wsX0_isFull := by decide +kernel
  have hb9 : 0 ≤ n ∧ n ≤ len ∧ len ≤ 107520 := hI.2.2
  refine V_weak (I2 := fun x => AuH cI la v t F n len x ∧ x = h0) (fun x hx => by subst hx; exact ⟨hI, rfl⟩) ?_
  refine V_aload0 (pc' := 1) C dX0_isFull_0 rfl ?_
  refine V_getf (pc' := 4) (T := TX0) (N := 5) (ci := 5) C hin rfl 4 (by decide) (by decide +kernel) (fun h hh => ⟨t, _, hh.1.1, rfl⟩) dX0_isFull_1 rfl ?_
  refine V_aload0 (pc' := 5) C dX0_isFull_4 rfl ?_
  refine V_getf (pc' := 8) (T := TX0) (N := 5) (ci := 5) C hin rfl 0 (by decide) (by decide +kernel) (fun h hh => ⟨t, _, hh.1.1, rfl⟩) dX0_isFull_5 rfl ?_
  refine V_alen (pc' := 9) (n := len) C 2 rfl (fun h hh => ⟨t + 1, hh.1.2.1 0 (by decide)⟩) dX0_isFull_8 rfl ?_
  refine V_icmplt (tgt := 16) C (by omega) dX0_isFull_9 (by decide) rfl (fun c_9 => ?_) (fun c_9 => ?_)
  · refine V_iconst (pc' := 17) C dX0_isFull_16 rfl ?_
    first | (have hb8 : decide ((len : Int) ≤ n) = true := by (simp; omega)) | (have hb8 : decide ((len : Int) ≤ n) = false := by (simp; omega))
    refine V_eq (st2 := [.int (iI (bI (decide ((len : Int) ≤ n))))]) (by rw [hb8]; rfl) ?_
    exact V_endz C hr hlk (nar_z _) (fun h' hh => ⟨_, rfl, rfl, hh.2⟩) ⟨Nat.le_refl _, Nat.le_refl _⟩ dX0_isFull_17
  · refine V_iconst (pc' := 13) C dX0_isFull_12 rfl ?_
    refine V_goto (tgt := 17) C dX0_isFull_13 (by decide) ?_
    first | (have hb8 : decide ((len : Int) ≤ n) = true := by (simp; omega)) | (have hb8 : decide ((len : Int) ≤ n) = false := by (simp; omega))
    refine V_eq (st2 := [.int (iI (bI (decide ((len : Int) ≤ n))))]) (by rw [hb8]; rfl) ?_
    exact V_endz C hr hlk (nar_z _) (fun h' hh => ⟨_, rfl, rfl, hh.2⟩) ⟨Nat.le_refl _, Nat.le_refl _⟩ dX0_isFull_17
set_option maxHeartbeats 4000000 in
set_option maxRecDepth 100000 in
theorem kX0_placeAt {z : Int} (hz : 0 ≤ z ∧ z < n) : Ct l yX0_placeAt wsX0_placeAt ({ frames := 0, cells := 0, slots := 0, locals := 0 } : Room) D (tyL cB cC cI cO cJ cD) ee [.ref la, .int (iI z)] (AuH cI la v t F n len) (Ji fun h r h' => r = F 0 z ∧ h' = h) 0 0 := by
  refine Ct_of (cc := cX0_placeAt) (own := RX0) [some (.ref la), some (.int (iI z))] (by decide) rfl rfl (Nat.le_of_ble_eq_true rfl) (fun i9 v9 h9 => argL [.ref la, .int (iI z)] 0 rfl i9 v9 h9) ?_
  intro p e s m9 args below meth c9 h0 sz hI C hr hlk hinit
  have hin : ∀ w ∈ wsX00, w ∈ wsX0_placeAt := by decide +kernel
  have hb9 : 0 ≤ n ∧ n ≤ len ∧ len ≤ 107520 := hI.2.2
  refine V_weak (I2 := fun x => AuH cI la v t F n len x ∧ x = h0) (fun x hx => by subst hx; exact ⟨hI, rfl⟩) ?_
  refine V_iload1 (pc' := 1) C dX0_placeAt_0 rfl ?_
  refine V_iflt (tgt := 21) C (by omega) dX0_placeAt_1 (by decide) rfl (fun c_1 => ?_) (fun c_1 => ?_)
  · exact absurd c_1 (by omega)
  · refine V_iload1 (pc' := 5) C dX0_placeAt_4 rfl ?_
    refine V_aload0 (pc' := 6) C dX0_placeAt_5 rfl ?_
    refine V_getf (pc' := 9) (T := TX0) (N := 5) (ci := 5) C hin rfl 4 (by decide) (by decide +kernel) (fun h hh => ⟨t, _, hh.1.1, rfl⟩) dX0_placeAt_6 rfl ?_
    refine V_icmpge (tgt := 21) C (by omega) dX0_placeAt_9 (by decide) rfl (fun c_9 => ?_) (fun c_9 => ?_)
    · exact absurd c_9 (by omega)
    · refine V_aload0 (pc' := 13) C dX0_placeAt_12 rfl ?_
      refine V_getf (pc' := 16) (T := TX0) (N := 5) (ci := 5) C hin rfl 0 (by decide) (by decide +kernel) (fun h hh => ⟨t, _, hh.1.1, rfl⟩) dX0_placeAt_13 rfl ?_
      refine V_iload1 (pc' := 17) C dX0_placeAt_16 rfl ?_
      refine V_iald (pc' := 18) (n := len) (f := F 0) C 2 rfl (fun h hh => ⟨t + 1 + 0, hh.1.2.1 0 (by decide)⟩) ⟨hz.1, by omega, by omega⟩ dX0_placeAt_17 rfl ?_
      refine V_goto (tgt := 22) C dX0_placeAt_18 (by decide) ?_
      exact V_end C hr hlk (fun h' hh => ⟨_, rfl, rfl, hh.2⟩) ⟨Nat.le_refl _, Nat.le_refl _⟩ dX0_placeAt_22
set_option maxHeartbeats 4000000 in
set_option maxRecDepth 100000 in
theorem kX0_beforeAt {z : Int} (hz : 0 ≤ z ∧ z < n) : Ct l yX0_beforeAt wsX0_beforeAt ({ frames := 0, cells := 0, slots := 0, locals := 0 } : Room) D (tyL cB cC cI cO cJ cD) ee [.ref la, .int (iI z)] (AuH cI la v t F n len) (Ji fun h r h' => r = F 1 z ∧ h' = h) 0 0 := by
  refine Ct_of (cc := cX0_beforeAt) (own := RX0) [some (.ref la), some (.int (iI z))] (by decide) rfl rfl (Nat.le_of_ble_eq_true rfl) (fun i9 v9 h9 => argL [.ref la, .int (iI z)] 0 rfl i9 v9 h9) ?_
  intro p e s m9 args below meth c9 h0 sz hI C hr hlk hinit
  have hin : ∀ w ∈ wsX00, w ∈ wsX0_beforeAt := by decide +kernel
  have hb9 : 0 ≤ n ∧ n ≤ len ∧ len ≤ 107520 := hI.2.2
  refine V_weak (I2 := fun x => AuH cI la v t F n len x ∧ x = h0) (fun x hx => by subst hx; exact ⟨hI, rfl⟩) ?_
  refine V_iload1 (pc' := 1) C dX0_beforeAt_0 rfl ?_
  refine V_iflt (tgt := 21) C (by omega) dX0_beforeAt_1 (by decide) rfl (fun c_1 => ?_) (fun c_1 => ?_)
  · exact absurd c_1 (by omega)
  · refine V_iload1 (pc' := 5) C dX0_beforeAt_4 rfl ?_
    refine V_aload0 (pc' := 6) C dX0_beforeAt_5 rfl ?_
    refine V_getf (pc' := 9) (T := TX0) (N := 5) (ci := 5) C hin rfl 4 (by decide) (by decide +kernel) (fun h hh => ⟨t, _, hh.1.1, rfl⟩) dX0_beforeAt_6 rfl ?_
    refine V_icmpge (tgt := 21) C (by omega) dX0_beforeAt_9 (by decide) rfl (fun c_9 => ?_) (fun c_9 => ?_)
    · exact absurd c_9 (by omega)
    · refine V_aload0 (pc' := 13) C dX0_beforeAt_12 rfl ?_
      refine V_getf (pc' := 16) (T := TX0) (N := 5) (ci := 5) C hin rfl 1 (by decide) (by decide +kernel) (fun h hh => ⟨t, _, hh.1.1, rfl⟩) dX0_beforeAt_13 rfl ?_
      refine V_iload1 (pc' := 17) C dX0_beforeAt_16 rfl ?_
      refine V_iald (pc' := 18) (n := len) (f := F 1) C 2 rfl (fun h hh => ⟨t + 1 + 1, hh.1.2.1 1 (by decide)⟩) ⟨hz.1, by omega, by omega⟩ dX0_beforeAt_17 rfl ?_
      refine V_goto (tgt := 22) C dX0_beforeAt_18 (by decide) ?_
      exact V_end C hr hlk (fun h' hh => ⟨_, rfl, rfl, hh.2⟩) ⟨Nat.le_refl _, Nat.le_refl _⟩ dX0_beforeAt_22
set_option maxHeartbeats 4000000 in
set_option maxRecDepth 100000 in
theorem kX0_cutTo {z : Int} (hz : 0 ≤ z ∧ z < n) : Ct l yX0_cutTo wsX0_cutTo ({ frames := 0, cells := 0, slots := 0, locals := 0 } : Room) D (tyL cB cC cI cO cJ cD) ee [.ref la, .int (iI z)] (AuH cI la v t F n len) (fun h v9 h' => v9 = none ∧ AuH cI la v t F z len h' ∧ Fr (tU t) h h') 0 0 := by
  refine Ct_of (cc := cX0_cutTo) (own := RX0) [some (.ref la), some (.int (iI z))] (by decide) rfl rfl (Nat.le_of_ble_eq_true rfl) (fun i9 v9 h9 => argL [.ref la, .int (iI z)] 0 rfl i9 v9 h9) ?_
  intro p e s m9 args below meth c9 h0 sz hI C hr hlk hinit
  have hin : ∀ w ∈ wsX00, w ∈ wsX0_cutTo := by decide +kernel
  have hb9 : 0 ≤ n ∧ n ≤ len ∧ len ≤ 107520 := hI.2.2
  refine V_weak (I2 := fun x9 => AuH cI la v t (F) (n) len x9 ∧ Fr (tU t) h0 x9) (fun x hx => by subst hx; exact ⟨hI, Fr.refl⟩) ?_
  refine V_iload1 (pc' := 1) C dX0_cutTo_0 rfl ?_
  refine V_iflt (tgt := 17) C (by omega) dX0_cutTo_1 (by decide) rfl (fun c_1 => ?_) (fun c_1 => ?_)
  · exact absurd c_1 (by omega)
  · refine V_iload1 (pc' := 5) C dX0_cutTo_4 rfl ?_
    refine V_aload0 (pc' := 6) C dX0_cutTo_5 rfl ?_
    refine V_getf (pc' := 9) (T := TX0) (N := 5) (ci := 5) C hin rfl 4 (by decide) (by decide +kernel) (fun h hh => ⟨t, _, hh.1.1, rfl⟩) dX0_cutTo_6 rfl ?_
    refine V_icmpge (tgt := 17) C (by omega) dX0_cutTo_9 (by decide) rfl (fun c_9 => ?_) (fun c_9 => ?_)
    · exact absurd c_9 (by omega)
    · refine V_aload0 (pc' := 13) C dX0_cutTo_12 rfl ?_
      refine V_iload1 (pc' := 14) C dX0_cutTo_13 rfl ?_
      refine V_putf (pc' := 17) (T := TX0) (N := 5) (ci := 5) (I2 := fun x9 => AuH cI la v t (F) (z) len x9 ∧ Fr (tU t) h0 x9) C hin tyX0_ok nmX0 rfl 4 (by decide) (by decide +kernel) rfl rfl rfl (fun h hh => ⟨t, _, hh.1.1, Nat.le_of_ble_eq_true rfl, hh.1.put (by omega), hh.2.up hh.1.1 tU_1⟩) dX0_cutTo_14 rfl ?_
      exact V_endv C hr hlk (fun h' hh => ⟨rfl, hh.1, hh.2⟩) ⟨Nat.le_refl _, Nat.le_refl _⟩ dX0_cutTo_17
set_option maxHeartbeats 4000000 in
set_option maxRecDepth 100000 in
theorem kX0_note {pl be bh mk : Int} (hz : n < len) : Ct l yX0_note wsX0_note ({ frames := 0, cells := 0, slots := 0, locals := 0 } : Room) D (tyL cB cC cI cO cJ cD) ee [.ref la, .int (iI pl), .int (iI be), .int (iI bh), .int (iI mk)] (AuH cI la v t F n len) (fun h v9 h' => v9 = none ∧ AuH cI la v t (noteF F n pl be bh mk) (n + 1) len h' ∧ Fr (tU t) h h') 0 0 := by
  refine Ct_of (cc := cX0_note) (own := RX0) [some (.ref la), some (.int (iI pl)), some (.int (iI be)), some (.int (iI bh)), some (.int (iI mk))] (by decide) rfl rfl (Nat.le_of_ble_eq_true rfl) (fun i9 v9 h9 => argL [.ref la, .int (iI pl), .int (iI be), .int (iI bh), .int (iI mk)] 0 rfl i9 v9 h9) ?_
  intro p e s m9 args below meth c9 h0 sz hI C hr hlk hinit
  have hin : ∀ w ∈ wsX00, w ∈ wsX0_note := by decide +kernel
  have hb9 : 0 ≤ n ∧ n ≤ len ∧ len ≤ 107520 := hI.2.2
  refine V_weak (I2 := fun x9 => AuH cI la v t (F) (n) len x9 ∧ Fr (tU t) h0 x9) (fun x hx => by subst hx; exact ⟨hI, Fr.refl⟩) ?_
  refine V_aload0 (pc' := 1) C dX0_note_0 rfl ?_
  refine V_getf (pc' := 4) (T := TX0) (N := 5) (ci := 5) C hin rfl 4 (by decide) (by decide +kernel) (fun h hh => ⟨t, _, hh.1.1, rfl⟩) dX0_note_1 rfl ?_
  refine V_iflt (tgt := 19) C (by omega) dX0_note_4 (by decide) rfl (fun c_4 => ?_) (fun c_4 => ?_)
  · exact absurd c_4 (by omega)
  · refine V_aload0 (pc' := 8) C dX0_note_7 rfl ?_
    refine V_getf (pc' := 11) (T := TX0) (N := 5) (ci := 5) C hin rfl 4 (by decide) (by decide +kernel) (fun h hh => ⟨t, _, hh.1.1, rfl⟩) dX0_note_8 rfl ?_
    refine V_aload0 (pc' := 12) C dX0_note_11 rfl ?_
    refine V_getf (pc' := 15) (T := TX0) (N := 5) (ci := 5) C hin rfl 0 (by decide) (by decide +kernel) (fun h hh => ⟨t, _, hh.1.1, rfl⟩) dX0_note_12 rfl ?_
    refine V_alen (pc' := 16) (n := len) C 2 rfl (fun h hh => ⟨t + 1, hh.1.2.1 0 (by decide)⟩) dX0_note_15 rfl ?_
    refine V_icmplt (tgt := 20) C (by omega) dX0_note_16 (by decide) rfl (fun c_16 => ?_) (fun c_16 => ?_)
    · refine V_aload0 (pc' := 21) C dX0_note_20 rfl ?_
      refine V_getf (pc' := 24) (T := TX0) (N := 5) (ci := 5) C hin rfl 0 (by decide) (by decide +kernel) (fun h hh => ⟨t, _, hh.1.1, rfl⟩) dX0_note_21 rfl ?_
      refine V_aload0 (pc' := 25) C dX0_note_24 rfl ?_
      refine V_getf (pc' := 28) (T := TX0) (N := 5) (ci := 5) C hin rfl 4 (by decide) (by decide +kernel) (fun h hh => ⟨t, _, hh.1.1, rfl⟩) dX0_note_25 rfl ?_
      refine V_iload1 (pc' := 29) C dX0_note_28 rfl ?_
      refine V_iast (pc' := 30) (n := len) (f := F 0) (I2 := fun x9 => AuH cI la v t (fun j => if j = 0 then upZ (F 0) n pl else F j) (n) len x9 ∧ Fr (tU t) h0 x9) C 2 rfl (fun h hh => ⟨t + 1 + 0, hh.1.2.1 0 (by decide), hh.1.st 0 (by decide) _, hh.2.up (hh.1.2.1 0 (by decide)) (tU_k (by decide))⟩) ⟨by omega, by omega, by omega⟩ dX0_note_29 rfl ?_
      refine V_aload0 (pc' := 31) C dX0_note_30 rfl ?_
      refine V_getf (pc' := 34) (T := TX0) (N := 5) (ci := 5) C hin rfl 1 (by decide) (by decide +kernel) (fun h hh => ⟨t, _, hh.1.1, rfl⟩) dX0_note_31 rfl ?_
      refine V_aload0 (pc' := 35) C dX0_note_34 rfl ?_
      refine V_getf (pc' := 38) (T := TX0) (N := 5) (ci := 5) C hin rfl 4 (by decide) (by decide +kernel) (fun h hh => ⟨t, _, hh.1.1, rfl⟩) dX0_note_35 rfl ?_
      refine V_iload2 (pc' := 39) C dX0_note_38 rfl ?_
      refine V_iast (pc' := 40) (n := len) (f := F 1) (I2 := fun x9 => AuH cI la v t (fun j => if j = 1 then upZ (F 1) n be else (fun j => if j = 0 then upZ (F 0) n pl else F j) j) (n) len x9 ∧ Fr (tU t) h0 x9) C 2 rfl (fun h hh => ⟨t + 1 + 1, hh.1.2.1 1 (by decide), hh.1.st 1 (by decide) _, hh.2.up (hh.1.2.1 1 (by decide)) (tU_k (by decide))⟩) ⟨by omega, by omega, by omega⟩ dX0_note_39 rfl ?_
      refine V_aload0 (pc' := 41) C dX0_note_40 rfl ?_
      refine V_getf (pc' := 44) (T := TX0) (N := 5) (ci := 5) C hin rfl 2 (by decide) (by decide +kernel) (fun h hh => ⟨t, _, hh.1.1, rfl⟩) dX0_note_41 rfl ?_
      refine V_aload0 (pc' := 45) C dX0_note_44 rfl ?_
      refine V_getf (pc' := 48) (T := TX0) (N := 5) (ci := 5) C hin rfl 4 (by decide) (by decide +kernel) (fun h hh => ⟨t, _, hh.1.1, rfl⟩) dX0_note_45 rfl ?_
      refine V_iload3 (pc' := 49) C dX0_note_48 rfl ?_
      refine V_iast (pc' := 50) (n := len) (f := F 2) (I2 := fun x9 => AuH cI la v t (fun j => if j = 2 then upZ (F 2) n bh else (fun j => if j = 1 then upZ (F 1) n be else (fun j => if j = 0 then upZ (F 0) n pl else F j) j) j) (n) len x9 ∧ Fr (tU t) h0 x9) C 2 rfl (fun h hh => ⟨t + 1 + 2, hh.1.2.1 2 (by decide), hh.1.st 2 (by decide) _, hh.2.up (hh.1.2.1 2 (by decide)) (tU_k (by decide))⟩) ⟨by omega, by omega, by omega⟩ dX0_note_49 rfl ?_
      refine V_aload0 (pc' := 51) C dX0_note_50 rfl ?_
      refine V_getf (pc' := 54) (T := TX0) (N := 5) (ci := 5) C hin rfl 3 (by decide) (by decide +kernel) (fun h hh => ⟨t, _, hh.1.1, rfl⟩) dX0_note_51 rfl ?_
      refine V_aload0 (pc' := 55) C dX0_note_54 rfl ?_
      refine V_getf (pc' := 58) (T := TX0) (N := 5) (ci := 5) C hin rfl 4 (by decide) (by decide +kernel) (fun h hh => ⟨t, _, hh.1.1, rfl⟩) dX0_note_55 rfl ?_
      refine V_iload4 (pc' := 60) C dX0_note_58 rfl ?_
      refine V_iast (pc' := 61) (n := len) (f := F 3) (I2 := fun x9 => AuH cI la v t (fun j => if j = 3 then upZ (F 3) n mk else (fun j => if j = 2 then upZ (F 2) n bh else (fun j => if j = 1 then upZ (F 1) n be else (fun j => if j = 0 then upZ (F 0) n pl else F j) j) j) j) (n) len x9 ∧ Fr (tU t) h0 x9) C 2 rfl (fun h hh => ⟨t + 1 + 3, hh.1.2.1 3 (by decide), hh.1.st 3 (by decide) _, hh.2.up (hh.1.2.1 3 (by decide)) (tU_k (by decide))⟩) ⟨by omega, by omega, by omega⟩ dX0_note_60 rfl ?_
      refine V_aload0 (pc' := 62) C dX0_note_61 rfl ?_
      refine V_dup (pc' := 63) C rfl dX0_note_62 rfl ?_
      refine V_getf (pc' := 66) (T := TX0) (N := 5) (ci := 5) C hin rfl 4 (by decide) (by decide +kernel) (fun h hh => ⟨t, _, hh.1.1, rfl⟩) dX0_note_63 rfl ?_
      refine V_iconst (pc' := 67) C dX0_note_66 rfl ?_
      refine V_iadd (pc' := 68) C dX0_note_67 rfl ?_
      refine V_putf (pc' := 71) (T := TX0) (N := 5) (ci := 5) (I2 := fun x9 => AuH cI la v t (fun j => if j = 3 then upZ (F 3) n mk else (fun j => if j = 2 then upZ (F 2) n bh else (fun j => if j = 1 then upZ (F 1) n be else (fun j => if j = 0 then upZ (F 0) n pl else F j) j) j) j) (n + 1) len x9 ∧ Fr (tU t) h0 x9) C hin tyX0_ok nmX0 rfl 4 (by decide) (by decide +kernel) rfl rfl rfl (fun h hh => ⟨t, _, hh.1.1, Nat.le_of_ble_eq_true rfl, hh.1.put (by omega), hh.2.up hh.1.1 tU_1⟩) dX0_note_68 rfl ?_
      exact V_endv C hr hlk (fun h' hh => ⟨rfl, hh.1.eq (noteF_eq F n pl be bh mk), hh.2⟩) ⟨Nat.le_refl _, Nat.le_refl _⟩ dX0_note_71
    · exact absurd c_16 (by omega)
set_option maxHeartbeats 4000000 in
set_option maxRecDepth 100000 in
theorem kX0_valueAnew {z : Int} (hz : rI z) (hF : ∀ i, 0 ≤ i → i < n → rI (F 0 i) ∧ rI (F 2 i) ∧ rI (F 3 i)) : Ct l yX0_valueAnew wsX0_valueAnew ({ frames := 0, cells := 0, slots := 0, locals := 0 } : Room) D (tyL cB cC cI cO cJ cD) ee [.ref la, .int (iI z)] (AuH cI la v t F n len) (Ji fun h r h' => r = anewN F z n.toNat ∧ h' = h) 0 0 := by
  refine Ct_of (cc := cX0_valueAnew) (own := RX0) [some (.ref la), some (.int (iI z)), none, none] (by decide) rfl rfl (Nat.le_of_ble_eq_true rfl) (fun i9 v9 h9 => argL [.ref la, .int (iI z)] 2 rfl i9 v9 h9) ?_
  intro p e s m9 args below meth c9 h0 sz hI C hr hlk hinit
  have hin : ∀ w ∈ wsX00, w ∈ wsX0_valueAnew := by decide +kernel
  have hb9 : 0 ≤ n ∧ n ≤ len ∧ len ≤ 107520 := hI.2.2
  refine V_weak (I2 := fun x => AuH cI la v t F n len x ∧ x = h0) (fun x hx => by subst hx; exact ⟨hI, rfl⟩) ?_
  refine V_iconst (pc' := 1) C dX0_valueAnew_0 rfl ?_
  refine V_istore2 (pc' := 2) C dX0_valueAnew_1 rfl (by decide) rfl ?_
  refine V_iconst (pc' := 3) C dX0_valueAnew_2 rfl ?_
  refine V_istore3 (pc' := 4) C dX0_valueAnew_3 rfl (by decide) rfl ?_
  refine V_for0 (N := n.toNat) (fun j => fun x => AuH cI la v t F n len x ∧ x = h0) (fun j => [some (.ref la), some (.int (iI z)), some (.int (iI (anewN F z j))), some (.int (iI j))]) (fun j => True) (trivial) (fun h hh => hh) rfl (fun j hj hv hk => ?_) (fun hv => ?_)
  · have hf9 := hF j (by omega) (by omega)
    refine V_iload3 (pc' := 5) C dX0_valueAnew_4 rfl ?_
    refine V_aload0 (pc' := 6) C dX0_valueAnew_5 rfl ?_
    refine V_getf (pc' := 9) (T := TX0) (N := 5) (ci := 5) C hin rfl 4 (by decide) (by decide +kernel) (fun h hh => ⟨t, _, hh.1.1, rfl⟩) dX0_valueAnew_6 rfl ?_
    refine V_icmpge (tgt := 35) C (by omega) dX0_valueAnew_9 (by decide) rfl (fun c_9 => ?_) (fun c_9 => ?_)
    · exact absurd c_9 (by omega)
    · refine V_aload0 (pc' := 13) C dX0_valueAnew_12 rfl ?_
      refine V_getf (pc' := 16) (T := TX0) (N := 5) (ci := 5) C hin rfl 0 (by decide) (by decide +kernel) (fun h hh => ⟨t, _, hh.1.1, rfl⟩) dX0_valueAnew_13 rfl ?_
      refine V_iload3 (pc' := 17) C dX0_valueAnew_16 rfl ?_
      refine V_iald (pc' := 18) (n := len) (f := F 0) C 2 rfl (fun h hh => ⟨t + 1 + 0, hh.1.2.1 0 (by decide)⟩) ⟨by omega, by omega, by omega⟩ dX0_valueAnew_17 rfl ?_
      refine V_iload1 (pc' := 19) C dX0_valueAnew_18 rfl ?_
      refine V_icmpne (tgt := 29) C (by omega) dX0_valueAnew_19 (by decide) rfl (fun c_19 => ?_) (fun c_19 => ?_)
      · refine V_iinc3 (pc' := 32) C dX0_valueAnew_29 rfl (by decide) rfl ?_
        refine V_goto (tgt := 4) C dX0_valueAnew_32 (by decide) ?_
        exact V_conv (fun h q => q) (by first | (rw [anewN, if_pos (by omega)]; rfl) | (rw [anewN, if_neg (by omega)]; rfl)) (hk trivial)
      · refine V_aload0 (pc' := 23) C dX0_valueAnew_22 rfl ?_
        refine V_getf (pc' := 26) (T := TX0) (N := 5) (ci := 5) C hin rfl 2 (by decide) (by decide +kernel) (fun h hh => ⟨t, _, hh.1.1, rfl⟩) dX0_valueAnew_23 rfl ?_
        refine V_iload3 (pc' := 27) C dX0_valueAnew_26 rfl ?_
        refine V_iald (pc' := 28) (n := len) (f := F 2) C 2 rfl (fun h hh => ⟨t + 1 + 2, hh.1.2.1 2 (by decide)⟩) ⟨by omega, by omega, by omega⟩ dX0_valueAnew_27 rfl ?_
        refine V_istore2 (pc' := 29) C dX0_valueAnew_28 rfl (by decide) rfl ?_
        refine V_iinc3 (pc' := 32) C dX0_valueAnew_29 rfl (by decide) rfl ?_
        refine V_goto (tgt := 4) C dX0_valueAnew_32 (by decide) ?_
        exact V_conv (fun h q => q) (by first | (rw [anewN, if_pos (by omega)]; rfl) | (rw [anewN, if_neg (by omega)]; rfl)) (hk trivial)
  · refine V_iload3 (pc' := 5) C dX0_valueAnew_4 rfl ?_
    refine V_aload0 (pc' := 6) C dX0_valueAnew_5 rfl ?_
    refine V_getf (pc' := 9) (T := TX0) (N := 5) (ci := 5) C hin rfl 4 (by decide) (by decide +kernel) (fun h hh => ⟨t, _, hh.1.1, rfl⟩) dX0_valueAnew_6 rfl ?_
    refine V_icmpge (tgt := 35) C (by omega) dX0_valueAnew_9 (by decide) rfl (fun c_9 => ?_) (fun c_9 => ?_)
    · refine V_iload2 (pc' := 36) C dX0_valueAnew_35 rfl ?_
      exact V_end C hr hlk (fun h' hh => ⟨_, rfl, rfl, hh.2⟩) ⟨Nat.le_refl _, Nat.le_refl _⟩ dX0_valueAnew_36
    · exact absurd c_9 (by omega)
end

/-! macros -/
theorem ydX3_stepCount : yX3_stepCount.cls = RX3 ∧ yX3_stepCount.cls ≠ "java/lang/invoke/MethodHandle" ∧ yX3_stepCount.cls ≠ "java/lang/invoke/VarHandle" ∧ (parseMethodDescriptor yX3_stepCount.desc).map (fun d => d.parameters.length) = some 0 := by decide +kernel
theorem ydX3_grantCount : yX3_grantCount.cls = RX3 ∧ yX3_grantCount.cls ≠ "java/lang/invoke/MethodHandle" ∧ yX3_grantCount.cls ≠ "java/lang/invoke/VarHandle" ∧ (parseMethodDescriptor yX3_grantCount.desc).map (fun d => d.parameters.length) = some 0 := by decide +kernel
theorem ydX3_stepAt : yX3_stepAt.cls = RX3 ∧ yX3_stepAt.cls ≠ "java/lang/invoke/MethodHandle" ∧ yX3_stepAt.cls ≠ "java/lang/invoke/VarHandle" ∧ (parseMethodDescriptor yX3_stepAt.desc).map (fun d => d.parameters.length) = some 1 := by decide +kernel
theorem ydX3_keepStep : yX3_keepStep.cls = RX3 ∧ yX3_keepStep.cls ≠ "java/lang/invoke/MethodHandle" ∧ yX3_keepStep.cls ≠ "java/lang/invoke/VarHandle" ∧ (parseMethodDescriptor yX3_keepStep.desc).map (fun d => d.parameters.length) = some 1 := by decide +kernel
theorem ydX3_keepGrant : yX3_keepGrant.cls = RX3 ∧ yX3_keepGrant.cls ≠ "java/lang/invoke/MethodHandle" ∧ yX3_keepGrant.cls ≠ "java/lang/invoke/VarHandle" ∧ (parseMethodDescriptor yX3_keepGrant.desc).map (fun d => d.parameters.length) = some 1 := by decide +kernel
theorem ydX3_dropSteps : yX3_dropSteps.cls = RX3 ∧ yX3_dropSteps.cls ≠ "java/lang/invoke/MethodHandle" ∧ yX3_dropSteps.cls ≠ "java/lang/invoke/VarHandle" ∧ (parseMethodDescriptor yX3_dropSteps.desc).map (fun d => d.parameters.length) = some 0 := by decide +kernel
theorem ydX3_dropGrants : yX3_dropGrants.cls = RX3 ∧ yX3_dropGrants.cls ≠ "java/lang/invoke/MethodHandle" ∧ yX3_dropGrants.cls ≠ "java/lang/invoke/VarHandle" ∧ (parseMethodDescriptor yX3_dropGrants.desc).map (fun d => d.parameters.length) = some 0 := by decide +kernel
theorem ydX3_mayChange : yX3_mayChange.cls = RX3 ∧ yX3_mayChange.cls ≠ "java/lang/invoke/MethodHandle" ∧ yX3_mayChange.cls ≠ "java/lang/invoke/VarHandle" ∧ (parseMethodDescriptor yX3_mayChange.desc).map (fun d => d.parameters.length) = some 2 := by decide +kernel
section
variable {l : Launch} {D : va_G} {cB cC cI cO cJ cD : ClassId} {ee : Nat × Nat} {la t : Nat} {md sn : Int} {ar : Option Nat} {f : Nat → Option Nat}
variable {v : Nat → Nat} {F : Nat → Int → Int} {n : Int} {len : Nat}
variable {q tq nl tn : Nat} {g : Int → Int}
set_option maxHeartbeats 4000000 in
set_option maxRecDepth 100000 in
theorem kX3_stepCount {ts sl gl : Nat} {z : Int} : Ct l yX3_stepCount wsX3_stepCount ({ frames := 1, cells := 0, slots := 0, locals := 20 } : Room) D (tyL cB cC cI cO cJ cD) ee [.ref la] (fun x => MaH la t z sl gl x ∧ LH cO ee sl ts md ar sn f x) (Ji fun h r h' => r = sn ∧ h' = h) (0) (0) := by
  refine Ct_of (cc := cX3_stepCount) (own := RX3) [some (.ref la)] (by decide) rfl rfl (Nat.le_of_ble_eq_true rfl) (fun i9 v9 h9 => argL [.ref la] 0 rfl i9 v9 h9) ?_
  intro p e s m9 args below meth c9 h0 sz hI C hr hlk hinit
  have hin : ∀ w ∈ wsX30, w ∈ wsX3_stepCount := by decide +kernel
  refine V_weak (I2 := fun x => (MaH la t z sl gl x ∧ LH cO ee sl ts md ar sn f x) ∧ x = h0) (fun x hx => by subst hx; exact ⟨hI, rfl⟩) ?_
  refine V_aload0 (pc' := 1) C dX3_stepCount_0 rfl ?_
  refine V_getf (pc' := 4) (T := TX3) (N := 3) (ci := 8) C hin rfl 1 (by decide) (by decide +kernel) (fun h hh => ⟨t, _, hh.1.1, rfl⟩) dX3_stepCount_1 rfl ?_
  refine V_callV (ci := 4) (n := 0) [] C (kJx4a65c_size_8abf5 (t := ts) (md := md) (ar := ar) (sn := sn) (f := f)) gX3_stepCount_Jx4a65c_size_8abf5 rfl ydJx4a65c_size_8abf5 ⟨Nat.le_of_ble_eq_true rfl, Nat.le_of_ble_eq_true rfl⟩ ⟨rfl, rfl⟩ rfl rfl (fun h hh => ⟨ts, _, hh.1.2.1⟩) (fun h hh => hh.1.2) rfl (Nat.le_of_ble_eq_true rfl) dX3_stepCount_4 ⟨Nat.le_of_ble_eq_true rfl, Nat.le_of_ble_eq_true rfl⟩ (fun h v h' hh hj => ?_)
  obtain ⟨r9, rfl, hj8, rfl⟩ := hj
  rw [hj8]
  refine V_weak (I2 := fun x => (MaH la t z sl gl x ∧ LH cO ee sl ts md ar sn f x) ∧ x = h0) (fun x hx => by rw [hx]; exact hh) ?_
  exact V_end C hr hlk (fun h' hh => ⟨_, rfl, rfl, hh.2⟩) ⟨Nat.le_refl _, Nat.le_refl _⟩ dX3_stepCount_7
set_option maxHeartbeats 4000000 in
set_option maxRecDepth 100000 in
theorem kX3_grantCount {ts sl gl : Nat} {z : Int} : Ct l yX3_grantCount wsX3_grantCount ({ frames := 1, cells := 0, slots := 0, locals := 20 } : Room) D (tyL cB cC cI cO cJ cD) ee [.ref la] (fun x => MaH la t z sl gl x ∧ LH cO ee gl ts md ar sn f x) (Ji fun h r h' => r = sn ∧ h' = h) (0) (0) := by
  refine Ct_of (cc := cX3_grantCount) (own := RX3) [some (.ref la)] (by decide) rfl rfl (Nat.le_of_ble_eq_true rfl) (fun i9 v9 h9 => argL [.ref la] 0 rfl i9 v9 h9) ?_
  intro p e s m9 args below meth c9 h0 sz hI C hr hlk hinit
  have hin : ∀ w ∈ wsX30, w ∈ wsX3_grantCount := by decide +kernel
  refine V_weak (I2 := fun x => (MaH la t z sl gl x ∧ LH cO ee gl ts md ar sn f x) ∧ x = h0) (fun x hx => by subst hx; exact ⟨hI, rfl⟩) ?_
  refine V_aload0 (pc' := 1) C dX3_grantCount_0 rfl ?_
  refine V_getf (pc' := 4) (T := TX3) (N := 3) (ci := 8) C hin rfl 2 (by decide) (by decide +kernel) (fun h hh => ⟨t, _, hh.1.1, rfl⟩) dX3_grantCount_1 rfl ?_
  refine V_callV (ci := 4) (n := 0) [] C (kJx4a65c_size_8abf5 (t := ts) (md := md) (ar := ar) (sn := sn) (f := f)) gX3_grantCount_Jx4a65c_size_8abf5 rfl ydJx4a65c_size_8abf5 ⟨Nat.le_of_ble_eq_true rfl, Nat.le_of_ble_eq_true rfl⟩ ⟨rfl, rfl⟩ rfl rfl (fun h hh => ⟨ts, _, hh.1.2.1⟩) (fun h hh => hh.1.2) rfl (Nat.le_of_ble_eq_true rfl) dX3_grantCount_4 ⟨Nat.le_of_ble_eq_true rfl, Nat.le_of_ble_eq_true rfl⟩ (fun h v h' hh hj => ?_)
  obtain ⟨r9, rfl, hj8, rfl⟩ := hj
  rw [hj8]
  refine V_weak (I2 := fun x => (MaH la t z sl gl x ∧ LH cO ee gl ts md ar sn f x) ∧ x = h0) (fun x hx => by rw [hx]; exact hh) ?_
  exact V_end C hr hlk (fun h' hh => ⟨_, rfl, rfl, hh.2⟩) ⟨Nat.le_refl _, Nat.le_refl _⟩ dX3_grantCount_7
set_option maxHeartbeats 4000000 in
set_option maxRecDepth 100000 in
theorem kX3_stepAt_s {ts sl gl : Nat} {z : Int} {i : Int} {bs tb : Nat} {fs : List Value} (hi : 0 ≤ i ∧ i < sn) (hf : f i.toNat = some bs) : Ct l yX3_stepAt wsX3_stepAt ({ frames := 3, cells := 0, slots := 0, locals := 65 } : Room) D (tyL cB cC cI cO cJ cD) ee [.ref la, .int (iI i)] (fun x => MaH la t z sl gl x ∧ LH cO ee sl ts md ar sn f x ∧ x bs = some (tb, .inr (11, fs))) (fun h v9 h' => v9 = some (.ref bs) ∧ h' = h) (0) (0) := by
  refine Ct_of (cc := cX3_stepAt) (own := RX3) [some (.ref la), some (.int (iI i))] (by decide) rfl rfl (Nat.le_of_ble_eq_true rfl) (fun i9 v9 h9 => argL [.ref la, .int (iI i)] 0 rfl i9 v9 h9) ?_
  intro p e s m9 args below meth c9 h0 sz hI C hr hlk hinit
  have hin : ∀ w ∈ wsX30, w ∈ wsX3_stepAt := by decide +kernel
  refine V_weak (I2 := fun x => (MaH la t z sl gl x ∧ LH cO ee sl ts md ar sn f x ∧ x bs = some (tb, .inr (11, fs))) ∧ x = h0) (fun x hx => by subst hx; exact ⟨hI, rfl⟩) ?_
  have hb9 := hI.2.1.2.2.2
  refine V_iload1 (pc' := 1) C dX3_stepAt_0 rfl ?_
  refine V_iflt (tgt := 29) C (by omega) dX3_stepAt_1 (by decide) rfl (fun c_1 => ?_) (fun c_1 => ?_)
  · exact absurd c_1 (by omega)
  · refine V_iload1 (pc' := 5) C dX3_stepAt_4 rfl ?_
    refine V_aload0 (pc' := 6) C dX3_stepAt_5 rfl ?_
    refine V_getf (pc' := 9) (T := TX3) (N := 3) (ci := 8) C hin rfl 1 (by decide) (by decide +kernel) (fun h hh => ⟨t, _, hh.1.1, rfl⟩) dX3_stepAt_6 rfl ?_
    refine V_callV (ci := 4) (n := 0) [] C (kJx4a65c_size_8abf5 (t := ts) (md := md) (ar := ar) (sn := sn) (f := f)) gX3_stepAt_Jx4a65c_size_8abf5 rfl ydJx4a65c_size_8abf5 ⟨Nat.le_of_ble_eq_true rfl, Nat.le_of_ble_eq_true rfl⟩ ⟨rfl, rfl⟩ rfl rfl (fun h hh => ⟨ts, _, hh.1.2.1.1⟩) (fun h hh => hh.1.2.1) rfl (Nat.le_of_ble_eq_true rfl) dX3_stepAt_9 ⟨Nat.le_of_ble_eq_true rfl, Nat.le_of_ble_eq_true rfl⟩ (fun h v h' hh hj => ?_)
    obtain ⟨r9, rfl, hj8, rfl⟩ := hj
    rw [hj8]
    refine V_weak (I2 := fun x => (MaH la t z sl gl x ∧ LH cO ee sl ts md ar sn f x ∧ x bs = some (tb, .inr (11, fs))) ∧ x = h0) (fun x hx => by rw [hx]; exact hh) ?_
    refine V_icmpge (tgt := 29) C (by omega) dX3_stepAt_12 (by decide) rfl (fun c_12 => ?_) (fun c_12 => ?_)
    · exact absurd c_12 (by omega)
    · refine V_aload0 (pc' := 16) C dX3_stepAt_15 rfl ?_
      refine V_getf (pc' := 19) (T := TX3) (N := 3) (ci := 8) C hin rfl 1 (by decide) (by decide +kernel) (fun h hh => ⟨t, _, hh.1.1, rfl⟩) dX3_stepAt_16 rfl ?_
      refine V_iload1 (pc' := 20) C dX3_stepAt_19 rfl ?_
      refine V_callV (ci := 4) (n := 1) [.int (iI i)] C (kL_get (t := ts) (md := md) (ar := ar) (sn := sn) (f := f) hi) gX3_stepAt_Jx4a65c_get_915e3 rfl ydJx4a65c_get_915e3 ⟨Nat.le_of_ble_eq_true rfl, Nat.le_of_ble_eq_true rfl⟩ ⟨rfl, rfl⟩ rfl rfl (fun h hh => ⟨ts, _, hh.1.2.1.1⟩) (fun h hh => hh.1.2.1) rfl (Nat.le_of_ble_eq_true rfl) dX3_stepAt_20 ⟨Nat.le_of_ble_eq_true rfl, Nat.le_of_ble_eq_true rfl⟩ (fun h v h' hh hj => ?_)
      obtain ⟨rfl, rfl⟩ := hj
      rw [hf]
      refine V_weak (I2 := fun x => (MaH la t z sl gl x ∧ LH cO ee sl ts md ar sn f x ∧ x bs = some (tb, .inr (11, fs))) ∧ x = h0) (fun x hx => by rw [hx]; exact hh) ?_
      refine V_castC (pc' := 26) (ci := 11) C (by decide +kernel) rfl (fun h hh => ⟨tb, _, hh.1.2.2⟩) dX3_stepAt_23 rfl ?_
      refine V_goto (tgt := 30) C dX3_stepAt_26 (by decide) ?_
      exact V_enda (v := some bs) C hr (Or.inl ⟨_, rfl⟩) hlk (fun h' hh => ⟨rfl, hh.2⟩) ⟨Nat.le_refl _, Nat.le_refl _⟩ dX3_stepAt_30
set_option maxHeartbeats 4000000 in
set_option maxRecDepth 100000 in
theorem kX3_stepAt_n {ts sl gl : Nat} {z : Int} {i : Int} (hi : ¬ (0 ≤ i ∧ i < sn)) (hr0 : rI i) : Ct l yX3_stepAt wsX3_stepAt ({ frames := 3, cells := 0, slots := 0, locals := 65 } : Room) D (tyL cB cC cI cO cJ cD) ee [.ref la, .int (iI i)] (fun x => MaH la t z sl gl x ∧ LH cO ee sl ts md ar sn f x) (fun h v9 h' => v9 = some .null ∧ h' = h) (0) (0) := by
  refine Ct_of (cc := cX3_stepAt) (own := RX3) [some (.ref la), some (.int (iI i))] (by decide) rfl rfl (Nat.le_of_ble_eq_true rfl) (fun i9 v9 h9 => argL [.ref la, .int (iI i)] 0 rfl i9 v9 h9) ?_
  intro p e s m9 args below meth c9 h0 sz hI C hr hlk hinit
  have hin : ∀ w ∈ wsX30, w ∈ wsX3_stepAt := by decide +kernel
  refine V_weak (I2 := fun x => (MaH la t z sl gl x ∧ LH cO ee sl ts md ar sn f x) ∧ x = h0) (fun x hx => by subst hx; exact ⟨hI, rfl⟩) ?_
  have hb9 := hI.2.2.2.2
  refine V_iload1 (pc' := 1) C dX3_stepAt_0 rfl ?_
  refine V_iflt (tgt := 29) C (by omega) dX3_stepAt_1 (by decide) rfl (fun c_1 => ?_) (fun c_1 => ?_)
  · refine V_null (pc' := 30) C dX3_stepAt_29 rfl ?_
    exact V_enda (v := none) C hr (Or.inl ⟨_, rfl⟩) hlk (fun h' hh => ⟨rfl, hh.2⟩) ⟨Nat.le_refl _, Nat.le_refl _⟩ dX3_stepAt_30
  · refine V_iload1 (pc' := 5) C dX3_stepAt_4 rfl ?_
    refine V_aload0 (pc' := 6) C dX3_stepAt_5 rfl ?_
    refine V_getf (pc' := 9) (T := TX3) (N := 3) (ci := 8) C hin rfl 1 (by decide) (by decide +kernel) (fun h hh => ⟨t, _, hh.1.1, rfl⟩) dX3_stepAt_6 rfl ?_
    refine V_callV (ci := 4) (n := 0) [] C (kJx4a65c_size_8abf5 (t := ts) (md := md) (ar := ar) (sn := sn) (f := f)) gX3_stepAt_Jx4a65c_size_8abf5 rfl ydJx4a65c_size_8abf5 ⟨Nat.le_of_ble_eq_true rfl, Nat.le_of_ble_eq_true rfl⟩ ⟨rfl, rfl⟩ rfl rfl (fun h hh => ⟨ts, _, hh.1.2.1⟩) (fun h hh => hh.1.2) rfl (Nat.le_of_ble_eq_true rfl) dX3_stepAt_9 ⟨Nat.le_of_ble_eq_true rfl, Nat.le_of_ble_eq_true rfl⟩ (fun h v h' hh hj => ?_)
    obtain ⟨r9, rfl, hj8, rfl⟩ := hj
    rw [hj8]
    refine V_weak (I2 := fun x => (MaH la t z sl gl x ∧ LH cO ee sl ts md ar sn f x) ∧ x = h0) (fun x hx => by rw [hx]; exact hh) ?_
    refine V_icmpge (tgt := 29) C (by omega) dX3_stepAt_12 (by decide) rfl (fun c_12 => ?_) (fun c_12 => ?_)
    · refine V_null (pc' := 30) C dX3_stepAt_29 rfl ?_
      exact V_enda (v := none) C hr (Or.inl ⟨_, rfl⟩) hlk (fun h' hh => ⟨rfl, hh.2⟩) ⟨Nat.le_refl _, Nat.le_refl _⟩ dX3_stepAt_30
    · exact absurd c_12 (by omega)
set_option maxHeartbeats 4000000 in
set_option maxRecDepth 100000 in
theorem kX3_keepStep {ts sl gl : Nat} {z : Int} {bs tb : Nat} {fs : List Value} (htb : ¬ tL ts tb) (hsn : sn < 10) : Ct l yX3_keepStep wsX3_keepStep ({ frames := 5, cells := 1, slots := 10, locals := 109 } : Room) D (tyL cB cC cI cO cJ cD) ee [.ref la, .ref bs] (fun x => MaH la t z sl gl x ∧ LH cO ee sl ts md ar sn f x ∧ x bs = some (tb, .inr (11, fs))) (fun h v9 h' => v9 = none ∧ (∃ q, LH cO ee sl ts (md + 1) (some q) (sn + 1) (va_up f sn.toNat (some bs)) h') ∧ Fr (tL ts) h h') (1) (10) := by
  refine Ct_of (cc := cX3_keepStep) (own := RX3) [some (.ref la), some (.ref bs)] (by decide) rfl rfl (Nat.le_of_ble_eq_true rfl) (fun i9 v9 h9 => argL [.ref la, .ref bs] 0 rfl i9 v9 h9) ?_
  intro p e s m9 args below meth c9 h0 sz hI C hr hlk hinit
  have hin : ∀ w ∈ wsX30, w ∈ wsX3_keepStep := by decide +kernel
  refine V_weak (I2 := fun x => (MaH la t z sl gl x ∧ LH cO ee sl ts md ar sn f x ∧ x bs = some (tb, .inr (11, fs))) ∧ x = h0) (fun x hx => by subst hx; exact ⟨hI, rfl⟩) ?_
  have hb9 := hI.2.1.2.2.2
  refine V_aload0 (pc' := 1) C dX3_keepStep_0 rfl ?_
  refine V_getf (pc' := 4) (T := TX3) (N := 3) (ci := 8) C hin rfl 1 (by decide) (by decide +kernel) (fun h hh => ⟨t, _, hh.1.1, rfl⟩) dX3_keepStep_1 rfl ?_
  refine V_callV (ci := 4) (n := 0) [] C (kJx4a65c_size_8abf5 (t := ts) (md := md) (ar := ar) (sn := sn) (f := f)) gX3_keepStep_Jx4a65c_size_8abf5 rfl ydJx4a65c_size_8abf5 ⟨Nat.le_of_ble_eq_true rfl, Nat.le_of_ble_eq_true rfl⟩ ⟨rfl, rfl⟩ rfl rfl (fun h hh => ⟨ts, _, hh.1.2.1.1⟩) (fun h hh => hh.1.2.1) rfl (Nat.le_of_ble_eq_true rfl) dX3_keepStep_4 ⟨Nat.le_of_ble_eq_true rfl, Nat.le_of_ble_eq_true rfl⟩ (fun h v h' hh hj => ?_)
  obtain ⟨r9, rfl, hj8, rfl⟩ := hj
  rw [hj8]
  refine V_weak (I2 := fun x => (MaH la t z sl gl x ∧ LH cO ee sl ts md ar sn f x ∧ x bs = some (tb, .inr (11, fs))) ∧ x = h0) (fun x hx => by rw [hx]; exact hh) ?_
  refine V_bipush (pc' := 9) C dX3_keepStep_7 rfl (by decide) ?_
  refine V_icmpge (tgt := 21) C (by omega) dX3_keepStep_9 (by decide) rfl (fun c_9 => ?_) (fun c_9 => ?_)
  · exact absurd c_9 (by omega)
  · refine V_aload0 (pc' := 13) C dX3_keepStep_12 rfl ?_
    refine V_getf (pc' := 16) (T := TX3) (N := 3) (ci := 8) C hin rfl 1 (by decide) (by decide +kernel) (fun h hh => ⟨t, _, hh.1.1, rfl⟩) dX3_keepStep_13 rfl ?_
    refine V_aload1 (pc' := 17) C dX3_keepStep_16 rfl ?_
    refine V_callV (ci := 4) (n := 1) [.ref bs] C (kL_add (t := ts) (md := md) (ar := ar) (sn := sn) (f := f) (fs := fs) (r := (RX6, TX6, 4)) rfl (by decide) htb (by omega)) gX3_keepStep_Jx4a65c_add_9ea2d rfl ydJx4a65c_add_9ea2d ⟨Nat.le_of_ble_eq_true rfl, Nat.le_of_ble_eq_true rfl⟩ ⟨rfl, rfl⟩ rfl rfl (fun h hh => ⟨ts, _, hh.1.2.1.1⟩) (fun h hh => hh.1.2) rfl (Nat.le_of_ble_eq_true rfl) dX3_keepStep_17 ⟨Nat.le_of_ble_eq_true rfl, Nat.le_of_ble_eq_true rfl⟩ (fun h v h' hh hj => ?_)
    obtain ⟨rfl, hj1, hj2⟩ := hj
    refine V_weak (I2 := fun x => (∃ q, LH cO ee sl ts (md + 1) (some q) (sn + 1) (va_up f sn.toNat (some bs)) x) ∧ Fr (tL ts) h0 x) (fun x hx => by rw [hx]; exact ⟨hj1, by rw [← hh.2]; exact hj2⟩) ?_
    refine V_pop (pc' := 21) C rfl dX3_keepStep_20 rfl ?_
    exact V_endv C hr hlk (fun h' hh => ⟨rfl, hh.1, hh.2⟩) ⟨Nat.le_refl _, Nat.le_refl _⟩ dX3_keepStep_21
set_option maxHeartbeats 4000000 in
set_option maxRecDepth 100000 in
theorem kX3_keepGrant {ts sl gl : Nat} {z : Int} {bs tb : Nat} {fs : List Value} (htb : ¬ tL ts tb) (hsn : sn < 4) : Ct l yX3_keepGrant wsX3_keepGrant ({ frames := 5, cells := 1, slots := 10, locals := 109 } : Room) D (tyL cB cC cI cO cJ cD) ee [.ref la, .ref bs] (fun x => MaH la t z sl gl x ∧ LH cO ee gl ts md ar sn f x ∧ x bs = some (tb, .inr (9, fs))) (fun h v9 h' => v9 = none ∧ (∃ q, LH cO ee gl ts (md + 1) (some q) (sn + 1) (va_up f sn.toNat (some bs)) h') ∧ Fr (tL ts) h h') (1) (10) := by
  refine Ct_of (cc := cX3_keepGrant) (own := RX3) [some (.ref la), some (.ref bs)] (by decide) rfl rfl (Nat.le_of_ble_eq_true rfl) (fun i9 v9 h9 => argL [.ref la, .ref bs] 0 rfl i9 v9 h9) ?_
  intro p e s m9 args below meth c9 h0 sz hI C hr hlk hinit
  have hin : ∀ w ∈ wsX30, w ∈ wsX3_keepGrant := by decide +kernel
  refine V_weak (I2 := fun x => (MaH la t z sl gl x ∧ LH cO ee gl ts md ar sn f x ∧ x bs = some (tb, .inr (9, fs))) ∧ x = h0) (fun x hx => by subst hx; exact ⟨hI, rfl⟩) ?_
  have hb9 := hI.2.1.2.2.2
  refine V_aload0 (pc' := 1) C dX3_keepGrant_0 rfl ?_
  refine V_getf (pc' := 4) (T := TX3) (N := 3) (ci := 8) C hin rfl 2 (by decide) (by decide +kernel) (fun h hh => ⟨t, _, hh.1.1, rfl⟩) dX3_keepGrant_1 rfl ?_
  refine V_callV (ci := 4) (n := 0) [] C (kJx4a65c_size_8abf5 (t := ts) (md := md) (ar := ar) (sn := sn) (f := f)) gX3_keepGrant_Jx4a65c_size_8abf5 rfl ydJx4a65c_size_8abf5 ⟨Nat.le_of_ble_eq_true rfl, Nat.le_of_ble_eq_true rfl⟩ ⟨rfl, rfl⟩ rfl rfl (fun h hh => ⟨ts, _, hh.1.2.1.1⟩) (fun h hh => hh.1.2.1) rfl (Nat.le_of_ble_eq_true rfl) dX3_keepGrant_4 ⟨Nat.le_of_ble_eq_true rfl, Nat.le_of_ble_eq_true rfl⟩ (fun h v h' hh hj => ?_)
  obtain ⟨r9, rfl, hj8, rfl⟩ := hj
  rw [hj8]
  refine V_weak (I2 := fun x => (MaH la t z sl gl x ∧ LH cO ee gl ts md ar sn f x ∧ x bs = some (tb, .inr (9, fs))) ∧ x = h0) (fun x hx => by rw [hx]; exact hh) ?_
  refine V_iconst (pc' := 8) C dX3_keepGrant_7 rfl ?_
  refine V_icmpge (tgt := 20) C (by omega) dX3_keepGrant_8 (by decide) rfl (fun c_8 => ?_) (fun c_8 => ?_)
  · exact absurd c_8 (by omega)
  · refine V_aload0 (pc' := 12) C dX3_keepGrant_11 rfl ?_
    refine V_getf (pc' := 15) (T := TX3) (N := 3) (ci := 8) C hin rfl 2 (by decide) (by decide +kernel) (fun h hh => ⟨t, _, hh.1.1, rfl⟩) dX3_keepGrant_12 rfl ?_
    refine V_aload1 (pc' := 16) C dX3_keepGrant_15 rfl ?_
    refine V_callV (ci := 4) (n := 1) [.ref bs] C (kL_add (t := ts) (md := md) (ar := ar) (sn := sn) (f := f) (fs := fs) (r := (RX4, TX4, 4)) rfl (by decide) htb (by omega)) gX3_keepGrant_Jx4a65c_add_9ea2d rfl ydJx4a65c_add_9ea2d ⟨Nat.le_of_ble_eq_true rfl, Nat.le_of_ble_eq_true rfl⟩ ⟨rfl, rfl⟩ rfl rfl (fun h hh => ⟨ts, _, hh.1.2.1.1⟩) (fun h hh => hh.1.2) rfl (Nat.le_of_ble_eq_true rfl) dX3_keepGrant_16 ⟨Nat.le_of_ble_eq_true rfl, Nat.le_of_ble_eq_true rfl⟩ (fun h v h' hh hj => ?_)
    obtain ⟨rfl, hj1, hj2⟩ := hj
    refine V_weak (I2 := fun x => (∃ q, LH cO ee gl ts (md + 1) (some q) (sn + 1) (va_up f sn.toNat (some bs)) x) ∧ Fr (tL ts) h0 x) (fun x hx => by rw [hx]; exact ⟨hj1, by rw [← hh.2]; exact hj2⟩) ?_
    refine V_pop (pc' := 20) C rfl dX3_keepGrant_19 rfl ?_
    exact V_endv C hr hlk (fun h' hh => ⟨rfl, hh.1, hh.2⟩) ⟨Nat.le_refl _, Nat.le_refl _⟩ dX3_keepGrant_20
set_option maxHeartbeats 4000000 in
set_option maxRecDepth 100000 in
theorem kX3_dropSteps {ts sl gl : Nat} {z : Int} : Ct l yX3_dropSteps wsX3_dropSteps ({ frames := 1, cells := 0, slots := 0, locals := 23 } : Room) D (tyL cB cC cI cO cJ cD) ee [.ref la] (fun x => MaH la t z sl gl x ∧ LH cO ee sl ts md ar sn f x) (fun h v9 h' => v9 = none ∧ LH cO ee sl ts (md + 1) ar 0 (fun i => if i < sn.toNat then none else f i) h' ∧ Fr (tL ts) h h') (0) (0) := by
  refine Ct_of (cc := cX3_dropSteps) (own := RX3) [some (.ref la)] (by decide) rfl rfl (Nat.le_of_ble_eq_true rfl) (fun i9 v9 h9 => argL [.ref la] 0 rfl i9 v9 h9) ?_
  intro p e s m9 args below meth c9 h0 sz hI C hr hlk hinit
  have hin : ∀ w ∈ wsX30, w ∈ wsX3_dropSteps := by decide +kernel
  refine V_weak (I2 := fun x => (MaH la t z sl gl x ∧ LH cO ee sl ts md ar sn f x) ∧ x = h0) (fun x hx => by subst hx; exact ⟨hI, rfl⟩) ?_
  refine V_aload0 (pc' := 1) C dX3_dropSteps_0 rfl ?_
  refine V_getf (pc' := 4) (T := TX3) (N := 3) (ci := 8) C hin rfl 1 (by decide) (by decide +kernel) (fun h hh => ⟨t, _, hh.1.1, rfl⟩) dX3_dropSteps_1 rfl ?_
  refine V_callV (ci := 4) (n := 0) [] C (kL_clear (t := ts) (md := md) (ar := ar) (sn := sn) (f := f)) gX3_dropSteps_Jx4a65c_clear_da8c8 rfl ydJx4a65c_clear_da8c8 ⟨Nat.le_of_ble_eq_true rfl, Nat.le_of_ble_eq_true rfl⟩ ⟨rfl, rfl⟩ rfl rfl (fun h hh => ⟨ts, _, hh.1.2.1⟩) (fun h hh => hh.1.2) rfl (Nat.le_of_ble_eq_true rfl) dX3_dropSteps_4 ⟨Nat.le_of_ble_eq_true rfl, Nat.le_of_ble_eq_true rfl⟩ (fun h v h' hh hj => ?_)
  obtain ⟨rfl, hj1, hj2⟩ := hj
  refine V_weak (I2 := fun x => LH cO ee sl ts (md + 1) ar 0 (fun i => if i < sn.toNat then none else f i) x ∧ Fr (tL ts) h0 x) (fun x hx => by rw [hx]; exact ⟨hj1, by rw [← hh.2]; exact hj2⟩) ?_
  exact V_endv C hr hlk (fun h' hh => ⟨rfl, hh.1, hh.2⟩) ⟨Nat.le_refl _, Nat.le_refl _⟩ dX3_dropSteps_7
set_option maxHeartbeats 4000000 in
set_option maxRecDepth 100000 in
theorem kX3_dropGrants {ts sl gl : Nat} {z : Int} : Ct l yX3_dropGrants wsX3_dropGrants ({ frames := 1, cells := 0, slots := 0, locals := 23 } : Room) D (tyL cB cC cI cO cJ cD) ee [.ref la] (fun x => MaH la t z sl gl x ∧ LH cO ee gl ts md ar sn f x) (fun h v9 h' => v9 = none ∧ LH cO ee gl ts (md + 1) ar 0 (fun i => if i < sn.toNat then none else f i) h' ∧ Fr (tL ts) h h') (0) (0) := by
  refine Ct_of (cc := cX3_dropGrants) (own := RX3) [some (.ref la)] (by decide) rfl rfl (Nat.le_of_ble_eq_true rfl) (fun i9 v9 h9 => argL [.ref la] 0 rfl i9 v9 h9) ?_
  intro p e s m9 args below meth c9 h0 sz hI C hr hlk hinit
  have hin : ∀ w ∈ wsX30, w ∈ wsX3_dropGrants := by decide +kernel
  refine V_weak (I2 := fun x => (MaH la t z sl gl x ∧ LH cO ee gl ts md ar sn f x) ∧ x = h0) (fun x hx => by subst hx; exact ⟨hI, rfl⟩) ?_
  refine V_aload0 (pc' := 1) C dX3_dropGrants_0 rfl ?_
  refine V_getf (pc' := 4) (T := TX3) (N := 3) (ci := 8) C hin rfl 2 (by decide) (by decide +kernel) (fun h hh => ⟨t, _, hh.1.1, rfl⟩) dX3_dropGrants_1 rfl ?_
  refine V_callV (ci := 4) (n := 0) [] C (kL_clear (t := ts) (md := md) (ar := ar) (sn := sn) (f := f)) gX3_dropGrants_Jx4a65c_clear_da8c8 rfl ydJx4a65c_clear_da8c8 ⟨Nat.le_of_ble_eq_true rfl, Nat.le_of_ble_eq_true rfl⟩ ⟨rfl, rfl⟩ rfl rfl (fun h hh => ⟨ts, _, hh.1.2.1⟩) (fun h hh => hh.1.2) rfl (Nat.le_of_ble_eq_true rfl) dX3_dropGrants_4 ⟨Nat.le_of_ble_eq_true rfl, Nat.le_of_ble_eq_true rfl⟩ (fun h v h' hh hj => ?_)
  obtain ⟨rfl, hj1, hj2⟩ := hj
  refine V_weak (I2 := fun x => LH cO ee gl ts (md + 1) ar 0 (fun i => if i < sn.toNat then none else f i) x ∧ Fr (tL ts) h0 x) (fun x hx => by rw [hx]; exact ⟨hj1, by rw [← hh.2]; exact hj2⟩) ?_
  exact V_endv C hr hlk (fun h' hh => ⟨rfl, hh.1, hh.2⟩) ⟨Nat.le_refl _, Nat.le_refl _⟩ dX3_dropGrants_7
set_option maxHeartbeats 4000000 in
set_option maxRecDepth 100000 in
theorem kX3_mayChange {ts sl gl : Nat} {z : Int} {rb tr : Nat → Nat} {G : Nat → Nat → Int} {c0 r0 : Int} (hG : ∀ i : Nat, (i : Int) < sn → rI (G 0 i) ∧ rI (G 1 i) ∧ rI (G 2 i) ∧ rI (G 3 i)) (hr0 : rI c0 ∧ rI r0) : Ct l yX3_mayChange wsX3_mayChange ({ frames := 3, cells := 0, slots := 0, locals := 65 } : Room) D (tyL cB cC cI cO cJ cD) ee [.ref la, .int (iI c0), .int (iI r0)] (fun x => MaH la t z sl gl x ∧ LH cO ee gl ts md ar sn f x ∧ ∀ i : Nat, (i : Int) < sn → f i = some (rb i) ∧ x (rb i) = some (tr i, .inr (9, [.int (iI (G 0 i)), .int (iI (G 1 i)), .int (iI (G 2 i)), .int (iI (G 3 i))]))) (Ji fun h z9 h' => z9 = bI (myN G c0 r0 sn.toNat) ∧ h' = h) (0) (0) := by
  refine Ct_of (cc := cX3_mayChange) (own := RX3) [some (.ref la), some (.int (iI c0)), some (.int (iI r0)), none] (by decide) rfl rfl (Nat.le_of_ble_eq_true rfl) (fun i9 v9 h9 => argL [.ref la, .int (iI c0), .int (iI r0)] 1 rfl i9 v9 h9) ?_
  intro p e s m9 args below meth c9 h0 sz hI C hr hlk hinit
  have hin : ∀ w ∈ wsX30, w ∈ wsX3_mayChange := by decide +kernel
  refine V_weak (I2 := fun x => (MaH la t z sl gl x ∧ LH cO ee gl ts md ar sn f x ∧ ∀ i : Nat, (i : Int) < sn → f i = some (rb i) ∧ x (rb i) = some (tr i, .inr (9, [.int (iI (G 0 i)), .int (iI (G 1 i)), .int (iI (G 2 i)), .int (iI (G 3 i))]))) ∧ x = h0) (fun x hx => by subst hx; exact ⟨hI, rfl⟩) ?_
  have hb9 := hI.2.1.2.2.2
  refine V_iconst (pc' := 1) C dX3_mayChange_0 rfl ?_
  refine V_istore3 (pc' := 2) C dX3_mayChange_1 rfl (by decide) rfl ?_
  refine V_for0 (N := sn.toNat) (fun j => fun x => (MaH la t z sl gl x ∧ LH cO ee gl ts md ar sn f x ∧ ∀ i : Nat, (i : Int) < sn → f i = some (rb i) ∧ x (rb i) = some (tr i, .inr (9, [.int (iI (G 0 i)), .int (iI (G 1 i)), .int (iI (G 2 i)), .int (iI (G 3 i))]))) ∧ x = h0) (fun j => [some (.ref la), some (.int (iI c0)), some (.int (iI r0)), some (.int (iI j))]) (fun j => myN G c0 r0 j = false) rfl (fun h hh => hh) rfl (fun j hj hv hk => ?_) (fun hv => ?_)
  · obtain ⟨hf9, hg9⟩ := hI.2.2 j (by omega)
    have hgr := hG j (by omega)
    refine V_iload3 (pc' := 3) C dX3_mayChange_2 rfl ?_
    refine V_aload0 (pc' := 4) C dX3_mayChange_3 rfl ?_
    refine V_getf (pc' := 7) (T := TX3) (N := 3) (ci := 8) C hin rfl 2 (by decide) (by decide +kernel) (fun h hh => ⟨t, _, hh.1.1, rfl⟩) dX3_mayChange_4 rfl ?_
    refine V_callV (ci := 4) (n := 0) [] C (kJx4a65c_size_8abf5 (t := ts) (md := md) (ar := ar) (sn := sn) (f := f)) gX3_mayChange_Jx4a65c_size_8abf5 rfl ydJx4a65c_size_8abf5 ⟨Nat.le_of_ble_eq_true rfl, Nat.le_of_ble_eq_true rfl⟩ ⟨rfl, rfl⟩ rfl rfl (fun h hh => ⟨ts, _, hh.1.2.1.1⟩) (fun h hh => hh.1.2.1) rfl (Nat.le_of_ble_eq_true rfl) dX3_mayChange_7 ⟨Nat.le_of_ble_eq_true rfl, Nat.le_of_ble_eq_true rfl⟩ (fun h v h' hh hj => ?_)
    obtain ⟨r9, rfl, hj8, rfl⟩ := hj
    rw [hj8]
    refine V_weak (I2 := fun x => (MaH la t z sl gl x ∧ LH cO ee gl ts md ar sn f x ∧ ∀ i : Nat, (i : Int) < sn → f i = some (rb i) ∧ x (rb i) = some (tr i, .inr (9, [.int (iI (G 0 i)), .int (iI (G 1 i)), .int (iI (G 2 i)), .int (iI (G 3 i))]))) ∧ x = h0) (fun x hx => by rw [hx]; exact hh) ?_
    refine V_icmpge (tgt := 40) C (by omega) dX3_mayChange_10 (by decide) rfl (fun c_10 => ?_) (fun c_10 => ?_)
    · exact absurd c_10 (by omega)
    · refine V_aload0 (pc' := 14) C dX3_mayChange_13 rfl ?_
      refine V_getf (pc' := 17) (T := TX3) (N := 3) (ci := 8) C hin rfl 2 (by decide) (by decide +kernel) (fun h hh => ⟨t, _, hh.1.1, rfl⟩) dX3_mayChange_14 rfl ?_
      refine V_iload3 (pc' := 18) C dX3_mayChange_17 rfl ?_
      refine V_callV (ci := 4) (n := 1) [.int (iI (j : Int))] C (kL_get (t := ts) (md := md) (ar := ar) (sn := sn) (f := f) (i := (j : Int)) (by omega)) gX3_mayChange_Jx4a65c_get_915e3 rfl ydJx4a65c_get_915e3 ⟨Nat.le_of_ble_eq_true rfl, Nat.le_of_ble_eq_true rfl⟩ ⟨rfl, rfl⟩ rfl rfl (fun h hh => ⟨ts, _, hh.1.2.1.1⟩) (fun h hh => hh.1.2.1) rfl (Nat.le_of_ble_eq_true rfl) dX3_mayChange_18 ⟨Nat.le_of_ble_eq_true rfl, Nat.le_of_ble_eq_true rfl⟩ (fun h v h' hh hj9 => ?_)
      obtain ⟨rfl, rfl⟩ := hj9
      rw [Int.toNat_natCast, hf9]
      refine V_weak (I2 := fun x => (MaH la t z sl gl x ∧ LH cO ee gl ts md ar sn f x ∧ ∀ i : Nat, (i : Int) < sn → f i = some (rb i) ∧ x (rb i) = some (tr i, .inr (9, [.int (iI (G 0 i)), .int (iI (G 1 i)), .int (iI (G 2 i)), .int (iI (G 3 i))]))) ∧ x = h0) (fun x hx => by rw [hx]; exact hh) ?_
      refine V_castC (pc' := 24) (ci := 9) C (by decide +kernel) rfl (fun h hh => ⟨tr j, _, (hh.1.2.2 j (by omega)).2⟩) dX3_mayChange_21 rfl ?_
      refine V_iload1 (pc' := 25) C dX3_mayChange_24 rfl ?_
      refine V_iload2 (pc' := 26) C dX3_mayChange_25 rfl ?_
      refine V_callV (ci := 9) (n := 2) [.int (iI c0), .int (iI r0)] C (kX4_holds (t := tr j) (c := G 0 j) (r := G 1 j) (c2 := G 2 j) (r2 := G 3 j) (by omega)) gX3_mayChange_X4_holds rfl ydX4_holds ⟨Nat.le_of_ble_eq_true rfl, Nat.le_of_ble_eq_true rfl⟩ ⟨rfl, rfl⟩ rfl rfl (fun h hh => ⟨tr j, _, (hh.1.2.2 j (by omega)).2⟩) (fun h hh => (hh.1.2.2 j (by omega)).2) rfl (Nat.le_of_ble_eq_true rfl) dX3_mayChange_26 ⟨Nat.le_of_ble_eq_true rfl, Nat.le_of_ble_eq_true rfl⟩ (fun h v h' hh hj9 => ?_)
      obtain ⟨r9, rfl, rfl, rfl⟩ := hj9
      refine V_weak (I2 := fun x => (MaH la t z sl gl x ∧ LH cO ee gl ts md ar sn f x ∧ ∀ i : Nat, (i : Int) < sn → f i = some (rb i) ∧ x (rb i) = some (tr i, .inr (9, [.int (iI (G 0 i)), .int (iI (G 1 i)), .int (iI (G 2 i)), .int (iI (G 3 i))]))) ∧ x = h0) (fun x hx => by rw [hx]; exact hh) ?_
      refine V_ifeqB (tgt := 34) C dX3_mayChange_29 (by decide) rfl (fun c_29 => ?_) (fun c_29 => ?_)
      · refine V_iinc3 (pc' := 37) C dX3_mayChange_34 rfl (by decide) rfl ?_
        refine V_goto (tgt := 2) C dX3_mayChange_37 (by decide) ?_
        exact hk (by rw [myN, hv, Bool.false_or]; exact c_29)
      · refine V_iconst (pc' := 33) C dX3_mayChange_32 rfl ?_
        exact V_endz (z := bI true) C hr hlk (nar_z true) (fun h' hh => ⟨_, rfl, by rw [show sn.toNat = (j + 1) + (sn.toNat - (j + 1)) by omega, myN_mono (by rw [myN, hv, Bool.false_or]; first | exact c_29 | simpa using c_29)], hh.2⟩) ⟨Nat.le_refl _, Nat.le_refl _⟩ dX3_mayChange_33
  · refine V_iload3 (pc' := 3) C dX3_mayChange_2 rfl ?_
    refine V_aload0 (pc' := 4) C dX3_mayChange_3 rfl ?_
    refine V_getf (pc' := 7) (T := TX3) (N := 3) (ci := 8) C hin rfl 2 (by decide) (by decide +kernel) (fun h hh => ⟨t, _, hh.1.1, rfl⟩) dX3_mayChange_4 rfl ?_
    refine V_callV (ci := 4) (n := 0) [] C (kJx4a65c_size_8abf5 (t := ts) (md := md) (ar := ar) (sn := sn) (f := f)) gX3_mayChange_Jx4a65c_size_8abf5 rfl ydJx4a65c_size_8abf5 ⟨Nat.le_of_ble_eq_true rfl, Nat.le_of_ble_eq_true rfl⟩ ⟨rfl, rfl⟩ rfl rfl (fun h hh => ⟨ts, _, hh.1.2.1.1⟩) (fun h hh => hh.1.2.1) rfl (Nat.le_of_ble_eq_true rfl) dX3_mayChange_7 ⟨Nat.le_of_ble_eq_true rfl, Nat.le_of_ble_eq_true rfl⟩ (fun h v h' hh hj => ?_)
    obtain ⟨r9, rfl, hj8, rfl⟩ := hj
    rw [hj8]
    refine V_weak (I2 := fun x => (MaH la t z sl gl x ∧ LH cO ee gl ts md ar sn f x ∧ ∀ i : Nat, (i : Int) < sn → f i = some (rb i) ∧ x (rb i) = some (tr i, .inr (9, [.int (iI (G 0 i)), .int (iI (G 1 i)), .int (iI (G 2 i)), .int (iI (G 3 i))]))) ∧ x = h0) (fun x hx => by rw [hx]; exact hh) ?_
    refine V_icmpge (tgt := 40) C (by omega) dX3_mayChange_10 (by decide) rfl (fun c_10 => ?_) (fun c_10 => ?_)
    · refine V_iconst (pc' := 41) C dX3_mayChange_40 rfl ?_
      exact V_endz (z := bI false) C hr hlk (nar_z false) (fun h' hh => ⟨_, rfl, by rw [hv], hh.2⟩) ⟨Nat.le_refl _, Nat.le_refl _⟩ dX3_mayChange_41
    · exact absurd c_10 (by omega)
end

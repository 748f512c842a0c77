/-! the law: its calls of the class, each behind its handlers -/

section
variable {l : Launch} {D : va_G} {cB cC cI cO cJ cD : ClassId} {ee b ou mc ms : Nat} {rm : Room}
set_option maxHeartbeats 4000000 in
set_option maxRecDepth 100000 in
theorem kW_set {z1 : Int} {z2 : Int} {z3 : Int} {I : Hp → Prop} {J : Hp → Option Value → Hp → Prop} (hM : Ct l yX7_set wsX7_set rm D (tyL cB cC cI cO cJ cD) ee [.ref b, .int (iI z1), .int (iI z2), .int (iI z3)] I J mc ms) (hcs : rm.cells = mc ∧ rm.slots = ms) (hrec : ∀ h, I h → ∃ t fs, h b = some (t, .inr (12, fs))) (hJ : ∀ h v h', I h → J h v h' → (∃ z : Int, v = some (.int (iI z))) ∧ Fr T7 h h') : Ct l yL_set wsL_set ({ frames := rm.frames + 1, cells := mc, slots := ms, locals := rm.locals + 23 } : Room) D (tyL cB cC cI cO cJ cD) ee [.ref b, .int (iI z1), .int (iI z2), .int (iI z3), .ref ou] (fun x => I x ∧ ∃ f : Nat → Int64, x ou = some (901, .inl (cJ, 1, .inr (.inl f)))) (fun h v9 h' => v9 = some (.int (iI 0)) ∧ ∃ (z : Int) (h1 : Hp) (g : Nat → Int64), J h (some (.int (iI z))) h1 ∧ g 0 = lI z ∧ h' = hup h1 ou (901, .inl (cJ, 1, .inr (.inl g)))) mc ms := by
  refine Ctw_of (cc := cL_set) (own := RL) [some (.ref b), some (.int (iI z1)), some (.int (iI z2)), some (.int (iI z3)), some (.ref ou), none] (by decide) rfl rfl (Nat.le_of_ble_eq_true rfl) (fun i9 v9 h9 => argL [.ref b, .int (iI z1), .int (iI z2), .int (iI z3), .ref ou] 1 rfl i9 v9 h9) ?_
  intro p e s m9 args below meth c9 h0 sz hI C hr hlk hxt
  obtain ⟨hI1, f0, hou⟩ := hI
  refine V_aload4 (pc' := 2) C dL_set_0 rfl ?_
  refine V_iconst (pc' := 3) C dL_set_2 rfl ?_
  refine V_aload0 (pc' := 4) C dL_set_3 rfl ?_
  refine V_iload1 (pc' := 5) C dL_set_4 rfl ?_
  refine V_iload2 (pc' := 6) C dL_set_5 rfl ?_
  refine V_iload3 (pc' := 7) C dL_set_6 rfl ?_
  refine V_callV (ci := 12) (n := 3) [.int (iI z1), .int (iI z2), .int (iI z3)] C hM gL_set_X7_set rfl ydX7_set ⟨by dsimp only; omega, by dsimp only; omega⟩ hcs rfl rfl (fun h hh => by subst hh; exact hrec _ hI1) (fun h hh => by subst hh; exact hI1) rfl (Nat.le_of_ble_eq_true rfl) dL_set_7 ⟨by dsimp only; omega, by dsimp only; omega⟩ (fun h v9 h' hh hj9 => ?_)
  obtain ⟨⟨z9, rfl⟩, hF9⟩ := hJ h v9 h' (by rw [hh]; exact hI1) hj9
  rw [hh] at hj9 hF9
  have ho9 := hF9 _ _ _ hou (by unfold T7; omega)
  refine V_i2l (pc' := 11) C dL_set_10 rfl ?_
  refine V_last1 (pc' := 12) (I2 := fun x => ∃ g : Nat → Int64, g 0 = lI z9 ∧ x = hup h' ou (901, .inl (cJ, 1, .inr (.inl g)))) C 4 rfl (fun x hx => by subst hx; exact ⟨901, f0, ho9, fun g hg => ⟨g, hg, rfl⟩⟩) dL_set_11 rfl ?_
  refine V_goto (tgt := 23) C dL_set_12 (by decide) ?_
  refine V_iconst (pc' := 24) C dL_set_23 rfl ?_
  exact V_end C hr hlk (fun h2 hh2 => by obtain ⟨g, hg, rfl⟩ := hh2; exact ⟨rfl, z9, h', g, hj9, hg, rfl⟩) ⟨by omega, by omega⟩ dL_set_24
set_option maxHeartbeats 4000000 in
set_option maxRecDepth 100000 in
theorem kW_set_1 {z1 : Int} {z2 : Int} {z3 : Int} {I : Hp → Prop} {JX : Hp → Hp → Prop} (hM : Tx l yX7_set wsX7_set rm D (tyL cB cC cI cO cJ cD) ee [.ref b, .int (iI z1), .int (iI z2), .int (iI z3)] I "java/lang/IndexOutOfBoundsException" JX mc ms) (hcs : rm.cells = mc ∧ rm.slots = ms) (hrec : ∀ h, I h → ∃ t fs, h b = some (t, .inr (12, fs))) : Ct l yL_set wsL_set ({ frames := rm.frames + 1, cells := mc, slots := ms, locals := rm.locals + 23 } : Room) D (tyL cB cC cI cO cJ cD) ee [.ref b, .int (iI z1), .int (iI z2), .int (iI z3), .ref ou] (I) (fun h v9 h' => v9 = some (.int (iI 1)) ∧ JX h h') mc ms := by
  refine Ctw_of (cc := cL_set) (own := RL) [some (.ref b), some (.int (iI z1)), some (.int (iI z2)), some (.int (iI z3)), some (.ref ou), none] (by decide) rfl rfl (Nat.le_of_ble_eq_true rfl) (fun i9 v9 h9 => argL [.ref b, .int (iI z1), .int (iI z2), .int (iI z3), .ref ou] 1 rfl i9 v9 h9) ?_
  intro p e s m9 args below meth c9 h0 sz hI C hr hlk hxt
  refine V_aload4 (pc' := 2) C dL_set_0 rfl ?_
  refine V_iconst (pc' := 3) C dL_set_2 rfl ?_
  refine V_aload0 (pc' := 4) C dL_set_3 rfl ?_
  refine V_iload1 (pc' := 5) C dL_set_4 rfl ?_
  refine V_iload2 (pc' := 6) C dL_set_5 rfl ?_
  refine V_iload3 (pc' := 7) C dL_set_6 rfl ?_
  refine V_catchV (ci := 12) (n := 3) (name := "java/lang/IndexOutOfBoundsException") [.int (iI z1), .int (iI z2), .int (iI z3)] C hM gL_set_X7_set rfl ydX7_set ⟨by dsimp only; omega, by dsimp only; omega⟩ hcs rfl rfl (fun h hh => by subst hh; exact hrec _ hI) (fun h hh => by subst hh; exact hI) rfl (Nat.le_of_ble_eq_true rfl) dL_set_7 ⟨by dsimp only; omega, by dsimp only; omega⟩ [] ⟨0, 12, 15, 13⟩ [⟨0, 12, 19, 15⟩] (hxt.trans rfl) (fun z hz => by cases hz) (by decide) (by decide) (by decide +kernel) (by decide) (fun h h' hh hj9 q => ?_)
  rw [hh] at hj9
  refine V_astore5 (pc' := 17) C dL_set_15 rfl (by decide) rfl ?_
  refine V_iconst (pc' := 18) C dL_set_17 rfl ?_
  exact V_end C hr hlk (fun h2 hh2 => by subst hh2; exact ⟨rfl, hj9⟩) ⟨by omega, by omega⟩ dL_set_18
set_option maxHeartbeats 4000000 in
set_option maxRecDepth 100000 in
theorem kW_set_2 {z1 : Int} {z2 : Int} {z3 : Int} {I : Hp → Prop} {JX : Hp → Hp → Prop} (hM : Tx l yX7_set wsX7_set rm D (tyL cB cC cI cO cJ cD) ee [.ref b, .int (iI z1), .int (iI z2), .int (iI z3)] I "java/lang/IllegalArgumentException" JX mc ms) (hcs : rm.cells = mc ∧ rm.slots = ms) (hrec : ∀ h, I h → ∃ t fs, h b = some (t, .inr (12, fs))) : Ct l yL_set wsL_set ({ frames := rm.frames + 1, cells := mc, slots := ms, locals := rm.locals + 23 } : Room) D (tyL cB cC cI cO cJ cD) ee [.ref b, .int (iI z1), .int (iI z2), .int (iI z3), .ref ou] (I) (fun h v9 h' => v9 = some (.int (iI 2)) ∧ JX h h') mc ms := by
  refine Ctw_of (cc := cL_set) (own := RL) [some (.ref b), some (.int (iI z1)), some (.int (iI z2)), some (.int (iI z3)), some (.ref ou), none] (by decide) rfl rfl (Nat.le_of_ble_eq_true rfl) (fun i9 v9 h9 => argL [.ref b, .int (iI z1), .int (iI z2), .int (iI z3), .ref ou] 1 rfl i9 v9 h9) ?_
  intro p e s m9 args below meth c9 h0 sz hI C hr hlk hxt
  refine V_aload4 (pc' := 2) C dL_set_0 rfl ?_
  refine V_iconst (pc' := 3) C dL_set_2 rfl ?_
  refine V_aload0 (pc' := 4) C dL_set_3 rfl ?_
  refine V_iload1 (pc' := 5) C dL_set_4 rfl ?_
  refine V_iload2 (pc' := 6) C dL_set_5 rfl ?_
  refine V_iload3 (pc' := 7) C dL_set_6 rfl ?_
  refine V_catchV (ci := 12) (n := 3) (name := "java/lang/IllegalArgumentException") [.int (iI z1), .int (iI z2), .int (iI z3)] C hM gL_set_X7_set rfl ydX7_set ⟨by dsimp only; omega, by dsimp only; omega⟩ hcs rfl rfl (fun h hh => by subst hh; exact hrec _ hI) (fun h hh => by subst hh; exact hI) rfl (Nat.le_of_ble_eq_true rfl) dL_set_7 ⟨by dsimp only; omega, by dsimp only; omega⟩ [⟨0, 12, 15, 13⟩] ⟨0, 12, 19, 15⟩ [] (hxt.trans rfl) (fun z hz => by
        rcases List.mem_singleton.mp hz with rfl
        exact Or.inr ⟨by decide, "java/lang/IndexOutOfBoundsException", by decide +kernel, by decide⟩) (by decide) (by decide) (by decide +kernel) (by decide) (fun h h' hh hj9 q => ?_)
  rw [hh] at hj9
  refine V_astore5 (pc' := 21) C dL_set_19 rfl (by decide) rfl ?_
  refine V_iconst (pc' := 22) C dL_set_21 rfl ?_
  exact V_end C hr hlk (fun h2 hh2 => by subst hh2; exact ⟨rfl, hj9⟩) ⟨by omega, by omega⟩ dL_set_22
set_option maxHeartbeats 4000000 in
set_option maxRecDepth 100000 in
theorem kW_add {z1 : Int} {z2 : Int} {z3 : Int} {I : Hp → Prop} {J : Hp → Option Value → Hp → Prop} (hM : Ct l yX7_add wsX7_add rm D (tyL cB cC cI cO cJ cD) ee [.ref b, .int (iI z1), .int (iI z2), .int (iI z3)] I J mc ms) (hcs : rm.cells = mc ∧ rm.slots = ms) (hrec : ∀ h, I h → ∃ t fs, h b = some (t, .inr (12, fs))) (hJ : ∀ h v h', I h → J h v h' → (∃ z : Int, v = some (.int (iI z))) ∧ Fr T7 h h') : Ct l yL_add wsL_add ({ frames := rm.frames + 1, cells := mc, slots := ms, locals := rm.locals + 23 } : Room) D (tyL cB cC cI cO cJ cD) ee [.ref b, .int (iI z1), .int (iI z2), .int (iI z3), .ref ou] (fun x => I x ∧ ∃ f : Nat → Int64, x ou = some (901, .inl (cJ, 1, .inr (.inl f)))) (fun h v9 h' => v9 = some (.int (iI 0)) ∧ ∃ (z : Int) (h1 : Hp) (g : Nat → Int64), J h (some (.int (iI z))) h1 ∧ g 0 = lI z ∧ h' = hup h1 ou (901, .inl (cJ, 1, .inr (.inl g)))) mc ms := by
  refine Ctw_of (cc := cL_add) (own := RL) [some (.ref b), some (.int (iI z1)), some (.int (iI z2)), some (.int (iI z3)), some (.ref ou), none] (by decide) rfl rfl (Nat.le_of_ble_eq_true rfl) (fun i9 v9 h9 => argL [.ref b, .int (iI z1), .int (iI z2), .int (iI z3), .ref ou] 1 rfl i9 v9 h9) ?_
  intro p e s m9 args below meth c9 h0 sz hI C hr hlk hxt
  obtain ⟨hI1, f0, hou⟩ := hI
  refine V_aload4 (pc' := 2) C dL_add_0 rfl ?_
  refine V_iconst (pc' := 3) C dL_add_2 rfl ?_
  refine V_aload0 (pc' := 4) C dL_add_3 rfl ?_
  refine V_iload1 (pc' := 5) C dL_add_4 rfl ?_
  refine V_iload2 (pc' := 6) C dL_add_5 rfl ?_
  refine V_iload3 (pc' := 7) C dL_add_6 rfl ?_
  refine V_callV (ci := 12) (n := 3) [.int (iI z1), .int (iI z2), .int (iI z3)] C hM gL_add_X7_add rfl ydX7_add ⟨by dsimp only; omega, by dsimp only; omega⟩ hcs rfl rfl (fun h hh => by subst hh; exact hrec _ hI1) (fun h hh => by subst hh; exact hI1) rfl (Nat.le_of_ble_eq_true rfl) dL_add_7 ⟨by dsimp only; omega, by dsimp only; omega⟩ (fun h v9 h' hh hj9 => ?_)
  obtain ⟨⟨z9, rfl⟩, hF9⟩ := hJ h v9 h' (by rw [hh]; exact hI1) hj9
  rw [hh] at hj9 hF9
  have ho9 := hF9 _ _ _ hou (by unfold T7; omega)
  refine V_i2l (pc' := 11) C dL_add_10 rfl ?_
  refine V_last1 (pc' := 12) (I2 := fun x => ∃ g : Nat → Int64, g 0 = lI z9 ∧ x = hup h' ou (901, .inl (cJ, 1, .inr (.inl g)))) C 4 rfl (fun x hx => by subst hx; exact ⟨901, f0, ho9, fun g hg => ⟨g, hg, rfl⟩⟩) dL_add_11 rfl ?_
  refine V_goto (tgt := 23) C dL_add_12 (by decide) ?_
  refine V_iconst (pc' := 24) C dL_add_23 rfl ?_
  exact V_end C hr hlk (fun h2 hh2 => by obtain ⟨g, hg, rfl⟩ := hh2; exact ⟨rfl, z9, h', g, hj9, hg, rfl⟩) ⟨by omega, by omega⟩ dL_add_24
set_option maxHeartbeats 4000000 in
set_option maxRecDepth 100000 in
theorem kW_add_1 {z1 : Int} {z2 : Int} {z3 : Int} {I : Hp → Prop} {JX : Hp → Hp → Prop} (hM : Tx l yX7_add wsX7_add rm D (tyL cB cC cI cO cJ cD) ee [.ref b, .int (iI z1), .int (iI z2), .int (iI z3)] I "java/lang/IndexOutOfBoundsException" JX mc ms) (hcs : rm.cells = mc ∧ rm.slots = ms) (hrec : ∀ h, I h → ∃ t fs, h b = some (t, .inr (12, fs))) : Ct l yL_add wsL_add ({ frames := rm.frames + 1, cells := mc, slots := ms, locals := rm.locals + 23 } : Room) D (tyL cB cC cI cO cJ cD) ee [.ref b, .int (iI z1), .int (iI z2), .int (iI z3), .ref ou] (I) (fun h v9 h' => v9 = some (.int (iI 1)) ∧ JX h h') mc ms := by
  refine Ctw_of (cc := cL_add) (own := RL) [some (.ref b), some (.int (iI z1)), some (.int (iI z2)), some (.int (iI z3)), some (.ref ou), none] (by decide) rfl rfl (Nat.le_of_ble_eq_true rfl) (fun i9 v9 h9 => argL [.ref b, .int (iI z1), .int (iI z2), .int (iI z3), .ref ou] 1 rfl i9 v9 h9) ?_
  intro p e s m9 args below meth c9 h0 sz hI C hr hlk hxt
  refine V_aload4 (pc' := 2) C dL_add_0 rfl ?_
  refine V_iconst (pc' := 3) C dL_add_2 rfl ?_
  refine V_aload0 (pc' := 4) C dL_add_3 rfl ?_
  refine V_iload1 (pc' := 5) C dL_add_4 rfl ?_
  refine V_iload2 (pc' := 6) C dL_add_5 rfl ?_
  refine V_iload3 (pc' := 7) C dL_add_6 rfl ?_
  refine V_catchV (ci := 12) (n := 3) (name := "java/lang/IndexOutOfBoundsException") [.int (iI z1), .int (iI z2), .int (iI z3)] C hM gL_add_X7_add rfl ydX7_add ⟨by dsimp only; omega, by dsimp only; omega⟩ hcs rfl rfl (fun h hh => by subst hh; exact hrec _ hI) (fun h hh => by subst hh; exact hI) rfl (Nat.le_of_ble_eq_true rfl) dL_add_7 ⟨by dsimp only; omega, by dsimp only; omega⟩ [] ⟨0, 12, 15, 13⟩ [⟨0, 12, 19, 15⟩] (hxt.trans rfl) (fun z hz => by cases hz) (by decide) (by decide) (by decide +kernel) (by decide) (fun h h' hh hj9 q => ?_)
  rw [hh] at hj9
  refine V_astore5 (pc' := 17) C dL_add_15 rfl (by decide) rfl ?_
  refine V_iconst (pc' := 18) C dL_add_17 rfl ?_
  exact V_end C hr hlk (fun h2 hh2 => by subst hh2; exact ⟨rfl, hj9⟩) ⟨by omega, by omega⟩ dL_add_18
set_option maxHeartbeats 4000000 in
set_option maxRecDepth 100000 in
theorem kW_add_2 {z1 : Int} {z2 : Int} {z3 : Int} {I : Hp → Prop} {JX : Hp → Hp → Prop} (hM : Tx l yX7_add wsX7_add rm D (tyL cB cC cI cO cJ cD) ee [.ref b, .int (iI z1), .int (iI z2), .int (iI z3)] I "java/lang/IllegalArgumentException" JX mc ms) (hcs : rm.cells = mc ∧ rm.slots = ms) (hrec : ∀ h, I h → ∃ t fs, h b = some (t, .inr (12, fs))) : Ct l yL_add wsL_add ({ frames := rm.frames + 1, cells := mc, slots := ms, locals := rm.locals + 23 } : Room) D (tyL cB cC cI cO cJ cD) ee [.ref b, .int (iI z1), .int (iI z2), .int (iI z3), .ref ou] (I) (fun h v9 h' => v9 = some (.int (iI 2)) ∧ JX h h') mc ms := by
  refine Ctw_of (cc := cL_add) (own := RL) [some (.ref b), some (.int (iI z1)), some (.int (iI z2)), some (.int (iI z3)), some (.ref ou), none] (by decide) rfl rfl (Nat.le_of_ble_eq_true rfl) (fun i9 v9 h9 => argL [.ref b, .int (iI z1), .int (iI z2), .int (iI z3), .ref ou] 1 rfl i9 v9 h9) ?_
  intro p e s m9 args below meth c9 h0 sz hI C hr hlk hxt
  refine V_aload4 (pc' := 2) C dL_add_0 rfl ?_
  refine V_iconst (pc' := 3) C dL_add_2 rfl ?_
  refine V_aload0 (pc' := 4) C dL_add_3 rfl ?_
  refine V_iload1 (pc' := 5) C dL_add_4 rfl ?_
  refine V_iload2 (pc' := 6) C dL_add_5 rfl ?_
  refine V_iload3 (pc' := 7) C dL_add_6 rfl ?_
  refine V_catchV (ci := 12) (n := 3) (name := "java/lang/IllegalArgumentException") [.int (iI z1), .int (iI z2), .int (iI z3)] C hM gL_add_X7_add rfl ydX7_add ⟨by dsimp only; omega, by dsimp only; omega⟩ hcs rfl rfl (fun h hh => by subst hh; exact hrec _ hI) (fun h hh => by subst hh; exact hI) rfl (Nat.le_of_ble_eq_true rfl) dL_add_7 ⟨by dsimp only; omega, by dsimp only; omega⟩ [⟨0, 12, 15, 13⟩] ⟨0, 12, 19, 15⟩ [] (hxt.trans rfl) (fun z hz => by
        rcases List.mem_singleton.mp hz with rfl
        exact Or.inr ⟨by decide, "java/lang/IndexOutOfBoundsException", by decide +kernel, by decide⟩) (by decide) (by decide) (by decide +kernel) (by decide) (fun h h' hh hj9 q => ?_)
  rw [hh] at hj9
  refine V_astore5 (pc' := 21) C dL_add_19 rfl (by decide) rfl ?_
  refine V_iconst (pc' := 22) C dL_add_21 rfl ?_
  exact V_end C hr hlk (fun h2 hh2 => by subst hh2; exact ⟨rfl, hj9⟩) ⟨by omega, by omega⟩ dL_add_22
set_option maxHeartbeats 4000000 in
set_option maxRecDepth 100000 in
theorem kW_copyBase {z1 : Int} {z2 : Int} {I : Hp → Prop} {J : Hp → Option Value → Hp → Prop} (hM : Ct l yX7_copyBase wsX7_copyBase rm D (tyL cB cC cI cO cJ cD) ee [.ref b, .int (iI z1), .int (iI z2)] I J mc ms) (hcs : rm.cells = mc ∧ rm.slots = ms) (hrec : ∀ h, I h → ∃ t fs, h b = some (t, .inr (12, fs))) (hJ : ∀ h v h', I h → J h v h' → (∃ z : Int, v = some (.int (iI z))) ∧ Fr T7 h h') : Ct l yL_copyBase wsL_copyBase ({ frames := rm.frames + 1, cells := mc, slots := ms, locals := rm.locals + 22 } : Room) D (tyL cB cC cI cO cJ cD) ee [.ref b, .int (iI z1), .int (iI z2), .ref ou] (fun x => I x ∧ ∃ f : Nat → Int64, x ou = some (901, .inl (cJ, 1, .inr (.inl f)))) (fun h v9 h' => v9 = some (.int (iI 0)) ∧ ∃ (z : Int) (h1 : Hp) (g : Nat → Int64), J h (some (.int (iI z))) h1 ∧ g 0 = lI z ∧ h' = hup h1 ou (901, .inl (cJ, 1, .inr (.inl g)))) mc ms := by
  refine Ctw_of (cc := cL_copyBase) (own := RL) [some (.ref b), some (.int (iI z1)), some (.int (iI z2)), some (.ref ou), none] (by decide) rfl rfl (Nat.le_of_ble_eq_true rfl) (fun i9 v9 h9 => argL [.ref b, .int (iI z1), .int (iI z2), .ref ou] 1 rfl i9 v9 h9) ?_
  intro p e s m9 args below meth c9 h0 sz hI C hr hlk hxt
  obtain ⟨hI1, f0, hou⟩ := hI
  refine V_aload3 (pc' := 1) C dL_copyBase_0 rfl ?_
  refine V_iconst (pc' := 2) C dL_copyBase_1 rfl ?_
  refine V_aload0 (pc' := 3) C dL_copyBase_2 rfl ?_
  refine V_iload1 (pc' := 4) C dL_copyBase_3 rfl ?_
  refine V_iload2 (pc' := 5) C dL_copyBase_4 rfl ?_
  refine V_callV (ci := 12) (n := 2) [.int (iI z1), .int (iI z2)] C hM gL_copyBase_X7_copyBase rfl ydX7_copyBase ⟨by dsimp only; omega, by dsimp only; omega⟩ hcs rfl rfl (fun h hh => by subst hh; exact hrec _ hI1) (fun h hh => by subst hh; exact hI1) rfl (Nat.le_of_ble_eq_true rfl) dL_copyBase_5 ⟨by dsimp only; omega, by dsimp only; omega⟩ (fun h v9 h' hh hj9 => ?_)
  obtain ⟨⟨z9, rfl⟩, hF9⟩ := hJ h v9 h' (by rw [hh]; exact hI1) hj9
  rw [hh] at hj9 hF9
  have ho9 := hF9 _ _ _ hou (by unfold T7; omega)
  refine V_i2l (pc' := 9) C dL_copyBase_8 rfl ?_
  refine V_last1 (pc' := 10) (I2 := fun x => ∃ g : Nat → Int64, g 0 = lI z9 ∧ x = hup h' ou (901, .inl (cJ, 1, .inr (.inl g)))) C 4 rfl (fun x hx => by subst hx; exact ⟨901, f0, ho9, fun g hg => ⟨g, hg, rfl⟩⟩) dL_copyBase_9 rfl ?_
  refine V_goto (tgt := 21) C dL_copyBase_10 (by decide) ?_
  refine V_iconst (pc' := 22) C dL_copyBase_21 rfl ?_
  exact V_end C hr hlk (fun h2 hh2 => by obtain ⟨g, hg, rfl⟩ := hh2; exact ⟨rfl, z9, h', g, hj9, hg, rfl⟩) ⟨by omega, by omega⟩ dL_copyBase_22
set_option maxHeartbeats 4000000 in
set_option maxRecDepth 100000 in
theorem kW_copyBase_1 {z1 : Int} {z2 : Int} {I : Hp → Prop} {JX : Hp → Hp → Prop} (hM : Tx l yX7_copyBase wsX7_copyBase rm D (tyL cB cC cI cO cJ cD) ee [.ref b, .int (iI z1), .int (iI z2)] I "java/lang/IndexOutOfBoundsException" JX mc ms) (hcs : rm.cells = mc ∧ rm.slots = ms) (hrec : ∀ h, I h → ∃ t fs, h b = some (t, .inr (12, fs))) : Ct l yL_copyBase wsL_copyBase ({ frames := rm.frames + 1, cells := mc, slots := ms, locals := rm.locals + 22 } : Room) D (tyL cB cC cI cO cJ cD) ee [.ref b, .int (iI z1), .int (iI z2), .ref ou] (I) (fun h v9 h' => v9 = some (.int (iI 1)) ∧ JX h h') mc ms := by
  refine Ctw_of (cc := cL_copyBase) (own := RL) [some (.ref b), some (.int (iI z1)), some (.int (iI z2)), some (.ref ou), none] (by decide) rfl rfl (Nat.le_of_ble_eq_true rfl) (fun i9 v9 h9 => argL [.ref b, .int (iI z1), .int (iI z2), .ref ou] 1 rfl i9 v9 h9) ?_
  intro p e s m9 args below meth c9 h0 sz hI C hr hlk hxt
  refine V_aload3 (pc' := 1) C dL_copyBase_0 rfl ?_
  refine V_iconst (pc' := 2) C dL_copyBase_1 rfl ?_
  refine V_aload0 (pc' := 3) C dL_copyBase_2 rfl ?_
  refine V_iload1 (pc' := 4) C dL_copyBase_3 rfl ?_
  refine V_iload2 (pc' := 5) C dL_copyBase_4 rfl ?_
  refine V_catchV (ci := 12) (n := 2) (name := "java/lang/IndexOutOfBoundsException") [.int (iI z1), .int (iI z2)] C hM gL_copyBase_X7_copyBase rfl ydX7_copyBase ⟨by dsimp only; omega, by dsimp only; omega⟩ hcs rfl rfl (fun h hh => by subst hh; exact hrec _ hI) (fun h hh => by subst hh; exact hI) rfl (Nat.le_of_ble_eq_true rfl) dL_copyBase_5 ⟨by dsimp only; omega, by dsimp only; omega⟩ [] ⟨0, 10, 13, 13⟩ [⟨0, 10, 17, 24⟩] (hxt.trans rfl) (fun z hz => by cases hz) (by decide) (by decide) (by decide +kernel) (by decide) (fun h h' hh hj9 q => ?_)
  rw [hh] at hj9
  refine V_astore4 (pc' := 15) C dL_copyBase_13 rfl (by decide) rfl ?_
  refine V_iconst (pc' := 16) C dL_copyBase_15 rfl ?_
  exact V_end C hr hlk (fun h2 hh2 => by subst hh2; exact ⟨rfl, hj9⟩) ⟨by omega, by omega⟩ dL_copyBase_16
set_option maxHeartbeats 4000000 in
set_option maxRecDepth 100000 in
theorem kW_copyBase_2 {z1 : Int} {z2 : Int} {I : Hp → Prop} {JX : Hp → Hp → Prop} (hM : Tx l yX7_copyBase wsX7_copyBase rm D (tyL cB cC cI cO cJ cD) ee [.ref b, .int (iI z1), .int (iI z2)] I "java/lang/IllegalStateException" JX mc ms) (hcs : rm.cells = mc ∧ rm.slots = ms) (hrec : ∀ h, I h → ∃ t fs, h b = some (t, .inr (12, fs))) : Ct l yL_copyBase wsL_copyBase ({ frames := rm.frames + 1, cells := mc, slots := ms, locals := rm.locals + 22 } : Room) D (tyL cB cC cI cO cJ cD) ee [.ref b, .int (iI z1), .int (iI z2), .ref ou] (I) (fun h v9 h' => v9 = some (.int (iI 2)) ∧ JX h h') mc ms := by
  refine Ctw_of (cc := cL_copyBase) (own := RL) [some (.ref b), some (.int (iI z1)), some (.int (iI z2)), some (.ref ou), none] (by decide) rfl rfl (Nat.le_of_ble_eq_true rfl) (fun i9 v9 h9 => argL [.ref b, .int (iI z1), .int (iI z2), .ref ou] 1 rfl i9 v9 h9) ?_
  intro p e s m9 args below meth c9 h0 sz hI C hr hlk hxt
  refine V_aload3 (pc' := 1) C dL_copyBase_0 rfl ?_
  refine V_iconst (pc' := 2) C dL_copyBase_1 rfl ?_
  refine V_aload0 (pc' := 3) C dL_copyBase_2 rfl ?_
  refine V_iload1 (pc' := 4) C dL_copyBase_3 rfl ?_
  refine V_iload2 (pc' := 5) C dL_copyBase_4 rfl ?_
  refine V_catchV (ci := 12) (n := 2) (name := "java/lang/IllegalStateException") [.int (iI z1), .int (iI z2)] C hM gL_copyBase_X7_copyBase rfl ydX7_copyBase ⟨by dsimp only; omega, by dsimp only; omega⟩ hcs rfl rfl (fun h hh => by subst hh; exact hrec _ hI) (fun h hh => by subst hh; exact hI) rfl (Nat.le_of_ble_eq_true rfl) dL_copyBase_5 ⟨by dsimp only; omega, by dsimp only; omega⟩ [⟨0, 10, 13, 13⟩] ⟨0, 10, 17, 24⟩ [] (hxt.trans rfl) (fun z hz => by
        rcases List.mem_singleton.mp hz with rfl
        exact Or.inr ⟨by decide, "java/lang/IndexOutOfBoundsException", by decide +kernel, by decide⟩) (by decide) (by decide) (by decide +kernel) (by decide) (fun h h' hh hj9 q => ?_)
  rw [hh] at hj9
  refine V_astore4 (pc' := 19) C dL_copyBase_17 rfl (by decide) rfl ?_
  refine V_iconst (pc' := 20) C dL_copyBase_19 rfl ?_
  exact V_end C hr hlk (fun h2 hh2 => by subst hh2; exact ⟨rfl, hj9⟩) ⟨by omega, by omega⟩ dL_copyBase_20
set_option maxHeartbeats 4000000 in
set_option maxRecDepth 100000 in
theorem kW_cell {z1 : Int} {z2 : Int} {I : Hp → Prop} {J : Hp → Option Value → Hp → Prop} (hM : Ct l yX7_cell wsX7_cell rm D (tyL cB cC cI cO cJ cD) ee [.ref b, .int (iI z1), .int (iI z2)] I J mc ms) (hcs : rm.cells = mc ∧ rm.slots = ms) (hrec : ∀ h, I h → ∃ t fs, h b = some (t, .inr (12, fs))) (hJ : ∀ h v h', I h → J h v h' → (∃ z : Int, v = some (.int (iI z))) ∧ Fr T7 h h') : Ct l yL_cell wsL_cell ({ frames := rm.frames + 1, cells := mc, slots := ms, locals := rm.locals + 22 } : Room) D (tyL cB cC cI cO cJ cD) ee [.ref b, .int (iI z1), .int (iI z2), .ref ou] (fun x => I x ∧ ∃ f : Nat → Int64, x ou = some (901, .inl (cJ, 1, .inr (.inl f)))) (fun h v9 h' => v9 = some (.int (iI 0)) ∧ ∃ (z : Int) (h1 : Hp) (g : Nat → Int64), J h (some (.int (iI z))) h1 ∧ g 0 = lI z ∧ h' = hup h1 ou (901, .inl (cJ, 1, .inr (.inl g)))) mc ms := by
  refine Ctw_of (cc := cL_cell) (own := RL) [some (.ref b), some (.int (iI z1)), some (.int (iI z2)), some (.ref ou), none] (by decide) rfl rfl (Nat.le_of_ble_eq_true rfl) (fun i9 v9 h9 => argL [.ref b, .int (iI z1), .int (iI z2), .ref ou] 1 rfl i9 v9 h9) ?_
  intro p e s m9 args below meth c9 h0 sz hI C hr hlk hxt
  obtain ⟨hI1, f0, hou⟩ := hI
  refine V_aload3 (pc' := 1) C dL_cell_0 rfl ?_
  refine V_iconst (pc' := 2) C dL_cell_1 rfl ?_
  refine V_aload0 (pc' := 3) C dL_cell_2 rfl ?_
  refine V_iload1 (pc' := 4) C dL_cell_3 rfl ?_
  refine V_iload2 (pc' := 5) C dL_cell_4 rfl ?_
  refine V_callV (ci := 12) (n := 2) [.int (iI z1), .int (iI z2)] C hM gL_cell_X7_cell rfl ydX7_cell ⟨by dsimp only; omega, by dsimp only; omega⟩ hcs rfl rfl (fun h hh => by subst hh; exact hrec _ hI1) (fun h hh => by subst hh; exact hI1) rfl (Nat.le_of_ble_eq_true rfl) dL_cell_5 ⟨by dsimp only; omega, by dsimp only; omega⟩ (fun h v9 h' hh hj9 => ?_)
  obtain ⟨⟨z9, rfl⟩, hF9⟩ := hJ h v9 h' (by rw [hh]; exact hI1) hj9
  rw [hh] at hj9 hF9
  have ho9 := hF9 _ _ _ hou (by unfold T7; omega)
  refine V_i2l (pc' := 9) C dL_cell_8 rfl ?_
  refine V_last1 (pc' := 10) (I2 := fun x => ∃ g : Nat → Int64, g 0 = lI z9 ∧ x = hup h' ou (901, .inl (cJ, 1, .inr (.inl g)))) C 4 rfl (fun x hx => by subst hx; exact ⟨901, f0, ho9, fun g hg => ⟨g, hg, rfl⟩⟩) dL_cell_9 rfl ?_
  refine V_goto (tgt := 17) C dL_cell_10 (by decide) ?_
  refine V_iconst (pc' := 18) C dL_cell_17 rfl ?_
  exact V_end C hr hlk (fun h2 hh2 => by obtain ⟨g, hg, rfl⟩ := hh2; exact ⟨rfl, z9, h', g, hj9, hg, rfl⟩) ⟨by omega, by omega⟩ dL_cell_18
set_option maxHeartbeats 4000000 in
set_option maxRecDepth 100000 in
theorem kW_cell_1 {z1 : Int} {z2 : Int} {I : Hp → Prop} {JX : Hp → Hp → Prop} (hM : Tx l yX7_cell wsX7_cell rm D (tyL cB cC cI cO cJ cD) ee [.ref b, .int (iI z1), .int (iI z2)] I "java/lang/IndexOutOfBoundsException" JX mc ms) (hcs : rm.cells = mc ∧ rm.slots = ms) (hrec : ∀ h, I h → ∃ t fs, h b = some (t, .inr (12, fs))) : Ct l yL_cell wsL_cell ({ frames := rm.frames + 1, cells := mc, slots := ms, locals := rm.locals + 22 } : Room) D (tyL cB cC cI cO cJ cD) ee [.ref b, .int (iI z1), .int (iI z2), .ref ou] (I) (fun h v9 h' => v9 = some (.int (iI 1)) ∧ JX h h') mc ms := by
  refine Ctw_of (cc := cL_cell) (own := RL) [some (.ref b), some (.int (iI z1)), some (.int (iI z2)), some (.ref ou), none] (by decide) rfl rfl (Nat.le_of_ble_eq_true rfl) (fun i9 v9 h9 => argL [.ref b, .int (iI z1), .int (iI z2), .ref ou] 1 rfl i9 v9 h9) ?_
  intro p e s m9 args below meth c9 h0 sz hI C hr hlk hxt
  refine V_aload3 (pc' := 1) C dL_cell_0 rfl ?_
  refine V_iconst (pc' := 2) C dL_cell_1 rfl ?_
  refine V_aload0 (pc' := 3) C dL_cell_2 rfl ?_
  refine V_iload1 (pc' := 4) C dL_cell_3 rfl ?_
  refine V_iload2 (pc' := 5) C dL_cell_4 rfl ?_
  refine V_catchV (ci := 12) (n := 2) (name := "java/lang/IndexOutOfBoundsException") [.int (iI z1), .int (iI z2)] C hM gL_cell_X7_cell rfl ydX7_cell ⟨by dsimp only; omega, by dsimp only; omega⟩ hcs rfl rfl (fun h hh => by subst hh; exact hrec _ hI) (fun h hh => by subst hh; exact hI) rfl (Nat.le_of_ble_eq_true rfl) dL_cell_5 ⟨by dsimp only; omega, by dsimp only; omega⟩ [] ⟨0, 10, 13, 13⟩ [] (hxt.trans rfl) (fun z hz => by cases hz) (by decide) (by decide) (by decide +kernel) (by decide) (fun h h' hh hj9 q => ?_)
  rw [hh] at hj9
  refine V_astore4 (pc' := 15) C dL_cell_13 rfl (by decide) rfl ?_
  refine V_iconst (pc' := 16) C dL_cell_15 rfl ?_
  exact V_end C hr hlk (fun h2 hh2 => by subst hh2; exact ⟨rfl, hj9⟩) ⟨by omega, by omega⟩ dL_cell_16
set_option maxHeartbeats 4000000 in
set_option maxRecDepth 100000 in
theorem kW_cellByAudit {z1 : Int} {z2 : Int} {I : Hp → Prop} {J : Hp → Option Value → Hp → Prop} (hM : Ct l yX7_cellByAudit wsX7_cellByAudit rm D (tyL cB cC cI cO cJ cD) ee [.ref b, .int (iI z1), .int (iI z2)] I J mc ms) (hcs : rm.cells = mc ∧ rm.slots = ms) (hrec : ∀ h, I h → ∃ t fs, h b = some (t, .inr (12, fs))) (hJ : ∀ h v h', I h → J h v h' → (∃ z : Int, v = some (.int (iI z))) ∧ Fr T7 h h') : Ct l yL_cellByAudit wsL_cellByAudit ({ frames := rm.frames + 1, cells := mc, slots := ms, locals := rm.locals + 22 } : Room) D (tyL cB cC cI cO cJ cD) ee [.ref b, .int (iI z1), .int (iI z2), .ref ou] (fun x => I x ∧ ∃ f : Nat → Int64, x ou = some (901, .inl (cJ, 1, .inr (.inl f)))) (fun h v9 h' => v9 = some (.int (iI 0)) ∧ ∃ (z : Int) (h1 : Hp) (g : Nat → Int64), J h (some (.int (iI z))) h1 ∧ g 0 = lI z ∧ h' = hup h1 ou (901, .inl (cJ, 1, .inr (.inl g)))) mc ms := by
  refine Ctw_of (cc := cL_cellByAudit) (own := RL) [some (.ref b), some (.int (iI z1)), some (.int (iI z2)), some (.ref ou), none] (by decide) rfl rfl (Nat.le_of_ble_eq_true rfl) (fun i9 v9 h9 => argL [.ref b, .int (iI z1), .int (iI z2), .ref ou] 1 rfl i9 v9 h9) ?_
  intro p e s m9 args below meth c9 h0 sz hI C hr hlk hxt
  obtain ⟨hI1, f0, hou⟩ := hI
  refine V_aload3 (pc' := 1) C dL_cellByAudit_0 rfl ?_
  refine V_iconst (pc' := 2) C dL_cellByAudit_1 rfl ?_
  refine V_aload0 (pc' := 3) C dL_cellByAudit_2 rfl ?_
  refine V_iload1 (pc' := 4) C dL_cellByAudit_3 rfl ?_
  refine V_iload2 (pc' := 5) C dL_cellByAudit_4 rfl ?_
  refine V_callV (ci := 12) (n := 2) [.int (iI z1), .int (iI z2)] C hM gL_cellByAudit_X7_cellByAudit rfl ydX7_cellByAudit ⟨by dsimp only; omega, by dsimp only; omega⟩ hcs rfl rfl (fun h hh => by subst hh; exact hrec _ hI1) (fun h hh => by subst hh; exact hI1) rfl (Nat.le_of_ble_eq_true rfl) dL_cellByAudit_5 ⟨by dsimp only; omega, by dsimp only; omega⟩ (fun h v9 h' hh hj9 => ?_)
  obtain ⟨⟨z9, rfl⟩, hF9⟩ := hJ h v9 h' (by rw [hh]; exact hI1) hj9
  rw [hh] at hj9 hF9
  have ho9 := hF9 _ _ _ hou (by unfold T7; omega)
  refine V_i2l (pc' := 9) C dL_cellByAudit_8 rfl ?_
  refine V_last1 (pc' := 10) (I2 := fun x => ∃ g : Nat → Int64, g 0 = lI z9 ∧ x = hup h' ou (901, .inl (cJ, 1, .inr (.inl g)))) C 4 rfl (fun x hx => by subst hx; exact ⟨901, f0, ho9, fun g hg => ⟨g, hg, rfl⟩⟩) dL_cellByAudit_9 rfl ?_
  refine V_goto (tgt := 17) C dL_cellByAudit_10 (by decide) ?_
  refine V_iconst (pc' := 18) C dL_cellByAudit_17 rfl ?_
  exact V_end C hr hlk (fun h2 hh2 => by obtain ⟨g, hg, rfl⟩ := hh2; exact ⟨rfl, z9, h', g, hj9, hg, rfl⟩) ⟨by omega, by omega⟩ dL_cellByAudit_18
set_option maxHeartbeats 4000000 in
set_option maxRecDepth 100000 in
theorem kW_cellByAudit_1 {z1 : Int} {z2 : Int} {I : Hp → Prop} {JX : Hp → Hp → Prop} (hM : Tx l yX7_cellByAudit wsX7_cellByAudit rm D (tyL cB cC cI cO cJ cD) ee [.ref b, .int (iI z1), .int (iI z2)] I "java/lang/IndexOutOfBoundsException" JX mc ms) (hcs : rm.cells = mc ∧ rm.slots = ms) (hrec : ∀ h, I h → ∃ t fs, h b = some (t, .inr (12, fs))) : Ct l yL_cellByAudit wsL_cellByAudit ({ frames := rm.frames + 1, cells := mc, slots := ms, locals := rm.locals + 22 } : Room) D (tyL cB cC cI cO cJ cD) ee [.ref b, .int (iI z1), .int (iI z2), .ref ou] (I) (fun h v9 h' => v9 = some (.int (iI 1)) ∧ JX h h') mc ms := by
  refine Ctw_of (cc := cL_cellByAudit) (own := RL) [some (.ref b), some (.int (iI z1)), some (.int (iI z2)), some (.ref ou), none] (by decide) rfl rfl (Nat.le_of_ble_eq_true rfl) (fun i9 v9 h9 => argL [.ref b, .int (iI z1), .int (iI z2), .ref ou] 1 rfl i9 v9 h9) ?_
  intro p e s m9 args below meth c9 h0 sz hI C hr hlk hxt
  refine V_aload3 (pc' := 1) C dL_cellByAudit_0 rfl ?_
  refine V_iconst (pc' := 2) C dL_cellByAudit_1 rfl ?_
  refine V_aload0 (pc' := 3) C dL_cellByAudit_2 rfl ?_
  refine V_iload1 (pc' := 4) C dL_cellByAudit_3 rfl ?_
  refine V_iload2 (pc' := 5) C dL_cellByAudit_4 rfl ?_
  refine V_catchV (ci := 12) (n := 2) (name := "java/lang/IndexOutOfBoundsException") [.int (iI z1), .int (iI z2)] C hM gL_cellByAudit_X7_cellByAudit rfl ydX7_cellByAudit ⟨by dsimp only; omega, by dsimp only; omega⟩ hcs rfl rfl (fun h hh => by subst hh; exact hrec _ hI) (fun h hh => by subst hh; exact hI) rfl (Nat.le_of_ble_eq_true rfl) dL_cellByAudit_5 ⟨by dsimp only; omega, by dsimp only; omega⟩ [] ⟨0, 10, 13, 13⟩ [] (hxt.trans rfl) (fun z hz => by cases hz) (by decide) (by decide) (by decide +kernel) (by decide) (fun h h' hh hj9 q => ?_)
  rw [hh] at hj9
  refine V_astore4 (pc' := 15) C dL_cellByAudit_13 rfl (by decide) rfl ?_
  refine V_iconst (pc' := 16) C dL_cellByAudit_15 rfl ?_
  exact V_end C hr hlk (fun h2 hh2 => by subst hh2; exact ⟨rfl, hj9⟩) ⟨by omega, by omega⟩ dL_cellByAudit_16
set_option maxHeartbeats 4000000 in
set_option maxRecDepth 100000 in
theorem kW_addMacro {I : Hp → Prop} {J : Hp → Option Value → Hp → Prop} (hM : Ct l yX7_addMacro wsX7_addMacro rm D (tyL cB cC cI cO cJ cD) ee [.ref b] I J mc ms) (hcs : rm.cells = mc ∧ rm.slots = ms) (hrec : ∀ h, I h → ∃ t fs, h b = some (t, .inr (12, fs))) (hJ : ∀ h v h', I h → J h v h' → (∃ z : Int, v = some (.int (iI z))) ∧ Fr T7 h h') : Ct l yL_addMacro wsL_addMacro ({ frames := rm.frames + 1, cells := mc, slots := ms, locals := rm.locals + 21 } : Room) D (tyL cB cC cI cO cJ cD) ee [.ref b, .ref ou] (fun x => I x ∧ ∃ f : Nat → Int64, x ou = some (901, .inl (cJ, 1, .inr (.inl f)))) (fun h v9 h' => v9 = some (.int (iI 0)) ∧ ∃ (z : Int) (h1 : Hp) (g : Nat → Int64), J h (some (.int (iI z))) h1 ∧ g 0 = lI z ∧ h' = hup h1 ou (901, .inl (cJ, 1, .inr (.inl g)))) mc ms := by
  refine Ctw_of (cc := cL_addMacro) (own := RL) [some (.ref b), some (.ref ou), none] (by decide) rfl rfl (Nat.le_of_ble_eq_true rfl) (fun i9 v9 h9 => argL [.ref b, .ref ou] 1 rfl i9 v9 h9) ?_
  intro p e s m9 args below meth c9 h0 sz hI C hr hlk hxt
  obtain ⟨hI1, f0, hou⟩ := hI
  refine V_aload1 (pc' := 1) C dL_addMacro_0 rfl ?_
  refine V_iconst (pc' := 2) C dL_addMacro_1 rfl ?_
  refine V_aload0 (pc' := 3) C dL_addMacro_2 rfl ?_
  refine V_callV (ci := 12) (n := 0) [] C hM gL_addMacro_X7_addMacro rfl ydX7_addMacro ⟨by dsimp only; omega, by dsimp only; omega⟩ hcs rfl rfl (fun h hh => by subst hh; exact hrec _ hI1) (fun h hh => by subst hh; exact hI1) rfl (Nat.le_of_ble_eq_true rfl) dL_addMacro_3 ⟨by dsimp only; omega, by dsimp only; omega⟩ (fun h v9 h' hh hj9 => ?_)
  obtain ⟨⟨z9, rfl⟩, hF9⟩ := hJ h v9 h' (by rw [hh]; exact hI1) hj9
  rw [hh] at hj9 hF9
  have ho9 := hF9 _ _ _ hou (by unfold T7; omega)
  refine V_i2l (pc' := 7) C dL_addMacro_6 rfl ?_
  refine V_last1 (pc' := 8) (I2 := fun x => ∃ g : Nat → Int64, g 0 = lI z9 ∧ x = hup h' ou (901, .inl (cJ, 1, .inr (.inl g)))) C 4 rfl (fun x hx => by subst hx; exact ⟨901, f0, ho9, fun g hg => ⟨g, hg, rfl⟩⟩) dL_addMacro_7 rfl ?_
  refine V_goto (tgt := 14) C dL_addMacro_8 (by decide) ?_
  refine V_iconst (pc' := 15) C dL_addMacro_14 rfl ?_
  exact V_end C hr hlk (fun h2 hh2 => by obtain ⟨g, hg, rfl⟩ := hh2; exact ⟨rfl, z9, h', g, hj9, hg, rfl⟩) ⟨by omega, by omega⟩ dL_addMacro_15
set_option maxHeartbeats 4000000 in
set_option maxRecDepth 100000 in
theorem kW_addMacro_1 {I : Hp → Prop} {JX : Hp → Hp → Prop} (hM : Tx l yX7_addMacro wsX7_addMacro rm D (tyL cB cC cI cO cJ cD) ee [.ref b] I "java/lang/IllegalStateException" JX mc ms) (hcs : rm.cells = mc ∧ rm.slots = ms) (hrec : ∀ h, I h → ∃ t fs, h b = some (t, .inr (12, fs))) : Ct l yL_addMacro wsL_addMacro ({ frames := rm.frames + 1, cells := mc, slots := ms, locals := rm.locals + 21 } : Room) D (tyL cB cC cI cO cJ cD) ee [.ref b, .ref ou] (I) (fun h v9 h' => v9 = some (.int (iI 1)) ∧ JX h h') mc ms := by
  refine Ctw_of (cc := cL_addMacro) (own := RL) [some (.ref b), some (.ref ou), none] (by decide) rfl rfl (Nat.le_of_ble_eq_true rfl) (fun i9 v9 h9 => argL [.ref b, .ref ou] 1 rfl i9 v9 h9) ?_
  intro p e s m9 args below meth c9 h0 sz hI C hr hlk hxt
  refine V_aload1 (pc' := 1) C dL_addMacro_0 rfl ?_
  refine V_iconst (pc' := 2) C dL_addMacro_1 rfl ?_
  refine V_aload0 (pc' := 3) C dL_addMacro_2 rfl ?_
  refine V_catchV (ci := 12) (n := 0) (name := "java/lang/IllegalStateException") [] C hM gL_addMacro_X7_addMacro rfl ydX7_addMacro ⟨by dsimp only; omega, by dsimp only; omega⟩ hcs rfl rfl (fun h hh => by subst hh; exact hrec _ hI) (fun h hh => by subst hh; exact hI) rfl (Nat.le_of_ble_eq_true rfl) dL_addMacro_3 ⟨by dsimp only; omega, by dsimp only; omega⟩ [] ⟨0, 8, 11, 24⟩ [] (hxt.trans rfl) (fun z hz => by cases hz) (by decide) (by decide) (by decide +kernel) (by decide) (fun h h' hh hj9 q => ?_)
  rw [hh] at hj9
  refine V_astore2 (pc' := 12) C dL_addMacro_11 rfl (by decide) rfl ?_
  refine V_iconst (pc' := 13) C dL_addMacro_12 rfl ?_
  exact V_end C hr hlk (fun h2 hh2 => by subst hh2; exact ⟨rfl, hj9⟩) ⟨by omega, by omega⟩ dL_addMacro_13
set_option maxHeartbeats 4000000 in
set_option maxRecDepth 100000 in
theorem kW_record {z1 : Int} {z2 : Int} {z3 : Int} {I : Hp → Prop} {J : Hp → Option Value → Hp → Prop} (hM : Ct l yX7_record wsX7_record rm D (tyL cB cC cI cO cJ cD) ee [.ref b, .int (iI z1), .int (iI z2), .int (iI z3)] I J mc ms) (hcs : rm.cells = mc ∧ rm.slots = ms) (hrec : ∀ h, I h → ∃ t fs, h b = some (t, .inr (12, fs))) (hJ : ∀ h v h', I h → J h v h' → (∃ z : Int, v = some (.int (iI z))) ∧ Fr T7 h h') : Ct l yL_record wsL_record ({ frames := rm.frames + 1, cells := mc, slots := ms, locals := rm.locals + 25 } : Room) D (tyL cB cC cI cO cJ cD) ee [.ref b, .int (iI z1), .int (iI z2), .int (iI z3), .ref ou] (fun x => I x ∧ ∃ f : Nat → Int64, x ou = some (901, .inl (cJ, 1, .inr (.inl f)))) (fun h v9 h' => v9 = some (.int (iI 0)) ∧ ∃ (z : Int) (h1 : Hp) (g : Nat → Int64), J h (some (.int (iI z))) h1 ∧ g 0 = lI z ∧ h' = hup h1 ou (901, .inl (cJ, 1, .inr (.inl g)))) mc ms := by
  refine Ctw_of (cc := cL_record) (own := RL) [some (.ref b), some (.int (iI z1)), some (.int (iI z2)), some (.int (iI z3)), some (.ref ou), none] (by decide) rfl rfl (Nat.le_of_ble_eq_true rfl) (fun i9 v9 h9 => argL [.ref b, .int (iI z1), .int (iI z2), .int (iI z3), .ref ou] 1 rfl i9 v9 h9) ?_
  intro p e s m9 args below meth c9 h0 sz hI C hr hlk hxt
  obtain ⟨hI1, f0, hou⟩ := hI
  refine V_aload4 (pc' := 2) C dL_record_0 rfl ?_
  refine V_iconst (pc' := 3) C dL_record_2 rfl ?_
  refine V_aload0 (pc' := 4) C dL_record_3 rfl ?_
  refine V_iload1 (pc' := 5) C dL_record_4 rfl ?_
  refine V_iload2 (pc' := 6) C dL_record_5 rfl ?_
  refine V_iload3 (pc' := 7) C dL_record_6 rfl ?_
  refine V_callV (ci := 12) (n := 3) [.int (iI z1), .int (iI z2), .int (iI z3)] C hM gL_record_X7_record rfl ydX7_record ⟨by dsimp only; omega, by dsimp only; omega⟩ hcs rfl rfl (fun h hh => by subst hh; exact hrec _ hI1) (fun h hh => by subst hh; exact hI1) rfl (Nat.le_of_ble_eq_true rfl) dL_record_7 ⟨by dsimp only; omega, by dsimp only; omega⟩ (fun h v9 h' hh hj9 => ?_)
  obtain ⟨⟨z9, rfl⟩, hF9⟩ := hJ h v9 h' (by rw [hh]; exact hI1) hj9
  rw [hh] at hj9 hF9
  have ho9 := hF9 _ _ _ hou (by unfold T7; omega)
  refine V_i2l (pc' := 11) C dL_record_10 rfl ?_
  refine V_last1 (pc' := 12) (I2 := fun x => ∃ g : Nat → Int64, g 0 = lI z9 ∧ x = hup h' ou (901, .inl (cJ, 1, .inr (.inl g)))) C 4 rfl (fun x hx => by subst hx; exact ⟨901, f0, ho9, fun g hg => ⟨g, hg, rfl⟩⟩) dL_record_11 rfl ?_
  refine V_goto (tgt := 23) C dL_record_12 (by decide) ?_
  refine V_iconst (pc' := 24) C dL_record_23 rfl ?_
  exact V_end C hr hlk (fun h2 hh2 => by obtain ⟨g, hg, rfl⟩ := hh2; exact ⟨rfl, z9, h', g, hj9, hg, rfl⟩) ⟨by omega, by omega⟩ dL_record_24
set_option maxHeartbeats 4000000 in
set_option maxRecDepth 100000 in
theorem kW_record_1 {z1 : Int} {z2 : Int} {z3 : Int} {I : Hp → Prop} {JX : Hp → Hp → Prop} (hM : Tx l yX7_record wsX7_record rm D (tyL cB cC cI cO cJ cD) ee [.ref b, .int (iI z1), .int (iI z2), .int (iI z3)] I "java/lang/IndexOutOfBoundsException" JX mc ms) (hcs : rm.cells = mc ∧ rm.slots = ms) (hrec : ∀ h, I h → ∃ t fs, h b = some (t, .inr (12, fs))) : Ct l yL_record wsL_record ({ frames := rm.frames + 1, cells := mc, slots := ms, locals := rm.locals + 25 } : Room) D (tyL cB cC cI cO cJ cD) ee [.ref b, .int (iI z1), .int (iI z2), .int (iI z3), .ref ou] (I) (fun h v9 h' => v9 = some (.int (iI 1)) ∧ JX h h') mc ms := by
  refine Ctw_of (cc := cL_record) (own := RL) [some (.ref b), some (.int (iI z1)), some (.int (iI z2)), some (.int (iI z3)), some (.ref ou), none] (by decide) rfl rfl (Nat.le_of_ble_eq_true rfl) (fun i9 v9 h9 => argL [.ref b, .int (iI z1), .int (iI z2), .int (iI z3), .ref ou] 1 rfl i9 v9 h9) ?_
  intro p e s m9 args below meth c9 h0 sz hI C hr hlk hxt
  refine V_aload4 (pc' := 2) C dL_record_0 rfl ?_
  refine V_iconst (pc' := 3) C dL_record_2 rfl ?_
  refine V_aload0 (pc' := 4) C dL_record_3 rfl ?_
  refine V_iload1 (pc' := 5) C dL_record_4 rfl ?_
  refine V_iload2 (pc' := 6) C dL_record_5 rfl ?_
  refine V_iload3 (pc' := 7) C dL_record_6 rfl ?_
  refine V_catchV (ci := 12) (n := 3) (name := "java/lang/IndexOutOfBoundsException") [.int (iI z1), .int (iI z2), .int (iI z3)] C hM gL_record_X7_record rfl ydX7_record ⟨by dsimp only; omega, by dsimp only; omega⟩ hcs rfl rfl (fun h hh => by subst hh; exact hrec _ hI) (fun h hh => by subst hh; exact hI) rfl (Nat.le_of_ble_eq_true rfl) dL_record_7 ⟨by dsimp only; omega, by dsimp only; omega⟩ [] ⟨0, 12, 15, 13⟩ [⟨0, 12, 19, 24⟩] (hxt.trans rfl) (fun z hz => by cases hz) (by decide) (by decide) (by decide +kernel) (by decide) (fun h h' hh hj9 q => ?_)
  rw [hh] at hj9
  refine V_astore5 (pc' := 17) C dL_record_15 rfl (by decide) rfl ?_
  refine V_iconst (pc' := 18) C dL_record_17 rfl ?_
  exact V_end C hr hlk (fun h2 hh2 => by subst hh2; exact ⟨rfl, hj9⟩) ⟨by omega, by omega⟩ dL_record_18
set_option maxHeartbeats 4000000 in
set_option maxRecDepth 100000 in
theorem kW_record_2 {z1 : Int} {z2 : Int} {z3 : Int} {I : Hp → Prop} {JX : Hp → Hp → Prop} (hM : Tx l yX7_record wsX7_record rm D (tyL cB cC cI cO cJ cD) ee [.ref b, .int (iI z1), .int (iI z2), .int (iI z3)] I "java/lang/IllegalStateException" JX mc ms) (hcs : rm.cells = mc ∧ rm.slots = ms) (hrec : ∀ h, I h → ∃ t fs, h b = some (t, .inr (12, fs))) : Ct l yL_record wsL_record ({ frames := rm.frames + 1, cells := mc, slots := ms, locals := rm.locals + 25 } : Room) D (tyL cB cC cI cO cJ cD) ee [.ref b, .int (iI z1), .int (iI z2), .int (iI z3), .ref ou] (I) (fun h v9 h' => v9 = some (.int (iI 2)) ∧ JX h h') mc ms := by
  refine Ctw_of (cc := cL_record) (own := RL) [some (.ref b), some (.int (iI z1)), some (.int (iI z2)), some (.int (iI z3)), some (.ref ou), none] (by decide) rfl rfl (Nat.le_of_ble_eq_true rfl) (fun i9 v9 h9 => argL [.ref b, .int (iI z1), .int (iI z2), .int (iI z3), .ref ou] 1 rfl i9 v9 h9) ?_
  intro p e s m9 args below meth c9 h0 sz hI C hr hlk hxt
  refine V_aload4 (pc' := 2) C dL_record_0 rfl ?_
  refine V_iconst (pc' := 3) C dL_record_2 rfl ?_
  refine V_aload0 (pc' := 4) C dL_record_3 rfl ?_
  refine V_iload1 (pc' := 5) C dL_record_4 rfl ?_
  refine V_iload2 (pc' := 6) C dL_record_5 rfl ?_
  refine V_iload3 (pc' := 7) C dL_record_6 rfl ?_
  refine V_catchV (ci := 12) (n := 3) (name := "java/lang/IllegalStateException") [.int (iI z1), .int (iI z2), .int (iI z3)] C hM gL_record_X7_record rfl ydX7_record ⟨by dsimp only; omega, by dsimp only; omega⟩ hcs rfl rfl (fun h hh => by subst hh; exact hrec _ hI) (fun h hh => by subst hh; exact hI) rfl (Nat.le_of_ble_eq_true rfl) dL_record_7 ⟨by dsimp only; omega, by dsimp only; omega⟩ [⟨0, 12, 15, 13⟩] ⟨0, 12, 19, 24⟩ [] (hxt.trans rfl) (fun z hz => by
        rcases List.mem_singleton.mp hz with rfl
        exact Or.inr ⟨by decide, "java/lang/IndexOutOfBoundsException", by decide +kernel, by decide⟩) (by decide) (by decide) (by decide +kernel) (by decide) (fun h h' hh hj9 q => ?_)
  rw [hh] at hj9
  refine V_astore5 (pc' := 21) C dL_record_19 rfl (by decide) rfl ?_
  refine V_iconst (pc' := 22) C dL_record_21 rfl ?_
  exact V_end C hr hlk (fun h2 hh2 => by subst hh2; exact ⟨rfl, hj9⟩) ⟨by omega, by omega⟩ dL_record_22
set_option maxHeartbeats 4000000 in
set_option maxRecDepth 100000 in
theorem kW_stop {I : Hp → Prop} {J : Hp → Option Value → Hp → Prop} (hM : Ct l yX7_stop wsX7_stop rm D (tyL cB cC cI cO cJ cD) ee [.ref b] I J mc ms) (hcs : rm.cells = mc ∧ rm.slots = ms) (hrec : ∀ h, I h → ∃ t fs, h b = some (t, .inr (12, fs))) (hJ : ∀ h v h', I h → J h v h' → (∃ z : Int, v = some (.int (iI z))) ∧ Fr T7 h h') : Ct l yL_stop wsL_stop ({ frames := rm.frames + 1, cells := mc, slots := ms, locals := rm.locals + 21 } : Room) D (tyL cB cC cI cO cJ cD) ee [.ref b, .ref ou] (fun x => I x ∧ ∃ f : Nat → Int64, x ou = some (901, .inl (cJ, 1, .inr (.inl f)))) (fun h v9 h' => v9 = some (.int (iI 0)) ∧ ∃ (z : Int) (h1 : Hp) (g : Nat → Int64), J h (some (.int (iI z))) h1 ∧ g 0 = lI z ∧ h' = hup h1 ou (901, .inl (cJ, 1, .inr (.inl g)))) mc ms := by
  refine Ctw_of (cc := cL_stop) (own := RL) [some (.ref b), some (.ref ou), none] (by decide) rfl rfl (Nat.le_of_ble_eq_true rfl) (fun i9 v9 h9 => argL [.ref b, .ref ou] 1 rfl i9 v9 h9) ?_
  intro p e s m9 args below meth c9 h0 sz hI C hr hlk hxt
  obtain ⟨hI1, f0, hou⟩ := hI
  refine V_aload1 (pc' := 1) C dL_stop_0 rfl ?_
  refine V_iconst (pc' := 2) C dL_stop_1 rfl ?_
  refine V_aload0 (pc' := 3) C dL_stop_2 rfl ?_
  refine V_callV (ci := 12) (n := 0) [] C hM gL_stop_X7_stop rfl ydX7_stop ⟨by dsimp only; omega, by dsimp only; omega⟩ hcs rfl rfl (fun h hh => by subst hh; exact hrec _ hI1) (fun h hh => by subst hh; exact hI1) rfl (Nat.le_of_ble_eq_true rfl) dL_stop_3 ⟨by dsimp only; omega, by dsimp only; omega⟩ (fun h v9 h' hh hj9 => ?_)
  obtain ⟨⟨z9, rfl⟩, hF9⟩ := hJ h v9 h' (by rw [hh]; exact hI1) hj9
  rw [hh] at hj9 hF9
  have ho9 := hF9 _ _ _ hou (by unfold T7; omega)
  refine V_i2l (pc' := 7) C dL_stop_6 rfl ?_
  refine V_last1 (pc' := 8) (I2 := fun x => ∃ g : Nat → Int64, g 0 = lI z9 ∧ x = hup h' ou (901, .inl (cJ, 1, .inr (.inl g)))) C 4 rfl (fun x hx => by subst hx; exact ⟨901, f0, ho9, fun g hg => ⟨g, hg, rfl⟩⟩) dL_stop_7 rfl ?_
  refine V_goto (tgt := 14) C dL_stop_8 (by decide) ?_
  refine V_iconst (pc' := 15) C dL_stop_14 rfl ?_
  exact V_end C hr hlk (fun h2 hh2 => by obtain ⟨g, hg, rfl⟩ := hh2; exact ⟨rfl, z9, h', g, hj9, hg, rfl⟩) ⟨by omega, by omega⟩ dL_stop_15
set_option maxHeartbeats 4000000 in
set_option maxRecDepth 100000 in
theorem kW_stop_1 {I : Hp → Prop} {JX : Hp → Hp → Prop} (hM : Tx l yX7_stop wsX7_stop rm D (tyL cB cC cI cO cJ cD) ee [.ref b] I "java/lang/IllegalStateException" JX mc ms) (hcs : rm.cells = mc ∧ rm.slots = ms) (hrec : ∀ h, I h → ∃ t fs, h b = some (t, .inr (12, fs))) : Ct l yL_stop wsL_stop ({ frames := rm.frames + 1, cells := mc, slots := ms, locals := rm.locals + 21 } : Room) D (tyL cB cC cI cO cJ cD) ee [.ref b, .ref ou] (I) (fun h v9 h' => v9 = some (.int (iI 1)) ∧ JX h h') mc ms := by
  refine Ctw_of (cc := cL_stop) (own := RL) [some (.ref b), some (.ref ou), none] (by decide) rfl rfl (Nat.le_of_ble_eq_true rfl) (fun i9 v9 h9 => argL [.ref b, .ref ou] 1 rfl i9 v9 h9) ?_
  intro p e s m9 args below meth c9 h0 sz hI C hr hlk hxt
  refine V_aload1 (pc' := 1) C dL_stop_0 rfl ?_
  refine V_iconst (pc' := 2) C dL_stop_1 rfl ?_
  refine V_aload0 (pc' := 3) C dL_stop_2 rfl ?_
  refine V_catchV (ci := 12) (n := 0) (name := "java/lang/IllegalStateException") [] C hM gL_stop_X7_stop rfl ydX7_stop ⟨by dsimp only; omega, by dsimp only; omega⟩ hcs rfl rfl (fun h hh => by subst hh; exact hrec _ hI) (fun h hh => by subst hh; exact hI) rfl (Nat.le_of_ble_eq_true rfl) dL_stop_3 ⟨by dsimp only; omega, by dsimp only; omega⟩ [] ⟨0, 8, 11, 24⟩ [] (hxt.trans rfl) (fun z hz => by cases hz) (by decide) (by decide) (by decide +kernel) (by decide) (fun h h' hh hj9 q => ?_)
  rw [hh] at hj9
  refine V_astore2 (pc' := 12) C dL_stop_11 rfl (by decide) rfl ?_
  refine V_iconst (pc' := 13) C dL_stop_12 rfl ?_
  exact V_end C hr hlk (fun h2 hh2 => by subst hh2; exact ⟨rfl, hj9⟩) ⟨by omega, by omega⟩ dL_stop_13
set_option maxHeartbeats 4000000 in
set_option maxRecDepth 100000 in
theorem kW_steps {z1 : Int} {I : Hp → Prop} {J : Hp → Option Value → Hp → Prop} (hM : Ct l yX7_steps wsX7_steps rm D (tyL cB cC cI cO cJ cD) ee [.ref b, .int (iI z1)] I J mc ms) (hcs : rm.cells = mc ∧ rm.slots = ms) (hrec : ∀ h, I h → ∃ t fs, h b = some (t, .inr (12, fs))) (hJ : ∀ h v h', I h → J h v h' → (∃ z : Int, v = some (.int (iI z))) ∧ Fr T7 h h') : Ct l yL_steps wsL_steps ({ frames := rm.frames + 1, cells := mc, slots := ms, locals := rm.locals + 21 } : Room) D (tyL cB cC cI cO cJ cD) ee [.ref b, .int (iI z1), .ref ou] (fun x => I x ∧ ∃ f : Nat → Int64, x ou = some (901, .inl (cJ, 1, .inr (.inl f)))) (fun h v9 h' => v9 = some (.int (iI 0)) ∧ ∃ (z : Int) (h1 : Hp) (g : Nat → Int64), J h (some (.int (iI z))) h1 ∧ g 0 = lI z ∧ h' = hup h1 ou (901, .inl (cJ, 1, .inr (.inl g)))) mc ms := by
  refine Ctw_of (cc := cL_steps) (own := RL) [some (.ref b), some (.int (iI z1)), some (.ref ou), none] (by decide) rfl rfl (Nat.le_of_ble_eq_true rfl) (fun i9 v9 h9 => argL [.ref b, .int (iI z1), .ref ou] 1 rfl i9 v9 h9) ?_
  intro p e s m9 args below meth c9 h0 sz hI C hr hlk hxt
  obtain ⟨hI1, f0, hou⟩ := hI
  refine V_aload2 (pc' := 1) C dL_steps_0 rfl ?_
  refine V_iconst (pc' := 2) C dL_steps_1 rfl ?_
  refine V_aload0 (pc' := 3) C dL_steps_2 rfl ?_
  refine V_iload1 (pc' := 4) C dL_steps_3 rfl ?_
  refine V_callV (ci := 12) (n := 1) [.int (iI z1)] C hM gL_steps_X7_steps rfl ydX7_steps ⟨by dsimp only; omega, by dsimp only; omega⟩ hcs rfl rfl (fun h hh => by subst hh; exact hrec _ hI1) (fun h hh => by subst hh; exact hI1) rfl (Nat.le_of_ble_eq_true rfl) dL_steps_4 ⟨by dsimp only; omega, by dsimp only; omega⟩ (fun h v9 h' hh hj9 => ?_)
  obtain ⟨⟨z9, rfl⟩, hF9⟩ := hJ h v9 h' (by rw [hh]; exact hI1) hj9
  rw [hh] at hj9 hF9
  have ho9 := hF9 _ _ _ hou (by unfold T7; omega)
  refine V_i2l (pc' := 8) C dL_steps_7 rfl ?_
  refine V_last1 (pc' := 9) (I2 := fun x => ∃ g : Nat → Int64, g 0 = lI z9 ∧ x = hup h' ou (901, .inl (cJ, 1, .inr (.inl g)))) C 4 rfl (fun x hx => by subst hx; exact ⟨901, f0, ho9, fun g hg => ⟨g, hg, rfl⟩⟩) dL_steps_8 rfl ?_
  refine V_goto (tgt := 15) C dL_steps_9 (by decide) ?_
  refine V_iconst (pc' := 16) C dL_steps_15 rfl ?_
  exact V_end C hr hlk (fun h2 hh2 => by obtain ⟨g, hg, rfl⟩ := hh2; exact ⟨rfl, z9, h', g, hj9, hg, rfl⟩) ⟨by omega, by omega⟩ dL_steps_16
set_option maxHeartbeats 4000000 in
set_option maxRecDepth 100000 in
theorem kW_steps_1 {z1 : Int} {I : Hp → Prop} {JX : Hp → Hp → Prop} (hM : Tx l yX7_steps wsX7_steps rm D (tyL cB cC cI cO cJ cD) ee [.ref b, .int (iI z1)] I "java/lang/IndexOutOfBoundsException" JX mc ms) (hcs : rm.cells = mc ∧ rm.slots = ms) (hrec : ∀ h, I h → ∃ t fs, h b = some (t, .inr (12, fs))) : Ct l yL_steps wsL_steps ({ frames := rm.frames + 1, cells := mc, slots := ms, locals := rm.locals + 21 } : Room) D (tyL cB cC cI cO cJ cD) ee [.ref b, .int (iI z1), .ref ou] (I) (fun h v9 h' => v9 = some (.int (iI 1)) ∧ JX h h') mc ms := by
  refine Ctw_of (cc := cL_steps) (own := RL) [some (.ref b), some (.int (iI z1)), some (.ref ou), none] (by decide) rfl rfl (Nat.le_of_ble_eq_true rfl) (fun i9 v9 h9 => argL [.ref b, .int (iI z1), .ref ou] 1 rfl i9 v9 h9) ?_
  intro p e s m9 args below meth c9 h0 sz hI C hr hlk hxt
  refine V_aload2 (pc' := 1) C dL_steps_0 rfl ?_
  refine V_iconst (pc' := 2) C dL_steps_1 rfl ?_
  refine V_aload0 (pc' := 3) C dL_steps_2 rfl ?_
  refine V_iload1 (pc' := 4) C dL_steps_3 rfl ?_
  refine V_catchV (ci := 12) (n := 1) (name := "java/lang/IndexOutOfBoundsException") [.int (iI z1)] C hM gL_steps_X7_steps rfl ydX7_steps ⟨by dsimp only; omega, by dsimp only; omega⟩ hcs rfl rfl (fun h hh => by subst hh; exact hrec _ hI) (fun h hh => by subst hh; exact hI) rfl (Nat.le_of_ble_eq_true rfl) dL_steps_4 ⟨by dsimp only; omega, by dsimp only; omega⟩ [] ⟨0, 9, 12, 13⟩ [] (hxt.trans rfl) (fun z hz => by cases hz) (by decide) (by decide) (by decide +kernel) (by decide) (fun h h' hh hj9 q => ?_)
  rw [hh] at hj9
  refine V_astore3 (pc' := 13) C dL_steps_12 rfl (by decide) rfl ?_
  refine V_iconst (pc' := 14) C dL_steps_13 rfl ?_
  exact V_end C hr hlk (fun h2 hh2 => by subst hh2; exact ⟨rfl, hj9⟩) ⟨by omega, by omega⟩ dL_steps_14
set_option maxHeartbeats 4000000 in
set_option maxRecDepth 100000 in
theorem kW_grant {z1 : Int} {z2 : Int} {z3 : Int} {z4 : Int} {z5 : Int} {I : Hp → Prop} {J : Hp → Option Value → Hp → Prop} (hM : Ct l yX7_grant wsX7_grant rm D (tyL cB cC cI cO cJ cD) ee [.ref b, .int (iI z1), .int (iI z2), .int (iI z3), .int (iI z4), .int (iI z5)] I J mc ms) (hcs : rm.cells = mc ∧ rm.slots = ms) (hrec : ∀ h, I h → ∃ t fs, h b = some (t, .inr (12, fs))) (hJ : ∀ h v h', I h → J h v h' → (∃ z : Int, v = some (.int (iI z))) ∧ Fr T7 h h') : Ct l yL_grant wsL_grant ({ frames := rm.frames + 1, cells := mc, slots := ms, locals := rm.locals + 26 } : Room) D (tyL cB cC cI cO cJ cD) ee [.ref b, .int (iI z1), .int (iI z2), .int (iI z3), .int (iI z4), .int (iI z5), .ref ou] (fun x => I x ∧ ∃ f : Nat → Int64, x ou = some (901, .inl (cJ, 1, .inr (.inl f)))) (fun h v9 h' => v9 = some (.int (iI 0)) ∧ ∃ (z : Int) (h1 : Hp) (g : Nat → Int64), J h (some (.int (iI z))) h1 ∧ g 0 = lI z ∧ h' = hup h1 ou (901, .inl (cJ, 1, .inr (.inl g)))) mc ms := by
  refine Ctw_of (cc := cL_grant) (own := RL) [some (.ref b), some (.int (iI z1)), some (.int (iI z2)), some (.int (iI z3)), some (.int (iI z4)), some (.int (iI z5)), some (.ref ou), none] (by decide) rfl rfl (Nat.le_of_ble_eq_true rfl) (fun i9 v9 h9 => argL [.ref b, .int (iI z1), .int (iI z2), .int (iI z3), .int (iI z4), .int (iI z5), .ref ou] 1 rfl i9 v9 h9) ?_
  intro p e s m9 args below meth c9 h0 sz hI C hr hlk hxt
  obtain ⟨hI1, f0, hou⟩ := hI
  refine V_aload6 (pc' := 2) C dL_grant_0 rfl ?_
  refine V_iconst (pc' := 3) C dL_grant_2 rfl ?_
  refine V_aload0 (pc' := 4) C dL_grant_3 rfl ?_
  refine V_iload1 (pc' := 5) C dL_grant_4 rfl ?_
  refine V_iload2 (pc' := 6) C dL_grant_5 rfl ?_
  refine V_iload3 (pc' := 7) C dL_grant_6 rfl ?_
  refine V_iload4 (pc' := 9) C dL_grant_7 rfl ?_
  refine V_iload5 (pc' := 11) C dL_grant_9 rfl ?_
  refine V_callV (ci := 12) (n := 5) [.int (iI z1), .int (iI z2), .int (iI z3), .int (iI z4), .int (iI z5)] C hM gL_grant_X7_grant rfl ydX7_grant ⟨by dsimp only; omega, by dsimp only; omega⟩ hcs rfl rfl (fun h hh => by subst hh; exact hrec _ hI1) (fun h hh => by subst hh; exact hI1) rfl (Nat.le_of_ble_eq_true rfl) dL_grant_11 ⟨by dsimp only; omega, by dsimp only; omega⟩ (fun h v9 h' hh hj9 => ?_)
  obtain ⟨⟨z9, rfl⟩, hF9⟩ := hJ h v9 h' (by rw [hh]; exact hI1) hj9
  rw [hh] at hj9 hF9
  have ho9 := hF9 _ _ _ hou (by unfold T7; omega)
  refine V_i2l (pc' := 15) C dL_grant_14 rfl ?_
  refine V_last1 (pc' := 16) (I2 := fun x => ∃ g : Nat → Int64, g 0 = lI z9 ∧ x = hup h' ou (901, .inl (cJ, 1, .inr (.inl g)))) C 4 rfl (fun x hx => by subst hx; exact ⟨901, f0, ho9, fun g hg => ⟨g, hg, rfl⟩⟩) dL_grant_15 rfl ?_
  refine V_goto (tgt := 31) C dL_grant_16 (by decide) ?_
  refine V_iconst (pc' := 32) C dL_grant_31 rfl ?_
  exact V_end C hr hlk (fun h2 hh2 => by obtain ⟨g, hg, rfl⟩ := hh2; exact ⟨rfl, z9, h', g, hj9, hg, rfl⟩) ⟨by omega, by omega⟩ dL_grant_32
set_option maxHeartbeats 4000000 in
set_option maxRecDepth 100000 in
theorem kW_grant_1 {z1 : Int} {z2 : Int} {z3 : Int} {z4 : Int} {z5 : Int} {I : Hp → Prop} {JX : Hp → Hp → Prop} (hM : Tx l yX7_grant wsX7_grant rm D (tyL cB cC cI cO cJ cD) ee [.ref b, .int (iI z1), .int (iI z2), .int (iI z3), .int (iI z4), .int (iI z5)] I "java/lang/IndexOutOfBoundsException" JX mc ms) (hcs : rm.cells = mc ∧ rm.slots = ms) (hrec : ∀ h, I h → ∃ t fs, h b = some (t, .inr (12, fs))) : Ct l yL_grant wsL_grant ({ frames := rm.frames + 1, cells := mc, slots := ms, locals := rm.locals + 26 } : Room) D (tyL cB cC cI cO cJ cD) ee [.ref b, .int (iI z1), .int (iI z2), .int (iI z3), .int (iI z4), .int (iI z5), .ref ou] (I) (fun h v9 h' => v9 = some (.int (iI 1)) ∧ JX h h') mc ms := by
  refine Ctw_of (cc := cL_grant) (own := RL) [some (.ref b), some (.int (iI z1)), some (.int (iI z2)), some (.int (iI z3)), some (.int (iI z4)), some (.int (iI z5)), some (.ref ou), none] (by decide) rfl rfl (Nat.le_of_ble_eq_true rfl) (fun i9 v9 h9 => argL [.ref b, .int (iI z1), .int (iI z2), .int (iI z3), .int (iI z4), .int (iI z5), .ref ou] 1 rfl i9 v9 h9) ?_
  intro p e s m9 args below meth c9 h0 sz hI C hr hlk hxt
  refine V_aload6 (pc' := 2) C dL_grant_0 rfl ?_
  refine V_iconst (pc' := 3) C dL_grant_2 rfl ?_
  refine V_aload0 (pc' := 4) C dL_grant_3 rfl ?_
  refine V_iload1 (pc' := 5) C dL_grant_4 rfl ?_
  refine V_iload2 (pc' := 6) C dL_grant_5 rfl ?_
  refine V_iload3 (pc' := 7) C dL_grant_6 rfl ?_
  refine V_iload4 (pc' := 9) C dL_grant_7 rfl ?_
  refine V_iload5 (pc' := 11) C dL_grant_9 rfl ?_
  refine V_catchV (ci := 12) (n := 5) (name := "java/lang/IndexOutOfBoundsException") [.int (iI z1), .int (iI z2), .int (iI z3), .int (iI z4), .int (iI z5)] C hM gL_grant_X7_grant rfl ydX7_grant ⟨by dsimp only; omega, by dsimp only; omega⟩ hcs rfl rfl (fun h hh => by subst hh; exact hrec _ hI) (fun h hh => by subst hh; exact hI) rfl (Nat.le_of_ble_eq_true rfl) dL_grant_11 ⟨by dsimp only; omega, by dsimp only; omega⟩ [] ⟨0, 16, 19, 13⟩ [⟨0, 16, 23, 15⟩, ⟨0, 16, 27, 24⟩] (hxt.trans rfl) (fun z hz => by cases hz) (by decide) (by decide) (by decide +kernel) (by decide) (fun h h' hh hj9 q => ?_)
  rw [hh] at hj9
  refine V_astore7 (pc' := 21) C dL_grant_19 rfl (by decide) rfl ?_
  refine V_iconst (pc' := 22) C dL_grant_21 rfl ?_
  exact V_end C hr hlk (fun h2 hh2 => by subst hh2; exact ⟨rfl, hj9⟩) ⟨by omega, by omega⟩ dL_grant_22
set_option maxHeartbeats 4000000 in
set_option maxRecDepth 100000 in
theorem kW_grant_2 {z1 : Int} {z2 : Int} {z3 : Int} {z4 : Int} {z5 : Int} {I : Hp → Prop} {JX : Hp → Hp → Prop} (hM : Tx l yX7_grant wsX7_grant rm D (tyL cB cC cI cO cJ cD) ee [.ref b, .int (iI z1), .int (iI z2), .int (iI z3), .int (iI z4), .int (iI z5)] I "java/lang/IllegalArgumentException" JX mc ms) (hcs : rm.cells = mc ∧ rm.slots = ms) (hrec : ∀ h, I h → ∃ t fs, h b = some (t, .inr (12, fs))) : Ct l yL_grant wsL_grant ({ frames := rm.frames + 1, cells := mc, slots := ms, locals := rm.locals + 26 } : Room) D (tyL cB cC cI cO cJ cD) ee [.ref b, .int (iI z1), .int (iI z2), .int (iI z3), .int (iI z4), .int (iI z5), .ref ou] (I) (fun h v9 h' => v9 = some (.int (iI 2)) ∧ JX h h') mc ms := by
  refine Ctw_of (cc := cL_grant) (own := RL) [some (.ref b), some (.int (iI z1)), some (.int (iI z2)), some (.int (iI z3)), some (.int (iI z4)), some (.int (iI z5)), some (.ref ou), none] (by decide) rfl rfl (Nat.le_of_ble_eq_true rfl) (fun i9 v9 h9 => argL [.ref b, .int (iI z1), .int (iI z2), .int (iI z3), .int (iI z4), .int (iI z5), .ref ou] 1 rfl i9 v9 h9) ?_
  intro p e s m9 args below meth c9 h0 sz hI C hr hlk hxt
  refine V_aload6 (pc' := 2) C dL_grant_0 rfl ?_
  refine V_iconst (pc' := 3) C dL_grant_2 rfl ?_
  refine V_aload0 (pc' := 4) C dL_grant_3 rfl ?_
  refine V_iload1 (pc' := 5) C dL_grant_4 rfl ?_
  refine V_iload2 (pc' := 6) C dL_grant_5 rfl ?_
  refine V_iload3 (pc' := 7) C dL_grant_6 rfl ?_
  refine V_iload4 (pc' := 9) C dL_grant_7 rfl ?_
  refine V_iload5 (pc' := 11) C dL_grant_9 rfl ?_
  refine V_catchV (ci := 12) (n := 5) (name := "java/lang/IllegalArgumentException") [.int (iI z1), .int (iI z2), .int (iI z3), .int (iI z4), .int (iI z5)] C hM gL_grant_X7_grant rfl ydX7_grant ⟨by dsimp only; omega, by dsimp only; omega⟩ hcs rfl rfl (fun h hh => by subst hh; exact hrec _ hI) (fun h hh => by subst hh; exact hI) rfl (Nat.le_of_ble_eq_true rfl) dL_grant_11 ⟨by dsimp only; omega, by dsimp only; omega⟩ [⟨0, 16, 19, 13⟩] ⟨0, 16, 23, 15⟩ [⟨0, 16, 27, 24⟩] (hxt.trans rfl) (fun z hz => by
        rcases List.mem_singleton.mp hz with rfl
        exact Or.inr ⟨by decide, "java/lang/IndexOutOfBoundsException", by decide +kernel, by decide⟩) (by decide) (by decide) (by decide +kernel) (by decide) (fun h h' hh hj9 q => ?_)
  rw [hh] at hj9
  refine V_astore7 (pc' := 25) C dL_grant_23 rfl (by decide) rfl ?_
  refine V_iconst (pc' := 26) C dL_grant_25 rfl ?_
  exact V_end C hr hlk (fun h2 hh2 => by subst hh2; exact ⟨rfl, hj9⟩) ⟨by omega, by omega⟩ dL_grant_26
set_option maxHeartbeats 4000000 in
set_option maxRecDepth 100000 in
theorem kW_grant_3 {z1 : Int} {z2 : Int} {z3 : Int} {z4 : Int} {z5 : Int} {I : Hp → Prop} {JX : Hp → Hp → Prop} (hM : Tx l yX7_grant wsX7_grant rm D (tyL cB cC cI cO cJ cD) ee [.ref b, .int (iI z1), .int (iI z2), .int (iI z3), .int (iI z4), .int (iI z5)] I "java/lang/IllegalStateException" JX mc ms) (hcs : rm.cells = mc ∧ rm.slots = ms) (hrec : ∀ h, I h → ∃ t fs, h b = some (t, .inr (12, fs))) : Ct l yL_grant wsL_grant ({ frames := rm.frames + 1, cells := mc, slots := ms, locals := rm.locals + 26 } : Room) D (tyL cB cC cI cO cJ cD) ee [.ref b, .int (iI z1), .int (iI z2), .int (iI z3), .int (iI z4), .int (iI z5), .ref ou] (I) (fun h v9 h' => v9 = some (.int (iI 3)) ∧ JX h h') mc ms := by
  refine Ctw_of (cc := cL_grant) (own := RL) [some (.ref b), some (.int (iI z1)), some (.int (iI z2)), some (.int (iI z3)), some (.int (iI z4)), some (.int (iI z5)), some (.ref ou), none] (by decide) rfl rfl (Nat.le_of_ble_eq_true rfl) (fun i9 v9 h9 => argL [.ref b, .int (iI z1), .int (iI z2), .int (iI z3), .int (iI z4), .int (iI z5), .ref ou] 1 rfl i9 v9 h9) ?_
  intro p e s m9 args below meth c9 h0 sz hI C hr hlk hxt
  refine V_aload6 (pc' := 2) C dL_grant_0 rfl ?_
  refine V_iconst (pc' := 3) C dL_grant_2 rfl ?_
  refine V_aload0 (pc' := 4) C dL_grant_3 rfl ?_
  refine V_iload1 (pc' := 5) C dL_grant_4 rfl ?_
  refine V_iload2 (pc' := 6) C dL_grant_5 rfl ?_
  refine V_iload3 (pc' := 7) C dL_grant_6 rfl ?_
  refine V_iload4 (pc' := 9) C dL_grant_7 rfl ?_
  refine V_iload5 (pc' := 11) C dL_grant_9 rfl ?_
  refine V_catchV (ci := 12) (n := 5) (name := "java/lang/IllegalStateException") [.int (iI z1), .int (iI z2), .int (iI z3), .int (iI z4), .int (iI z5)] C hM gL_grant_X7_grant rfl ydX7_grant ⟨by dsimp only; omega, by dsimp only; omega⟩ hcs rfl rfl (fun h hh => by subst hh; exact hrec _ hI) (fun h hh => by subst hh; exact hI) rfl (Nat.le_of_ble_eq_true rfl) dL_grant_11 ⟨by dsimp only; omega, by dsimp only; omega⟩ [⟨0, 16, 19, 13⟩, ⟨0, 16, 23, 15⟩] ⟨0, 16, 27, 24⟩ [] (hxt.trans rfl) (fun z hz => by
        rcases List.mem_cons.mp hz with rfl | hz
        · exact Or.inr ⟨by decide, "java/lang/IndexOutOfBoundsException", by decide +kernel, by decide⟩
        rcases List.mem_singleton.mp hz with rfl
        exact Or.inr ⟨by decide, "java/lang/IllegalArgumentException", by decide +kernel, by decide⟩) (by decide) (by decide) (by decide +kernel) (by decide) (fun h h' hh hj9 q => ?_)
  rw [hh] at hj9
  refine V_astore7 (pc' := 29) C dL_grant_27 rfl (by decide) rfl ?_
  refine V_iconst (pc' := 30) C dL_grant_29 rfl ?_
  exact V_end C hr hlk (fun h2 hh2 => by subst hh2; exact ⟨rfl, hj9⟩) ⟨by omega, by omega⟩ dL_grant_30
set_option maxHeartbeats 4000000 in
set_option maxRecDepth 100000 in
theorem kW_takeGrants {z1 : Int} {I : Hp → Prop} {J : Hp → Option Value → Hp → Prop} (hM : Ct l yX7_takeGrants wsX7_takeGrants rm D (tyL cB cC cI cO cJ cD) ee [.ref b, .int (iI z1)] I J mc ms) (hcs : rm.cells = mc ∧ rm.slots = ms) (hrec : ∀ h, I h → ∃ t fs, h b = some (t, .inr (12, fs))) (hJ : ∀ h v h', I h → J h v h' → (∃ z : Int, v = some (.int (iI z))) ∧ Fr T7 h h') : Ct l yL_takeGrants wsL_takeGrants ({ frames := rm.frames + 1, cells := mc, slots := ms, locals := rm.locals + 23 } : Room) D (tyL cB cC cI cO cJ cD) ee [.ref b, .int (iI z1), .ref ou] (fun x => I x ∧ ∃ f : Nat → Int64, x ou = some (901, .inl (cJ, 1, .inr (.inl f)))) (fun h v9 h' => v9 = some (.int (iI 0)) ∧ ∃ (z : Int) (h1 : Hp) (g : Nat → Int64), J h (some (.int (iI z))) h1 ∧ g 0 = lI z ∧ h' = hup h1 ou (901, .inl (cJ, 1, .inr (.inl g)))) mc ms := by
  refine Ctw_of (cc := cL_takeGrants) (own := RL) [some (.ref b), some (.int (iI z1)), some (.ref ou), none] (by decide) rfl rfl (Nat.le_of_ble_eq_true rfl) (fun i9 v9 h9 => argL [.ref b, .int (iI z1), .ref ou] 1 rfl i9 v9 h9) ?_
  intro p e s m9 args below meth c9 h0 sz hI C hr hlk hxt
  obtain ⟨hI1, f0, hou⟩ := hI
  refine V_aload2 (pc' := 1) C dL_takeGrants_0 rfl ?_
  refine V_iconst (pc' := 2) C dL_takeGrants_1 rfl ?_
  refine V_aload0 (pc' := 3) C dL_takeGrants_2 rfl ?_
  refine V_iload1 (pc' := 4) C dL_takeGrants_3 rfl ?_
  refine V_callV (ci := 12) (n := 1) [.int (iI z1)] C hM gL_takeGrants_X7_takeGrants rfl ydX7_takeGrants ⟨by dsimp only; omega, by dsimp only; omega⟩ hcs rfl rfl (fun h hh => by subst hh; exact hrec _ hI1) (fun h hh => by subst hh; exact hI1) rfl (Nat.le_of_ble_eq_true rfl) dL_takeGrants_4 ⟨by dsimp only; omega, by dsimp only; omega⟩ (fun h v9 h' hh hj9 => ?_)
  obtain ⟨⟨z9, rfl⟩, hF9⟩ := hJ h v9 h' (by rw [hh]; exact hI1) hj9
  rw [hh] at hj9 hF9
  have ho9 := hF9 _ _ _ hou (by unfold T7; omega)
  refine V_i2l (pc' := 8) C dL_takeGrants_7 rfl ?_
  refine V_last1 (pc' := 9) (I2 := fun x => ∃ g : Nat → Int64, g 0 = lI z9 ∧ x = hup h' ou (901, .inl (cJ, 1, .inr (.inl g)))) C 4 rfl (fun x hx => by subst hx; exact ⟨901, f0, ho9, fun g hg => ⟨g, hg, rfl⟩⟩) dL_takeGrants_8 rfl ?_
  refine V_goto (tgt := 15) C dL_takeGrants_9 (by decide) ?_
  refine V_iconst (pc' := 16) C dL_takeGrants_15 rfl ?_
  exact V_end C hr hlk (fun h2 hh2 => by obtain ⟨g, hg, rfl⟩ := hh2; exact ⟨rfl, z9, h', g, hj9, hg, rfl⟩) ⟨by omega, by omega⟩ dL_takeGrants_16
set_option maxHeartbeats 4000000 in
set_option maxRecDepth 100000 in
theorem kW_takeGrants_1 {z1 : Int} {I : Hp → Prop} {JX : Hp → Hp → Prop} (hM : Tx l yX7_takeGrants wsX7_takeGrants rm D (tyL cB cC cI cO cJ cD) ee [.ref b, .int (iI z1)] I "java/lang/IndexOutOfBoundsException" JX mc ms) (hcs : rm.cells = mc ∧ rm.slots = ms) (hrec : ∀ h, I h → ∃ t fs, h b = some (t, .inr (12, fs))) : Ct l yL_takeGrants wsL_takeGrants ({ frames := rm.frames + 1, cells := mc, slots := ms, locals := rm.locals + 23 } : Room) D (tyL cB cC cI cO cJ cD) ee [.ref b, .int (iI z1), .ref ou] (I) (fun h v9 h' => v9 = some (.int (iI 1)) ∧ JX h h') mc ms := by
  refine Ctw_of (cc := cL_takeGrants) (own := RL) [some (.ref b), some (.int (iI z1)), some (.ref ou), none] (by decide) rfl rfl (Nat.le_of_ble_eq_true rfl) (fun i9 v9 h9 => argL [.ref b, .int (iI z1), .ref ou] 1 rfl i9 v9 h9) ?_
  intro p e s m9 args below meth c9 h0 sz hI C hr hlk hxt
  refine V_aload2 (pc' := 1) C dL_takeGrants_0 rfl ?_
  refine V_iconst (pc' := 2) C dL_takeGrants_1 rfl ?_
  refine V_aload0 (pc' := 3) C dL_takeGrants_2 rfl ?_
  refine V_iload1 (pc' := 4) C dL_takeGrants_3 rfl ?_
  refine V_catchV (ci := 12) (n := 1) (name := "java/lang/IndexOutOfBoundsException") [.int (iI z1)] C hM gL_takeGrants_X7_takeGrants rfl ydX7_takeGrants ⟨by dsimp only; omega, by dsimp only; omega⟩ hcs rfl rfl (fun h hh => by subst hh; exact hrec _ hI) (fun h hh => by subst hh; exact hI) rfl (Nat.le_of_ble_eq_true rfl) dL_takeGrants_4 ⟨by dsimp only; omega, by dsimp only; omega⟩ [] ⟨0, 9, 12, 13⟩ [] (hxt.trans rfl) (fun z hz => by cases hz) (by decide) (by decide) (by decide +kernel) (by decide) (fun h h' hh hj9 q => ?_)
  rw [hh] at hj9
  refine V_astore3 (pc' := 13) C dL_takeGrants_12 rfl (by decide) rfl ?_
  refine V_iconst (pc' := 14) C dL_takeGrants_13 rfl ?_
  exact V_end C hr hlk (fun h2 hh2 => by subst hh2; exact ⟨rfl, hj9⟩) ⟨by omega, by omega⟩ dL_takeGrants_14
set_option maxHeartbeats 4000000 in
set_option maxRecDepth 100000 in
theorem kW_granted {z1 : Int} {z2 : Int} {I : Hp → Prop} {J : Hp → Option Value → Hp → Prop} (hM : Ct l yX7_granted wsX7_granted rm D (tyL cB cC cI cO cJ cD) ee [.ref b, .int (iI z1), .int (iI z2)] I J mc ms) (hcs : rm.cells = mc ∧ rm.slots = ms) (hrec : ∀ h, I h → ∃ t fs, h b = some (t, .inr (12, fs))) (hJ : ∀ h v h', I h → J h v h' → (∃ z : Int, v = some (.int (iI z))) ∧ Fr T7 h h') : Ct l yL_granted wsL_granted ({ frames := rm.frames + 1, cells := mc, slots := ms, locals := rm.locals + 24 } : Room) D (tyL cB cC cI cO cJ cD) ee [.ref b, .int (iI z1), .int (iI z2), .ref ou] (fun x => I x ∧ ∃ f : Nat → Int64, x ou = some (901, .inl (cJ, 1, .inr (.inl f)))) (fun h v9 h' => v9 = some (.int (iI 0)) ∧ ∃ (z : Int) (h1 : Hp) (g : Nat → Int64), J h (some (.int (iI z))) h1 ∧ g 0 = lI z ∧ h' = hup h1 ou (901, .inl (cJ, 1, .inr (.inl g)))) mc ms := by
  refine Ctw_of (cc := cL_granted) (own := RL) [some (.ref b), some (.int (iI z1)), some (.int (iI z2)), some (.ref ou), none] (by decide) rfl rfl (Nat.le_of_ble_eq_true rfl) (fun i9 v9 h9 => argL [.ref b, .int (iI z1), .int (iI z2), .ref ou] 1 rfl i9 v9 h9) ?_
  intro p e s m9 args below meth c9 h0 sz hI C hr hlk hxt
  obtain ⟨hI1, f0, hou⟩ := hI
  refine V_aload3 (pc' := 1) C dL_granted_0 rfl ?_
  refine V_iconst (pc' := 2) C dL_granted_1 rfl ?_
  refine V_aload0 (pc' := 3) C dL_granted_2 rfl ?_
  refine V_iload1 (pc' := 4) C dL_granted_3 rfl ?_
  refine V_iload2 (pc' := 5) C dL_granted_4 rfl ?_
  refine V_callV (ci := 12) (n := 2) [.int (iI z1), .int (iI z2)] C hM gL_granted_X7_granted rfl ydX7_granted ⟨by dsimp only; omega, by dsimp only; omega⟩ hcs rfl rfl (fun h hh => by subst hh; exact hrec _ hI1) (fun h hh => by subst hh; exact hI1) rfl (Nat.le_of_ble_eq_true rfl) dL_granted_5 ⟨by dsimp only; omega, by dsimp only; omega⟩ (fun h v9 h' hh hj9 => ?_)
  obtain ⟨⟨z9, rfl⟩, hF9⟩ := hJ h v9 h' (by rw [hh]; exact hI1) hj9
  rw [hh] at hj9 hF9
  have ho9 := hF9 _ _ _ hou (by unfold T7; omega)
  refine V_i2l (pc' := 9) C dL_granted_8 rfl ?_
  refine V_last1 (pc' := 10) (I2 := fun x => ∃ g : Nat → Int64, g 0 = lI z9 ∧ x = hup h' ou (901, .inl (cJ, 1, .inr (.inl g)))) C 4 rfl (fun x hx => by subst hx; exact ⟨901, f0, ho9, fun g hg => ⟨g, hg, rfl⟩⟩) dL_granted_9 rfl ?_
  refine V_goto (tgt := 17) C dL_granted_10 (by decide) ?_
  refine V_iconst (pc' := 18) C dL_granted_17 rfl ?_
  exact V_end C hr hlk (fun h2 hh2 => by obtain ⟨g, hg, rfl⟩ := hh2; exact ⟨rfl, z9, h', g, hj9, hg, rfl⟩) ⟨by omega, by omega⟩ dL_granted_18
set_option maxHeartbeats 4000000 in
set_option maxRecDepth 100000 in
theorem kW_granted_1 {z1 : Int} {z2 : Int} {I : Hp → Prop} {JX : Hp → Hp → Prop} (hM : Tx l yX7_granted wsX7_granted rm D (tyL cB cC cI cO cJ cD) ee [.ref b, .int (iI z1), .int (iI z2)] I "java/lang/IndexOutOfBoundsException" JX mc ms) (hcs : rm.cells = mc ∧ rm.slots = ms) (hrec : ∀ h, I h → ∃ t fs, h b = some (t, .inr (12, fs))) : Ct l yL_granted wsL_granted ({ frames := rm.frames + 1, cells := mc, slots := ms, locals := rm.locals + 24 } : Room) D (tyL cB cC cI cO cJ cD) ee [.ref b, .int (iI z1), .int (iI z2), .ref ou] (I) (fun h v9 h' => v9 = some (.int (iI 1)) ∧ JX h h') mc ms := by
  refine Ctw_of (cc := cL_granted) (own := RL) [some (.ref b), some (.int (iI z1)), some (.int (iI z2)), some (.ref ou), none] (by decide) rfl rfl (Nat.le_of_ble_eq_true rfl) (fun i9 v9 h9 => argL [.ref b, .int (iI z1), .int (iI z2), .ref ou] 1 rfl i9 v9 h9) ?_
  intro p e s m9 args below meth c9 h0 sz hI C hr hlk hxt
  refine V_aload3 (pc' := 1) C dL_granted_0 rfl ?_
  refine V_iconst (pc' := 2) C dL_granted_1 rfl ?_
  refine V_aload0 (pc' := 3) C dL_granted_2 rfl ?_
  refine V_iload1 (pc' := 4) C dL_granted_3 rfl ?_
  refine V_iload2 (pc' := 5) C dL_granted_4 rfl ?_
  refine V_catchV (ci := 12) (n := 2) (name := "java/lang/IndexOutOfBoundsException") [.int (iI z1), .int (iI z2)] C hM gL_granted_X7_granted rfl ydX7_granted ⟨by dsimp only; omega, by dsimp only; omega⟩ hcs rfl rfl (fun h hh => by subst hh; exact hrec _ hI) (fun h hh => by subst hh; exact hI) rfl (Nat.le_of_ble_eq_true rfl) dL_granted_5 ⟨by dsimp only; omega, by dsimp only; omega⟩ [] ⟨0, 10, 13, 13⟩ [] (hxt.trans rfl) (fun z hz => by cases hz) (by decide) (by decide) (by decide +kernel) (by decide) (fun h h' hh hj9 q => ?_)
  rw [hh] at hj9
  refine V_astore4 (pc' := 15) C dL_granted_13 rfl (by decide) rfl ?_
  refine V_iconst (pc' := 16) C dL_granted_15 rfl ?_
  exact V_end C hr hlk (fun h2 hh2 => by subst hh2; exact ⟨rfl, hj9⟩) ⟨by omega, by omega⟩ dL_granted_16
set_option maxHeartbeats 4000000 in
set_option maxRecDepth 100000 in
theorem kW_reason {z1 : Int} {z2 : Int} {z3 : Int} {I : Hp → Prop} {J : Hp → Option Value → Hp → Prop} (hM : Ct l yX7_reason wsX7_reason rm D (tyL cB cC cI cO cJ cD) ee [.ref b, .int (iI z1), .int (iI z2), .int (iI z3)] I J mc ms) (hcs : rm.cells = mc ∧ rm.slots = ms) (hrec : ∀ h, I h → ∃ t fs, h b = some (t, .inr (12, fs))) (hJ : ∀ h v h', I h → J h v h' → (∃ z : Int, v = some (.int (iI z))) ∧ Fr T7 h h') : Ct l yL_reason wsL_reason ({ frames := rm.frames + 1, cells := mc, slots := ms, locals := rm.locals + 24 } : Room) D (tyL cB cC cI cO cJ cD) ee [.ref b, .int (iI z1), .int (iI z2), .int (iI z3), .ref ou] (fun x => I x ∧ ∃ f : Nat → Int64, x ou = some (901, .inl (cJ, 1, .inr (.inl f)))) (fun h v9 h' => v9 = some (.int (iI 0)) ∧ ∃ (z : Int) (h1 : Hp) (g : Nat → Int64), J h (some (.int (iI z))) h1 ∧ g 0 = lI z ∧ h' = hup h1 ou (901, .inl (cJ, 1, .inr (.inl g)))) mc ms := by
  refine Ctw_of (cc := cL_reason) (own := RL) [some (.ref b), some (.int (iI z1)), some (.int (iI z2)), some (.int (iI z3)), some (.ref ou), none] (by decide) rfl rfl (Nat.le_of_ble_eq_true rfl) (fun i9 v9 h9 => argL [.ref b, .int (iI z1), .int (iI z2), .int (iI z3), .ref ou] 1 rfl i9 v9 h9) ?_
  intro p e s m9 args below meth c9 h0 sz hI C hr hlk hxt
  obtain ⟨hI1, f0, hou⟩ := hI
  refine V_aload4 (pc' := 2) C dL_reason_0 rfl ?_
  refine V_iconst (pc' := 3) C dL_reason_2 rfl ?_
  refine V_aload0 (pc' := 4) C dL_reason_3 rfl ?_
  refine V_iload1 (pc' := 5) C dL_reason_4 rfl ?_
  refine V_iload2 (pc' := 6) C dL_reason_5 rfl ?_
  refine V_iload3 (pc' := 7) C dL_reason_6 rfl ?_
  refine V_callV (ci := 12) (n := 3) [.int (iI z1), .int (iI z2), .int (iI z3)] C hM gL_reason_X7_reason rfl ydX7_reason ⟨by dsimp only; omega, by dsimp only; omega⟩ hcs rfl rfl (fun h hh => by subst hh; exact hrec _ hI1) (fun h hh => by subst hh; exact hI1) rfl (Nat.le_of_ble_eq_true rfl) dL_reason_7 ⟨by dsimp only; omega, by dsimp only; omega⟩ (fun h v9 h' hh hj9 => ?_)
  obtain ⟨⟨z9, rfl⟩, hF9⟩ := hJ h v9 h' (by rw [hh]; exact hI1) hj9
  rw [hh] at hj9 hF9
  have ho9 := hF9 _ _ _ hou (by unfold T7; omega)
  refine V_i2l (pc' := 11) C dL_reason_10 rfl ?_
  refine V_last1 (pc' := 12) (I2 := fun x => ∃ g : Nat → Int64, g 0 = lI z9 ∧ x = hup h' ou (901, .inl (cJ, 1, .inr (.inl g)))) C 4 rfl (fun x hx => by subst hx; exact ⟨901, f0, ho9, fun g hg => ⟨g, hg, rfl⟩⟩) dL_reason_11 rfl ?_
  refine V_goto (tgt := 19) C dL_reason_12 (by decide) ?_
  refine V_iconst (pc' := 20) C dL_reason_19 rfl ?_
  exact V_end C hr hlk (fun h2 hh2 => by obtain ⟨g, hg, rfl⟩ := hh2; exact ⟨rfl, z9, h', g, hj9, hg, rfl⟩) ⟨by omega, by omega⟩ dL_reason_20
set_option maxHeartbeats 4000000 in
set_option maxRecDepth 100000 in
theorem kW_reason_1 {z1 : Int} {z2 : Int} {z3 : Int} {I : Hp → Prop} {JX : Hp → Hp → Prop} (hM : Tx l yX7_reason wsX7_reason rm D (tyL cB cC cI cO cJ cD) ee [.ref b, .int (iI z1), .int (iI z2), .int (iI z3)] I "java/lang/IndexOutOfBoundsException" JX mc ms) (hcs : rm.cells = mc ∧ rm.slots = ms) (hrec : ∀ h, I h → ∃ t fs, h b = some (t, .inr (12, fs))) : Ct l yL_reason wsL_reason ({ frames := rm.frames + 1, cells := mc, slots := ms, locals := rm.locals + 24 } : Room) D (tyL cB cC cI cO cJ cD) ee [.ref b, .int (iI z1), .int (iI z2), .int (iI z3), .ref ou] (I) (fun h v9 h' => v9 = some (.int (iI 1)) ∧ JX h h') mc ms := by
  refine Ctw_of (cc := cL_reason) (own := RL) [some (.ref b), some (.int (iI z1)), some (.int (iI z2)), some (.int (iI z3)), some (.ref ou), none] (by decide) rfl rfl (Nat.le_of_ble_eq_true rfl) (fun i9 v9 h9 => argL [.ref b, .int (iI z1), .int (iI z2), .int (iI z3), .ref ou] 1 rfl i9 v9 h9) ?_
  intro p e s m9 args below meth c9 h0 sz hI C hr hlk hxt
  refine V_aload4 (pc' := 2) C dL_reason_0 rfl ?_
  refine V_iconst (pc' := 3) C dL_reason_2 rfl ?_
  refine V_aload0 (pc' := 4) C dL_reason_3 rfl ?_
  refine V_iload1 (pc' := 5) C dL_reason_4 rfl ?_
  refine V_iload2 (pc' := 6) C dL_reason_5 rfl ?_
  refine V_iload3 (pc' := 7) C dL_reason_6 rfl ?_
  refine V_catchV (ci := 12) (n := 3) (name := "java/lang/IndexOutOfBoundsException") [.int (iI z1), .int (iI z2), .int (iI z3)] C hM gL_reason_X7_reason rfl ydX7_reason ⟨by dsimp only; omega, by dsimp only; omega⟩ hcs rfl rfl (fun h hh => by subst hh; exact hrec _ hI) (fun h hh => by subst hh; exact hI) rfl (Nat.le_of_ble_eq_true rfl) dL_reason_7 ⟨by dsimp only; omega, by dsimp only; omega⟩ [] ⟨0, 12, 15, 13⟩ [] (hxt.trans rfl) (fun z hz => by cases hz) (by decide) (by decide) (by decide +kernel) (by decide) (fun h h' hh hj9 q => ?_)
  rw [hh] at hj9
  refine V_astore5 (pc' := 17) C dL_reason_15 rfl (by decide) rfl ?_
  refine V_iconst (pc' := 18) C dL_reason_17 rfl ?_
  exact V_end C hr hlk (fun h2 hh2 => by subst hh2; exact ⟨rfl, hj9⟩) ⟨by omega, by omega⟩ dL_reason_18
set_option maxHeartbeats 4000000 in
set_option maxRecDepth 100000 in
theorem kW_run {z1 : Int} {z2 : Int} {z3 : Int} {I : Hp → Prop} {J : Hp → Option Value → Hp → Prop} (hM : Ct l yX7_run wsX7_run rm D (tyL cB cC cI cO cJ cD) ee [.ref b, .int (iI z1), .int (iI z2), .int (iI z3)] I J mc ms) (hcs : rm.cells = mc ∧ rm.slots = ms) (hrec : ∀ h, I h → ∃ t fs, h b = some (t, .inr (12, fs))) (hJ : ∀ h v h', I h → J h v h' → (∃ z : Int, v = some (.int (iI z))) ∧ Fr T7 h h') : Ct l yL_run wsL_run ({ frames := rm.frames + 1, cells := mc, slots := ms, locals := rm.locals + 24 } : Room) D (tyL cB cC cI cO cJ cD) ee [.ref b, .int (iI z1), .int (iI z2), .int (iI z3), .ref ou] (fun x => I x ∧ ∃ f : Nat → Int64, x ou = some (901, .inl (cJ, 1, .inr (.inl f)))) (fun h v9 h' => v9 = some (.int (iI 0)) ∧ ∃ (z : Int) (h1 : Hp) (g : Nat → Int64), J h (some (.int (iI z))) h1 ∧ g 0 = lI z ∧ h' = hup h1 ou (901, .inl (cJ, 1, .inr (.inl g)))) mc ms := by
  refine Ctw_of (cc := cL_run) (own := RL) [some (.ref b), some (.int (iI z1)), some (.int (iI z2)), some (.int (iI z3)), some (.ref ou), none] (by decide) rfl rfl (Nat.le_of_ble_eq_true rfl) (fun i9 v9 h9 => argL [.ref b, .int (iI z1), .int (iI z2), .int (iI z3), .ref ou] 1 rfl i9 v9 h9) ?_
  intro p e s m9 args below meth c9 h0 sz hI C hr hlk hxt
  obtain ⟨hI1, f0, hou⟩ := hI
  refine V_aload4 (pc' := 2) C dL_run_0 rfl ?_
  refine V_iconst (pc' := 3) C dL_run_2 rfl ?_
  refine V_aload0 (pc' := 4) C dL_run_3 rfl ?_
  refine V_iload1 (pc' := 5) C dL_run_4 rfl ?_
  refine V_iload2 (pc' := 6) C dL_run_5 rfl ?_
  refine V_iload3 (pc' := 7) C dL_run_6 rfl ?_
  refine V_callV (ci := 12) (n := 3) [.int (iI z1), .int (iI z2), .int (iI z3)] C hM gL_run_X7_run rfl ydX7_run ⟨by dsimp only; omega, by dsimp only; omega⟩ hcs rfl rfl (fun h hh => by subst hh; exact hrec _ hI1) (fun h hh => by subst hh; exact hI1) rfl (Nat.le_of_ble_eq_true rfl) dL_run_7 ⟨by dsimp only; omega, by dsimp only; omega⟩ (fun h v9 h' hh hj9 => ?_)
  obtain ⟨⟨z9, rfl⟩, hF9⟩ := hJ h v9 h' (by rw [hh]; exact hI1) hj9
  rw [hh] at hj9 hF9
  have ho9 := hF9 _ _ _ hou (by unfold T7; omega)
  refine V_i2l (pc' := 11) C dL_run_10 rfl ?_
  refine V_last1 (pc' := 12) (I2 := fun x => ∃ g : Nat → Int64, g 0 = lI z9 ∧ x = hup h' ou (901, .inl (cJ, 1, .inr (.inl g)))) C 4 rfl (fun x hx => by subst hx; exact ⟨901, f0, ho9, fun g hg => ⟨g, hg, rfl⟩⟩) dL_run_11 rfl ?_
  refine V_goto (tgt := 27) C dL_run_12 (by decide) ?_
  refine V_iconst (pc' := 28) C dL_run_27 rfl ?_
  exact V_end C hr hlk (fun h2 hh2 => by obtain ⟨g, hg, rfl⟩ := hh2; exact ⟨rfl, z9, h', g, hj9, hg, rfl⟩) ⟨by omega, by omega⟩ dL_run_28
set_option maxHeartbeats 4000000 in
set_option maxRecDepth 100000 in
theorem kW_run_1 {z1 : Int} {z2 : Int} {z3 : Int} {I : Hp → Prop} {JX : Hp → Hp → Prop} (hM : Tx l yX7_run wsX7_run rm D (tyL cB cC cI cO cJ cD) ee [.ref b, .int (iI z1), .int (iI z2), .int (iI z3)] I "java/lang/IndexOutOfBoundsException" JX mc ms) (hcs : rm.cells = mc ∧ rm.slots = ms) (hrec : ∀ h, I h → ∃ t fs, h b = some (t, .inr (12, fs))) : Ct l yL_run wsL_run ({ frames := rm.frames + 1, cells := mc, slots := ms, locals := rm.locals + 24 } : Room) D (tyL cB cC cI cO cJ cD) ee [.ref b, .int (iI z1), .int (iI z2), .int (iI z3), .ref ou] (I) (fun h v9 h' => v9 = some (.int (iI 1)) ∧ JX h h') mc ms := by
  refine Ctw_of (cc := cL_run) (own := RL) [some (.ref b), some (.int (iI z1)), some (.int (iI z2)), some (.int (iI z3)), some (.ref ou), none] (by decide) rfl rfl (Nat.le_of_ble_eq_true rfl) (fun i9 v9 h9 => argL [.ref b, .int (iI z1), .int (iI z2), .int (iI z3), .ref ou] 1 rfl i9 v9 h9) ?_
  intro p e s m9 args below meth c9 h0 sz hI C hr hlk hxt
  refine V_aload4 (pc' := 2) C dL_run_0 rfl ?_
  refine V_iconst (pc' := 3) C dL_run_2 rfl ?_
  refine V_aload0 (pc' := 4) C dL_run_3 rfl ?_
  refine V_iload1 (pc' := 5) C dL_run_4 rfl ?_
  refine V_iload2 (pc' := 6) C dL_run_5 rfl ?_
  refine V_iload3 (pc' := 7) C dL_run_6 rfl ?_
  refine V_catchV (ci := 12) (n := 3) (name := "java/lang/IndexOutOfBoundsException") [.int (iI z1), .int (iI z2), .int (iI z3)] C hM gL_run_X7_run rfl ydX7_run ⟨by dsimp only; omega, by dsimp only; omega⟩ hcs rfl rfl (fun h hh => by subst hh; exact hrec _ hI) (fun h hh => by subst hh; exact hI) rfl (Nat.le_of_ble_eq_true rfl) dL_run_7 ⟨by dsimp only; omega, by dsimp only; omega⟩ [] ⟨0, 12, 15, 13⟩ [⟨0, 12, 19, 24⟩, ⟨0, 12, 23, 63⟩] (hxt.trans rfl) (fun z hz => by cases hz) (by decide) (by decide) (by decide +kernel) (by decide) (fun h h' hh hj9 q => ?_)
  rw [hh] at hj9
  refine V_astore5 (pc' := 17) C dL_run_15 rfl (by decide) rfl ?_
  refine V_iconst (pc' := 18) C dL_run_17 rfl ?_
  exact V_end C hr hlk (fun h2 hh2 => by subst hh2; exact ⟨rfl, hj9⟩) ⟨by omega, by omega⟩ dL_run_18
set_option maxHeartbeats 4000000 in
set_option maxRecDepth 100000 in
theorem kW_run_2 {z1 : Int} {z2 : Int} {z3 : Int} {I : Hp → Prop} {JX : Hp → Hp → Prop} (hM : Tx l yX7_run wsX7_run rm D (tyL cB cC cI cO cJ cD) ee [.ref b, .int (iI z1), .int (iI z2), .int (iI z3)] I "java/lang/IllegalStateException" JX mc ms) (hcs : rm.cells = mc ∧ rm.slots = ms) (hrec : ∀ h, I h → ∃ t fs, h b = some (t, .inr (12, fs))) : Ct l yL_run wsL_run ({ frames := rm.frames + 1, cells := mc, slots := ms, locals := rm.locals + 24 } : Room) D (tyL cB cC cI cO cJ cD) ee [.ref b, .int (iI z1), .int (iI z2), .int (iI z3), .ref ou] (I) (fun h v9 h' => v9 = some (.int (iI 2)) ∧ JX h h') mc ms := by
  refine Ctw_of (cc := cL_run) (own := RL) [some (.ref b), some (.int (iI z1)), some (.int (iI z2)), some (.int (iI z3)), some (.ref ou), none] (by decide) rfl rfl (Nat.le_of_ble_eq_true rfl) (fun i9 v9 h9 => argL [.ref b, .int (iI z1), .int (iI z2), .int (iI z3), .ref ou] 1 rfl i9 v9 h9) ?_
  intro p e s m9 args below meth c9 h0 sz hI C hr hlk hxt
  refine V_aload4 (pc' := 2) C dL_run_0 rfl ?_
  refine V_iconst (pc' := 3) C dL_run_2 rfl ?_
  refine V_aload0 (pc' := 4) C dL_run_3 rfl ?_
  refine V_iload1 (pc' := 5) C dL_run_4 rfl ?_
  refine V_iload2 (pc' := 6) C dL_run_5 rfl ?_
  refine V_iload3 (pc' := 7) C dL_run_6 rfl ?_
  refine V_catchV (ci := 12) (n := 3) (name := "java/lang/IllegalStateException") [.int (iI z1), .int (iI z2), .int (iI z3)] C hM gL_run_X7_run rfl ydX7_run ⟨by dsimp only; omega, by dsimp only; omega⟩ hcs rfl rfl (fun h hh => by subst hh; exact hrec _ hI) (fun h hh => by subst hh; exact hI) rfl (Nat.le_of_ble_eq_true rfl) dL_run_7 ⟨by dsimp only; omega, by dsimp only; omega⟩ [⟨0, 12, 15, 13⟩] ⟨0, 12, 19, 24⟩ [⟨0, 12, 23, 63⟩] (hxt.trans rfl) (fun z hz => by
        rcases List.mem_singleton.mp hz with rfl
        exact Or.inr ⟨by decide, "java/lang/IndexOutOfBoundsException", by decide +kernel, by decide⟩) (by decide) (by decide) (by decide +kernel) (by decide) (fun h h' hh hj9 q => ?_)
  rw [hh] at hj9
  refine V_astore5 (pc' := 21) C dL_run_19 rfl (by decide) rfl ?_
  refine V_iconst (pc' := 22) C dL_run_21 rfl ?_
  exact V_end C hr hlk (fun h2 hh2 => by subst hh2; exact ⟨rfl, hj9⟩) ⟨by omega, by omega⟩ dL_run_22
set_option maxHeartbeats 4000000 in
set_option maxRecDepth 100000 in
theorem kW_run_3 {z1 : Int} {z2 : Int} {z3 : Int} {I : Hp → Prop} {JX : Hp → Hp → Prop} (hM : Tx l yX7_run wsX7_run rm D (tyL cB cC cI cO cJ cD) ee [.ref b, .int (iI z1), .int (iI z2), .int (iI z3)] I "java/lang/UnsupportedOperationException" JX mc ms) (hcs : rm.cells = mc ∧ rm.slots = ms) (hrec : ∀ h, I h → ∃ t fs, h b = some (t, .inr (12, fs))) : Ct l yL_run wsL_run ({ frames := rm.frames + 1, cells := mc, slots := ms, locals := rm.locals + 24 } : Room) D (tyL cB cC cI cO cJ cD) ee [.ref b, .int (iI z1), .int (iI z2), .int (iI z3), .ref ou] (I) (fun h v9 h' => v9 = some (.int (iI 3)) ∧ JX h h') mc ms := by
  refine Ctw_of (cc := cL_run) (own := RL) [some (.ref b), some (.int (iI z1)), some (.int (iI z2)), some (.int (iI z3)), some (.ref ou), none] (by decide) rfl rfl (Nat.le_of_ble_eq_true rfl) (fun i9 v9 h9 => argL [.ref b, .int (iI z1), .int (iI z2), .int (iI z3), .ref ou] 1 rfl i9 v9 h9) ?_
  intro p e s m9 args below meth c9 h0 sz hI C hr hlk hxt
  refine V_aload4 (pc' := 2) C dL_run_0 rfl ?_
  refine V_iconst (pc' := 3) C dL_run_2 rfl ?_
  refine V_aload0 (pc' := 4) C dL_run_3 rfl ?_
  refine V_iload1 (pc' := 5) C dL_run_4 rfl ?_
  refine V_iload2 (pc' := 6) C dL_run_5 rfl ?_
  refine V_iload3 (pc' := 7) C dL_run_6 rfl ?_
  refine V_catchV (ci := 12) (n := 3) (name := "java/lang/UnsupportedOperationException") [.int (iI z1), .int (iI z2), .int (iI z3)] C hM gL_run_X7_run rfl ydX7_run ⟨by dsimp only; omega, by dsimp only; omega⟩ hcs rfl rfl (fun h hh => by subst hh; exact hrec _ hI) (fun h hh => by subst hh; exact hI) rfl (Nat.le_of_ble_eq_true rfl) dL_run_7 ⟨by dsimp only; omega, by dsimp only; omega⟩ [⟨0, 12, 15, 13⟩, ⟨0, 12, 19, 24⟩] ⟨0, 12, 23, 63⟩ [] (hxt.trans rfl) (fun z hz => by
        rcases List.mem_cons.mp hz with rfl | hz
        · exact Or.inr ⟨by decide, "java/lang/IndexOutOfBoundsException", by decide +kernel, by decide⟩
        rcases List.mem_singleton.mp hz with rfl
        exact Or.inr ⟨by decide, "java/lang/IllegalStateException", by decide +kernel, by decide⟩) (by decide) (by decide) (by decide +kernel) (by decide) (fun h h' hh hj9 q => ?_)
  rw [hh] at hj9
  refine V_astore5 (pc' := 25) C dL_run_23 rfl (by decide) rfl ?_
  refine V_iconst (pc' := 26) C dL_run_25 rfl ?_
  exact V_end C hr hlk (fun h2 hh2 => by subst hh2; exact ⟨rfl, hj9⟩) ⟨by omega, by omega⟩ dL_run_26
set_option maxHeartbeats 4000000 in
set_option maxRecDepth 100000 in
theorem kW_addRule {z1 : Int} {z2 : Int} {z3 : Int} {z4 : Int} {z5 : Int} {z6 : Int} {I : Hp → Prop} {J : Hp → Option Value → Hp → Prop} (hM : Ct l yX7_addRule wsX7_addRule rm D (tyL cB cC cI cO cJ cD) ee [.ref b, .int (iI z1), .int (iI z2), .int (iI z3), .int (iI z4), .int (iI z5), .int (iI z6)] I J mc ms) (hcs : rm.cells = mc ∧ rm.slots = ms) (hrec : ∀ h, I h → ∃ t fs, h b = some (t, .inr (12, fs))) (hJ : ∀ h v h', I h → J h v h' → (∃ z : Int, v = some (.int (iI z))) ∧ Fr T7 h h') : Ct l yL_addRule wsL_addRule ({ frames := rm.frames + 1, cells := mc, slots := ms, locals := rm.locals + 28 } : Room) D (tyL cB cC cI cO cJ cD) ee [.ref b, .int (iI z1), .int (iI z2), .int (iI z3), .int (iI z4), .int (iI z5), .int (iI z6), .ref ou] (fun x => I x ∧ ∃ f : Nat → Int64, x ou = some (901, .inl (cJ, 1, .inr (.inl f)))) (fun h v9 h' => v9 = some (.int (iI 0)) ∧ ∃ (z : Int) (h1 : Hp) (g : Nat → Int64), J h (some (.int (iI z))) h1 ∧ g 0 = lI z ∧ h' = hup h1 ou (901, .inl (cJ, 1, .inr (.inl g)))) mc ms := by
  refine Ctw_of (cc := cL_addRule) (own := RL) [some (.ref b), some (.int (iI z1)), some (.int (iI z2)), some (.int (iI z3)), some (.int (iI z4)), some (.int (iI z5)), some (.int (iI z6)), some (.ref ou), none] (by decide) rfl rfl (Nat.le_of_ble_eq_true rfl) (fun i9 v9 h9 => argL [.ref b, .int (iI z1), .int (iI z2), .int (iI z3), .int (iI z4), .int (iI z5), .int (iI z6), .ref ou] 1 rfl i9 v9 h9) ?_
  intro p e s m9 args below meth c9 h0 sz hI C hr hlk hxt
  obtain ⟨hI1, f0, hou⟩ := hI
  refine V_aload7 (pc' := 2) C dL_addRule_0 rfl ?_
  refine V_iconst (pc' := 3) C dL_addRule_2 rfl ?_
  refine V_aload0 (pc' := 4) C dL_addRule_3 rfl ?_
  refine V_iload1 (pc' := 5) C dL_addRule_4 rfl ?_
  refine V_iload2 (pc' := 6) C dL_addRule_5 rfl ?_
  refine V_iload3 (pc' := 7) C dL_addRule_6 rfl ?_
  refine V_iload4 (pc' := 9) C dL_addRule_7 rfl ?_
  refine V_iload5 (pc' := 11) C dL_addRule_9 rfl ?_
  refine V_iload6 (pc' := 13) C dL_addRule_11 rfl ?_
  refine V_callV (ci := 12) (n := 6) [.int (iI z1), .int (iI z2), .int (iI z3), .int (iI z4), .int (iI z5), .int (iI z6)] C hM gL_addRule_X7_addRule rfl ydX7_addRule ⟨by dsimp only; omega, by dsimp only; omega⟩ hcs rfl rfl (fun h hh => by subst hh; exact hrec _ hI1) (fun h hh => by subst hh; exact hI1) rfl (Nat.le_of_ble_eq_true rfl) dL_addRule_13 ⟨by dsimp only; omega, by dsimp only; omega⟩ (fun h v9 h' hh hj9 => ?_)
  obtain ⟨⟨z9, rfl⟩, hF9⟩ := hJ h v9 h' (by rw [hh]; exact hI1) hj9
  rw [hh] at hj9 hF9
  have ho9 := hF9 _ _ _ hou (by unfold T7; omega)
  refine V_i2l (pc' := 17) C dL_addRule_16 rfl ?_
  refine V_last1 (pc' := 18) (I2 := fun x => ∃ g : Nat → Int64, g 0 = lI z9 ∧ x = hup h' ou (901, .inl (cJ, 1, .inr (.inl g)))) C 4 rfl (fun x hx => by subst hx; exact ⟨901, f0, ho9, fun g hg => ⟨g, hg, rfl⟩⟩) dL_addRule_17 rfl ?_
  refine V_goto (tgt := 33) C dL_addRule_18 (by decide) ?_
  refine V_iconst (pc' := 34) C dL_addRule_33 rfl ?_
  exact V_end C hr hlk (fun h2 hh2 => by obtain ⟨g, hg, rfl⟩ := hh2; exact ⟨rfl, z9, h', g, hj9, hg, rfl⟩) ⟨by omega, by omega⟩ dL_addRule_34
set_option maxHeartbeats 4000000 in
set_option maxRecDepth 100000 in
theorem kW_addRule_1 {z1 : Int} {z2 : Int} {z3 : Int} {z4 : Int} {z5 : Int} {z6 : Int} {I : Hp → Prop} {JX : Hp → Hp → Prop} (hM : Tx l yX7_addRule wsX7_addRule rm D (tyL cB cC cI cO cJ cD) ee [.ref b, .int (iI z1), .int (iI z2), .int (iI z3), .int (iI z4), .int (iI z5), .int (iI z6)] I "java/lang/IndexOutOfBoundsException" JX mc ms) (hcs : rm.cells = mc ∧ rm.slots = ms) (hrec : ∀ h, I h → ∃ t fs, h b = some (t, .inr (12, fs))) : Ct l yL_addRule wsL_addRule ({ frames := rm.frames + 1, cells := mc, slots := ms, locals := rm.locals + 28 } : Room) D (tyL cB cC cI cO cJ cD) ee [.ref b, .int (iI z1), .int (iI z2), .int (iI z3), .int (iI z4), .int (iI z5), .int (iI z6), .ref ou] (I) (fun h v9 h' => v9 = some (.int (iI 1)) ∧ JX h h') mc ms := by
  refine Ctw_of (cc := cL_addRule) (own := RL) [some (.ref b), some (.int (iI z1)), some (.int (iI z2)), some (.int (iI z3)), some (.int (iI z4)), some (.int (iI z5)), some (.int (iI z6)), some (.ref ou), none] (by decide) rfl rfl (Nat.le_of_ble_eq_true rfl) (fun i9 v9 h9 => argL [.ref b, .int (iI z1), .int (iI z2), .int (iI z3), .int (iI z4), .int (iI z5), .int (iI z6), .ref ou] 1 rfl i9 v9 h9) ?_
  intro p e s m9 args below meth c9 h0 sz hI C hr hlk hxt
  refine V_aload7 (pc' := 2) C dL_addRule_0 rfl ?_
  refine V_iconst (pc' := 3) C dL_addRule_2 rfl ?_
  refine V_aload0 (pc' := 4) C dL_addRule_3 rfl ?_
  refine V_iload1 (pc' := 5) C dL_addRule_4 rfl ?_
  refine V_iload2 (pc' := 6) C dL_addRule_5 rfl ?_
  refine V_iload3 (pc' := 7) C dL_addRule_6 rfl ?_
  refine V_iload4 (pc' := 9) C dL_addRule_7 rfl ?_
  refine V_iload5 (pc' := 11) C dL_addRule_9 rfl ?_
  refine V_iload6 (pc' := 13) C dL_addRule_11 rfl ?_
  refine V_catchV (ci := 12) (n := 6) (name := "java/lang/IndexOutOfBoundsException") [.int (iI z1), .int (iI z2), .int (iI z3), .int (iI z4), .int (iI z5), .int (iI z6)] C hM gL_addRule_X7_addRule rfl ydX7_addRule ⟨by dsimp only; omega, by dsimp only; omega⟩ hcs rfl rfl (fun h hh => by subst hh; exact hrec _ hI) (fun h hh => by subst hh; exact hI) rfl (Nat.le_of_ble_eq_true rfl) dL_addRule_13 ⟨by dsimp only; omega, by dsimp only; omega⟩ [] ⟨0, 18, 21, 13⟩ [⟨0, 18, 25, 15⟩, ⟨0, 18, 29, 24⟩] (hxt.trans rfl) (fun z hz => by cases hz) (by decide) (by decide) (by decide +kernel) (by decide) (fun h h' hh hj9 q => ?_)
  rw [hh] at hj9
  refine V_astore8 (pc' := 23) C dL_addRule_21 rfl (by decide) rfl ?_
  refine V_iconst (pc' := 24) C dL_addRule_23 rfl ?_
  exact V_end C hr hlk (fun h2 hh2 => by subst hh2; exact ⟨rfl, hj9⟩) ⟨by omega, by omega⟩ dL_addRule_24
set_option maxHeartbeats 4000000 in
set_option maxRecDepth 100000 in
theorem kW_addRule_2 {z1 : Int} {z2 : Int} {z3 : Int} {z4 : Int} {z5 : Int} {z6 : Int} {I : Hp → Prop} {JX : Hp → Hp → Prop} (hM : Tx l yX7_addRule wsX7_addRule rm D (tyL cB cC cI cO cJ cD) ee [.ref b, .int (iI z1), .int (iI z2), .int (iI z3), .int (iI z4), .int (iI z5), .int (iI z6)] I "java/lang/IllegalArgumentException" JX mc ms) (hcs : rm.cells = mc ∧ rm.slots = ms) (hrec : ∀ h, I h → ∃ t fs, h b = some (t, .inr (12, fs))) : Ct l yL_addRule wsL_addRule ({ frames := rm.frames + 1, cells := mc, slots := ms, locals := rm.locals + 28 } : Room) D (tyL cB cC cI cO cJ cD) ee [.ref b, .int (iI z1), .int (iI z2), .int (iI z3), .int (iI z4), .int (iI z5), .int (iI z6), .ref ou] (I) (fun h v9 h' => v9 = some (.int (iI 2)) ∧ JX h h') mc ms := by
  refine Ctw_of (cc := cL_addRule) (own := RL) [some (.ref b), some (.int (iI z1)), some (.int (iI z2)), some (.int (iI z3)), some (.int (iI z4)), some (.int (iI z5)), some (.int (iI z6)), some (.ref ou), none] (by decide) rfl rfl (Nat.le_of_ble_eq_true rfl) (fun i9 v9 h9 => argL [.ref b, .int (iI z1), .int (iI z2), .int (iI z3), .int (iI z4), .int (iI z5), .int (iI z6), .ref ou] 1 rfl i9 v9 h9) ?_
  intro p e s m9 args below meth c9 h0 sz hI C hr hlk hxt
  refine V_aload7 (pc' := 2) C dL_addRule_0 rfl ?_
  refine V_iconst (pc' := 3) C dL_addRule_2 rfl ?_
  refine V_aload0 (pc' := 4) C dL_addRule_3 rfl ?_
  refine V_iload1 (pc' := 5) C dL_addRule_4 rfl ?_
  refine V_iload2 (pc' := 6) C dL_addRule_5 rfl ?_
  refine V_iload3 (pc' := 7) C dL_addRule_6 rfl ?_
  refine V_iload4 (pc' := 9) C dL_addRule_7 rfl ?_
  refine V_iload5 (pc' := 11) C dL_addRule_9 rfl ?_
  refine V_iload6 (pc' := 13) C dL_addRule_11 rfl ?_
  refine V_catchV (ci := 12) (n := 6) (name := "java/lang/IllegalArgumentException") [.int (iI z1), .int (iI z2), .int (iI z3), .int (iI z4), .int (iI z5), .int (iI z6)] C hM gL_addRule_X7_addRule rfl ydX7_addRule ⟨by dsimp only; omega, by dsimp only; omega⟩ hcs rfl rfl (fun h hh => by subst hh; exact hrec _ hI) (fun h hh => by subst hh; exact hI) rfl (Nat.le_of_ble_eq_true rfl) dL_addRule_13 ⟨by dsimp only; omega, by dsimp only; omega⟩ [⟨0, 18, 21, 13⟩] ⟨0, 18, 25, 15⟩ [⟨0, 18, 29, 24⟩] (hxt.trans rfl) (fun z hz => by
        rcases List.mem_singleton.mp hz with rfl
        exact Or.inr ⟨by decide, "java/lang/IndexOutOfBoundsException", by decide +kernel, by decide⟩) (by decide) (by decide) (by decide +kernel) (by decide) (fun h h' hh hj9 q => ?_)
  rw [hh] at hj9
  refine V_astore8 (pc' := 27) C dL_addRule_25 rfl (by decide) rfl ?_
  refine V_iconst (pc' := 28) C dL_addRule_27 rfl ?_
  exact V_end C hr hlk (fun h2 hh2 => by subst hh2; exact ⟨rfl, hj9⟩) ⟨by omega, by omega⟩ dL_addRule_28
set_option maxHeartbeats 4000000 in
set_option maxRecDepth 100000 in
theorem kW_addRule_3 {z1 : Int} {z2 : Int} {z3 : Int} {z4 : Int} {z5 : Int} {z6 : Int} {I : Hp → Prop} {JX : Hp → Hp → Prop} (hM : Tx l yX7_addRule wsX7_addRule rm D (tyL cB cC cI cO cJ cD) ee [.ref b, .int (iI z1), .int (iI z2), .int (iI z3), .int (iI z4), .int (iI z5), .int (iI z6)] I "java/lang/IllegalStateException" JX mc ms) (hcs : rm.cells = mc ∧ rm.slots = ms) (hrec : ∀ h, I h → ∃ t fs, h b = some (t, .inr (12, fs))) : Ct l yL_addRule wsL_addRule ({ frames := rm.frames + 1, cells := mc, slots := ms, locals := rm.locals + 28 } : Room) D (tyL cB cC cI cO cJ cD) ee [.ref b, .int (iI z1), .int (iI z2), .int (iI z3), .int (iI z4), .int (iI z5), .int (iI z6), .ref ou] (I) (fun h v9 h' => v9 = some (.int (iI 3)) ∧ JX h h') mc ms := by
  refine Ctw_of (cc := cL_addRule) (own := RL) [some (.ref b), some (.int (iI z1)), some (.int (iI z2)), some (.int (iI z3)), some (.int (iI z4)), some (.int (iI z5)), some (.int (iI z6)), some (.ref ou), none] (by decide) rfl rfl (Nat.le_of_ble_eq_true rfl) (fun i9 v9 h9 => argL [.ref b, .int (iI z1), .int (iI z2), .int (iI z3), .int (iI z4), .int (iI z5), .int (iI z6), .ref ou] 1 rfl i9 v9 h9) ?_
  intro p e s m9 args below meth c9 h0 sz hI C hr hlk hxt
  refine V_aload7 (pc' := 2) C dL_addRule_0 rfl ?_
  refine V_iconst (pc' := 3) C dL_addRule_2 rfl ?_
  refine V_aload0 (pc' := 4) C dL_addRule_3 rfl ?_
  refine V_iload1 (pc' := 5) C dL_addRule_4 rfl ?_
  refine V_iload2 (pc' := 6) C dL_addRule_5 rfl ?_
  refine V_iload3 (pc' := 7) C dL_addRule_6 rfl ?_
  refine V_iload4 (pc' := 9) C dL_addRule_7 rfl ?_
  refine V_iload5 (pc' := 11) C dL_addRule_9 rfl ?_
  refine V_iload6 (pc' := 13) C dL_addRule_11 rfl ?_
  refine V_catchV (ci := 12) (n := 6) (name := "java/lang/IllegalStateException") [.int (iI z1), .int (iI z2), .int (iI z3), .int (iI z4), .int (iI z5), .int (iI z6)] C hM gL_addRule_X7_addRule rfl ydX7_addRule ⟨by dsimp only; omega, by dsimp only; omega⟩ hcs rfl rfl (fun h hh => by subst hh; exact hrec _ hI) (fun h hh => by subst hh; exact hI) rfl (Nat.le_of_ble_eq_true rfl) dL_addRule_13 ⟨by dsimp only; omega, by dsimp only; omega⟩ [⟨0, 18, 21, 13⟩, ⟨0, 18, 25, 15⟩] ⟨0, 18, 29, 24⟩ [] (hxt.trans rfl) (fun z hz => by
        rcases List.mem_cons.mp hz with rfl | hz
        · exact Or.inr ⟨by decide, "java/lang/IndexOutOfBoundsException", by decide +kernel, by decide⟩
        rcases List.mem_singleton.mp hz with rfl
        exact Or.inr ⟨by decide, "java/lang/IllegalArgumentException", by decide +kernel, by decide⟩) (by decide) (by decide) (by decide +kernel) (by decide) (fun h h' hh hj9 q => ?_)
  rw [hh] at hj9
  refine V_astore8 (pc' := 31) C dL_addRule_29 rfl (by decide) rfl ?_
  refine V_iconst (pc' := 32) C dL_addRule_31 rfl ?_
  exact V_end C hr hlk (fun h2 hh2 => by subst hh2; exact ⟨rfl, hj9⟩) ⟨by omega, by omega⟩ dL_addRule_32
set_option maxHeartbeats 4000000 in
set_option maxRecDepth 100000 in
theorem kW_setRank {z1 : Int} {z2 : Int} {I : Hp → Prop} {J : Hp → Option Value → Hp → Prop} (hM : Ct l yX7_setRank wsX7_setRank rm D (tyL cB cC cI cO cJ cD) ee [.ref b, .int (iI z1), .int (iI z2)] I J mc ms) (hcs : rm.cells = mc ∧ rm.slots = ms) (hrec : ∀ h, I h → ∃ t fs, h b = some (t, .inr (12, fs))) (hJ : ∀ h v h', I h → J h v h' → (∃ z : Int, v = some (.int (iI z))) ∧ Fr T7 h h') : Ct l yL_setRank wsL_setRank ({ frames := rm.frames + 1, cells := mc, slots := ms, locals := rm.locals + 24 } : Room) D (tyL cB cC cI cO cJ cD) ee [.ref b, .int (iI z1), .int (iI z2), .ref ou] (fun x => I x ∧ ∃ f : Nat → Int64, x ou = some (901, .inl (cJ, 1, .inr (.inl f)))) (fun h v9 h' => v9 = some (.int (iI 0)) ∧ ∃ (z : Int) (h1 : Hp) (g : Nat → Int64), J h (some (.int (iI z))) h1 ∧ g 0 = lI z ∧ h' = hup h1 ou (901, .inl (cJ, 1, .inr (.inl g)))) mc ms := by
  refine Ctw_of (cc := cL_setRank) (own := RL) [some (.ref b), some (.int (iI z1)), some (.int (iI z2)), some (.ref ou), none] (by decide) rfl rfl (Nat.le_of_ble_eq_true rfl) (fun i9 v9 h9 => argL [.ref b, .int (iI z1), .int (iI z2), .ref ou] 1 rfl i9 v9 h9) ?_
  intro p e s m9 args below meth c9 h0 sz hI C hr hlk hxt
  obtain ⟨hI1, f0, hou⟩ := hI
  refine V_aload3 (pc' := 1) C dL_setRank_0 rfl ?_
  refine V_iconst (pc' := 2) C dL_setRank_1 rfl ?_
  refine V_aload0 (pc' := 3) C dL_setRank_2 rfl ?_
  refine V_iload1 (pc' := 4) C dL_setRank_3 rfl ?_
  refine V_iload2 (pc' := 5) C dL_setRank_4 rfl ?_
  refine V_callV (ci := 12) (n := 2) [.int (iI z1), .int (iI z2)] C hM gL_setRank_X7_setRank rfl ydX7_setRank ⟨by dsimp only; omega, by dsimp only; omega⟩ hcs rfl rfl (fun h hh => by subst hh; exact hrec _ hI1) (fun h hh => by subst hh; exact hI1) rfl (Nat.le_of_ble_eq_true rfl) dL_setRank_5 ⟨by dsimp only; omega, by dsimp only; omega⟩ (fun h v9 h' hh hj9 => ?_)
  obtain ⟨⟨z9, rfl⟩, hF9⟩ := hJ h v9 h' (by rw [hh]; exact hI1) hj9
  rw [hh] at hj9 hF9
  have ho9 := hF9 _ _ _ hou (by unfold T7; omega)
  refine V_i2l (pc' := 9) C dL_setRank_8 rfl ?_
  refine V_last1 (pc' := 10) (I2 := fun x => ∃ g : Nat → Int64, g 0 = lI z9 ∧ x = hup h' ou (901, .inl (cJ, 1, .inr (.inl g)))) C 4 rfl (fun x hx => by subst hx; exact ⟨901, f0, ho9, fun g hg => ⟨g, hg, rfl⟩⟩) dL_setRank_9 rfl ?_
  refine V_goto (tgt := 21) C dL_setRank_10 (by decide) ?_
  refine V_iconst (pc' := 22) C dL_setRank_21 rfl ?_
  exact V_end C hr hlk (fun h2 hh2 => by obtain ⟨g, hg, rfl⟩ := hh2; exact ⟨rfl, z9, h', g, hj9, hg, rfl⟩) ⟨by omega, by omega⟩ dL_setRank_22
set_option maxHeartbeats 4000000 in
set_option maxRecDepth 100000 in
theorem kW_setRank_1 {z1 : Int} {z2 : Int} {I : Hp → Prop} {JX : Hp → Hp → Prop} (hM : Tx l yX7_setRank wsX7_setRank rm D (tyL cB cC cI cO cJ cD) ee [.ref b, .int (iI z1), .int (iI z2)] I "java/lang/IndexOutOfBoundsException" JX mc ms) (hcs : rm.cells = mc ∧ rm.slots = ms) (hrec : ∀ h, I h → ∃ t fs, h b = some (t, .inr (12, fs))) : Ct l yL_setRank wsL_setRank ({ frames := rm.frames + 1, cells := mc, slots := ms, locals := rm.locals + 24 } : Room) D (tyL cB cC cI cO cJ cD) ee [.ref b, .int (iI z1), .int (iI z2), .ref ou] (I) (fun h v9 h' => v9 = some (.int (iI 1)) ∧ JX h h') mc ms := by
  refine Ctw_of (cc := cL_setRank) (own := RL) [some (.ref b), some (.int (iI z1)), some (.int (iI z2)), some (.ref ou), none] (by decide) rfl rfl (Nat.le_of_ble_eq_true rfl) (fun i9 v9 h9 => argL [.ref b, .int (iI z1), .int (iI z2), .ref ou] 1 rfl i9 v9 h9) ?_
  intro p e s m9 args below meth c9 h0 sz hI C hr hlk hxt
  refine V_aload3 (pc' := 1) C dL_setRank_0 rfl ?_
  refine V_iconst (pc' := 2) C dL_setRank_1 rfl ?_
  refine V_aload0 (pc' := 3) C dL_setRank_2 rfl ?_
  refine V_iload1 (pc' := 4) C dL_setRank_3 rfl ?_
  refine V_iload2 (pc' := 5) C dL_setRank_4 rfl ?_
  refine V_catchV (ci := 12) (n := 2) (name := "java/lang/IndexOutOfBoundsException") [.int (iI z1), .int (iI z2)] C hM gL_setRank_X7_setRank rfl ydX7_setRank ⟨by dsimp only; omega, by dsimp only; omega⟩ hcs rfl rfl (fun h hh => by subst hh; exact hrec _ hI) (fun h hh => by subst hh; exact hI) rfl (Nat.le_of_ble_eq_true rfl) dL_setRank_5 ⟨by dsimp only; omega, by dsimp only; omega⟩ [] ⟨0, 10, 13, 13⟩ [⟨0, 10, 17, 15⟩] (hxt.trans rfl) (fun z hz => by cases hz) (by decide) (by decide) (by decide +kernel) (by decide) (fun h h' hh hj9 q => ?_)
  rw [hh] at hj9
  refine V_astore4 (pc' := 15) C dL_setRank_13 rfl (by decide) rfl ?_
  refine V_iconst (pc' := 16) C dL_setRank_15 rfl ?_
  exact V_end C hr hlk (fun h2 hh2 => by subst hh2; exact ⟨rfl, hj9⟩) ⟨by omega, by omega⟩ dL_setRank_16
set_option maxHeartbeats 4000000 in
set_option maxRecDepth 100000 in
theorem kW_setRank_2 {z1 : Int} {z2 : Int} {I : Hp → Prop} {JX : Hp → Hp → Prop} (hM : Tx l yX7_setRank wsX7_setRank rm D (tyL cB cC cI cO cJ cD) ee [.ref b, .int (iI z1), .int (iI z2)] I "java/lang/IllegalArgumentException" JX mc ms) (hcs : rm.cells = mc ∧ rm.slots = ms) (hrec : ∀ h, I h → ∃ t fs, h b = some (t, .inr (12, fs))) : Ct l yL_setRank wsL_setRank ({ frames := rm.frames + 1, cells := mc, slots := ms, locals := rm.locals + 24 } : Room) D (tyL cB cC cI cO cJ cD) ee [.ref b, .int (iI z1), .int (iI z2), .ref ou] (I) (fun h v9 h' => v9 = some (.int (iI 2)) ∧ JX h h') mc ms := by
  refine Ctw_of (cc := cL_setRank) (own := RL) [some (.ref b), some (.int (iI z1)), some (.int (iI z2)), some (.ref ou), none] (by decide) rfl rfl (Nat.le_of_ble_eq_true rfl) (fun i9 v9 h9 => argL [.ref b, .int (iI z1), .int (iI z2), .ref ou] 1 rfl i9 v9 h9) ?_
  intro p e s m9 args below meth c9 h0 sz hI C hr hlk hxt
  refine V_aload3 (pc' := 1) C dL_setRank_0 rfl ?_
  refine V_iconst (pc' := 2) C dL_setRank_1 rfl ?_
  refine V_aload0 (pc' := 3) C dL_setRank_2 rfl ?_
  refine V_iload1 (pc' := 4) C dL_setRank_3 rfl ?_
  refine V_iload2 (pc' := 5) C dL_setRank_4 rfl ?_
  refine V_catchV (ci := 12) (n := 2) (name := "java/lang/IllegalArgumentException") [.int (iI z1), .int (iI z2)] C hM gL_setRank_X7_setRank rfl ydX7_setRank ⟨by dsimp only; omega, by dsimp only; omega⟩ hcs rfl rfl (fun h hh => by subst hh; exact hrec _ hI) (fun h hh => by subst hh; exact hI) rfl (Nat.le_of_ble_eq_true rfl) dL_setRank_5 ⟨by dsimp only; omega, by dsimp only; omega⟩ [⟨0, 10, 13, 13⟩] ⟨0, 10, 17, 15⟩ [] (hxt.trans rfl) (fun z hz => by
        rcases List.mem_singleton.mp hz with rfl
        exact Or.inr ⟨by decide, "java/lang/IndexOutOfBoundsException", by decide +kernel, by decide⟩) (by decide) (by decide) (by decide +kernel) (by decide) (fun h h' hh hj9 q => ?_)
  rw [hh] at hj9
  refine V_astore4 (pc' := 19) C dL_setRank_17 rfl (by decide) rfl ?_
  refine V_iconst (pc' := 20) C dL_setRank_19 rfl ?_
  exact V_end C hr hlk (fun h2 hh2 => by subst hh2; exact ⟨rfl, hj9⟩) ⟨by omega, by omega⟩ dL_setRank_20
set_option maxHeartbeats 4000000 in
set_option maxRecDepth 100000 in
theorem kW_rule {z1 : Int} {z2 : Int} {I : Hp → Prop} {J : Hp → Option Value → Hp → Prop} (hM : Ct l yX7_rule wsX7_rule rm D (tyL cB cC cI cO cJ cD) ee [.ref b, .int (iI z1), .int (iI z2)] I J mc ms) (hcs : rm.cells = mc ∧ rm.slots = ms) (hrec : ∀ h, I h → ∃ t fs, h b = some (t, .inr (12, fs))) (hJ : ∀ h v h', I h → J h v h' → (∃ z : Int, v = some (.int (iI z))) ∧ Fr T7 h h') : Ct l yL_rule wsL_rule ({ frames := rm.frames + 1, cells := mc, slots := ms, locals := rm.locals + 23 } : Room) D (tyL cB cC cI cO cJ cD) ee [.ref b, .int (iI z1), .int (iI z2), .ref ou] (fun x => I x ∧ ∃ f : Nat → Int64, x ou = some (901, .inl (cJ, 1, .inr (.inl f)))) (fun h v9 h' => v9 = some (.int (iI 0)) ∧ ∃ (z : Int) (h1 : Hp) (g : Nat → Int64), J h (some (.int (iI z))) h1 ∧ g 0 = lI z ∧ h' = hup h1 ou (901, .inl (cJ, 1, .inr (.inl g)))) mc ms := by
  refine Ctw_of (cc := cL_rule) (own := RL) [some (.ref b), some (.int (iI z1)), some (.int (iI z2)), some (.ref ou), none] (by decide) rfl rfl (Nat.le_of_ble_eq_true rfl) (fun i9 v9 h9 => argL [.ref b, .int (iI z1), .int (iI z2), .ref ou] 1 rfl i9 v9 h9) ?_
  intro p e s m9 args below meth c9 h0 sz hI C hr hlk hxt
  obtain ⟨hI1, f0, hou⟩ := hI
  refine V_aload3 (pc' := 1) C dL_rule_0 rfl ?_
  refine V_iconst (pc' := 2) C dL_rule_1 rfl ?_
  refine V_aload0 (pc' := 3) C dL_rule_2 rfl ?_
  refine V_iload1 (pc' := 4) C dL_rule_3 rfl ?_
  refine V_iload2 (pc' := 5) C dL_rule_4 rfl ?_
  refine V_callV (ci := 12) (n := 2) [.int (iI z1), .int (iI z2)] C hM gL_rule_X7_rule rfl ydX7_rule ⟨by dsimp only; omega, by dsimp only; omega⟩ hcs rfl rfl (fun h hh => by subst hh; exact hrec _ hI1) (fun h hh => by subst hh; exact hI1) rfl (Nat.le_of_ble_eq_true rfl) dL_rule_5 ⟨by dsimp only; omega, by dsimp only; omega⟩ (fun h v9 h' hh hj9 => ?_)
  obtain ⟨⟨z9, rfl⟩, hF9⟩ := hJ h v9 h' (by rw [hh]; exact hI1) hj9
  rw [hh] at hj9 hF9
  have ho9 := hF9 _ _ _ hou (by unfold T7; omega)
  refine V_i2l (pc' := 9) C dL_rule_8 rfl ?_
  refine V_last1 (pc' := 10) (I2 := fun x => ∃ g : Nat → Int64, g 0 = lI z9 ∧ x = hup h' ou (901, .inl (cJ, 1, .inr (.inl g)))) C 4 rfl (fun x hx => by subst hx; exact ⟨901, f0, ho9, fun g hg => ⟨g, hg, rfl⟩⟩) dL_rule_9 rfl ?_
  refine V_goto (tgt := 21) C dL_rule_10 (by decide) ?_
  refine V_iconst (pc' := 22) C dL_rule_21 rfl ?_
  exact V_end C hr hlk (fun h2 hh2 => by obtain ⟨g, hg, rfl⟩ := hh2; exact ⟨rfl, z9, h', g, hj9, hg, rfl⟩) ⟨by omega, by omega⟩ dL_rule_22
set_option maxHeartbeats 4000000 in
set_option maxRecDepth 100000 in
theorem kW_rule_1 {z1 : Int} {z2 : Int} {I : Hp → Prop} {JX : Hp → Hp → Prop} (hM : Tx l yX7_rule wsX7_rule rm D (tyL cB cC cI cO cJ cD) ee [.ref b, .int (iI z1), .int (iI z2)] I "java/lang/IndexOutOfBoundsException" JX mc ms) (hcs : rm.cells = mc ∧ rm.slots = ms) (hrec : ∀ h, I h → ∃ t fs, h b = some (t, .inr (12, fs))) : Ct l yL_rule wsL_rule ({ frames := rm.frames + 1, cells := mc, slots := ms, locals := rm.locals + 23 } : Room) D (tyL cB cC cI cO cJ cD) ee [.ref b, .int (iI z1), .int (iI z2), .ref ou] (I) (fun h v9 h' => v9 = some (.int (iI 1)) ∧ JX h h') mc ms := by
  refine Ctw_of (cc := cL_rule) (own := RL) [some (.ref b), some (.int (iI z1)), some (.int (iI z2)), some (.ref ou), none] (by decide) rfl rfl (Nat.le_of_ble_eq_true rfl) (fun i9 v9 h9 => argL [.ref b, .int (iI z1), .int (iI z2), .ref ou] 1 rfl i9 v9 h9) ?_
  intro p e s m9 args below meth c9 h0 sz hI C hr hlk hxt
  refine V_aload3 (pc' := 1) C dL_rule_0 rfl ?_
  refine V_iconst (pc' := 2) C dL_rule_1 rfl ?_
  refine V_aload0 (pc' := 3) C dL_rule_2 rfl ?_
  refine V_iload1 (pc' := 4) C dL_rule_3 rfl ?_
  refine V_iload2 (pc' := 5) C dL_rule_4 rfl ?_
  refine V_catchV (ci := 12) (n := 2) (name := "java/lang/IndexOutOfBoundsException") [.int (iI z1), .int (iI z2)] C hM gL_rule_X7_rule rfl ydX7_rule ⟨by dsimp only; omega, by dsimp only; omega⟩ hcs rfl rfl (fun h hh => by subst hh; exact hrec _ hI) (fun h hh => by subst hh; exact hI) rfl (Nat.le_of_ble_eq_true rfl) dL_rule_5 ⟨by dsimp only; omega, by dsimp only; omega⟩ [] ⟨0, 10, 13, 13⟩ [⟨0, 10, 17, 75⟩] (hxt.trans rfl) (fun z hz => by cases hz) (by decide) (by decide) (by decide +kernel) (by decide) (fun h h' hh hj9 q => ?_)
  rw [hh] at hj9
  refine V_astore4 (pc' := 15) C dL_rule_13 rfl (by decide) rfl ?_
  refine V_iconst (pc' := 16) C dL_rule_15 rfl ?_
  exact V_end C hr hlk (fun h2 hh2 => by subst hh2; exact ⟨rfl, hj9⟩) ⟨by omega, by omega⟩ dL_rule_16
set_option maxHeartbeats 4000000 in
set_option maxRecDepth 100000 in
theorem kW_rule_2 {z1 : Int} {z2 : Int} {I : Hp → Prop} {JX : Hp → Hp → Prop} (hM : Tx l yX7_rule wsX7_rule rm D (tyL cB cC cI cO cJ cD) ee [.ref b, .int (iI z1), .int (iI z2)] I "java/util/NoSuchElementException" JX mc ms) (hcs : rm.cells = mc ∧ rm.slots = ms) (hrec : ∀ h, I h → ∃ t fs, h b = some (t, .inr (12, fs))) : Ct l yL_rule wsL_rule ({ frames := rm.frames + 1, cells := mc, slots := ms, locals := rm.locals + 23 } : Room) D (tyL cB cC cI cO cJ cD) ee [.ref b, .int (iI z1), .int (iI z2), .ref ou] (I) (fun h v9 h' => v9 = some (.int (iI 2)) ∧ JX h h') mc ms := by
  refine Ctw_of (cc := cL_rule) (own := RL) [some (.ref b), some (.int (iI z1)), some (.int (iI z2)), some (.ref ou), none] (by decide) rfl rfl (Nat.le_of_ble_eq_true rfl) (fun i9 v9 h9 => argL [.ref b, .int (iI z1), .int (iI z2), .ref ou] 1 rfl i9 v9 h9) ?_
  intro p e s m9 args below meth c9 h0 sz hI C hr hlk hxt
  refine V_aload3 (pc' := 1) C dL_rule_0 rfl ?_
  refine V_iconst (pc' := 2) C dL_rule_1 rfl ?_
  refine V_aload0 (pc' := 3) C dL_rule_2 rfl ?_
  refine V_iload1 (pc' := 4) C dL_rule_3 rfl ?_
  refine V_iload2 (pc' := 5) C dL_rule_4 rfl ?_
  refine V_catchV (ci := 12) (n := 2) (name := "java/util/NoSuchElementException") [.int (iI z1), .int (iI z2)] C hM gL_rule_X7_rule rfl ydX7_rule ⟨by dsimp only; omega, by dsimp only; omega⟩ hcs rfl rfl (fun h hh => by subst hh; exact hrec _ hI) (fun h hh => by subst hh; exact hI) rfl (Nat.le_of_ble_eq_true rfl) dL_rule_5 ⟨by dsimp only; omega, by dsimp only; omega⟩ [⟨0, 10, 13, 13⟩] ⟨0, 10, 17, 75⟩ [] (hxt.trans rfl) (fun z hz => by
        rcases List.mem_singleton.mp hz with rfl
        exact Or.inr ⟨by decide, "java/lang/IndexOutOfBoundsException", by decide +kernel, by decide⟩) (by decide) (by decide) (by decide +kernel) (by decide) (fun h h' hh hj9 q => ?_)
  rw [hh] at hj9
  refine V_astore4 (pc' := 19) C dL_rule_17 rfl (by decide) rfl ?_
  refine V_iconst (pc' := 20) C dL_rule_19 rfl ?_
  exact V_end C hr hlk (fun h2 hh2 => by subst hh2; exact ⟨rfl, hj9⟩) ⟨by omega, by omega⟩ dL_rule_20
set_option maxHeartbeats 4000000 in
set_option maxRecDepth 100000 in
theorem kW_undo {I : Hp → Prop} {J : Hp → Option Value → Hp → Prop} (hM : Ct l yX7_undo wsX7_undo rm D (tyL cB cC cI cO cJ cD) ee [.ref b] I J mc ms) (hcs : rm.cells = mc ∧ rm.slots = ms) (hrec : ∀ h, I h → ∃ t fs, h b = some (t, .inr (12, fs))) (hJ : ∀ h v h', I h → J h v h' → (∃ z : Int, v = some (.int (iI z))) ∧ Fr T7 h h') : Ct l yL_undo wsL_undo ({ frames := rm.frames + 1, cells := mc, slots := ms, locals := rm.locals + 23 } : Room) D (tyL cB cC cI cO cJ cD) ee [.ref b, .ref ou] (fun x => I x ∧ ∃ f : Nat → Int64, x ou = some (901, .inl (cJ, 1, .inr (.inl f)))) (fun h v9 h' => v9 = some (.int (iI 0)) ∧ ∃ (z : Int) (h1 : Hp) (g : Nat → Int64), J h (some (.int (iI z))) h1 ∧ g 0 = lI z ∧ h' = hup h1 ou (901, .inl (cJ, 1, .inr (.inl g)))) mc ms := by
  refine Ctw_of (cc := cL_undo) (own := RL) [some (.ref b), some (.ref ou), none] (by decide) rfl rfl (Nat.le_of_ble_eq_true rfl) (fun i9 v9 h9 => argL [.ref b, .ref ou] 1 rfl i9 v9 h9) ?_
  intro p e s m9 args below meth c9 h0 sz hI C hr hlk hxt
  obtain ⟨hI1, f0, hou⟩ := hI
  refine V_aload1 (pc' := 1) C dL_undo_0 rfl ?_
  refine V_iconst (pc' := 2) C dL_undo_1 rfl ?_
  refine V_aload0 (pc' := 3) C dL_undo_2 rfl ?_
  refine V_callV (ci := 12) (n := 0) [] C hM gL_undo_X7_undo rfl ydX7_undo ⟨by dsimp only; omega, by dsimp only; omega⟩ hcs rfl rfl (fun h hh => by subst hh; exact hrec _ hI1) (fun h hh => by subst hh; exact hI1) rfl (Nat.le_of_ble_eq_true rfl) dL_undo_3 ⟨by dsimp only; omega, by dsimp only; omega⟩ (fun h v9 h' hh hj9 => ?_)
  obtain ⟨⟨z9, rfl⟩, hF9⟩ := hJ h v9 h' (by rw [hh]; exact hI1) hj9
  rw [hh] at hj9 hF9
  have ho9 := hF9 _ _ _ hou (by unfold T7; omega)
  refine V_i2l (pc' := 7) C dL_undo_6 rfl ?_
  refine V_last1 (pc' := 8) (I2 := fun x => ∃ g : Nat → Int64, g 0 = lI z9 ∧ x = hup h' ou (901, .inl (cJ, 1, .inr (.inl g)))) C 4 rfl (fun x hx => by subst hx; exact ⟨901, f0, ho9, fun g hg => ⟨g, hg, rfl⟩⟩) dL_undo_7 rfl ?_
  refine V_goto (tgt := 14) C dL_undo_8 (by decide) ?_
  refine V_iconst (pc' := 15) C dL_undo_14 rfl ?_
  exact V_end C hr hlk (fun h2 hh2 => by obtain ⟨g, hg, rfl⟩ := hh2; exact ⟨rfl, z9, h', g, hj9, hg, rfl⟩) ⟨by omega, by omega⟩ dL_undo_15
set_option maxHeartbeats 4000000 in
set_option maxRecDepth 100000 in
theorem kW_undo_1 {I : Hp → Prop} {JX : Hp → Hp → Prop} (hM : Tx l yX7_undo wsX7_undo rm D (tyL cB cC cI cO cJ cD) ee [.ref b] I "java/lang/IllegalStateException" JX mc ms) (hcs : rm.cells = mc ∧ rm.slots = ms) (hrec : ∀ h, I h → ∃ t fs, h b = some (t, .inr (12, fs))) : Ct l yL_undo wsL_undo ({ frames := rm.frames + 1, cells := mc, slots := ms, locals := rm.locals + 23 } : Room) D (tyL cB cC cI cO cJ cD) ee [.ref b, .ref ou] (I) (fun h v9 h' => v9 = some (.int (iI 1)) ∧ JX h h') mc ms := by
  refine Ctw_of (cc := cL_undo) (own := RL) [some (.ref b), some (.ref ou), none] (by decide) rfl rfl (Nat.le_of_ble_eq_true rfl) (fun i9 v9 h9 => argL [.ref b, .ref ou] 1 rfl i9 v9 h9) ?_
  intro p e s m9 args below meth c9 h0 sz hI C hr hlk hxt
  refine V_aload1 (pc' := 1) C dL_undo_0 rfl ?_
  refine V_iconst (pc' := 2) C dL_undo_1 rfl ?_
  refine V_aload0 (pc' := 3) C dL_undo_2 rfl ?_
  refine V_catchV (ci := 12) (n := 0) (name := "java/lang/IllegalStateException") [] C hM gL_undo_X7_undo rfl ydX7_undo ⟨by dsimp only; omega, by dsimp only; omega⟩ hcs rfl rfl (fun h hh => by subst hh; exact hrec _ hI) (fun h hh => by subst hh; exact hI) rfl (Nat.le_of_ble_eq_true rfl) dL_undo_3 ⟨by dsimp only; omega, by dsimp only; omega⟩ [] ⟨0, 8, 11, 24⟩ [] (hxt.trans rfl) (fun z hz => by cases hz) (by decide) (by decide) (by decide +kernel) (by decide) (fun h h' hh hj9 q => ?_)
  rw [hh] at hj9
  refine V_astore2 (pc' := 12) C dL_undo_11 rfl (by decide) rfl ?_
  refine V_iconst (pc' := 13) C dL_undo_12 rfl ?_
  exact V_end C hr hlk (fun h2 hh2 => by subst hh2; exact ⟨rfl, hj9⟩) ⟨by omega, by omega⟩ dL_undo_13
set_option maxHeartbeats 4000000 in
set_option maxRecDepth 100000 in
theorem kW_entriesOf {z1 : Int} {I : Hp → Prop} {J : Hp → Option Value → Hp → Prop} (hM : Ct l yX7_entriesOf wsX7_entriesOf rm D (tyL cB cC cI cO cJ cD) ee [.ref b, .int (iI z1)] I J mc ms) (hcs : rm.cells = mc ∧ rm.slots = ms) (hrec : ∀ h, I h → ∃ t fs, h b = some (t, .inr (12, fs))) (hJ : ∀ h v h', I h → J h v h' → (∃ z : Int, v = some (.int (iI z))) ∧ Fr T7 h h') : Ct l yL_entriesOf wsL_entriesOf ({ frames := rm.frames + 1, cells := mc, slots := ms, locals := rm.locals + 21 } : Room) D (tyL cB cC cI cO cJ cD) ee [.ref b, .int (iI z1), .ref ou] (fun x => I x ∧ ∃ f : Nat → Int64, x ou = some (901, .inl (cJ, 1, .inr (.inl f)))) (fun h v9 h' => v9 = some (.int (iI 0)) ∧ ∃ (z : Int) (h1 : Hp) (g : Nat → Int64), J h (some (.int (iI z))) h1 ∧ g 0 = lI z ∧ h' = hup h1 ou (901, .inl (cJ, 1, .inr (.inl g)))) mc ms := by
  refine Ctw_of (cc := cL_entriesOf) (own := RL) [some (.ref b), some (.int (iI z1)), some (.ref ou), none] (by decide) rfl rfl (Nat.le_of_ble_eq_true rfl) (fun i9 v9 h9 => argL [.ref b, .int (iI z1), .ref ou] 1 rfl i9 v9 h9) ?_
  intro p e s m9 args below meth c9 h0 sz hI C hr hlk hxt
  obtain ⟨hI1, f0, hou⟩ := hI
  refine V_aload2 (pc' := 1) C dL_entriesOf_0 rfl ?_
  refine V_iconst (pc' := 2) C dL_entriesOf_1 rfl ?_
  refine V_aload0 (pc' := 3) C dL_entriesOf_2 rfl ?_
  refine V_iload1 (pc' := 4) C dL_entriesOf_3 rfl ?_
  refine V_callV (ci := 12) (n := 1) [.int (iI z1)] C hM gL_entriesOf_X7_entriesOf rfl ydX7_entriesOf ⟨by dsimp only; omega, by dsimp only; omega⟩ hcs rfl rfl (fun h hh => by subst hh; exact hrec _ hI1) (fun h hh => by subst hh; exact hI1) rfl (Nat.le_of_ble_eq_true rfl) dL_entriesOf_4 ⟨by dsimp only; omega, by dsimp only; omega⟩ (fun h v9 h' hh hj9 => ?_)
  obtain ⟨⟨z9, rfl⟩, hF9⟩ := hJ h v9 h' (by rw [hh]; exact hI1) hj9
  rw [hh] at hj9 hF9
  have ho9 := hF9 _ _ _ hou (by unfold T7; omega)
  refine V_i2l (pc' := 8) C dL_entriesOf_7 rfl ?_
  refine V_last1 (pc' := 9) (I2 := fun x => ∃ g : Nat → Int64, g 0 = lI z9 ∧ x = hup h' ou (901, .inl (cJ, 1, .inr (.inl g)))) C 4 rfl (fun x hx => by subst hx; exact ⟨901, f0, ho9, fun g hg => ⟨g, hg, rfl⟩⟩) dL_entriesOf_8 rfl ?_
  refine V_goto (tgt := 15) C dL_entriesOf_9 (by decide) ?_
  refine V_iconst (pc' := 16) C dL_entriesOf_15 rfl ?_
  exact V_end C hr hlk (fun h2 hh2 => by obtain ⟨g, hg, rfl⟩ := hh2; exact ⟨rfl, z9, h', g, hj9, hg, rfl⟩) ⟨by omega, by omega⟩ dL_entriesOf_16
set_option maxHeartbeats 4000000 in
set_option maxRecDepth 100000 in
theorem kW_entriesOf_1 {z1 : Int} {I : Hp → Prop} {JX : Hp → Hp → Prop} (hM : Tx l yX7_entriesOf wsX7_entriesOf rm D (tyL cB cC cI cO cJ cD) ee [.ref b, .int (iI z1)] I "java/lang/IndexOutOfBoundsException" JX mc ms) (hcs : rm.cells = mc ∧ rm.slots = ms) (hrec : ∀ h, I h → ∃ t fs, h b = some (t, .inr (12, fs))) : Ct l yL_entriesOf wsL_entriesOf ({ frames := rm.frames + 1, cells := mc, slots := ms, locals := rm.locals + 21 } : Room) D (tyL cB cC cI cO cJ cD) ee [.ref b, .int (iI z1), .ref ou] (I) (fun h v9 h' => v9 = some (.int (iI 1)) ∧ JX h h') mc ms := by
  refine Ctw_of (cc := cL_entriesOf) (own := RL) [some (.ref b), some (.int (iI z1)), some (.ref ou), none] (by decide) rfl rfl (Nat.le_of_ble_eq_true rfl) (fun i9 v9 h9 => argL [.ref b, .int (iI z1), .ref ou] 1 rfl i9 v9 h9) ?_
  intro p e s m9 args below meth c9 h0 sz hI C hr hlk hxt
  refine V_aload2 (pc' := 1) C dL_entriesOf_0 rfl ?_
  refine V_iconst (pc' := 2) C dL_entriesOf_1 rfl ?_
  refine V_aload0 (pc' := 3) C dL_entriesOf_2 rfl ?_
  refine V_iload1 (pc' := 4) C dL_entriesOf_3 rfl ?_
  refine V_catchV (ci := 12) (n := 1) (name := "java/lang/IndexOutOfBoundsException") [.int (iI z1)] C hM gL_entriesOf_X7_entriesOf rfl ydX7_entriesOf ⟨by dsimp only; omega, by dsimp only; omega⟩ hcs rfl rfl (fun h hh => by subst hh; exact hrec _ hI) (fun h hh => by subst hh; exact hI) rfl (Nat.le_of_ble_eq_true rfl) dL_entriesOf_4 ⟨by dsimp only; omega, by dsimp only; omega⟩ [] ⟨0, 9, 12, 13⟩ [] (hxt.trans rfl) (fun z hz => by cases hz) (by decide) (by decide) (by decide +kernel) (by decide) (fun h h' hh hj9 q => ?_)
  rw [hh] at hj9
  refine V_astore3 (pc' := 13) C dL_entriesOf_12 rfl (by decide) rfl ?_
  refine V_iconst (pc' := 14) C dL_entriesOf_13 rfl ?_
  exact V_end C hr hlk (fun h2 hh2 => by subst hh2; exact ⟨rfl, hj9⟩) ⟨by omega, by omega⟩ dL_entriesOf_14
set_option maxHeartbeats 4000000 in
set_option maxRecDepth 100000 in
theorem kW_lastBy {z1 : Int} {z2 : Int} {I : Hp → Prop} {J : Hp → Option Value → Hp → Prop} (hM : Ct l yX7_lastBy wsX7_lastBy rm D (tyL cB cC cI cO cJ cD) ee [.ref b, .int (iI z1), .int (iI z2)] I J mc ms) (hcs : rm.cells = mc ∧ rm.slots = ms) (hrec : ∀ h, I h → ∃ t fs, h b = some (t, .inr (12, fs))) (hJ : ∀ h v h', I h → J h v h' → (∃ z : Int, v = some (.int (iI z))) ∧ Fr T7 h h') : Ct l yL_lastBy wsL_lastBy ({ frames := rm.frames + 1, cells := mc, slots := ms, locals := rm.locals + 23 } : Room) D (tyL cB cC cI cO cJ cD) ee [.ref b, .int (iI z1), .int (iI z2), .ref ou] (fun x => I x ∧ ∃ f : Nat → Int64, x ou = some (901, .inl (cJ, 1, .inr (.inl f)))) (fun h v9 h' => v9 = some (.int (iI 0)) ∧ ∃ (z : Int) (h1 : Hp) (g : Nat → Int64), J h (some (.int (iI z))) h1 ∧ g 0 = lI z ∧ h' = hup h1 ou (901, .inl (cJ, 1, .inr (.inl g)))) mc ms := by
  refine Ctw_of (cc := cL_lastBy) (own := RL) [some (.ref b), some (.int (iI z1)), some (.int (iI z2)), some (.ref ou), none] (by decide) rfl rfl (Nat.le_of_ble_eq_true rfl) (fun i9 v9 h9 => argL [.ref b, .int (iI z1), .int (iI z2), .ref ou] 1 rfl i9 v9 h9) ?_
  intro p e s m9 args below meth c9 h0 sz hI C hr hlk hxt
  obtain ⟨hI1, f0, hou⟩ := hI
  refine V_aload3 (pc' := 1) C dL_lastBy_0 rfl ?_
  refine V_iconst (pc' := 2) C dL_lastBy_1 rfl ?_
  refine V_aload0 (pc' := 3) C dL_lastBy_2 rfl ?_
  refine V_iload1 (pc' := 4) C dL_lastBy_3 rfl ?_
  refine V_iload2 (pc' := 5) C dL_lastBy_4 rfl ?_
  refine V_callV (ci := 12) (n := 2) [.int (iI z1), .int (iI z2)] C hM gL_lastBy_X7_lastBy rfl ydX7_lastBy ⟨by dsimp only; omega, by dsimp only; omega⟩ hcs rfl rfl (fun h hh => by subst hh; exact hrec _ hI1) (fun h hh => by subst hh; exact hI1) rfl (Nat.le_of_ble_eq_true rfl) dL_lastBy_5 ⟨by dsimp only; omega, by dsimp only; omega⟩ (fun h v9 h' hh hj9 => ?_)
  obtain ⟨⟨z9, rfl⟩, hF9⟩ := hJ h v9 h' (by rw [hh]; exact hI1) hj9
  rw [hh] at hj9 hF9
  have ho9 := hF9 _ _ _ hou (by unfold T7; omega)
  refine V_i2l (pc' := 9) C dL_lastBy_8 rfl ?_
  refine V_last1 (pc' := 10) (I2 := fun x => ∃ g : Nat → Int64, g 0 = lI z9 ∧ x = hup h' ou (901, .inl (cJ, 1, .inr (.inl g)))) C 4 rfl (fun x hx => by subst hx; exact ⟨901, f0, ho9, fun g hg => ⟨g, hg, rfl⟩⟩) dL_lastBy_9 rfl ?_
  refine V_goto (tgt := 21) C dL_lastBy_10 (by decide) ?_
  refine V_iconst (pc' := 22) C dL_lastBy_21 rfl ?_
  exact V_end C hr hlk (fun h2 hh2 => by obtain ⟨g, hg, rfl⟩ := hh2; exact ⟨rfl, z9, h', g, hj9, hg, rfl⟩) ⟨by omega, by omega⟩ dL_lastBy_22
set_option maxHeartbeats 4000000 in
set_option maxRecDepth 100000 in
theorem kW_lastBy_1 {z1 : Int} {z2 : Int} {I : Hp → Prop} {JX : Hp → Hp → Prop} (hM : Tx l yX7_lastBy wsX7_lastBy rm D (tyL cB cC cI cO cJ cD) ee [.ref b, .int (iI z1), .int (iI z2)] I "java/lang/IndexOutOfBoundsException" JX mc ms) (hcs : rm.cells = mc ∧ rm.slots = ms) (hrec : ∀ h, I h → ∃ t fs, h b = some (t, .inr (12, fs))) : Ct l yL_lastBy wsL_lastBy ({ frames := rm.frames + 1, cells := mc, slots := ms, locals := rm.locals + 23 } : Room) D (tyL cB cC cI cO cJ cD) ee [.ref b, .int (iI z1), .int (iI z2), .ref ou] (I) (fun h v9 h' => v9 = some (.int (iI 1)) ∧ JX h h') mc ms := by
  refine Ctw_of (cc := cL_lastBy) (own := RL) [some (.ref b), some (.int (iI z1)), some (.int (iI z2)), some (.ref ou), none] (by decide) rfl rfl (Nat.le_of_ble_eq_true rfl) (fun i9 v9 h9 => argL [.ref b, .int (iI z1), .int (iI z2), .ref ou] 1 rfl i9 v9 h9) ?_
  intro p e s m9 args below meth c9 h0 sz hI C hr hlk hxt
  refine V_aload3 (pc' := 1) C dL_lastBy_0 rfl ?_
  refine V_iconst (pc' := 2) C dL_lastBy_1 rfl ?_
  refine V_aload0 (pc' := 3) C dL_lastBy_2 rfl ?_
  refine V_iload1 (pc' := 4) C dL_lastBy_3 rfl ?_
  refine V_iload2 (pc' := 5) C dL_lastBy_4 rfl ?_
  refine V_catchV (ci := 12) (n := 2) (name := "java/lang/IndexOutOfBoundsException") [.int (iI z1), .int (iI z2)] C hM gL_lastBy_X7_lastBy rfl ydX7_lastBy ⟨by dsimp only; omega, by dsimp only; omega⟩ hcs rfl rfl (fun h hh => by subst hh; exact hrec _ hI) (fun h hh => by subst hh; exact hI) rfl (Nat.le_of_ble_eq_true rfl) dL_lastBy_5 ⟨by dsimp only; omega, by dsimp only; omega⟩ [] ⟨0, 10, 13, 13⟩ [⟨0, 10, 17, 75⟩] (hxt.trans rfl) (fun z hz => by cases hz) (by decide) (by decide) (by decide +kernel) (by decide) (fun h h' hh hj9 q => ?_)
  rw [hh] at hj9
  refine V_astore4 (pc' := 15) C dL_lastBy_13 rfl (by decide) rfl ?_
  refine V_iconst (pc' := 16) C dL_lastBy_15 rfl ?_
  exact V_end C hr hlk (fun h2 hh2 => by subst hh2; exact ⟨rfl, hj9⟩) ⟨by omega, by omega⟩ dL_lastBy_16
set_option maxHeartbeats 4000000 in
set_option maxRecDepth 100000 in
theorem kW_lastBy_2 {z1 : Int} {z2 : Int} {I : Hp → Prop} {JX : Hp → Hp → Prop} (hM : Tx l yX7_lastBy wsX7_lastBy rm D (tyL cB cC cI cO cJ cD) ee [.ref b, .int (iI z1), .int (iI z2)] I "java/util/NoSuchElementException" JX mc ms) (hcs : rm.cells = mc ∧ rm.slots = ms) (hrec : ∀ h, I h → ∃ t fs, h b = some (t, .inr (12, fs))) : Ct l yL_lastBy wsL_lastBy ({ frames := rm.frames + 1, cells := mc, slots := ms, locals := rm.locals + 23 } : Room) D (tyL cB cC cI cO cJ cD) ee [.ref b, .int (iI z1), .int (iI z2), .ref ou] (I) (fun h v9 h' => v9 = some (.int (iI 2)) ∧ JX h h') mc ms := by
  refine Ctw_of (cc := cL_lastBy) (own := RL) [some (.ref b), some (.int (iI z1)), some (.int (iI z2)), some (.ref ou), none] (by decide) rfl rfl (Nat.le_of_ble_eq_true rfl) (fun i9 v9 h9 => argL [.ref b, .int (iI z1), .int (iI z2), .ref ou] 1 rfl i9 v9 h9) ?_
  intro p e s m9 args below meth c9 h0 sz hI C hr hlk hxt
  refine V_aload3 (pc' := 1) C dL_lastBy_0 rfl ?_
  refine V_iconst (pc' := 2) C dL_lastBy_1 rfl ?_
  refine V_aload0 (pc' := 3) C dL_lastBy_2 rfl ?_
  refine V_iload1 (pc' := 4) C dL_lastBy_3 rfl ?_
  refine V_iload2 (pc' := 5) C dL_lastBy_4 rfl ?_
  refine V_catchV (ci := 12) (n := 2) (name := "java/util/NoSuchElementException") [.int (iI z1), .int (iI z2)] C hM gL_lastBy_X7_lastBy rfl ydX7_lastBy ⟨by dsimp only; omega, by dsimp only; omega⟩ hcs rfl rfl (fun h hh => by subst hh; exact hrec _ hI) (fun h hh => by subst hh; exact hI) rfl (Nat.le_of_ble_eq_true rfl) dL_lastBy_5 ⟨by dsimp only; omega, by dsimp only; omega⟩ [⟨0, 10, 13, 13⟩] ⟨0, 10, 17, 75⟩ [] (hxt.trans rfl) (fun z hz => by
        rcases List.mem_singleton.mp hz with rfl
        exact Or.inr ⟨by decide, "java/lang/IndexOutOfBoundsException", by decide +kernel, by decide⟩) (by decide) (by decide) (by decide +kernel) (by decide) (fun h h' hh hj9 q => ?_)
  rw [hh] at hj9
  refine V_astore4 (pc' := 19) C dL_lastBy_17 rfl (by decide) rfl ?_
  refine V_iconst (pc' := 20) C dL_lastBy_19 rfl ?_
  exact V_end C hr hlk (fun h2 hh2 => by subst hh2; exact ⟨rfl, hj9⟩) ⟨by omega, by omega⟩ dL_lastBy_20
set_option maxHeartbeats 4000000 in
set_option maxRecDepth 100000 in
theorem kW_writeStep {z1 : Int} {z2 : Int} {I : Hp → Prop} {J : Hp → Option Value → Hp → Prop} (hM : Ct l yX7_writeStep wsX7_writeStep rm D (tyL cB cC cI cO cJ cD) ee [.ref b, .int (iI z1), .int (iI z2)] I J mc ms) (hcs : rm.cells = mc ∧ rm.slots = ms) (hrec : ∀ h, I h → ∃ t fs, h b = some (t, .inr (12, fs))) (hJ : ∀ h v h', I h → J h v h' → (∃ z : Int, v = some (.int (iI z))) ∧ Fr T7 h h') : Ct l yL_writeStep wsL_writeStep ({ frames := rm.frames + 1, cells := mc, slots := ms, locals := rm.locals + 23 } : Room) D (tyL cB cC cI cO cJ cD) ee [.ref b, .int (iI z1), .int (iI z2), .ref ou] (fun x => I x ∧ ∃ f : Nat → Int64, x ou = some (901, .inl (cJ, 1, .inr (.inl f)))) (fun h v9 h' => v9 = some (.int (iI 0)) ∧ ∃ (z : Int) (h1 : Hp) (g : Nat → Int64), J h (some (.int (iI z))) h1 ∧ g 0 = lI z ∧ h' = hup h1 ou (901, .inl (cJ, 1, .inr (.inl g)))) mc ms := by
  refine Ctw_of (cc := cL_writeStep) (own := RL) [some (.ref b), some (.int (iI z1)), some (.int (iI z2)), some (.ref ou), none] (by decide) rfl rfl (Nat.le_of_ble_eq_true rfl) (fun i9 v9 h9 => argL [.ref b, .int (iI z1), .int (iI z2), .ref ou] 1 rfl i9 v9 h9) ?_
  intro p e s m9 args below meth c9 h0 sz hI C hr hlk hxt
  obtain ⟨hI1, f0, hou⟩ := hI
  refine V_aload3 (pc' := 1) C dL_writeStep_0 rfl ?_
  refine V_iconst (pc' := 2) C dL_writeStep_1 rfl ?_
  refine V_aload0 (pc' := 3) C dL_writeStep_2 rfl ?_
  refine V_iload1 (pc' := 4) C dL_writeStep_3 rfl ?_
  refine V_iload2 (pc' := 5) C dL_writeStep_4 rfl ?_
  refine V_callV (ci := 12) (n := 2) [.int (iI z1), .int (iI z2)] C hM gL_writeStep_X7_writeStep rfl ydX7_writeStep ⟨by dsimp only; omega, by dsimp only; omega⟩ hcs rfl rfl (fun h hh => by subst hh; exact hrec _ hI1) (fun h hh => by subst hh; exact hI1) rfl (Nat.le_of_ble_eq_true rfl) dL_writeStep_5 ⟨by dsimp only; omega, by dsimp only; omega⟩ (fun h v9 h' hh hj9 => ?_)
  obtain ⟨⟨z9, rfl⟩, hF9⟩ := hJ h v9 h' (by rw [hh]; exact hI1) hj9
  rw [hh] at hj9 hF9
  have ho9 := hF9 _ _ _ hou (by unfold T7; omega)
  refine V_i2l (pc' := 9) C dL_writeStep_8 rfl ?_
  refine V_last1 (pc' := 10) (I2 := fun x => ∃ g : Nat → Int64, g 0 = lI z9 ∧ x = hup h' ou (901, .inl (cJ, 1, .inr (.inl g)))) C 4 rfl (fun x hx => by subst hx; exact ⟨901, f0, ho9, fun g hg => ⟨g, hg, rfl⟩⟩) dL_writeStep_9 rfl ?_
  refine V_goto (tgt := 17) C dL_writeStep_10 (by decide) ?_
  refine V_iconst (pc' := 18) C dL_writeStep_17 rfl ?_
  exact V_end C hr hlk (fun h2 hh2 => by obtain ⟨g, hg, rfl⟩ := hh2; exact ⟨rfl, z9, h', g, hj9, hg, rfl⟩) ⟨by omega, by omega⟩ dL_writeStep_18
set_option maxHeartbeats 4000000 in
set_option maxRecDepth 100000 in
theorem kW_writeStep_1 {z1 : Int} {z2 : Int} {I : Hp → Prop} {JX : Hp → Hp → Prop} (hM : Tx l yX7_writeStep wsX7_writeStep rm D (tyL cB cC cI cO cJ cD) ee [.ref b, .int (iI z1), .int (iI z2)] I "java/lang/IndexOutOfBoundsException" JX mc ms) (hcs : rm.cells = mc ∧ rm.slots = ms) (hrec : ∀ h, I h → ∃ t fs, h b = some (t, .inr (12, fs))) : Ct l yL_writeStep wsL_writeStep ({ frames := rm.frames + 1, cells := mc, slots := ms, locals := rm.locals + 23 } : Room) D (tyL cB cC cI cO cJ cD) ee [.ref b, .int (iI z1), .int (iI z2), .ref ou] (I) (fun h v9 h' => v9 = some (.int (iI 1)) ∧ JX h h') mc ms := by
  refine Ctw_of (cc := cL_writeStep) (own := RL) [some (.ref b), some (.int (iI z1)), some (.int (iI z2)), some (.ref ou), none] (by decide) rfl rfl (Nat.le_of_ble_eq_true rfl) (fun i9 v9 h9 => argL [.ref b, .int (iI z1), .int (iI z2), .ref ou] 1 rfl i9 v9 h9) ?_
  intro p e s m9 args below meth c9 h0 sz hI C hr hlk hxt
  refine V_aload3 (pc' := 1) C dL_writeStep_0 rfl ?_
  refine V_iconst (pc' := 2) C dL_writeStep_1 rfl ?_
  refine V_aload0 (pc' := 3) C dL_writeStep_2 rfl ?_
  refine V_iload1 (pc' := 4) C dL_writeStep_3 rfl ?_
  refine V_iload2 (pc' := 5) C dL_writeStep_4 rfl ?_
  refine V_catchV (ci := 12) (n := 2) (name := "java/lang/IndexOutOfBoundsException") [.int (iI z1), .int (iI z2)] C hM gL_writeStep_X7_writeStep rfl ydX7_writeStep ⟨by dsimp only; omega, by dsimp only; omega⟩ hcs rfl rfl (fun h hh => by subst hh; exact hrec _ hI) (fun h hh => by subst hh; exact hI) rfl (Nat.le_of_ble_eq_true rfl) dL_writeStep_5 ⟨by dsimp only; omega, by dsimp only; omega⟩ [] ⟨0, 10, 13, 13⟩ [] (hxt.trans rfl) (fun z hz => by cases hz) (by decide) (by decide) (by decide +kernel) (by decide) (fun h h' hh hj9 q => ?_)
  rw [hh] at hj9
  refine V_astore4 (pc' := 15) C dL_writeStep_13 rfl (by decide) rfl ?_
  refine V_iconst (pc' := 16) C dL_writeStep_15 rfl ?_
  exact V_end C hr hlk (fun h2 hh2 => by subst hh2; exact ⟨rfl, hj9⟩) ⟨by omega, by omega⟩ dL_writeStep_16
set_option maxHeartbeats 4000000 in
set_option maxRecDepth 100000 in
theorem kW_textAt {z1 : Int} {I : Hp → Prop} {J : Hp → Option Value → Hp → Prop} (hM : Ct l yX7_textAt wsX7_textAt rm D (tyL cB cC cI cO cJ cD) ee [.ref b, .int (iI z1)] I J mc ms) (hcs : rm.cells = mc ∧ rm.slots = ms) (hrec : ∀ h, I h → ∃ t fs, h b = some (t, .inr (12, fs))) (hJ : ∀ h v h', I h → J h v h' → (∃ z : Int, v = some (.int (iI z))) ∧ Fr T7 h h') : Ct l yL_textAt wsL_textAt ({ frames := rm.frames + 1, cells := mc, slots := ms, locals := rm.locals + 21 } : Room) D (tyL cB cC cI cO cJ cD) ee [.ref b, .int (iI z1), .ref ou] (fun x => I x ∧ ∃ f : Nat → Int64, x ou = some (901, .inl (cJ, 1, .inr (.inl f)))) (fun h v9 h' => v9 = some (.int (iI 0)) ∧ ∃ (z : Int) (h1 : Hp) (g : Nat → Int64), J h (some (.int (iI z))) h1 ∧ g 0 = lI z ∧ h' = hup h1 ou (901, .inl (cJ, 1, .inr (.inl g)))) mc ms := by
  refine Ctw_of (cc := cL_textAt) (own := RL) [some (.ref b), some (.int (iI z1)), some (.ref ou), none] (by decide) rfl rfl (Nat.le_of_ble_eq_true rfl) (fun i9 v9 h9 => argL [.ref b, .int (iI z1), .ref ou] 1 rfl i9 v9 h9) ?_
  intro p e s m9 args below meth c9 h0 sz hI C hr hlk hxt
  obtain ⟨hI1, f0, hou⟩ := hI
  refine V_aload2 (pc' := 1) C dL_textAt_0 rfl ?_
  refine V_iconst (pc' := 2) C dL_textAt_1 rfl ?_
  refine V_aload0 (pc' := 3) C dL_textAt_2 rfl ?_
  refine V_iload1 (pc' := 4) C dL_textAt_3 rfl ?_
  refine V_callV (ci := 12) (n := 1) [.int (iI z1)] C hM gL_textAt_X7_textAt rfl ydX7_textAt ⟨by dsimp only; omega, by dsimp only; omega⟩ hcs rfl rfl (fun h hh => by subst hh; exact hrec _ hI1) (fun h hh => by subst hh; exact hI1) rfl (Nat.le_of_ble_eq_true rfl) dL_textAt_4 ⟨by dsimp only; omega, by dsimp only; omega⟩ (fun h v9 h' hh hj9 => ?_)
  obtain ⟨⟨z9, rfl⟩, hF9⟩ := hJ h v9 h' (by rw [hh]; exact hI1) hj9
  rw [hh] at hj9 hF9
  have ho9 := hF9 _ _ _ hou (by unfold T7; omega)
  refine V_i2l (pc' := 8) C dL_textAt_7 rfl ?_
  refine V_last1 (pc' := 9) (I2 := fun x => ∃ g : Nat → Int64, g 0 = lI z9 ∧ x = hup h' ou (901, .inl (cJ, 1, .inr (.inl g)))) C 4 rfl (fun x hx => by subst hx; exact ⟨901, f0, ho9, fun g hg => ⟨g, hg, rfl⟩⟩) dL_textAt_8 rfl ?_
  refine V_goto (tgt := 15) C dL_textAt_9 (by decide) ?_
  refine V_iconst (pc' := 16) C dL_textAt_15 rfl ?_
  exact V_end C hr hlk (fun h2 hh2 => by obtain ⟨g, hg, rfl⟩ := hh2; exact ⟨rfl, z9, h', g, hj9, hg, rfl⟩) ⟨by omega, by omega⟩ dL_textAt_16
set_option maxHeartbeats 4000000 in
set_option maxRecDepth 100000 in
theorem kW_textAt_1 {z1 : Int} {I : Hp → Prop} {JX : Hp → Hp → Prop} (hM : Tx l yX7_textAt wsX7_textAt rm D (tyL cB cC cI cO cJ cD) ee [.ref b, .int (iI z1)] I "java/lang/IndexOutOfBoundsException" JX mc ms) (hcs : rm.cells = mc ∧ rm.slots = ms) (hrec : ∀ h, I h → ∃ t fs, h b = some (t, .inr (12, fs))) : Ct l yL_textAt wsL_textAt ({ frames := rm.frames + 1, cells := mc, slots := ms, locals := rm.locals + 21 } : Room) D (tyL cB cC cI cO cJ cD) ee [.ref b, .int (iI z1), .ref ou] (I) (fun h v9 h' => v9 = some (.int (iI 1)) ∧ JX h h') mc ms := by
  refine Ctw_of (cc := cL_textAt) (own := RL) [some (.ref b), some (.int (iI z1)), some (.ref ou), none] (by decide) rfl rfl (Nat.le_of_ble_eq_true rfl) (fun i9 v9 h9 => argL [.ref b, .int (iI z1), .ref ou] 1 rfl i9 v9 h9) ?_
  intro p e s m9 args below meth c9 h0 sz hI C hr hlk hxt
  refine V_aload2 (pc' := 1) C dL_textAt_0 rfl ?_
  refine V_iconst (pc' := 2) C dL_textAt_1 rfl ?_
  refine V_aload0 (pc' := 3) C dL_textAt_2 rfl ?_
  refine V_iload1 (pc' := 4) C dL_textAt_3 rfl ?_
  refine V_catchV (ci := 12) (n := 1) (name := "java/lang/IndexOutOfBoundsException") [.int (iI z1)] C hM gL_textAt_X7_textAt rfl ydX7_textAt ⟨by dsimp only; omega, by dsimp only; omega⟩ hcs rfl rfl (fun h hh => by subst hh; exact hrec _ hI) (fun h hh => by subst hh; exact hI) rfl (Nat.le_of_ble_eq_true rfl) dL_textAt_4 ⟨by dsimp only; omega, by dsimp only; omega⟩ [] ⟨0, 9, 12, 13⟩ [] (hxt.trans rfl) (fun z hz => by cases hz) (by decide) (by decide) (by decide +kernel) (by decide) (fun h h' hh hj9 q => ?_)
  rw [hh] at hj9
  refine V_astore3 (pc' := 13) C dL_textAt_12 rfl (by decide) rfl ?_
  refine V_iconst (pc' := 14) C dL_textAt_13 rfl ?_
  exact V_end C hr hlk (fun h2 hh2 => by subst hh2; exact ⟨rfl, hj9⟩) ⟨by omega, by omega⟩ dL_textAt_14
set_option maxHeartbeats 4000000 in
set_option maxRecDepth 100000 in
theorem kW_macroShare {I : Hp → Prop} {J : Hp → Option Value → Hp → Prop} (hM : Ct l yX7_macroShare wsX7_macroShare rm D (tyL cB cC cI cO cJ cD) ee [.ref b] I J mc ms) (hcs : rm.cells = mc ∧ rm.slots = ms) (hrec : ∀ h, I h → ∃ t fs, h b = some (t, .inr (12, fs))) (hJ : ∀ h v h', I h → J h v h' → (∃ z : UInt32, v = some (.float z) ∧ vf_n64 (FP.f2d z)) ∧ Fr T7 h h') : Ct l yL_macroShare wsL_macroShare ({ frames := rm.frames + 1, cells := mc, slots := ms, locals := rm.locals + 22 } : Room) D (tyL cB cC cI cO cJ cD) ee [.ref b, .ref ou] (fun x => I x ∧ ∃ f : Nat → UInt64, x ou = some (902, .inl (cD, 1, .inr (.inr (.inr (.inl f)))))) (fun h v9 h' => v9 = some (.int (iI 0)) ∧ ∃ (z : UInt32) (h1 : Hp) (g : Nat → UInt64), J h (some (.float z)) h1 ∧ g 0 = FP.f2d z ∧ h' = hup h1 ou (902, .inl (cD, 1, .inr (.inr (.inr (.inl g)))))) mc ms := by
  refine Ctw_of (cc := cL_macroShare) (own := RL) [some (.ref b), some (.ref ou), none] (by decide) rfl rfl (Nat.le_of_ble_eq_true rfl) (fun i9 v9 h9 => argL [.ref b, .ref ou] 1 rfl i9 v9 h9) ?_
  intro p e s m9 args below meth c9 h0 sz hI C hr hlk hxt
  obtain ⟨hI1, f0, hou⟩ := hI
  refine V_aload1 (pc' := 1) C dL_macroShare_0 rfl ?_
  refine V_iconst (pc' := 2) C dL_macroShare_1 rfl ?_
  refine V_aload0 (pc' := 3) C dL_macroShare_2 rfl ?_
  refine V_callV (ci := 12) (n := 0) [] C hM gL_macroShare_X7_macroShare rfl ydX7_macroShare ⟨by dsimp only; omega, by dsimp only; omega⟩ hcs rfl rfl (fun h hh => by subst hh; exact hrec _ hI1) (fun h hh => by subst hh; exact hI1) rfl (Nat.le_of_ble_eq_true rfl) dL_macroShare_3 ⟨by dsimp only; omega, by dsimp only; omega⟩ (fun h v9 h' hh hj9 => ?_)
  obtain ⟨⟨z9, rfl, hne9⟩, hF9⟩ := hJ h v9 h' (by rw [hh]; exact hI1) hj9
  rw [hh] at hj9 hF9
  have ho9 := hF9 _ _ _ hou (by unfold T7; omega)
  refine V_f2d (pc' := 7) C hne9 dL_macroShare_6 rfl ?_
  refine V_dast1 (pc' := 8) (I2 := fun x => ∃ g : Nat → UInt64, g 0 = FP.f2d z9 ∧ x = hup h' ou (902, .inl (cD, 1, .inr (.inr (.inr (.inl g)))))) C 5 rfl (fun x hx => by subst hx; exact ⟨902, f0, ho9, fun g hg => ⟨g, hg, rfl⟩⟩) dL_macroShare_7 rfl ?_
  refine V_goto (tgt := 14) C dL_macroShare_8 (by decide) ?_
  refine V_iconst (pc' := 15) C dL_macroShare_14 rfl ?_
  exact V_end C hr hlk (fun h2 hh2 => by obtain ⟨g, hg, rfl⟩ := hh2; exact ⟨rfl, z9, h', g, hj9, hg, rfl⟩) ⟨by omega, by omega⟩ dL_macroShare_15
set_option maxHeartbeats 4000000 in
set_option maxRecDepth 100000 in
theorem kW_macroShare_1 {I : Hp → Prop} {JX : Hp → Hp → Prop} (hM : Tx l yX7_macroShare wsX7_macroShare rm D (tyL cB cC cI cO cJ cD) ee [.ref b] I "java/lang/ArithmeticException" JX mc ms) (hcs : rm.cells = mc ∧ rm.slots = ms) (hrec : ∀ h, I h → ∃ t fs, h b = some (t, .inr (12, fs))) : Ct l yL_macroShare wsL_macroShare ({ frames := rm.frames + 1, cells := mc, slots := ms, locals := rm.locals + 22 } : Room) D (tyL cB cC cI cO cJ cD) ee [.ref b, .ref ou] (I) (fun h v9 h' => v9 = some (.int (iI 1)) ∧ JX h h') mc ms := by
  refine Ctw_of (cc := cL_macroShare) (own := RL) [some (.ref b), some (.ref ou), none] (by decide) rfl rfl (Nat.le_of_ble_eq_true rfl) (fun i9 v9 h9 => argL [.ref b, .ref ou] 1 rfl i9 v9 h9) ?_
  intro p e s m9 args below meth c9 h0 sz hI C hr hlk hxt
  refine V_aload1 (pc' := 1) C dL_macroShare_0 rfl ?_
  refine V_iconst (pc' := 2) C dL_macroShare_1 rfl ?_
  refine V_aload0 (pc' := 3) C dL_macroShare_2 rfl ?_
  refine V_catchV (ci := 12) (n := 0) (name := "java/lang/ArithmeticException") [] C hM gL_macroShare_X7_macroShare rfl ydX7_macroShare ⟨by dsimp only; omega, by dsimp only; omega⟩ hcs rfl rfl (fun h hh => by subst hh; exact hrec _ hI) (fun h hh => by subst hh; exact hI) rfl (Nat.le_of_ble_eq_true rfl) dL_macroShare_3 ⟨by dsimp only; omega, by dsimp only; omega⟩ [] ⟨0, 8, 11, 97⟩ [] (hxt.trans rfl) (fun z hz => by cases hz) (by decide) (by decide) (by decide +kernel) (by decide) (fun h h' hh hj9 q => ?_)
  rw [hh] at hj9
  refine V_astore2 (pc' := 12) C dL_macroShare_11 rfl (by decide) rfl ?_
  refine V_iconst (pc' := 13) C dL_macroShare_12 rfl ?_
  exact V_end C hr hlk (fun h2 hh2 => by subst hh2; exact ⟨rfl, hj9⟩) ⟨by omega, by omega⟩ dL_macroShare_13
set_option maxHeartbeats 4000000 in
set_option maxRecDepth 100000 in
theorem kW_meanValue {I : Hp → Prop} {J : Hp → Option Value → Hp → Prop} (hM : Ct l yX7_meanValue wsX7_meanValue rm D (tyL cB cC cI cO cJ cD) ee [.ref b] I J mc ms) (hcs : rm.cells = mc ∧ rm.slots = ms) (hrec : ∀ h, I h → ∃ t fs, h b = some (t, .inr (12, fs))) (hJ : ∀ h v h', I h → J h v h' → (∃ z : UInt64, v = some (.double z)) ∧ Fr T7 h h') : Ct l yL_meanValue wsL_meanValue ({ frames := rm.frames + 1, cells := mc, slots := ms, locals := rm.locals + 24 } : Room) D (tyL cB cC cI cO cJ cD) ee [.ref b, .ref ou] (fun x => I x ∧ ∃ f : Nat → UInt64, x ou = some (902, .inl (cD, 1, .inr (.inr (.inr (.inl f)))))) (fun h v9 h' => v9 = some (.int (iI 0)) ∧ ∃ (z : UInt64) (h1 : Hp) (g : Nat → UInt64), J h (some (.double z)) h1 ∧ g 0 = z ∧ h' = hup h1 ou (902, .inl (cD, 1, .inr (.inr (.inr (.inl g)))))) mc ms := by
  refine Ctw_of (cc := cL_meanValue) (own := RL) [some (.ref b), some (.ref ou), none] (by decide) rfl rfl (Nat.le_of_ble_eq_true rfl) (fun i9 v9 h9 => argL [.ref b, .ref ou] 1 rfl i9 v9 h9) ?_
  intro p e s m9 args below meth c9 h0 sz hI C hr hlk hxt
  obtain ⟨hI1, f0, hou⟩ := hI
  refine V_aload1 (pc' := 1) C dL_meanValue_0 rfl ?_
  refine V_iconst (pc' := 2) C dL_meanValue_1 rfl ?_
  refine V_aload0 (pc' := 3) C dL_meanValue_2 rfl ?_
  refine V_callV (ci := 12) (n := 0) [] C hM gL_meanValue_X7_meanValue rfl ydX7_meanValue ⟨by dsimp only; omega, by dsimp only; omega⟩ hcs rfl rfl (fun h hh => by subst hh; exact hrec _ hI1) (fun h hh => by subst hh; exact hI1) rfl (Nat.le_of_ble_eq_true rfl) dL_meanValue_3 ⟨by dsimp only; omega, by dsimp only; omega⟩ (fun h v9 h' hh hj9 => ?_)
  obtain ⟨⟨z9, rfl⟩, hF9⟩ := hJ h v9 h' (by rw [hh]; exact hI1) hj9
  rw [hh] at hj9 hF9
  have ho9 := hF9 _ _ _ hou (by unfold T7; omega)
  refine V_dast1 (pc' := 7) (I2 := fun x => ∃ g : Nat → UInt64, g 0 = z9 ∧ x = hup h' ou (902, .inl (cD, 1, .inr (.inr (.inr (.inl g)))))) C 5 rfl (fun x hx => by subst hx; exact ⟨902, f0, ho9, fun g hg => ⟨g, hg, rfl⟩⟩) dL_meanValue_6 rfl ?_
  refine V_goto (tgt := 13) C dL_meanValue_7 (by decide) ?_
  refine V_iconst (pc' := 14) C dL_meanValue_13 rfl ?_
  exact V_end C hr hlk (fun h2 hh2 => by obtain ⟨g, hg, rfl⟩ := hh2; exact ⟨rfl, z9, h', g, hj9, hg, rfl⟩) ⟨by omega, by omega⟩ dL_meanValue_14
set_option maxHeartbeats 4000000 in
set_option maxRecDepth 100000 in
theorem kW_meanValue_1 {I : Hp → Prop} {JX : Hp → Hp → Prop} (hM : Tx l yX7_meanValue wsX7_meanValue rm D (tyL cB cC cI cO cJ cD) ee [.ref b] I "java/lang/ArithmeticException" JX mc ms) (hcs : rm.cells = mc ∧ rm.slots = ms) (hrec : ∀ h, I h → ∃ t fs, h b = some (t, .inr (12, fs))) : Ct l yL_meanValue wsL_meanValue ({ frames := rm.frames + 1, cells := mc, slots := ms, locals := rm.locals + 24 } : Room) D (tyL cB cC cI cO cJ cD) ee [.ref b, .ref ou] (I) (fun h v9 h' => v9 = some (.int (iI 1)) ∧ JX h h') mc ms := by
  refine Ctw_of (cc := cL_meanValue) (own := RL) [some (.ref b), some (.ref ou), none] (by decide) rfl rfl (Nat.le_of_ble_eq_true rfl) (fun i9 v9 h9 => argL [.ref b, .ref ou] 1 rfl i9 v9 h9) ?_
  intro p e s m9 args below meth c9 h0 sz hI C hr hlk hxt
  refine V_aload1 (pc' := 1) C dL_meanValue_0 rfl ?_
  refine V_iconst (pc' := 2) C dL_meanValue_1 rfl ?_
  refine V_aload0 (pc' := 3) C dL_meanValue_2 rfl ?_
  refine V_catchV (ci := 12) (n := 0) (name := "java/lang/ArithmeticException") [] C hM gL_meanValue_X7_meanValue rfl ydX7_meanValue ⟨by dsimp only; omega, by dsimp only; omega⟩ hcs rfl rfl (fun h hh => by subst hh; exact hrec _ hI) (fun h hh => by subst hh; exact hI) rfl (Nat.le_of_ble_eq_true rfl) dL_meanValue_3 ⟨by dsimp only; omega, by dsimp only; omega⟩ [] ⟨0, 7, 10, 97⟩ [] (hxt.trans rfl) (fun z hz => by cases hz) (by decide) (by decide) (by decide +kernel) (by decide) (fun h h' hh hj9 q => ?_)
  rw [hh] at hj9
  refine V_astore2 (pc' := 11) C dL_meanValue_10 rfl (by decide) rfl ?_
  refine V_iconst (pc' := 12) C dL_meanValue_11 rfl ?_
  exact V_end C hr hlk (fun h2 hh2 => by subst hh2; exact ⟨rfl, hj9⟩) ⟨by omega, by omega⟩ dL_meanValue_12
end

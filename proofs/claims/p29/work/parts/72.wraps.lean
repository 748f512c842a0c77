/-! the law: its calls of the class, each behind its handlers -/
/-- the double that tells that meanValue throws -/
def CM9 : UInt64 := 13919350198670196736

section
variable {l : Launch} {D : va_G} {cB cC cI cO cJ cD : ClassId} {ee : Nat × Nat} {b mc ms : Nat} {rm : Room}
set_option maxHeartbeats 4000000 in
set_option maxRecDepth 100000 in
theorem kW_set {z1 : Int} {z2 : Int} {z3 : Int} {I : Hp → Prop} {J : Hp → Option Value → Hp → Prop} (hM : Ct l yX7_set wsX7_set rm D (tyL cB cC cI cO cJ cD) ee [.ref b, .int (iI z1), .int (iI z2), .int (iI z3)] I J mc ms) (hcs : rm.cells = mc ∧ rm.slots = ms) (hrec : ∀ h, I h → ∃ t fs, h b = some (t, .inr (12, fs))) (hJ : ∀ h v h', I h → J h v h' → ∃ z : Int, v = some (.int (iI z))) : Ct l yL_set wsL_set ({ frames := rm.frames + 1, cells := mc, slots := ms, locals := rm.locals + 23 } : Room) D (tyL cB cC cI cO cJ cD) ee [.ref b, .int (iI z1), .int (iI z2), .int (iI z3)] (I) (J) mc ms := by
  refine Ctw_of (cc := cL_set) (own := RL) [some (.ref b), some (.int (iI z1)), some (.int (iI z2)), some (.int (iI z3)), none] (by decide) rfl rfl (Nat.le_of_ble_eq_true rfl) (fun i9 v9 h9 => argL [.ref b, .int (iI z1), .int (iI z2), .int (iI z3)] 1 rfl i9 v9 h9) ?_
  intro p e s m9 args below meth c9 h0 sz hI C hr hlk hxt
  refine V_aload0 (pc' := 1) C dL_set_0 rfl ?_
  refine V_iload1 (pc' := 2) C dL_set_1 rfl ?_
  refine V_iload2 (pc' := 3) C dL_set_2 rfl ?_
  refine V_iload3 (pc' := 4) C dL_set_3 rfl ?_
  refine V_callV (ci := 12) (n := 3) [.int (iI z1), .int (iI z2), .int (iI z3)] C hM gL_set_X7_set rfl ydX7_set ⟨by dsimp only; omega, by dsimp only; omega⟩ hcs rfl rfl (fun h hh => by subst hh; exact hrec _ hI) (fun h hh => by subst hh; exact hI) rfl (Nat.le_of_ble_eq_true rfl) dL_set_4 ⟨by dsimp only; omega, by dsimp only; omega⟩ (fun h v9 h' hh hj9 => ?_)
  rw [hh] at hj9
  obtain ⟨z9, rfl⟩ := hJ h0 v9 h' hI hj9
  exact V_end C hr hlk (fun h2 hh2 => by subst hh2; exact hj9) ⟨by omega, by omega⟩ dL_set_7
set_option maxHeartbeats 4000000 in
set_option maxRecDepth 100000 in
theorem kW_set_1 {z1 : Int} {z2 : Int} {z3 : Int} {I : Hp → Prop} {JX : Hp → Hp → Prop} (hM : Tx l yX7_set wsX7_set rm D (tyL cB cC cI cO cJ cD) ee [.ref b, .int (iI z1), .int (iI z2), .int (iI z3)] I "java/lang/IndexOutOfBoundsException" JX mc ms) (hcs : rm.cells = mc ∧ rm.slots = ms) (hrec : ∀ h, I h → ∃ t fs, h b = some (t, .inr (12, fs))) : Ct l yL_set wsL_set ({ frames := rm.frames + 1, cells := mc, slots := ms, locals := rm.locals + 23 } : Room) D (tyL cB cC cI cO cJ cD) ee [.ref b, .int (iI z1), .int (iI z2), .int (iI z3)] (I) (fun h v9 h' => v9 = some (.int (iI (-900001))) ∧ JX h h') mc ms := by
  refine Ctw_of (cc := cL_set) (own := RL) [some (.ref b), some (.int (iI z1)), some (.int (iI z2)), some (.int (iI z3)), none] (by decide) rfl rfl (Nat.le_of_ble_eq_true rfl) (fun i9 v9 h9 => argL [.ref b, .int (iI z1), .int (iI z2), .int (iI z3)] 1 rfl i9 v9 h9) ?_
  intro p e s m9 args below meth c9 h0 sz hI C hr hlk hxt
  refine V_aload0 (pc' := 1) C dL_set_0 rfl ?_
  refine V_iload1 (pc' := 2) C dL_set_1 rfl ?_
  refine V_iload2 (pc' := 3) C dL_set_2 rfl ?_
  refine V_iload3 (pc' := 4) C dL_set_3 rfl ?_
  refine V_catchV (ci := 12) (n := 3) (name := "java/lang/IndexOutOfBoundsException") [.int (iI z1), .int (iI z2), .int (iI z3)] C hM gL_set_X7_set rfl ydX7_set ⟨by dsimp only; omega, by dsimp only; omega⟩ hcs rfl rfl (fun h hh => by subst hh; exact hrec _ hI) (fun h hh => by subst hh; exact hI) rfl (Nat.le_of_ble_eq_true rfl) dL_set_4 ⟨by dsimp only; omega, by dsimp only; omega⟩ [] ⟨0, 7, 8, 15⟩ [⟨0, 7, 13, 18⟩] (hxt.trans rfl) (fun z hz => by cases hz) (by decide) (by decide) (by decide +kernel) (by decide) (fun h h' hh hj9 q => ?_)
  rw [hh] at hj9
  refine V_astore4 (pc' := 10) C dL_set_8 rfl (by decide) rfl ?_
  refine V_ldc (pc' := 12) (n := (-900001)) (v := (-900001)) C (by decide +kernel) dL_set_10 rfl (by decide) ?_
  exact V_end C hr hlk (fun h2 hh2 => by subst hh2; exact ⟨rfl, hj9⟩) ⟨by omega, by omega⟩ dL_set_12
set_option maxHeartbeats 4000000 in
set_option maxRecDepth 100000 in
theorem kW_set_2 {z1 : Int} {z2 : Int} {z3 : Int} {I : Hp → Prop} {JX : Hp → Hp → Prop} (hM : Tx l yX7_set wsX7_set rm D (tyL cB cC cI cO cJ cD) ee [.ref b, .int (iI z1), .int (iI z2), .int (iI z3)] I "java/lang/IllegalArgumentException" JX mc ms) (hcs : rm.cells = mc ∧ rm.slots = ms) (hrec : ∀ h, I h → ∃ t fs, h b = some (t, .inr (12, fs))) : Ct l yL_set wsL_set ({ frames := rm.frames + 1, cells := mc, slots := ms, locals := rm.locals + 23 } : Room) D (tyL cB cC cI cO cJ cD) ee [.ref b, .int (iI z1), .int (iI z2), .int (iI z3)] (I) (fun h v9 h' => v9 = some (.int (iI (-900002))) ∧ JX h h') mc ms := by
  refine Ctw_of (cc := cL_set) (own := RL) [some (.ref b), some (.int (iI z1)), some (.int (iI z2)), some (.int (iI z3)), none] (by decide) rfl rfl (Nat.le_of_ble_eq_true rfl) (fun i9 v9 h9 => argL [.ref b, .int (iI z1), .int (iI z2), .int (iI z3)] 1 rfl i9 v9 h9) ?_
  intro p e s m9 args below meth c9 h0 sz hI C hr hlk hxt
  refine V_aload0 (pc' := 1) C dL_set_0 rfl ?_
  refine V_iload1 (pc' := 2) C dL_set_1 rfl ?_
  refine V_iload2 (pc' := 3) C dL_set_2 rfl ?_
  refine V_iload3 (pc' := 4) C dL_set_3 rfl ?_
  refine V_catchV (ci := 12) (n := 3) (name := "java/lang/IllegalArgumentException") [.int (iI z1), .int (iI z2), .int (iI z3)] C hM gL_set_X7_set rfl ydX7_set ⟨by dsimp only; omega, by dsimp only; omega⟩ hcs rfl rfl (fun h hh => by subst hh; exact hrec _ hI) (fun h hh => by subst hh; exact hI) rfl (Nat.le_of_ble_eq_true rfl) dL_set_4 ⟨by dsimp only; omega, by dsimp only; omega⟩ [⟨0, 7, 8, 15⟩] ⟨0, 7, 13, 18⟩ [] (hxt.trans rfl) (fun z hz => by
        rcases List.mem_singleton.mp hz with rfl
        exact Or.inr ⟨by decide, "java/lang/IndexOutOfBoundsException", by decide +kernel, by decide⟩) (by decide) (by decide) (by decide +kernel) (by decide) (fun h h' hh hj9 q => ?_)
  rw [hh] at hj9
  refine V_astore4 (pc' := 15) C dL_set_13 rfl (by decide) rfl ?_
  refine V_ldc (pc' := 17) (n := (-900002)) (v := (-900002)) C (by decide +kernel) dL_set_15 rfl (by decide) ?_
  exact V_end C hr hlk (fun h2 hh2 => by subst hh2; exact ⟨rfl, hj9⟩) ⟨by omega, by omega⟩ dL_set_17
set_option maxHeartbeats 4000000 in
set_option maxRecDepth 100000 in
theorem kW_add {z1 : Int} {z2 : Int} {z3 : Int} {I : Hp → Prop} {J : Hp → Option Value → Hp → Prop} (hM : Ct l yX7_add wsX7_add rm D (tyL cB cC cI cO cJ cD) ee [.ref b, .int (iI z1), .int (iI z2), .int (iI z3)] I J mc ms) (hcs : rm.cells = mc ∧ rm.slots = ms) (hrec : ∀ h, I h → ∃ t fs, h b = some (t, .inr (12, fs))) (hJ : ∀ h v h', I h → J h v h' → ∃ z : Int, v = some (.int (iI z))) : Ct l yL_add wsL_add ({ frames := rm.frames + 1, cells := mc, slots := ms, locals := rm.locals + 23 } : Room) D (tyL cB cC cI cO cJ cD) ee [.ref b, .int (iI z1), .int (iI z2), .int (iI z3)] (I) (J) mc ms := by
  refine Ctw_of (cc := cL_add) (own := RL) [some (.ref b), some (.int (iI z1)), some (.int (iI z2)), some (.int (iI z3)), none] (by decide) rfl rfl (Nat.le_of_ble_eq_true rfl) (fun i9 v9 h9 => argL [.ref b, .int (iI z1), .int (iI z2), .int (iI z3)] 1 rfl i9 v9 h9) ?_
  intro p e s m9 args below meth c9 h0 sz hI C hr hlk hxt
  refine V_aload0 (pc' := 1) C dL_add_0 rfl ?_
  refine V_iload1 (pc' := 2) C dL_add_1 rfl ?_
  refine V_iload2 (pc' := 3) C dL_add_2 rfl ?_
  refine V_iload3 (pc' := 4) C dL_add_3 rfl ?_
  refine V_callV (ci := 12) (n := 3) [.int (iI z1), .int (iI z2), .int (iI z3)] C hM gL_add_X7_add rfl ydX7_add ⟨by dsimp only; omega, by dsimp only; omega⟩ hcs rfl rfl (fun h hh => by subst hh; exact hrec _ hI) (fun h hh => by subst hh; exact hI) rfl (Nat.le_of_ble_eq_true rfl) dL_add_4 ⟨by dsimp only; omega, by dsimp only; omega⟩ (fun h v9 h' hh hj9 => ?_)
  rw [hh] at hj9
  obtain ⟨z9, rfl⟩ := hJ h0 v9 h' hI hj9
  exact V_end C hr hlk (fun h2 hh2 => by subst hh2; exact hj9) ⟨by omega, by omega⟩ dL_add_7
set_option maxHeartbeats 4000000 in
set_option maxRecDepth 100000 in
theorem kW_add_1 {z1 : Int} {z2 : Int} {z3 : Int} {I : Hp → Prop} {JX : Hp → Hp → Prop} (hM : Tx l yX7_add wsX7_add rm D (tyL cB cC cI cO cJ cD) ee [.ref b, .int (iI z1), .int (iI z2), .int (iI z3)] I "java/lang/IndexOutOfBoundsException" JX mc ms) (hcs : rm.cells = mc ∧ rm.slots = ms) (hrec : ∀ h, I h → ∃ t fs, h b = some (t, .inr (12, fs))) : Ct l yL_add wsL_add ({ frames := rm.frames + 1, cells := mc, slots := ms, locals := rm.locals + 23 } : Room) D (tyL cB cC cI cO cJ cD) ee [.ref b, .int (iI z1), .int (iI z2), .int (iI z3)] (I) (fun h v9 h' => v9 = some (.int (iI (-900001))) ∧ JX h h') mc ms := by
  refine Ctw_of (cc := cL_add) (own := RL) [some (.ref b), some (.int (iI z1)), some (.int (iI z2)), some (.int (iI z3)), none] (by decide) rfl rfl (Nat.le_of_ble_eq_true rfl) (fun i9 v9 h9 => argL [.ref b, .int (iI z1), .int (iI z2), .int (iI z3)] 1 rfl i9 v9 h9) ?_
  intro p e s m9 args below meth c9 h0 sz hI C hr hlk hxt
  refine V_aload0 (pc' := 1) C dL_add_0 rfl ?_
  refine V_iload1 (pc' := 2) C dL_add_1 rfl ?_
  refine V_iload2 (pc' := 3) C dL_add_2 rfl ?_
  refine V_iload3 (pc' := 4) C dL_add_3 rfl ?_
  refine V_catchV (ci := 12) (n := 3) (name := "java/lang/IndexOutOfBoundsException") [.int (iI z1), .int (iI z2), .int (iI z3)] C hM gL_add_X7_add rfl ydX7_add ⟨by dsimp only; omega, by dsimp only; omega⟩ hcs rfl rfl (fun h hh => by subst hh; exact hrec _ hI) (fun h hh => by subst hh; exact hI) rfl (Nat.le_of_ble_eq_true rfl) dL_add_4 ⟨by dsimp only; omega, by dsimp only; omega⟩ [] ⟨0, 7, 8, 15⟩ [⟨0, 7, 13, 18⟩] (hxt.trans rfl) (fun z hz => by cases hz) (by decide) (by decide) (by decide +kernel) (by decide) (fun h h' hh hj9 q => ?_)
  rw [hh] at hj9
  refine V_astore4 (pc' := 10) C dL_add_8 rfl (by decide) rfl ?_
  refine V_ldc (pc' := 12) (n := (-900001)) (v := (-900001)) C (by decide +kernel) dL_add_10 rfl (by decide) ?_
  exact V_end C hr hlk (fun h2 hh2 => by subst hh2; exact ⟨rfl, hj9⟩) ⟨by omega, by omega⟩ dL_add_12
set_option maxHeartbeats 4000000 in
set_option maxRecDepth 100000 in
theorem kW_add_2 {z1 : Int} {z2 : Int} {z3 : Int} {I : Hp → Prop} {JX : Hp → Hp → Prop} (hM : Tx l yX7_add wsX7_add rm D (tyL cB cC cI cO cJ cD) ee [.ref b, .int (iI z1), .int (iI z2), .int (iI z3)] I "java/lang/IllegalArgumentException" JX mc ms) (hcs : rm.cells = mc ∧ rm.slots = ms) (hrec : ∀ h, I h → ∃ t fs, h b = some (t, .inr (12, fs))) : Ct l yL_add wsL_add ({ frames := rm.frames + 1, cells := mc, slots := ms, locals := rm.locals + 23 } : Room) D (tyL cB cC cI cO cJ cD) ee [.ref b, .int (iI z1), .int (iI z2), .int (iI z3)] (I) (fun h v9 h' => v9 = some (.int (iI (-900002))) ∧ JX h h') mc ms := by
  refine Ctw_of (cc := cL_add) (own := RL) [some (.ref b), some (.int (iI z1)), some (.int (iI z2)), some (.int (iI z3)), none] (by decide) rfl rfl (Nat.le_of_ble_eq_true rfl) (fun i9 v9 h9 => argL [.ref b, .int (iI z1), .int (iI z2), .int (iI z3)] 1 rfl i9 v9 h9) ?_
  intro p e s m9 args below meth c9 h0 sz hI C hr hlk hxt
  refine V_aload0 (pc' := 1) C dL_add_0 rfl ?_
  refine V_iload1 (pc' := 2) C dL_add_1 rfl ?_
  refine V_iload2 (pc' := 3) C dL_add_2 rfl ?_
  refine V_iload3 (pc' := 4) C dL_add_3 rfl ?_
  refine V_catchV (ci := 12) (n := 3) (name := "java/lang/IllegalArgumentException") [.int (iI z1), .int (iI z2), .int (iI z3)] C hM gL_add_X7_add rfl ydX7_add ⟨by dsimp only; omega, by dsimp only; omega⟩ hcs rfl rfl (fun h hh => by subst hh; exact hrec _ hI) (fun h hh => by subst hh; exact hI) rfl (Nat.le_of_ble_eq_true rfl) dL_add_4 ⟨by dsimp only; omega, by dsimp only; omega⟩ [⟨0, 7, 8, 15⟩] ⟨0, 7, 13, 18⟩ [] (hxt.trans rfl) (fun z hz => by
        rcases List.mem_singleton.mp hz with rfl
        exact Or.inr ⟨by decide, "java/lang/IndexOutOfBoundsException", by decide +kernel, by decide⟩) (by decide) (by decide) (by decide +kernel) (by decide) (fun h h' hh hj9 q => ?_)
  rw [hh] at hj9
  refine V_astore4 (pc' := 15) C dL_add_13 rfl (by decide) rfl ?_
  refine V_ldc (pc' := 17) (n := (-900002)) (v := (-900002)) C (by decide +kernel) dL_add_15 rfl (by decide) ?_
  exact V_end C hr hlk (fun h2 hh2 => by subst hh2; exact ⟨rfl, hj9⟩) ⟨by omega, by omega⟩ dL_add_17
set_option maxHeartbeats 4000000 in
set_option maxRecDepth 100000 in
theorem kW_copyBase {z1 : Int} {z2 : Int} {I : Hp → Prop} {J : Hp → Option Value → Hp → Prop} (hM : Ct l yX7_copyBase wsX7_copyBase rm D (tyL cB cC cI cO cJ cD) ee [.ref b, .int (iI z1), .int (iI z2)] I J mc ms) (hcs : rm.cells = mc ∧ rm.slots = ms) (hrec : ∀ h, I h → ∃ t fs, h b = some (t, .inr (12, fs))) (hJ : ∀ h v h', I h → J h v h' → ∃ z : Int, v = some (.int (iI z))) : Ct l yL_copyBase wsL_copyBase ({ frames := rm.frames + 1, cells := mc, slots := ms, locals := rm.locals + 22 } : Room) D (tyL cB cC cI cO cJ cD) ee [.ref b, .int (iI z1), .int (iI z2)] (I) (J) mc ms := by
  refine Ctw_of (cc := cL_copyBase) (own := RL) [some (.ref b), some (.int (iI z1)), some (.int (iI z2)), none] (by decide) rfl rfl (Nat.le_of_ble_eq_true rfl) (fun i9 v9 h9 => argL [.ref b, .int (iI z1), .int (iI z2)] 1 rfl i9 v9 h9) ?_
  intro p e s m9 args below meth c9 h0 sz hI C hr hlk hxt
  refine V_aload0 (pc' := 1) C dL_copyBase_0 rfl ?_
  refine V_iload1 (pc' := 2) C dL_copyBase_1 rfl ?_
  refine V_iload2 (pc' := 3) C dL_copyBase_2 rfl ?_
  refine V_callV (ci := 12) (n := 2) [.int (iI z1), .int (iI z2)] C hM gL_copyBase_X7_copyBase rfl ydX7_copyBase ⟨by dsimp only; omega, by dsimp only; omega⟩ hcs rfl rfl (fun h hh => by subst hh; exact hrec _ hI) (fun h hh => by subst hh; exact hI) rfl (Nat.le_of_ble_eq_true rfl) dL_copyBase_3 ⟨by dsimp only; omega, by dsimp only; omega⟩ (fun h v9 h' hh hj9 => ?_)
  rw [hh] at hj9
  obtain ⟨z9, rfl⟩ := hJ h0 v9 h' hI hj9
  exact V_end C hr hlk (fun h2 hh2 => by subst hh2; exact hj9) ⟨by omega, by omega⟩ dL_copyBase_6
set_option maxHeartbeats 4000000 in
set_option maxRecDepth 100000 in
theorem kW_copyBase_1 {z1 : Int} {z2 : Int} {I : Hp → Prop} {JX : Hp → Hp → Prop} (hM : Tx l yX7_copyBase wsX7_copyBase rm D (tyL cB cC cI cO cJ cD) ee [.ref b, .int (iI z1), .int (iI z2)] I "java/lang/IndexOutOfBoundsException" JX mc ms) (hcs : rm.cells = mc ∧ rm.slots = ms) (hrec : ∀ h, I h → ∃ t fs, h b = some (t, .inr (12, fs))) : Ct l yL_copyBase wsL_copyBase ({ frames := rm.frames + 1, cells := mc, slots := ms, locals := rm.locals + 22 } : Room) D (tyL cB cC cI cO cJ cD) ee [.ref b, .int (iI z1), .int (iI z2)] (I) (fun h v9 h' => v9 = some (.int (iI (-900001))) ∧ JX h h') mc ms := by
  refine Ctw_of (cc := cL_copyBase) (own := RL) [some (.ref b), some (.int (iI z1)), some (.int (iI z2)), none] (by decide) rfl rfl (Nat.le_of_ble_eq_true rfl) (fun i9 v9 h9 => argL [.ref b, .int (iI z1), .int (iI z2)] 1 rfl i9 v9 h9) ?_
  intro p e s m9 args below meth c9 h0 sz hI C hr hlk hxt
  refine V_aload0 (pc' := 1) C dL_copyBase_0 rfl ?_
  refine V_iload1 (pc' := 2) C dL_copyBase_1 rfl ?_
  refine V_iload2 (pc' := 3) C dL_copyBase_2 rfl ?_
  refine V_catchV (ci := 12) (n := 2) (name := "java/lang/IndexOutOfBoundsException") [.int (iI z1), .int (iI z2)] C hM gL_copyBase_X7_copyBase rfl ydX7_copyBase ⟨by dsimp only; omega, by dsimp only; omega⟩ hcs rfl rfl (fun h hh => by subst hh; exact hrec _ hI) (fun h hh => by subst hh; exact hI) rfl (Nat.le_of_ble_eq_true rfl) dL_copyBase_3 ⟨by dsimp only; omega, by dsimp only; omega⟩ [] ⟨0, 6, 7, 15⟩ [⟨0, 6, 11, 28⟩] (hxt.trans rfl) (fun z hz => by cases hz) (by decide) (by decide) (by decide +kernel) (by decide) (fun h h' hh hj9 q => ?_)
  rw [hh] at hj9
  refine V_astore3 (pc' := 8) C dL_copyBase_7 rfl (by decide) rfl ?_
  refine V_ldc (pc' := 10) (n := (-900001)) (v := (-900001)) C (by decide +kernel) dL_copyBase_8 rfl (by decide) ?_
  exact V_end C hr hlk (fun h2 hh2 => by subst hh2; exact ⟨rfl, hj9⟩) ⟨by omega, by omega⟩ dL_copyBase_10
set_option maxHeartbeats 4000000 in
set_option maxRecDepth 100000 in
theorem kW_copyBase_2 {z1 : Int} {z2 : Int} {I : Hp → Prop} {JX : Hp → Hp → Prop} (hM : Tx l yX7_copyBase wsX7_copyBase rm D (tyL cB cC cI cO cJ cD) ee [.ref b, .int (iI z1), .int (iI z2)] I "java/lang/IllegalStateException" JX mc ms) (hcs : rm.cells = mc ∧ rm.slots = ms) (hrec : ∀ h, I h → ∃ t fs, h b = some (t, .inr (12, fs))) : Ct l yL_copyBase wsL_copyBase ({ frames := rm.frames + 1, cells := mc, slots := ms, locals := rm.locals + 22 } : Room) D (tyL cB cC cI cO cJ cD) ee [.ref b, .int (iI z1), .int (iI z2)] (I) (fun h v9 h' => v9 = some (.int (iI (-900002))) ∧ JX h h') mc ms := by
  refine Ctw_of (cc := cL_copyBase) (own := RL) [some (.ref b), some (.int (iI z1)), some (.int (iI z2)), none] (by decide) rfl rfl (Nat.le_of_ble_eq_true rfl) (fun i9 v9 h9 => argL [.ref b, .int (iI z1), .int (iI z2)] 1 rfl i9 v9 h9) ?_
  intro p e s m9 args below meth c9 h0 sz hI C hr hlk hxt
  refine V_aload0 (pc' := 1) C dL_copyBase_0 rfl ?_
  refine V_iload1 (pc' := 2) C dL_copyBase_1 rfl ?_
  refine V_iload2 (pc' := 3) C dL_copyBase_2 rfl ?_
  refine V_catchV (ci := 12) (n := 2) (name := "java/lang/IllegalStateException") [.int (iI z1), .int (iI z2)] C hM gL_copyBase_X7_copyBase rfl ydX7_copyBase ⟨by dsimp only; omega, by dsimp only; omega⟩ hcs rfl rfl (fun h hh => by subst hh; exact hrec _ hI) (fun h hh => by subst hh; exact hI) rfl (Nat.le_of_ble_eq_true rfl) dL_copyBase_3 ⟨by dsimp only; omega, by dsimp only; omega⟩ [⟨0, 6, 7, 15⟩] ⟨0, 6, 11, 28⟩ [] (hxt.trans rfl) (fun z hz => by
        rcases List.mem_singleton.mp hz with rfl
        exact Or.inr ⟨by decide, "java/lang/IndexOutOfBoundsException", by decide +kernel, by decide⟩) (by decide) (by decide) (by decide +kernel) (by decide) (fun h h' hh hj9 q => ?_)
  rw [hh] at hj9
  refine V_astore3 (pc' := 12) C dL_copyBase_11 rfl (by decide) rfl ?_
  refine V_ldc (pc' := 14) (n := (-900002)) (v := (-900002)) C (by decide +kernel) dL_copyBase_12 rfl (by decide) ?_
  exact V_end C hr hlk (fun h2 hh2 => by subst hh2; exact ⟨rfl, hj9⟩) ⟨by omega, by omega⟩ dL_copyBase_14
set_option maxHeartbeats 4000000 in
set_option maxRecDepth 100000 in
theorem kW_cell_ {z1 : Int} {z2 : Int} {I : Hp → Prop} {J : Hp → Option Value → Hp → Prop} (hM : Ct l yX7_cell wsX7_cell rm D (tyL cB cC cI cO cJ cD) ee [.ref b, .int (iI z1), .int (iI z2)] I J mc ms) (hcs : rm.cells = mc ∧ rm.slots = ms) (hrec : ∀ h, I h → ∃ t fs, h b = some (t, .inr (12, fs))) (hJ : ∀ h v h', I h → J h v h' → ∃ z : Int, v = some (.int (iI z))) : Ct l yL_cell_ wsL_cell_ ({ frames := rm.frames + 1, cells := mc, slots := ms, locals := rm.locals + 22 } : Room) D (tyL cB cC cI cO cJ cD) ee [.ref b, .int (iI z1), .int (iI z2)] (I) (J) mc ms := by
  refine Ctw_of (cc := cL_cell_) (own := RL) [some (.ref b), some (.int (iI z1)), some (.int (iI z2)), none] (by decide) rfl rfl (Nat.le_of_ble_eq_true rfl) (fun i9 v9 h9 => argL [.ref b, .int (iI z1), .int (iI z2)] 1 rfl i9 v9 h9) ?_
  intro p e s m9 args below meth c9 h0 sz hI C hr hlk hxt
  refine V_aload0 (pc' := 1) C dL_cell__0 rfl ?_
  refine V_iload1 (pc' := 2) C dL_cell__1 rfl ?_
  refine V_iload2 (pc' := 3) C dL_cell__2 rfl ?_
  refine V_callV (ci := 12) (n := 2) [.int (iI z1), .int (iI z2)] C hM gL_cell__X7_cell rfl ydX7_cell ⟨by dsimp only; omega, by dsimp only; omega⟩ hcs rfl rfl (fun h hh => by subst hh; exact hrec _ hI) (fun h hh => by subst hh; exact hI) rfl (Nat.le_of_ble_eq_true rfl) dL_cell__3 ⟨by dsimp only; omega, by dsimp only; omega⟩ (fun h v9 h' hh hj9 => ?_)
  rw [hh] at hj9
  obtain ⟨z9, rfl⟩ := hJ h0 v9 h' hI hj9
  exact V_end C hr hlk (fun h2 hh2 => by subst hh2; exact hj9) ⟨by omega, by omega⟩ dL_cell__6
set_option maxHeartbeats 4000000 in
set_option maxRecDepth 100000 in
theorem kW_cell__1 {z1 : Int} {z2 : Int} {I : Hp → Prop} {JX : Hp → Hp → Prop} (hM : Tx l yX7_cell wsX7_cell rm D (tyL cB cC cI cO cJ cD) ee [.ref b, .int (iI z1), .int (iI z2)] I "java/lang/IndexOutOfBoundsException" JX mc ms) (hcs : rm.cells = mc ∧ rm.slots = ms) (hrec : ∀ h, I h → ∃ t fs, h b = some (t, .inr (12, fs))) : Ct l yL_cell_ wsL_cell_ ({ frames := rm.frames + 1, cells := mc, slots := ms, locals := rm.locals + 22 } : Room) D (tyL cB cC cI cO cJ cD) ee [.ref b, .int (iI z1), .int (iI z2)] (I) (fun h v9 h' => v9 = some (.int (iI (-900001))) ∧ JX h h') mc ms := by
  refine Ctw_of (cc := cL_cell_) (own := RL) [some (.ref b), some (.int (iI z1)), some (.int (iI z2)), none] (by decide) rfl rfl (Nat.le_of_ble_eq_true rfl) (fun i9 v9 h9 => argL [.ref b, .int (iI z1), .int (iI z2)] 1 rfl i9 v9 h9) ?_
  intro p e s m9 args below meth c9 h0 sz hI C hr hlk hxt
  refine V_aload0 (pc' := 1) C dL_cell__0 rfl ?_
  refine V_iload1 (pc' := 2) C dL_cell__1 rfl ?_
  refine V_iload2 (pc' := 3) C dL_cell__2 rfl ?_
  refine V_catchV (ci := 12) (n := 2) (name := "java/lang/IndexOutOfBoundsException") [.int (iI z1), .int (iI z2)] C hM gL_cell__X7_cell rfl ydX7_cell ⟨by dsimp only; omega, by dsimp only; omega⟩ hcs rfl rfl (fun h hh => by subst hh; exact hrec _ hI) (fun h hh => by subst hh; exact hI) rfl (Nat.le_of_ble_eq_true rfl) dL_cell__3 ⟨by dsimp only; omega, by dsimp only; omega⟩ [] ⟨0, 6, 7, 15⟩ [] (hxt.trans rfl) (fun z hz => by cases hz) (by decide) (by decide) (by decide +kernel) (by decide) (fun h h' hh hj9 q => ?_)
  rw [hh] at hj9
  refine V_astore3 (pc' := 8) C dL_cell__7 rfl (by decide) rfl ?_
  refine V_ldc (pc' := 10) (n := (-900001)) (v := (-900001)) C (by decide +kernel) dL_cell__8 rfl (by decide) ?_
  exact V_end C hr hlk (fun h2 hh2 => by subst hh2; exact ⟨rfl, hj9⟩) ⟨by omega, by omega⟩ dL_cell__10
set_option maxHeartbeats 4000000 in
set_option maxRecDepth 100000 in
theorem kW_cellByAudit {z1 : Int} {z2 : Int} {I : Hp → Prop} {J : Hp → Option Value → Hp → Prop} (hM : Ct l yX7_cellByAudit wsX7_cellByAudit rm D (tyL cB cC cI cO cJ cD) ee [.ref b, .int (iI z1), .int (iI z2)] I J mc ms) (hcs : rm.cells = mc ∧ rm.slots = ms) (hrec : ∀ h, I h → ∃ t fs, h b = some (t, .inr (12, fs))) (hJ : ∀ h v h', I h → J h v h' → ∃ z : Int, v = some (.int (iI z))) : Ct l yL_cellByAudit wsL_cellByAudit ({ frames := rm.frames + 1, cells := mc, slots := ms, locals := rm.locals + 22 } : Room) D (tyL cB cC cI cO cJ cD) ee [.ref b, .int (iI z1), .int (iI z2)] (I) (J) mc ms := by
  refine Ctw_of (cc := cL_cellByAudit) (own := RL) [some (.ref b), some (.int (iI z1)), some (.int (iI z2)), none] (by decide) rfl rfl (Nat.le_of_ble_eq_true rfl) (fun i9 v9 h9 => argL [.ref b, .int (iI z1), .int (iI z2)] 1 rfl i9 v9 h9) ?_
  intro p e s m9 args below meth c9 h0 sz hI C hr hlk hxt
  refine V_aload0 (pc' := 1) C dL_cellByAudit_0 rfl ?_
  refine V_iload1 (pc' := 2) C dL_cellByAudit_1 rfl ?_
  refine V_iload2 (pc' := 3) C dL_cellByAudit_2 rfl ?_
  refine V_callV (ci := 12) (n := 2) [.int (iI z1), .int (iI z2)] C hM gL_cellByAudit_X7_cellByAudit rfl ydX7_cellByAudit ⟨by dsimp only; omega, by dsimp only; omega⟩ hcs rfl rfl (fun h hh => by subst hh; exact hrec _ hI) (fun h hh => by subst hh; exact hI) rfl (Nat.le_of_ble_eq_true rfl) dL_cellByAudit_3 ⟨by dsimp only; omega, by dsimp only; omega⟩ (fun h v9 h' hh hj9 => ?_)
  rw [hh] at hj9
  obtain ⟨z9, rfl⟩ := hJ h0 v9 h' hI hj9
  exact V_end C hr hlk (fun h2 hh2 => by subst hh2; exact hj9) ⟨by omega, by omega⟩ dL_cellByAudit_6
set_option maxHeartbeats 4000000 in
set_option maxRecDepth 100000 in
theorem kW_cellByAudit_1 {z1 : Int} {z2 : Int} {I : Hp → Prop} {JX : Hp → Hp → Prop} (hM : Tx l yX7_cellByAudit wsX7_cellByAudit rm D (tyL cB cC cI cO cJ cD) ee [.ref b, .int (iI z1), .int (iI z2)] I "java/lang/IndexOutOfBoundsException" JX mc ms) (hcs : rm.cells = mc ∧ rm.slots = ms) (hrec : ∀ h, I h → ∃ t fs, h b = some (t, .inr (12, fs))) : Ct l yL_cellByAudit wsL_cellByAudit ({ frames := rm.frames + 1, cells := mc, slots := ms, locals := rm.locals + 22 } : Room) D (tyL cB cC cI cO cJ cD) ee [.ref b, .int (iI z1), .int (iI z2)] (I) (fun h v9 h' => v9 = some (.int (iI (-900001))) ∧ JX h h') mc ms := by
  refine Ctw_of (cc := cL_cellByAudit) (own := RL) [some (.ref b), some (.int (iI z1)), some (.int (iI z2)), none] (by decide) rfl rfl (Nat.le_of_ble_eq_true rfl) (fun i9 v9 h9 => argL [.ref b, .int (iI z1), .int (iI z2)] 1 rfl i9 v9 h9) ?_
  intro p e s m9 args below meth c9 h0 sz hI C hr hlk hxt
  refine V_aload0 (pc' := 1) C dL_cellByAudit_0 rfl ?_
  refine V_iload1 (pc' := 2) C dL_cellByAudit_1 rfl ?_
  refine V_iload2 (pc' := 3) C dL_cellByAudit_2 rfl ?_
  refine V_catchV (ci := 12) (n := 2) (name := "java/lang/IndexOutOfBoundsException") [.int (iI z1), .int (iI z2)] C hM gL_cellByAudit_X7_cellByAudit rfl ydX7_cellByAudit ⟨by dsimp only; omega, by dsimp only; omega⟩ hcs rfl rfl (fun h hh => by subst hh; exact hrec _ hI) (fun h hh => by subst hh; exact hI) rfl (Nat.le_of_ble_eq_true rfl) dL_cellByAudit_3 ⟨by dsimp only; omega, by dsimp only; omega⟩ [] ⟨0, 6, 7, 15⟩ [] (hxt.trans rfl) (fun z hz => by cases hz) (by decide) (by decide) (by decide +kernel) (by decide) (fun h h' hh hj9 q => ?_)
  rw [hh] at hj9
  refine V_astore3 (pc' := 8) C dL_cellByAudit_7 rfl (by decide) rfl ?_
  refine V_ldc (pc' := 10) (n := (-900001)) (v := (-900001)) C (by decide +kernel) dL_cellByAudit_8 rfl (by decide) ?_
  exact V_end C hr hlk (fun h2 hh2 => by subst hh2; exact ⟨rfl, hj9⟩) ⟨by omega, by omega⟩ dL_cellByAudit_10
set_option maxHeartbeats 4000000 in
set_option maxRecDepth 100000 in
theorem kW_addMacro {I : Hp → Prop} {J : Hp → Option Value → Hp → Prop} (hM : Ct l yX7_addMacro wsX7_addMacro rm D (tyL cB cC cI cO cJ cD) ee [.ref b] I J mc ms) (hcs : rm.cells = mc ∧ rm.slots = ms) (hrec : ∀ h, I h → ∃ t fs, h b = some (t, .inr (12, fs))) (hJ : ∀ h v h', I h → J h v h' → ∃ z : Int, v = some (.int (iI z))) : Ct l yL_addMacro wsL_addMacro ({ frames := rm.frames + 1, cells := mc, slots := ms, locals := rm.locals + 21 } : Room) D (tyL cB cC cI cO cJ cD) ee [.ref b] (I) (J) mc ms := by
  refine Ctw_of (cc := cL_addMacro) (own := RL) [some (.ref b), none] (by decide) rfl rfl (Nat.le_of_ble_eq_true rfl) (fun i9 v9 h9 => argL [.ref b] 1 rfl i9 v9 h9) ?_
  intro p e s m9 args below meth c9 h0 sz hI C hr hlk hxt
  refine V_aload0 (pc' := 1) C dL_addMacro_0 rfl ?_
  refine V_callV (ci := 12) (n := 0) [] C hM gL_addMacro_X7_addMacro rfl ydX7_addMacro ⟨by dsimp only; omega, by dsimp only; omega⟩ hcs rfl rfl (fun h hh => by subst hh; exact hrec _ hI) (fun h hh => by subst hh; exact hI) rfl (Nat.le_of_ble_eq_true rfl) dL_addMacro_1 ⟨by dsimp only; omega, by dsimp only; omega⟩ (fun h v9 h' hh hj9 => ?_)
  rw [hh] at hj9
  obtain ⟨z9, rfl⟩ := hJ h0 v9 h' hI hj9
  exact V_end C hr hlk (fun h2 hh2 => by subst hh2; exact hj9) ⟨by omega, by omega⟩ dL_addMacro_4
set_option maxHeartbeats 4000000 in
set_option maxRecDepth 100000 in
theorem kW_addMacro_1 {I : Hp → Prop} {JX : Hp → Hp → Prop} (hM : Tx l yX7_addMacro wsX7_addMacro rm D (tyL cB cC cI cO cJ cD) ee [.ref b] I "java/lang/IllegalStateException" JX mc ms) (hcs : rm.cells = mc ∧ rm.slots = ms) (hrec : ∀ h, I h → ∃ t fs, h b = some (t, .inr (12, fs))) : Ct l yL_addMacro wsL_addMacro ({ frames := rm.frames + 1, cells := mc, slots := ms, locals := rm.locals + 21 } : Room) D (tyL cB cC cI cO cJ cD) ee [.ref b] (I) (fun h v9 h' => v9 = some (.int (iI (-900001))) ∧ JX h h') mc ms := by
  refine Ctw_of (cc := cL_addMacro) (own := RL) [some (.ref b), none] (by decide) rfl rfl (Nat.le_of_ble_eq_true rfl) (fun i9 v9 h9 => argL [.ref b] 1 rfl i9 v9 h9) ?_
  intro p e s m9 args below meth c9 h0 sz hI C hr hlk hxt
  refine V_aload0 (pc' := 1) C dL_addMacro_0 rfl ?_
  refine V_catchV (ci := 12) (n := 0) (name := "java/lang/IllegalStateException") [] C hM gL_addMacro_X7_addMacro rfl ydX7_addMacro ⟨by dsimp only; omega, by dsimp only; omega⟩ hcs rfl rfl (fun h hh => by subst hh; exact hrec _ hI) (fun h hh => by subst hh; exact hI) rfl (Nat.le_of_ble_eq_true rfl) dL_addMacro_1 ⟨by dsimp only; omega, by dsimp only; omega⟩ [] ⟨0, 4, 5, 28⟩ [] (hxt.trans rfl) (fun z hz => by cases hz) (by decide) (by decide) (by decide +kernel) (by decide) (fun h h' hh hj9 q => ?_)
  rw [hh] at hj9
  refine V_astore1 (pc' := 6) C dL_addMacro_5 rfl (by decide) rfl ?_
  refine V_ldc (pc' := 8) (n := (-900001)) (v := (-900001)) C (by decide +kernel) dL_addMacro_6 rfl (by decide) ?_
  exact V_end C hr hlk (fun h2 hh2 => by subst hh2; exact ⟨rfl, hj9⟩) ⟨by omega, by omega⟩ dL_addMacro_8
set_option maxHeartbeats 4000000 in
set_option maxRecDepth 100000 in
theorem kW_record {z1 : Int} {z2 : Int} {z3 : Int} {I : Hp → Prop} {J : Hp → Option Value → Hp → Prop} (hM : Ct l yX7_record wsX7_record rm D (tyL cB cC cI cO cJ cD) ee [.ref b, .int (iI z1), .int (iI z2), .int (iI z3)] I J mc ms) (hcs : rm.cells = mc ∧ rm.slots = ms) (hrec : ∀ h, I h → ∃ t fs, h b = some (t, .inr (12, fs))) (hJ : ∀ h v h', I h → J h v h' → ∃ z : Int, v = some (.int (iI z))) : Ct l yL_record wsL_record ({ frames := rm.frames + 1, cells := mc, slots := ms, locals := rm.locals + 25 } : Room) D (tyL cB cC cI cO cJ cD) ee [.ref b, .int (iI z1), .int (iI z2), .int (iI z3)] (I) (J) mc ms := by
  refine Ctw_of (cc := cL_record) (own := RL) [some (.ref b), some (.int (iI z1)), some (.int (iI z2)), some (.int (iI z3)), none] (by decide) rfl rfl (Nat.le_of_ble_eq_true rfl) (fun i9 v9 h9 => argL [.ref b, .int (iI z1), .int (iI z2), .int (iI z3)] 1 rfl i9 v9 h9) ?_
  intro p e s m9 args below meth c9 h0 sz hI C hr hlk hxt
  refine V_aload0 (pc' := 1) C dL_record_0 rfl ?_
  refine V_iload1 (pc' := 2) C dL_record_1 rfl ?_
  refine V_iload2 (pc' := 3) C dL_record_2 rfl ?_
  refine V_iload3 (pc' := 4) C dL_record_3 rfl ?_
  refine V_callV (ci := 12) (n := 3) [.int (iI z1), .int (iI z2), .int (iI z3)] C hM gL_record_X7_record rfl ydX7_record ⟨by dsimp only; omega, by dsimp only; omega⟩ hcs rfl rfl (fun h hh => by subst hh; exact hrec _ hI) (fun h hh => by subst hh; exact hI) rfl (Nat.le_of_ble_eq_true rfl) dL_record_4 ⟨by dsimp only; omega, by dsimp only; omega⟩ (fun h v9 h' hh hj9 => ?_)
  rw [hh] at hj9
  obtain ⟨z9, rfl⟩ := hJ h0 v9 h' hI hj9
  exact V_end C hr hlk (fun h2 hh2 => by subst hh2; exact hj9) ⟨by omega, by omega⟩ dL_record_7
set_option maxHeartbeats 4000000 in
set_option maxRecDepth 100000 in
theorem kW_record_1 {z1 : Int} {z2 : Int} {z3 : Int} {I : Hp → Prop} {JX : Hp → Hp → Prop} (hM : Tx l yX7_record wsX7_record rm D (tyL cB cC cI cO cJ cD) ee [.ref b, .int (iI z1), .int (iI z2), .int (iI z3)] I "java/lang/IndexOutOfBoundsException" JX mc ms) (hcs : rm.cells = mc ∧ rm.slots = ms) (hrec : ∀ h, I h → ∃ t fs, h b = some (t, .inr (12, fs))) : Ct l yL_record wsL_record ({ frames := rm.frames + 1, cells := mc, slots := ms, locals := rm.locals + 25 } : Room) D (tyL cB cC cI cO cJ cD) ee [.ref b, .int (iI z1), .int (iI z2), .int (iI z3)] (I) (fun h v9 h' => v9 = some (.int (iI (-900001))) ∧ JX h h') mc ms := by
  refine Ctw_of (cc := cL_record) (own := RL) [some (.ref b), some (.int (iI z1)), some (.int (iI z2)), some (.int (iI z3)), none] (by decide) rfl rfl (Nat.le_of_ble_eq_true rfl) (fun i9 v9 h9 => argL [.ref b, .int (iI z1), .int (iI z2), .int (iI z3)] 1 rfl i9 v9 h9) ?_
  intro p e s m9 args below meth c9 h0 sz hI C hr hlk hxt
  refine V_aload0 (pc' := 1) C dL_record_0 rfl ?_
  refine V_iload1 (pc' := 2) C dL_record_1 rfl ?_
  refine V_iload2 (pc' := 3) C dL_record_2 rfl ?_
  refine V_iload3 (pc' := 4) C dL_record_3 rfl ?_
  refine V_catchV (ci := 12) (n := 3) (name := "java/lang/IndexOutOfBoundsException") [.int (iI z1), .int (iI z2), .int (iI z3)] C hM gL_record_X7_record rfl ydX7_record ⟨by dsimp only; omega, by dsimp only; omega⟩ hcs rfl rfl (fun h hh => by subst hh; exact hrec _ hI) (fun h hh => by subst hh; exact hI) rfl (Nat.le_of_ble_eq_true rfl) dL_record_4 ⟨by dsimp only; omega, by dsimp only; omega⟩ [] ⟨0, 7, 8, 15⟩ [⟨0, 7, 13, 28⟩] (hxt.trans rfl) (fun z hz => by cases hz) (by decide) (by decide) (by decide +kernel) (by decide) (fun h h' hh hj9 q => ?_)
  rw [hh] at hj9
  refine V_astore4 (pc' := 10) C dL_record_8 rfl (by decide) rfl ?_
  refine V_ldc (pc' := 12) (n := (-900001)) (v := (-900001)) C (by decide +kernel) dL_record_10 rfl (by decide) ?_
  exact V_end C hr hlk (fun h2 hh2 => by subst hh2; exact ⟨rfl, hj9⟩) ⟨by omega, by omega⟩ dL_record_12
set_option maxHeartbeats 4000000 in
set_option maxRecDepth 100000 in
theorem kW_record_2 {z1 : Int} {z2 : Int} {z3 : Int} {I : Hp → Prop} {JX : Hp → Hp → Prop} (hM : Tx l yX7_record wsX7_record rm D (tyL cB cC cI cO cJ cD) ee [.ref b, .int (iI z1), .int (iI z2), .int (iI z3)] I "java/lang/IllegalStateException" JX mc ms) (hcs : rm.cells = mc ∧ rm.slots = ms) (hrec : ∀ h, I h → ∃ t fs, h b = some (t, .inr (12, fs))) : Ct l yL_record wsL_record ({ frames := rm.frames + 1, cells := mc, slots := ms, locals := rm.locals + 25 } : Room) D (tyL cB cC cI cO cJ cD) ee [.ref b, .int (iI z1), .int (iI z2), .int (iI z3)] (I) (fun h v9 h' => v9 = some (.int (iI (-900002))) ∧ JX h h') mc ms := by
  refine Ctw_of (cc := cL_record) (own := RL) [some (.ref b), some (.int (iI z1)), some (.int (iI z2)), some (.int (iI z3)), none] (by decide) rfl rfl (Nat.le_of_ble_eq_true rfl) (fun i9 v9 h9 => argL [.ref b, .int (iI z1), .int (iI z2), .int (iI z3)] 1 rfl i9 v9 h9) ?_
  intro p e s m9 args below meth c9 h0 sz hI C hr hlk hxt
  refine V_aload0 (pc' := 1) C dL_record_0 rfl ?_
  refine V_iload1 (pc' := 2) C dL_record_1 rfl ?_
  refine V_iload2 (pc' := 3) C dL_record_2 rfl ?_
  refine V_iload3 (pc' := 4) C dL_record_3 rfl ?_
  refine V_catchV (ci := 12) (n := 3) (name := "java/lang/IllegalStateException") [.int (iI z1), .int (iI z2), .int (iI z3)] C hM gL_record_X7_record rfl ydX7_record ⟨by dsimp only; omega, by dsimp only; omega⟩ hcs rfl rfl (fun h hh => by subst hh; exact hrec _ hI) (fun h hh => by subst hh; exact hI) rfl (Nat.le_of_ble_eq_true rfl) dL_record_4 ⟨by dsimp only; omega, by dsimp only; omega⟩ [⟨0, 7, 8, 15⟩] ⟨0, 7, 13, 28⟩ [] (hxt.trans rfl) (fun z hz => by
        rcases List.mem_singleton.mp hz with rfl
        exact Or.inr ⟨by decide, "java/lang/IndexOutOfBoundsException", by decide +kernel, by decide⟩) (by decide) (by decide) (by decide +kernel) (by decide) (fun h h' hh hj9 q => ?_)
  rw [hh] at hj9
  refine V_astore4 (pc' := 15) C dL_record_13 rfl (by decide) rfl ?_
  refine V_ldc (pc' := 17) (n := (-900002)) (v := (-900002)) C (by decide +kernel) dL_record_15 rfl (by decide) ?_
  exact V_end C hr hlk (fun h2 hh2 => by subst hh2; exact ⟨rfl, hj9⟩) ⟨by omega, by omega⟩ dL_record_17
set_option maxHeartbeats 4000000 in
set_option maxRecDepth 100000 in
theorem kW_stop {I : Hp → Prop} {J : Hp → Option Value → Hp → Prop} (hM : Ct l yX7_stop wsX7_stop rm D (tyL cB cC cI cO cJ cD) ee [.ref b] I J mc ms) (hcs : rm.cells = mc ∧ rm.slots = ms) (hrec : ∀ h, I h → ∃ t fs, h b = some (t, .inr (12, fs))) (hJ : ∀ h v h', I h → J h v h' → ∃ z : Int, v = some (.int (iI z))) : Ct l yL_stop wsL_stop ({ frames := rm.frames + 1, cells := mc, slots := ms, locals := rm.locals + 21 } : Room) D (tyL cB cC cI cO cJ cD) ee [.ref b] (I) (J) mc ms := by
  refine Ctw_of (cc := cL_stop) (own := RL) [some (.ref b), none] (by decide) rfl rfl (Nat.le_of_ble_eq_true rfl) (fun i9 v9 h9 => argL [.ref b] 1 rfl i9 v9 h9) ?_
  intro p e s m9 args below meth c9 h0 sz hI C hr hlk hxt
  refine V_aload0 (pc' := 1) C dL_stop_0 rfl ?_
  refine V_callV (ci := 12) (n := 0) [] C hM gL_stop_X7_stop rfl ydX7_stop ⟨by dsimp only; omega, by dsimp only; omega⟩ hcs rfl rfl (fun h hh => by subst hh; exact hrec _ hI) (fun h hh => by subst hh; exact hI) rfl (Nat.le_of_ble_eq_true rfl) dL_stop_1 ⟨by dsimp only; omega, by dsimp only; omega⟩ (fun h v9 h' hh hj9 => ?_)
  rw [hh] at hj9
  obtain ⟨z9, rfl⟩ := hJ h0 v9 h' hI hj9
  exact V_end C hr hlk (fun h2 hh2 => by subst hh2; exact hj9) ⟨by omega, by omega⟩ dL_stop_4
set_option maxHeartbeats 4000000 in
set_option maxRecDepth 100000 in
theorem kW_stop_1 {I : Hp → Prop} {JX : Hp → Hp → Prop} (hM : Tx l yX7_stop wsX7_stop rm D (tyL cB cC cI cO cJ cD) ee [.ref b] I "java/lang/IllegalStateException" JX mc ms) (hcs : rm.cells = mc ∧ rm.slots = ms) (hrec : ∀ h, I h → ∃ t fs, h b = some (t, .inr (12, fs))) : Ct l yL_stop wsL_stop ({ frames := rm.frames + 1, cells := mc, slots := ms, locals := rm.locals + 21 } : Room) D (tyL cB cC cI cO cJ cD) ee [.ref b] (I) (fun h v9 h' => v9 = some (.int (iI (-900001))) ∧ JX h h') mc ms := by
  refine Ctw_of (cc := cL_stop) (own := RL) [some (.ref b), none] (by decide) rfl rfl (Nat.le_of_ble_eq_true rfl) (fun i9 v9 h9 => argL [.ref b] 1 rfl i9 v9 h9) ?_
  intro p e s m9 args below meth c9 h0 sz hI C hr hlk hxt
  refine V_aload0 (pc' := 1) C dL_stop_0 rfl ?_
  refine V_catchV (ci := 12) (n := 0) (name := "java/lang/IllegalStateException") [] C hM gL_stop_X7_stop rfl ydX7_stop ⟨by dsimp only; omega, by dsimp only; omega⟩ hcs rfl rfl (fun h hh => by subst hh; exact hrec _ hI) (fun h hh => by subst hh; exact hI) rfl (Nat.le_of_ble_eq_true rfl) dL_stop_1 ⟨by dsimp only; omega, by dsimp only; omega⟩ [] ⟨0, 4, 5, 28⟩ [] (hxt.trans rfl) (fun z hz => by cases hz) (by decide) (by decide) (by decide +kernel) (by decide) (fun h h' hh hj9 q => ?_)
  rw [hh] at hj9
  refine V_astore1 (pc' := 6) C dL_stop_5 rfl (by decide) rfl ?_
  refine V_ldc (pc' := 8) (n := (-900001)) (v := (-900001)) C (by decide +kernel) dL_stop_6 rfl (by decide) ?_
  exact V_end C hr hlk (fun h2 hh2 => by subst hh2; exact ⟨rfl, hj9⟩) ⟨by omega, by omega⟩ dL_stop_8
set_option maxHeartbeats 4000000 in
set_option maxRecDepth 100000 in
theorem kW_grant {z1 : Int} {z2 : Int} {z3 : Int} {z4 : Int} {z5 : Int} {I : Hp → Prop} {J : Hp → Option Value → Hp → Prop} (hM : Ct l yX7_grant wsX7_grant rm D (tyL cB cC cI cO cJ cD) ee [.ref b, .int (iI z1), .int (iI z2), .int (iI z3), .int (iI z4), .int (iI z5)] I J mc ms) (hcs : rm.cells = mc ∧ rm.slots = ms) (hrec : ∀ h, I h → ∃ t fs, h b = some (t, .inr (12, fs))) (hJ : ∀ h v h', I h → J h v h' → ∃ z : Int, v = some (.int (iI z))) : Ct l yL_grant wsL_grant ({ frames := rm.frames + 1, cells := mc, slots := ms, locals := rm.locals + 26 } : Room) D (tyL cB cC cI cO cJ cD) ee [.ref b, .int (iI z1), .int (iI z2), .int (iI z3), .int (iI z4), .int (iI z5)] (I) (J) mc ms := by
  refine Ctw_of (cc := cL_grant) (own := RL) [some (.ref b), some (.int (iI z1)), some (.int (iI z2)), some (.int (iI z3)), some (.int (iI z4)), some (.int (iI z5)), none] (by decide) rfl rfl (Nat.le_of_ble_eq_true rfl) (fun i9 v9 h9 => argL [.ref b, .int (iI z1), .int (iI z2), .int (iI z3), .int (iI z4), .int (iI z5)] 1 rfl i9 v9 h9) ?_
  intro p e s m9 args below meth c9 h0 sz hI C hr hlk hxt
  refine V_aload0 (pc' := 1) C dL_grant_0 rfl ?_
  refine V_iload1 (pc' := 2) C dL_grant_1 rfl ?_
  refine V_iload2 (pc' := 3) C dL_grant_2 rfl ?_
  refine V_iload3 (pc' := 4) C dL_grant_3 rfl ?_
  refine V_iload4 (pc' := 6) C dL_grant_4 rfl ?_
  refine V_iload5 (pc' := 8) C dL_grant_6 rfl ?_
  refine V_callV (ci := 12) (n := 5) [.int (iI z1), .int (iI z2), .int (iI z3), .int (iI z4), .int (iI z5)] C hM gL_grant_X7_grant rfl ydX7_grant ⟨by dsimp only; omega, by dsimp only; omega⟩ hcs rfl rfl (fun h hh => by subst hh; exact hrec _ hI) (fun h hh => by subst hh; exact hI) rfl (Nat.le_of_ble_eq_true rfl) dL_grant_8 ⟨by dsimp only; omega, by dsimp only; omega⟩ (fun h v9 h' hh hj9 => ?_)
  rw [hh] at hj9
  obtain ⟨z9, rfl⟩ := hJ h0 v9 h' hI hj9
  exact V_end C hr hlk (fun h2 hh2 => by subst hh2; exact hj9) ⟨by omega, by omega⟩ dL_grant_11
set_option maxHeartbeats 4000000 in
set_option maxRecDepth 100000 in
theorem kW_grant_1 {z1 : Int} {z2 : Int} {z3 : Int} {z4 : Int} {z5 : Int} {I : Hp → Prop} {JX : Hp → Hp → Prop} (hM : Tx l yX7_grant wsX7_grant rm D (tyL cB cC cI cO cJ cD) ee [.ref b, .int (iI z1), .int (iI z2), .int (iI z3), .int (iI z4), .int (iI z5)] I "java/lang/IndexOutOfBoundsException" JX mc ms) (hcs : rm.cells = mc ∧ rm.slots = ms) (hrec : ∀ h, I h → ∃ t fs, h b = some (t, .inr (12, fs))) : Ct l yL_grant wsL_grant ({ frames := rm.frames + 1, cells := mc, slots := ms, locals := rm.locals + 26 } : Room) D (tyL cB cC cI cO cJ cD) ee [.ref b, .int (iI z1), .int (iI z2), .int (iI z3), .int (iI z4), .int (iI z5)] (I) (fun h v9 h' => v9 = some (.int (iI (-900001))) ∧ JX h h') mc ms := by
  refine Ctw_of (cc := cL_grant) (own := RL) [some (.ref b), some (.int (iI z1)), some (.int (iI z2)), some (.int (iI z3)), some (.int (iI z4)), some (.int (iI z5)), none] (by decide) rfl rfl (Nat.le_of_ble_eq_true rfl) (fun i9 v9 h9 => argL [.ref b, .int (iI z1), .int (iI z2), .int (iI z3), .int (iI z4), .int (iI z5)] 1 rfl i9 v9 h9) ?_
  intro p e s m9 args below meth c9 h0 sz hI C hr hlk hxt
  refine V_aload0 (pc' := 1) C dL_grant_0 rfl ?_
  refine V_iload1 (pc' := 2) C dL_grant_1 rfl ?_
  refine V_iload2 (pc' := 3) C dL_grant_2 rfl ?_
  refine V_iload3 (pc' := 4) C dL_grant_3 rfl ?_
  refine V_iload4 (pc' := 6) C dL_grant_4 rfl ?_
  refine V_iload5 (pc' := 8) C dL_grant_6 rfl ?_
  refine V_catchV (ci := 12) (n := 5) (name := "java/lang/IndexOutOfBoundsException") [.int (iI z1), .int (iI z2), .int (iI z3), .int (iI z4), .int (iI z5)] C hM gL_grant_X7_grant rfl ydX7_grant ⟨by dsimp only; omega, by dsimp only; omega⟩ hcs rfl rfl (fun h hh => by subst hh; exact hrec _ hI) (fun h hh => by subst hh; exact hI) rfl (Nat.le_of_ble_eq_true rfl) dL_grant_8 ⟨by dsimp only; omega, by dsimp only; omega⟩ [] ⟨0, 11, 12, 15⟩ [⟨0, 11, 17, 18⟩, ⟨0, 11, 22, 28⟩] (hxt.trans rfl) (fun z hz => by cases hz) (by decide) (by decide) (by decide +kernel) (by decide) (fun h h' hh hj9 q => ?_)
  rw [hh] at hj9
  refine V_astore6 (pc' := 14) C dL_grant_12 rfl (by decide) rfl ?_
  refine V_ldc (pc' := 16) (n := (-900001)) (v := (-900001)) C (by decide +kernel) dL_grant_14 rfl (by decide) ?_
  exact V_end C hr hlk (fun h2 hh2 => by subst hh2; exact ⟨rfl, hj9⟩) ⟨by omega, by omega⟩ dL_grant_16
set_option maxHeartbeats 4000000 in
set_option maxRecDepth 100000 in
theorem kW_grant_2 {z1 : Int} {z2 : Int} {z3 : Int} {z4 : Int} {z5 : Int} {I : Hp → Prop} {JX : Hp → Hp → Prop} (hM : Tx l yX7_grant wsX7_grant rm D (tyL cB cC cI cO cJ cD) ee [.ref b, .int (iI z1), .int (iI z2), .int (iI z3), .int (iI z4), .int (iI z5)] I "java/lang/IllegalArgumentException" JX mc ms) (hcs : rm.cells = mc ∧ rm.slots = ms) (hrec : ∀ h, I h → ∃ t fs, h b = some (t, .inr (12, fs))) : Ct l yL_grant wsL_grant ({ frames := rm.frames + 1, cells := mc, slots := ms, locals := rm.locals + 26 } : Room) D (tyL cB cC cI cO cJ cD) ee [.ref b, .int (iI z1), .int (iI z2), .int (iI z3), .int (iI z4), .int (iI z5)] (I) (fun h v9 h' => v9 = some (.int (iI (-900002))) ∧ JX h h') mc ms := by
  refine Ctw_of (cc := cL_grant) (own := RL) [some (.ref b), some (.int (iI z1)), some (.int (iI z2)), some (.int (iI z3)), some (.int (iI z4)), some (.int (iI z5)), none] (by decide) rfl rfl (Nat.le_of_ble_eq_true rfl) (fun i9 v9 h9 => argL [.ref b, .int (iI z1), .int (iI z2), .int (iI z3), .int (iI z4), .int (iI z5)] 1 rfl i9 v9 h9) ?_
  intro p e s m9 args below meth c9 h0 sz hI C hr hlk hxt
  refine V_aload0 (pc' := 1) C dL_grant_0 rfl ?_
  refine V_iload1 (pc' := 2) C dL_grant_1 rfl ?_
  refine V_iload2 (pc' := 3) C dL_grant_2 rfl ?_
  refine V_iload3 (pc' := 4) C dL_grant_3 rfl ?_
  refine V_iload4 (pc' := 6) C dL_grant_4 rfl ?_
  refine V_iload5 (pc' := 8) C dL_grant_6 rfl ?_
  refine V_catchV (ci := 12) (n := 5) (name := "java/lang/IllegalArgumentException") [.int (iI z1), .int (iI z2), .int (iI z3), .int (iI z4), .int (iI z5)] C hM gL_grant_X7_grant rfl ydX7_grant ⟨by dsimp only; omega, by dsimp only; omega⟩ hcs rfl rfl (fun h hh => by subst hh; exact hrec _ hI) (fun h hh => by subst hh; exact hI) rfl (Nat.le_of_ble_eq_true rfl) dL_grant_8 ⟨by dsimp only; omega, by dsimp only; omega⟩ [⟨0, 11, 12, 15⟩] ⟨0, 11, 17, 18⟩ [⟨0, 11, 22, 28⟩] (hxt.trans rfl) (fun z hz => by
        rcases List.mem_singleton.mp hz with rfl
        exact Or.inr ⟨by decide, "java/lang/IndexOutOfBoundsException", by decide +kernel, by decide⟩) (by decide) (by decide) (by decide +kernel) (by decide) (fun h h' hh hj9 q => ?_)
  rw [hh] at hj9
  refine V_astore6 (pc' := 19) C dL_grant_17 rfl (by decide) rfl ?_
  refine V_ldc (pc' := 21) (n := (-900002)) (v := (-900002)) C (by decide +kernel) dL_grant_19 rfl (by decide) ?_
  exact V_end C hr hlk (fun h2 hh2 => by subst hh2; exact ⟨rfl, hj9⟩) ⟨by omega, by omega⟩ dL_grant_21
set_option maxHeartbeats 4000000 in
set_option maxRecDepth 100000 in
theorem kW_grant_3 {z1 : Int} {z2 : Int} {z3 : Int} {z4 : Int} {z5 : Int} {I : Hp → Prop} {JX : Hp → Hp → Prop} (hM : Tx l yX7_grant wsX7_grant rm D (tyL cB cC cI cO cJ cD) ee [.ref b, .int (iI z1), .int (iI z2), .int (iI z3), .int (iI z4), .int (iI z5)] I "java/lang/IllegalStateException" JX mc ms) (hcs : rm.cells = mc ∧ rm.slots = ms) (hrec : ∀ h, I h → ∃ t fs, h b = some (t, .inr (12, fs))) : Ct l yL_grant wsL_grant ({ frames := rm.frames + 1, cells := mc, slots := ms, locals := rm.locals + 26 } : Room) D (tyL cB cC cI cO cJ cD) ee [.ref b, .int (iI z1), .int (iI z2), .int (iI z3), .int (iI z4), .int (iI z5)] (I) (fun h v9 h' => v9 = some (.int (iI (-900003))) ∧ JX h h') mc ms := by
  refine Ctw_of (cc := cL_grant) (own := RL) [some (.ref b), some (.int (iI z1)), some (.int (iI z2)), some (.int (iI z3)), some (.int (iI z4)), some (.int (iI z5)), none] (by decide) rfl rfl (Nat.le_of_ble_eq_true rfl) (fun i9 v9 h9 => argL [.ref b, .int (iI z1), .int (iI z2), .int (iI z3), .int (iI z4), .int (iI z5)] 1 rfl i9 v9 h9) ?_
  intro p e s m9 args below meth c9 h0 sz hI C hr hlk hxt
  refine V_aload0 (pc' := 1) C dL_grant_0 rfl ?_
  refine V_iload1 (pc' := 2) C dL_grant_1 rfl ?_
  refine V_iload2 (pc' := 3) C dL_grant_2 rfl ?_
  refine V_iload3 (pc' := 4) C dL_grant_3 rfl ?_
  refine V_iload4 (pc' := 6) C dL_grant_4 rfl ?_
  refine V_iload5 (pc' := 8) C dL_grant_6 rfl ?_
  refine V_catchV (ci := 12) (n := 5) (name := "java/lang/IllegalStateException") [.int (iI z1), .int (iI z2), .int (iI z3), .int (iI z4), .int (iI z5)] C hM gL_grant_X7_grant rfl ydX7_grant ⟨by dsimp only; omega, by dsimp only; omega⟩ hcs rfl rfl (fun h hh => by subst hh; exact hrec _ hI) (fun h hh => by subst hh; exact hI) rfl (Nat.le_of_ble_eq_true rfl) dL_grant_8 ⟨by dsimp only; omega, by dsimp only; omega⟩ [⟨0, 11, 12, 15⟩, ⟨0, 11, 17, 18⟩] ⟨0, 11, 22, 28⟩ [] (hxt.trans rfl) (fun z hz => by
        rcases List.mem_cons.mp hz with rfl | hz
        · exact Or.inr ⟨by decide, "java/lang/IndexOutOfBoundsException", by decide +kernel, by decide⟩
        rcases List.mem_singleton.mp hz with rfl
        exact Or.inr ⟨by decide, "java/lang/IllegalArgumentException", by decide +kernel, by decide⟩) (by decide) (by decide) (by decide +kernel) (by decide) (fun h h' hh hj9 q => ?_)
  rw [hh] at hj9
  refine V_astore6 (pc' := 24) C dL_grant_22 rfl (by decide) rfl ?_
  refine V_ldc (pc' := 26) (n := (-900003)) (v := (-900003)) C (by decide +kernel) dL_grant_24 rfl (by decide) ?_
  exact V_end C hr hlk (fun h2 hh2 => by subst hh2; exact ⟨rfl, hj9⟩) ⟨by omega, by omega⟩ dL_grant_26
set_option maxHeartbeats 4000000 in
set_option maxRecDepth 100000 in
theorem kW_takeGrants {z1 : Int} {I : Hp → Prop} {J : Hp → Option Value → Hp → Prop} (hM : Ct l yX7_takeGrants wsX7_takeGrants rm D (tyL cB cC cI cO cJ cD) ee [.ref b, .int (iI z1)] I J mc ms) (hcs : rm.cells = mc ∧ rm.slots = ms) (hrec : ∀ h, I h → ∃ t fs, h b = some (t, .inr (12, fs))) (hJ : ∀ h v h', I h → J h v h' → ∃ z : Int, v = some (.int (iI z))) : Ct l yL_takeGrants wsL_takeGrants ({ frames := rm.frames + 1, cells := mc, slots := ms, locals := rm.locals + 23 } : Room) D (tyL cB cC cI cO cJ cD) ee [.ref b, .int (iI z1)] (I) (J) mc ms := by
  refine Ctw_of (cc := cL_takeGrants) (own := RL) [some (.ref b), some (.int (iI z1)), none] (by decide) rfl rfl (Nat.le_of_ble_eq_true rfl) (fun i9 v9 h9 => argL [.ref b, .int (iI z1)] 1 rfl i9 v9 h9) ?_
  intro p e s m9 args below meth c9 h0 sz hI C hr hlk hxt
  refine V_aload0 (pc' := 1) C dL_takeGrants_0 rfl ?_
  refine V_iload1 (pc' := 2) C dL_takeGrants_1 rfl ?_
  refine V_callV (ci := 12) (n := 1) [.int (iI z1)] C hM gL_takeGrants_X7_takeGrants rfl ydX7_takeGrants ⟨by dsimp only; omega, by dsimp only; omega⟩ hcs rfl rfl (fun h hh => by subst hh; exact hrec _ hI) (fun h hh => by subst hh; exact hI) rfl (Nat.le_of_ble_eq_true rfl) dL_takeGrants_2 ⟨by dsimp only; omega, by dsimp only; omega⟩ (fun h v9 h' hh hj9 => ?_)
  rw [hh] at hj9
  obtain ⟨z9, rfl⟩ := hJ h0 v9 h' hI hj9
  exact V_end C hr hlk (fun h2 hh2 => by subst hh2; exact hj9) ⟨by omega, by omega⟩ dL_takeGrants_5
set_option maxHeartbeats 4000000 in
set_option maxRecDepth 100000 in
theorem kW_takeGrants_1 {z1 : Int} {I : Hp → Prop} {JX : Hp → Hp → Prop} (hM : Tx l yX7_takeGrants wsX7_takeGrants rm D (tyL cB cC cI cO cJ cD) ee [.ref b, .int (iI z1)] I "java/lang/IndexOutOfBoundsException" JX mc ms) (hcs : rm.cells = mc ∧ rm.slots = ms) (hrec : ∀ h, I h → ∃ t fs, h b = some (t, .inr (12, fs))) : Ct l yL_takeGrants wsL_takeGrants ({ frames := rm.frames + 1, cells := mc, slots := ms, locals := rm.locals + 23 } : Room) D (tyL cB cC cI cO cJ cD) ee [.ref b, .int (iI z1)] (I) (fun h v9 h' => v9 = some (.int (iI (-900001))) ∧ JX h h') mc ms := by
  refine Ctw_of (cc := cL_takeGrants) (own := RL) [some (.ref b), some (.int (iI z1)), none] (by decide) rfl rfl (Nat.le_of_ble_eq_true rfl) (fun i9 v9 h9 => argL [.ref b, .int (iI z1)] 1 rfl i9 v9 h9) ?_
  intro p e s m9 args below meth c9 h0 sz hI C hr hlk hxt
  refine V_aload0 (pc' := 1) C dL_takeGrants_0 rfl ?_
  refine V_iload1 (pc' := 2) C dL_takeGrants_1 rfl ?_
  refine V_catchV (ci := 12) (n := 1) (name := "java/lang/IndexOutOfBoundsException") [.int (iI z1)] C hM gL_takeGrants_X7_takeGrants rfl ydX7_takeGrants ⟨by dsimp only; omega, by dsimp only; omega⟩ hcs rfl rfl (fun h hh => by subst hh; exact hrec _ hI) (fun h hh => by subst hh; exact hI) rfl (Nat.le_of_ble_eq_true rfl) dL_takeGrants_2 ⟨by dsimp only; omega, by dsimp only; omega⟩ [] ⟨0, 5, 6, 15⟩ [] (hxt.trans rfl) (fun z hz => by cases hz) (by decide) (by decide) (by decide +kernel) (by decide) (fun h h' hh hj9 q => ?_)
  rw [hh] at hj9
  refine V_astore2 (pc' := 7) C dL_takeGrants_6 rfl (by decide) rfl ?_
  refine V_ldc (pc' := 9) (n := (-900001)) (v := (-900001)) C (by decide +kernel) dL_takeGrants_7 rfl (by decide) ?_
  exact V_end C hr hlk (fun h2 hh2 => by subst hh2; exact ⟨rfl, hj9⟩) ⟨by omega, by omega⟩ dL_takeGrants_9
set_option maxHeartbeats 4000000 in
set_option maxRecDepth 100000 in
theorem kW_granted {z1 : Int} {z2 : Int} {I : Hp → Prop} {J : Hp → Option Value → Hp → Prop} (hM : Ct l yX7_granted wsX7_granted rm D (tyL cB cC cI cO cJ cD) ee [.ref b, .int (iI z1), .int (iI z2)] I J mc ms) (hcs : rm.cells = mc ∧ rm.slots = ms) (hrec : ∀ h, I h → ∃ t fs, h b = some (t, .inr (12, fs))) (hJ : ∀ h v h', I h → J h v h' → ∃ z : Int, v = some (.int (iI z))) : Ct l yL_granted wsL_granted ({ frames := rm.frames + 1, cells := mc, slots := ms, locals := rm.locals + 24 } : Room) D (tyL cB cC cI cO cJ cD) ee [.ref b, .int (iI z1), .int (iI z2)] (I) (J) mc ms := by
  refine Ctw_of (cc := cL_granted) (own := RL) [some (.ref b), some (.int (iI z1)), some (.int (iI z2)), none] (by decide) rfl rfl (Nat.le_of_ble_eq_true rfl) (fun i9 v9 h9 => argL [.ref b, .int (iI z1), .int (iI z2)] 1 rfl i9 v9 h9) ?_
  intro p e s m9 args below meth c9 h0 sz hI C hr hlk hxt
  refine V_aload0 (pc' := 1) C dL_granted_0 rfl ?_
  refine V_iload1 (pc' := 2) C dL_granted_1 rfl ?_
  refine V_iload2 (pc' := 3) C dL_granted_2 rfl ?_
  refine V_callV (ci := 12) (n := 2) [.int (iI z1), .int (iI z2)] C hM gL_granted_X7_granted rfl ydX7_granted ⟨by dsimp only; omega, by dsimp only; omega⟩ hcs rfl rfl (fun h hh => by subst hh; exact hrec _ hI) (fun h hh => by subst hh; exact hI) rfl (Nat.le_of_ble_eq_true rfl) dL_granted_3 ⟨by dsimp only; omega, by dsimp only; omega⟩ (fun h v9 h' hh hj9 => ?_)
  rw [hh] at hj9
  obtain ⟨z9, rfl⟩ := hJ h0 v9 h' hI hj9
  exact V_end C hr hlk (fun h2 hh2 => by subst hh2; exact hj9) ⟨by omega, by omega⟩ dL_granted_6
set_option maxHeartbeats 4000000 in
set_option maxRecDepth 100000 in
theorem kW_granted_1 {z1 : Int} {z2 : Int} {I : Hp → Prop} {JX : Hp → Hp → Prop} (hM : Tx l yX7_granted wsX7_granted rm D (tyL cB cC cI cO cJ cD) ee [.ref b, .int (iI z1), .int (iI z2)] I "java/lang/IndexOutOfBoundsException" JX mc ms) (hcs : rm.cells = mc ∧ rm.slots = ms) (hrec : ∀ h, I h → ∃ t fs, h b = some (t, .inr (12, fs))) : Ct l yL_granted wsL_granted ({ frames := rm.frames + 1, cells := mc, slots := ms, locals := rm.locals + 24 } : Room) D (tyL cB cC cI cO cJ cD) ee [.ref b, .int (iI z1), .int (iI z2)] (I) (fun h v9 h' => v9 = some (.int (iI (-900001))) ∧ JX h h') mc ms := by
  refine Ctw_of (cc := cL_granted) (own := RL) [some (.ref b), some (.int (iI z1)), some (.int (iI z2)), none] (by decide) rfl rfl (Nat.le_of_ble_eq_true rfl) (fun i9 v9 h9 => argL [.ref b, .int (iI z1), .int (iI z2)] 1 rfl i9 v9 h9) ?_
  intro p e s m9 args below meth c9 h0 sz hI C hr hlk hxt
  refine V_aload0 (pc' := 1) C dL_granted_0 rfl ?_
  refine V_iload1 (pc' := 2) C dL_granted_1 rfl ?_
  refine V_iload2 (pc' := 3) C dL_granted_2 rfl ?_
  refine V_catchV (ci := 12) (n := 2) (name := "java/lang/IndexOutOfBoundsException") [.int (iI z1), .int (iI z2)] C hM gL_granted_X7_granted rfl ydX7_granted ⟨by dsimp only; omega, by dsimp only; omega⟩ hcs rfl rfl (fun h hh => by subst hh; exact hrec _ hI) (fun h hh => by subst hh; exact hI) rfl (Nat.le_of_ble_eq_true rfl) dL_granted_3 ⟨by dsimp only; omega, by dsimp only; omega⟩ [] ⟨0, 6, 7, 15⟩ [] (hxt.trans rfl) (fun z hz => by cases hz) (by decide) (by decide) (by decide +kernel) (by decide) (fun h h' hh hj9 q => ?_)
  rw [hh] at hj9
  refine V_astore3 (pc' := 8) C dL_granted_7 rfl (by decide) rfl ?_
  refine V_ldc (pc' := 10) (n := (-900001)) (v := (-900001)) C (by decide +kernel) dL_granted_8 rfl (by decide) ?_
  exact V_end C hr hlk (fun h2 hh2 => by subst hh2; exact ⟨rfl, hj9⟩) ⟨by omega, by omega⟩ dL_granted_10
set_option maxHeartbeats 4000000 in
set_option maxRecDepth 100000 in
theorem kW_reason {z1 : Int} {z2 : Int} {z3 : Int} {I : Hp → Prop} {J : Hp → Option Value → Hp → Prop} (hM : Ct l yX7_reason wsX7_reason rm D (tyL cB cC cI cO cJ cD) ee [.ref b, .int (iI z1), .int (iI z2), .int (iI z3)] I J mc ms) (hcs : rm.cells = mc ∧ rm.slots = ms) (hrec : ∀ h, I h → ∃ t fs, h b = some (t, .inr (12, fs))) (hJ : ∀ h v h', I h → J h v h' → ∃ z : Int, v = some (.int (iI z))) : Ct l yL_reason wsL_reason ({ frames := rm.frames + 1, cells := mc, slots := ms, locals := rm.locals + 24 } : Room) D (tyL cB cC cI cO cJ cD) ee [.ref b, .int (iI z1), .int (iI z2), .int (iI z3)] (I) (J) mc ms := by
  refine Ctw_of (cc := cL_reason) (own := RL) [some (.ref b), some (.int (iI z1)), some (.int (iI z2)), some (.int (iI z3)), none] (by decide) rfl rfl (Nat.le_of_ble_eq_true rfl) (fun i9 v9 h9 => argL [.ref b, .int (iI z1), .int (iI z2), .int (iI z3)] 1 rfl i9 v9 h9) ?_
  intro p e s m9 args below meth c9 h0 sz hI C hr hlk hxt
  refine V_aload0 (pc' := 1) C dL_reason_0 rfl ?_
  refine V_iload1 (pc' := 2) C dL_reason_1 rfl ?_
  refine V_iload2 (pc' := 3) C dL_reason_2 rfl ?_
  refine V_iload3 (pc' := 4) C dL_reason_3 rfl ?_
  refine V_callV (ci := 12) (n := 3) [.int (iI z1), .int (iI z2), .int (iI z3)] C hM gL_reason_X7_reason rfl ydX7_reason ⟨by dsimp only; omega, by dsimp only; omega⟩ hcs rfl rfl (fun h hh => by subst hh; exact hrec _ hI) (fun h hh => by subst hh; exact hI) rfl (Nat.le_of_ble_eq_true rfl) dL_reason_4 ⟨by dsimp only; omega, by dsimp only; omega⟩ (fun h v9 h' hh hj9 => ?_)
  rw [hh] at hj9
  obtain ⟨z9, rfl⟩ := hJ h0 v9 h' hI hj9
  exact V_end C hr hlk (fun h2 hh2 => by subst hh2; exact hj9) ⟨by omega, by omega⟩ dL_reason_7
set_option maxHeartbeats 4000000 in
set_option maxRecDepth 100000 in
theorem kW_reason_1 {z1 : Int} {z2 : Int} {z3 : Int} {I : Hp → Prop} {JX : Hp → Hp → Prop} (hM : Tx l yX7_reason wsX7_reason rm D (tyL cB cC cI cO cJ cD) ee [.ref b, .int (iI z1), .int (iI z2), .int (iI z3)] I "java/lang/IndexOutOfBoundsException" JX mc ms) (hcs : rm.cells = mc ∧ rm.slots = ms) (hrec : ∀ h, I h → ∃ t fs, h b = some (t, .inr (12, fs))) : Ct l yL_reason wsL_reason ({ frames := rm.frames + 1, cells := mc, slots := ms, locals := rm.locals + 24 } : Room) D (tyL cB cC cI cO cJ cD) ee [.ref b, .int (iI z1), .int (iI z2), .int (iI z3)] (I) (fun h v9 h' => v9 = some (.int (iI (-900001))) ∧ JX h h') mc ms := by
  refine Ctw_of (cc := cL_reason) (own := RL) [some (.ref b), some (.int (iI z1)), some (.int (iI z2)), some (.int (iI z3)), none] (by decide) rfl rfl (Nat.le_of_ble_eq_true rfl) (fun i9 v9 h9 => argL [.ref b, .int (iI z1), .int (iI z2), .int (iI z3)] 1 rfl i9 v9 h9) ?_
  intro p e s m9 args below meth c9 h0 sz hI C hr hlk hxt
  refine V_aload0 (pc' := 1) C dL_reason_0 rfl ?_
  refine V_iload1 (pc' := 2) C dL_reason_1 rfl ?_
  refine V_iload2 (pc' := 3) C dL_reason_2 rfl ?_
  refine V_iload3 (pc' := 4) C dL_reason_3 rfl ?_
  refine V_catchV (ci := 12) (n := 3) (name := "java/lang/IndexOutOfBoundsException") [.int (iI z1), .int (iI z2), .int (iI z3)] C hM gL_reason_X7_reason rfl ydX7_reason ⟨by dsimp only; omega, by dsimp only; omega⟩ hcs rfl rfl (fun h hh => by subst hh; exact hrec _ hI) (fun h hh => by subst hh; exact hI) rfl (Nat.le_of_ble_eq_true rfl) dL_reason_4 ⟨by dsimp only; omega, by dsimp only; omega⟩ [] ⟨0, 7, 8, 15⟩ [] (hxt.trans rfl) (fun z hz => by cases hz) (by decide) (by decide) (by decide +kernel) (by decide) (fun h h' hh hj9 q => ?_)
  rw [hh] at hj9
  refine V_astore4 (pc' := 10) C dL_reason_8 rfl (by decide) rfl ?_
  refine V_ldc (pc' := 12) (n := (-900001)) (v := (-900001)) C (by decide +kernel) dL_reason_10 rfl (by decide) ?_
  exact V_end C hr hlk (fun h2 hh2 => by subst hh2; exact ⟨rfl, hj9⟩) ⟨by omega, by omega⟩ dL_reason_12
set_option maxHeartbeats 4000000 in
set_option maxRecDepth 100000 in
theorem kW_run {z1 : Int} {z2 : Int} {z3 : Int} {I : Hp → Prop} {J : Hp → Option Value → Hp → Prop} (hM : Ct l yX7_run wsX7_run rm D (tyL cB cC cI cO cJ cD) ee [.ref b, .int (iI z1), .int (iI z2), .int (iI z3)] I J mc ms) (hcs : rm.cells = mc ∧ rm.slots = ms) (hrec : ∀ h, I h → ∃ t fs, h b = some (t, .inr (12, fs))) (hJ : ∀ h v h', I h → J h v h' → ∃ z : Int, v = some (.int (iI z))) : Ct l yL_run wsL_run ({ frames := rm.frames + 1, cells := mc, slots := ms, locals := rm.locals + 24 } : Room) D (tyL cB cC cI cO cJ cD) ee [.ref b, .int (iI z1), .int (iI z2), .int (iI z3)] (I) (J) mc ms := by
  refine Ctw_of (cc := cL_run) (own := RL) [some (.ref b), some (.int (iI z1)), some (.int (iI z2)), some (.int (iI z3)), none] (by decide) rfl rfl (Nat.le_of_ble_eq_true rfl) (fun i9 v9 h9 => argL [.ref b, .int (iI z1), .int (iI z2), .int (iI z3)] 1 rfl i9 v9 h9) ?_
  intro p e s m9 args below meth c9 h0 sz hI C hr hlk hxt
  refine V_aload0 (pc' := 1) C dL_run_0 rfl ?_
  refine V_iload1 (pc' := 2) C dL_run_1 rfl ?_
  refine V_iload2 (pc' := 3) C dL_run_2 rfl ?_
  refine V_iload3 (pc' := 4) C dL_run_3 rfl ?_
  refine V_callV (ci := 12) (n := 3) [.int (iI z1), .int (iI z2), .int (iI z3)] C hM gL_run_X7_run rfl ydX7_run ⟨by dsimp only; omega, by dsimp only; omega⟩ hcs rfl rfl (fun h hh => by subst hh; exact hrec _ hI) (fun h hh => by subst hh; exact hI) rfl (Nat.le_of_ble_eq_true rfl) dL_run_4 ⟨by dsimp only; omega, by dsimp only; omega⟩ (fun h v9 h' hh hj9 => ?_)
  rw [hh] at hj9
  obtain ⟨z9, rfl⟩ := hJ h0 v9 h' hI hj9
  exact V_end C hr hlk (fun h2 hh2 => by subst hh2; exact hj9) ⟨by omega, by omega⟩ dL_run_7
set_option maxHeartbeats 4000000 in
set_option maxRecDepth 100000 in
theorem kW_run_1 {z1 : Int} {z2 : Int} {z3 : Int} {I : Hp → Prop} {JX : Hp → Hp → Prop} (hM : Tx l yX7_run wsX7_run rm D (tyL cB cC cI cO cJ cD) ee [.ref b, .int (iI z1), .int (iI z2), .int (iI z3)] I "java/lang/IndexOutOfBoundsException" JX mc ms) (hcs : rm.cells = mc ∧ rm.slots = ms) (hrec : ∀ h, I h → ∃ t fs, h b = some (t, .inr (12, fs))) : Ct l yL_run wsL_run ({ frames := rm.frames + 1, cells := mc, slots := ms, locals := rm.locals + 24 } : Room) D (tyL cB cC cI cO cJ cD) ee [.ref b, .int (iI z1), .int (iI z2), .int (iI z3)] (I) (fun h v9 h' => v9 = some (.int (iI (-900001))) ∧ JX h h') mc ms := by
  refine Ctw_of (cc := cL_run) (own := RL) [some (.ref b), some (.int (iI z1)), some (.int (iI z2)), some (.int (iI z3)), none] (by decide) rfl rfl (Nat.le_of_ble_eq_true rfl) (fun i9 v9 h9 => argL [.ref b, .int (iI z1), .int (iI z2), .int (iI z3)] 1 rfl i9 v9 h9) ?_
  intro p e s m9 args below meth c9 h0 sz hI C hr hlk hxt
  refine V_aload0 (pc' := 1) C dL_run_0 rfl ?_
  refine V_iload1 (pc' := 2) C dL_run_1 rfl ?_
  refine V_iload2 (pc' := 3) C dL_run_2 rfl ?_
  refine V_iload3 (pc' := 4) C dL_run_3 rfl ?_
  refine V_catchV (ci := 12) (n := 3) (name := "java/lang/IndexOutOfBoundsException") [.int (iI z1), .int (iI z2), .int (iI z3)] C hM gL_run_X7_run rfl ydX7_run ⟨by dsimp only; omega, by dsimp only; omega⟩ hcs rfl rfl (fun h hh => by subst hh; exact hrec _ hI) (fun h hh => by subst hh; exact hI) rfl (Nat.le_of_ble_eq_true rfl) dL_run_4 ⟨by dsimp only; omega, by dsimp only; omega⟩ [] ⟨0, 7, 8, 15⟩ [⟨0, 7, 13, 28⟩, ⟨0, 7, 18, 65⟩] (hxt.trans rfl) (fun z hz => by cases hz) (by decide) (by decide) (by decide +kernel) (by decide) (fun h h' hh hj9 q => ?_)
  rw [hh] at hj9
  refine V_astore4 (pc' := 10) C dL_run_8 rfl (by decide) rfl ?_
  refine V_ldc (pc' := 12) (n := (-900001)) (v := (-900001)) C (by decide +kernel) dL_run_10 rfl (by decide) ?_
  exact V_end C hr hlk (fun h2 hh2 => by subst hh2; exact ⟨rfl, hj9⟩) ⟨by omega, by omega⟩ dL_run_12
set_option maxHeartbeats 4000000 in
set_option maxRecDepth 100000 in
theorem kW_run_2 {z1 : Int} {z2 : Int} {z3 : Int} {I : Hp → Prop} {JX : Hp → Hp → Prop} (hM : Tx l yX7_run wsX7_run rm D (tyL cB cC cI cO cJ cD) ee [.ref b, .int (iI z1), .int (iI z2), .int (iI z3)] I "java/lang/IllegalStateException" JX mc ms) (hcs : rm.cells = mc ∧ rm.slots = ms) (hrec : ∀ h, I h → ∃ t fs, h b = some (t, .inr (12, fs))) : Ct l yL_run wsL_run ({ frames := rm.frames + 1, cells := mc, slots := ms, locals := rm.locals + 24 } : Room) D (tyL cB cC cI cO cJ cD) ee [.ref b, .int (iI z1), .int (iI z2), .int (iI z3)] (I) (fun h v9 h' => v9 = some (.int (iI (-900002))) ∧ JX h h') mc ms := by
  refine Ctw_of (cc := cL_run) (own := RL) [some (.ref b), some (.int (iI z1)), some (.int (iI z2)), some (.int (iI z3)), none] (by decide) rfl rfl (Nat.le_of_ble_eq_true rfl) (fun i9 v9 h9 => argL [.ref b, .int (iI z1), .int (iI z2), .int (iI z3)] 1 rfl i9 v9 h9) ?_
  intro p e s m9 args below meth c9 h0 sz hI C hr hlk hxt
  refine V_aload0 (pc' := 1) C dL_run_0 rfl ?_
  refine V_iload1 (pc' := 2) C dL_run_1 rfl ?_
  refine V_iload2 (pc' := 3) C dL_run_2 rfl ?_
  refine V_iload3 (pc' := 4) C dL_run_3 rfl ?_
  refine V_catchV (ci := 12) (n := 3) (name := "java/lang/IllegalStateException") [.int (iI z1), .int (iI z2), .int (iI z3)] C hM gL_run_X7_run rfl ydX7_run ⟨by dsimp only; omega, by dsimp only; omega⟩ hcs rfl rfl (fun h hh => by subst hh; exact hrec _ hI) (fun h hh => by subst hh; exact hI) rfl (Nat.le_of_ble_eq_true rfl) dL_run_4 ⟨by dsimp only; omega, by dsimp only; omega⟩ [⟨0, 7, 8, 15⟩] ⟨0, 7, 13, 28⟩ [⟨0, 7, 18, 65⟩] (hxt.trans rfl) (fun z hz => by
        rcases List.mem_singleton.mp hz with rfl
        exact Or.inr ⟨by decide, "java/lang/IndexOutOfBoundsException", by decide +kernel, by decide⟩) (by decide) (by decide) (by decide +kernel) (by decide) (fun h h' hh hj9 q => ?_)
  rw [hh] at hj9
  refine V_astore4 (pc' := 15) C dL_run_13 rfl (by decide) rfl ?_
  refine V_ldc (pc' := 17) (n := (-900002)) (v := (-900002)) C (by decide +kernel) dL_run_15 rfl (by decide) ?_
  exact V_end C hr hlk (fun h2 hh2 => by subst hh2; exact ⟨rfl, hj9⟩) ⟨by omega, by omega⟩ dL_run_17
set_option maxHeartbeats 4000000 in
set_option maxRecDepth 100000 in
theorem kW_run_3 {z1 : Int} {z2 : Int} {z3 : Int} {I : Hp → Prop} {JX : Hp → Hp → Prop} (hM : Tx l yX7_run wsX7_run rm D (tyL cB cC cI cO cJ cD) ee [.ref b, .int (iI z1), .int (iI z2), .int (iI z3)] I "java/lang/UnsupportedOperationException" JX mc ms) (hcs : rm.cells = mc ∧ rm.slots = ms) (hrec : ∀ h, I h → ∃ t fs, h b = some (t, .inr (12, fs))) : Ct l yL_run wsL_run ({ frames := rm.frames + 1, cells := mc, slots := ms, locals := rm.locals + 24 } : Room) D (tyL cB cC cI cO cJ cD) ee [.ref b, .int (iI z1), .int (iI z2), .int (iI z3)] (I) (fun h v9 h' => v9 = some (.int (iI (-900003))) ∧ JX h h') mc ms := by
  refine Ctw_of (cc := cL_run) (own := RL) [some (.ref b), some (.int (iI z1)), some (.int (iI z2)), some (.int (iI z3)), none] (by decide) rfl rfl (Nat.le_of_ble_eq_true rfl) (fun i9 v9 h9 => argL [.ref b, .int (iI z1), .int (iI z2), .int (iI z3)] 1 rfl i9 v9 h9) ?_
  intro p e s m9 args below meth c9 h0 sz hI C hr hlk hxt
  refine V_aload0 (pc' := 1) C dL_run_0 rfl ?_
  refine V_iload1 (pc' := 2) C dL_run_1 rfl ?_
  refine V_iload2 (pc' := 3) C dL_run_2 rfl ?_
  refine V_iload3 (pc' := 4) C dL_run_3 rfl ?_
  refine V_catchV (ci := 12) (n := 3) (name := "java/lang/UnsupportedOperationException") [.int (iI z1), .int (iI z2), .int (iI z3)] C hM gL_run_X7_run rfl ydX7_run ⟨by dsimp only; omega, by dsimp only; omega⟩ hcs rfl rfl (fun h hh => by subst hh; exact hrec _ hI) (fun h hh => by subst hh; exact hI) rfl (Nat.le_of_ble_eq_true rfl) dL_run_4 ⟨by dsimp only; omega, by dsimp only; omega⟩ [⟨0, 7, 8, 15⟩, ⟨0, 7, 13, 28⟩] ⟨0, 7, 18, 65⟩ [] (hxt.trans rfl) (fun z hz => by
        rcases List.mem_cons.mp hz with rfl | hz
        · exact Or.inr ⟨by decide, "java/lang/IndexOutOfBoundsException", by decide +kernel, by decide⟩
        rcases List.mem_singleton.mp hz with rfl
        exact Or.inr ⟨by decide, "java/lang/IllegalStateException", by decide +kernel, by decide⟩) (by decide) (by decide) (by decide +kernel) (by decide) (fun h h' hh hj9 q => ?_)
  rw [hh] at hj9
  refine V_astore4 (pc' := 20) C dL_run_18 rfl (by decide) rfl ?_
  refine V_ldc (pc' := 22) (n := (-900003)) (v := (-900003)) C (by decide +kernel) dL_run_20 rfl (by decide) ?_
  exact V_end C hr hlk (fun h2 hh2 => by subst hh2; exact ⟨rfl, hj9⟩) ⟨by omega, by omega⟩ dL_run_22
set_option maxHeartbeats 4000000 in
set_option maxRecDepth 100000 in
theorem kW_addRule {z1 : Int} {z2 : Int} {z3 : Int} {z4 : Int} {z5 : Int} {z6 : Int} {I : Hp → Prop} {J : Hp → Option Value → Hp → Prop} (hM : Ct l yX7_addRule wsX7_addRule rm D (tyL cB cC cI cO cJ cD) ee [.ref b, .int (iI z1), .int (iI z2), .int (iI z3), .int (iI z4), .int (iI z5), .int (iI z6)] I J mc ms) (hcs : rm.cells = mc ∧ rm.slots = ms) (hrec : ∀ h, I h → ∃ t fs, h b = some (t, .inr (12, fs))) (hJ : ∀ h v h', I h → J h v h' → ∃ z : Int, v = some (.int (iI z))) : Ct l yL_addRule wsL_addRule ({ frames := rm.frames + 1, cells := mc, slots := ms, locals := rm.locals + 28 } : Room) D (tyL cB cC cI cO cJ cD) ee [.ref b, .int (iI z1), .int (iI z2), .int (iI z3), .int (iI z4), .int (iI z5), .int (iI z6)] (I) (J) mc ms := by
  refine Ctw_of (cc := cL_addRule) (own := RL) [some (.ref b), some (.int (iI z1)), some (.int (iI z2)), some (.int (iI z3)), some (.int (iI z4)), some (.int (iI z5)), some (.int (iI z6)), none] (by decide) rfl rfl (Nat.le_of_ble_eq_true rfl) (fun i9 v9 h9 => argL [.ref b, .int (iI z1), .int (iI z2), .int (iI z3), .int (iI z4), .int (iI z5), .int (iI z6)] 1 rfl i9 v9 h9) ?_
  intro p e s m9 args below meth c9 h0 sz hI C hr hlk hxt
  refine V_aload0 (pc' := 1) C dL_addRule_0 rfl ?_
  refine V_iload1 (pc' := 2) C dL_addRule_1 rfl ?_
  refine V_iload2 (pc' := 3) C dL_addRule_2 rfl ?_
  refine V_iload3 (pc' := 4) C dL_addRule_3 rfl ?_
  refine V_iload4 (pc' := 6) C dL_addRule_4 rfl ?_
  refine V_iload5 (pc' := 8) C dL_addRule_6 rfl ?_
  refine V_iload6 (pc' := 10) C dL_addRule_8 rfl ?_
  refine V_callV (ci := 12) (n := 6) [.int (iI z1), .int (iI z2), .int (iI z3), .int (iI z4), .int (iI z5), .int (iI z6)] C hM gL_addRule_X7_addRule rfl ydX7_addRule ⟨by dsimp only; omega, by dsimp only; omega⟩ hcs rfl rfl (fun h hh => by subst hh; exact hrec _ hI) (fun h hh => by subst hh; exact hI) rfl (Nat.le_of_ble_eq_true rfl) dL_addRule_10 ⟨by dsimp only; omega, by dsimp only; omega⟩ (fun h v9 h' hh hj9 => ?_)
  rw [hh] at hj9
  obtain ⟨z9, rfl⟩ := hJ h0 v9 h' hI hj9
  exact V_end C hr hlk (fun h2 hh2 => by subst hh2; exact hj9) ⟨by omega, by omega⟩ dL_addRule_13
set_option maxHeartbeats 4000000 in
set_option maxRecDepth 100000 in
theorem kW_addRule_1 {z1 : Int} {z2 : Int} {z3 : Int} {z4 : Int} {z5 : Int} {z6 : Int} {I : Hp → Prop} {JX : Hp → Hp → Prop} (hM : Tx l yX7_addRule wsX7_addRule rm D (tyL cB cC cI cO cJ cD) ee [.ref b, .int (iI z1), .int (iI z2), .int (iI z3), .int (iI z4), .int (iI z5), .int (iI z6)] I "java/lang/IndexOutOfBoundsException" JX mc ms) (hcs : rm.cells = mc ∧ rm.slots = ms) (hrec : ∀ h, I h → ∃ t fs, h b = some (t, .inr (12, fs))) : Ct l yL_addRule wsL_addRule ({ frames := rm.frames + 1, cells := mc, slots := ms, locals := rm.locals + 28 } : Room) D (tyL cB cC cI cO cJ cD) ee [.ref b, .int (iI z1), .int (iI z2), .int (iI z3), .int (iI z4), .int (iI z5), .int (iI z6)] (I) (fun h v9 h' => v9 = some (.int (iI (-900001))) ∧ JX h h') mc ms := by
  refine Ctw_of (cc := cL_addRule) (own := RL) [some (.ref b), some (.int (iI z1)), some (.int (iI z2)), some (.int (iI z3)), some (.int (iI z4)), some (.int (iI z5)), some (.int (iI z6)), none] (by decide) rfl rfl (Nat.le_of_ble_eq_true rfl) (fun i9 v9 h9 => argL [.ref b, .int (iI z1), .int (iI z2), .int (iI z3), .int (iI z4), .int (iI z5), .int (iI z6)] 1 rfl i9 v9 h9) ?_
  intro p e s m9 args below meth c9 h0 sz hI C hr hlk hxt
  refine V_aload0 (pc' := 1) C dL_addRule_0 rfl ?_
  refine V_iload1 (pc' := 2) C dL_addRule_1 rfl ?_
  refine V_iload2 (pc' := 3) C dL_addRule_2 rfl ?_
  refine V_iload3 (pc' := 4) C dL_addRule_3 rfl ?_
  refine V_iload4 (pc' := 6) C dL_addRule_4 rfl ?_
  refine V_iload5 (pc' := 8) C dL_addRule_6 rfl ?_
  refine V_iload6 (pc' := 10) C dL_addRule_8 rfl ?_
  refine V_catchV (ci := 12) (n := 6) (name := "java/lang/IndexOutOfBoundsException") [.int (iI z1), .int (iI z2), .int (iI z3), .int (iI z4), .int (iI z5), .int (iI z6)] C hM gL_addRule_X7_addRule rfl ydX7_addRule ⟨by dsimp only; omega, by dsimp only; omega⟩ hcs rfl rfl (fun h hh => by subst hh; exact hrec _ hI) (fun h hh => by subst hh; exact hI) rfl (Nat.le_of_ble_eq_true rfl) dL_addRule_10 ⟨by dsimp only; omega, by dsimp only; omega⟩ [] ⟨0, 13, 14, 15⟩ [⟨0, 13, 19, 18⟩, ⟨0, 13, 24, 28⟩] (hxt.trans rfl) (fun z hz => by cases hz) (by decide) (by decide) (by decide +kernel) (by decide) (fun h h' hh hj9 q => ?_)
  rw [hh] at hj9
  refine V_astore7 (pc' := 16) C dL_addRule_14 rfl (by decide) rfl ?_
  refine V_ldc (pc' := 18) (n := (-900001)) (v := (-900001)) C (by decide +kernel) dL_addRule_16 rfl (by decide) ?_
  exact V_end C hr hlk (fun h2 hh2 => by subst hh2; exact ⟨rfl, hj9⟩) ⟨by omega, by omega⟩ dL_addRule_18
set_option maxHeartbeats 4000000 in
set_option maxRecDepth 100000 in
theorem kW_addRule_2 {z1 : Int} {z2 : Int} {z3 : Int} {z4 : Int} {z5 : Int} {z6 : Int} {I : Hp → Prop} {JX : Hp → Hp → Prop} (hM : Tx l yX7_addRule wsX7_addRule rm D (tyL cB cC cI cO cJ cD) ee [.ref b, .int (iI z1), .int (iI z2), .int (iI z3), .int (iI z4), .int (iI z5), .int (iI z6)] I "java/lang/IllegalArgumentException" JX mc ms) (hcs : rm.cells = mc ∧ rm.slots = ms) (hrec : ∀ h, I h → ∃ t fs, h b = some (t, .inr (12, fs))) : Ct l yL_addRule wsL_addRule ({ frames := rm.frames + 1, cells := mc, slots := ms, locals := rm.locals + 28 } : Room) D (tyL cB cC cI cO cJ cD) ee [.ref b, .int (iI z1), .int (iI z2), .int (iI z3), .int (iI z4), .int (iI z5), .int (iI z6)] (I) (fun h v9 h' => v9 = some (.int (iI (-900002))) ∧ JX h h') mc ms := by
  refine Ctw_of (cc := cL_addRule) (own := RL) [some (.ref b), some (.int (iI z1)), some (.int (iI z2)), some (.int (iI z3)), some (.int (iI z4)), some (.int (iI z5)), some (.int (iI z6)), none] (by decide) rfl rfl (Nat.le_of_ble_eq_true rfl) (fun i9 v9 h9 => argL [.ref b, .int (iI z1), .int (iI z2), .int (iI z3), .int (iI z4), .int (iI z5), .int (iI z6)] 1 rfl i9 v9 h9) ?_
  intro p e s m9 args below meth c9 h0 sz hI C hr hlk hxt
  refine V_aload0 (pc' := 1) C dL_addRule_0 rfl ?_
  refine V_iload1 (pc' := 2) C dL_addRule_1 rfl ?_
  refine V_iload2 (pc' := 3) C dL_addRule_2 rfl ?_
  refine V_iload3 (pc' := 4) C dL_addRule_3 rfl ?_
  refine V_iload4 (pc' := 6) C dL_addRule_4 rfl ?_
  refine V_iload5 (pc' := 8) C dL_addRule_6 rfl ?_
  refine V_iload6 (pc' := 10) C dL_addRule_8 rfl ?_
  refine V_catchV (ci := 12) (n := 6) (name := "java/lang/IllegalArgumentException") [.int (iI z1), .int (iI z2), .int (iI z3), .int (iI z4), .int (iI z5), .int (iI z6)] C hM gL_addRule_X7_addRule rfl ydX7_addRule ⟨by dsimp only; omega, by dsimp only; omega⟩ hcs rfl rfl (fun h hh => by subst hh; exact hrec _ hI) (fun h hh => by subst hh; exact hI) rfl (Nat.le_of_ble_eq_true rfl) dL_addRule_10 ⟨by dsimp only; omega, by dsimp only; omega⟩ [⟨0, 13, 14, 15⟩] ⟨0, 13, 19, 18⟩ [⟨0, 13, 24, 28⟩] (hxt.trans rfl) (fun z hz => by
        rcases List.mem_singleton.mp hz with rfl
        exact Or.inr ⟨by decide, "java/lang/IndexOutOfBoundsException", by decide +kernel, by decide⟩) (by decide) (by decide) (by decide +kernel) (by decide) (fun h h' hh hj9 q => ?_)
  rw [hh] at hj9
  refine V_astore7 (pc' := 21) C dL_addRule_19 rfl (by decide) rfl ?_
  refine V_ldc (pc' := 23) (n := (-900002)) (v := (-900002)) C (by decide +kernel) dL_addRule_21 rfl (by decide) ?_
  exact V_end C hr hlk (fun h2 hh2 => by subst hh2; exact ⟨rfl, hj9⟩) ⟨by omega, by omega⟩ dL_addRule_23
set_option maxHeartbeats 4000000 in
set_option maxRecDepth 100000 in
theorem kW_addRule_3 {z1 : Int} {z2 : Int} {z3 : Int} {z4 : Int} {z5 : Int} {z6 : Int} {I : Hp → Prop} {JX : Hp → Hp → Prop} (hM : Tx l yX7_addRule wsX7_addRule rm D (tyL cB cC cI cO cJ cD) ee [.ref b, .int (iI z1), .int (iI z2), .int (iI z3), .int (iI z4), .int (iI z5), .int (iI z6)] I "java/lang/IllegalStateException" JX mc ms) (hcs : rm.cells = mc ∧ rm.slots = ms) (hrec : ∀ h, I h → ∃ t fs, h b = some (t, .inr (12, fs))) : Ct l yL_addRule wsL_addRule ({ frames := rm.frames + 1, cells := mc, slots := ms, locals := rm.locals + 28 } : Room) D (tyL cB cC cI cO cJ cD) ee [.ref b, .int (iI z1), .int (iI z2), .int (iI z3), .int (iI z4), .int (iI z5), .int (iI z6)] (I) (fun h v9 h' => v9 = some (.int (iI (-900003))) ∧ JX h h') mc ms := by
  refine Ctw_of (cc := cL_addRule) (own := RL) [some (.ref b), some (.int (iI z1)), some (.int (iI z2)), some (.int (iI z3)), some (.int (iI z4)), some (.int (iI z5)), some (.int (iI z6)), none] (by decide) rfl rfl (Nat.le_of_ble_eq_true rfl) (fun i9 v9 h9 => argL [.ref b, .int (iI z1), .int (iI z2), .int (iI z3), .int (iI z4), .int (iI z5), .int (iI z6)] 1 rfl i9 v9 h9) ?_
  intro p e s m9 args below meth c9 h0 sz hI C hr hlk hxt
  refine V_aload0 (pc' := 1) C dL_addRule_0 rfl ?_
  refine V_iload1 (pc' := 2) C dL_addRule_1 rfl ?_
  refine V_iload2 (pc' := 3) C dL_addRule_2 rfl ?_
  refine V_iload3 (pc' := 4) C dL_addRule_3 rfl ?_
  refine V_iload4 (pc' := 6) C dL_addRule_4 rfl ?_
  refine V_iload5 (pc' := 8) C dL_addRule_6 rfl ?_
  refine V_iload6 (pc' := 10) C dL_addRule_8 rfl ?_
  refine V_catchV (ci := 12) (n := 6) (name := "java/lang/IllegalStateException") [.int (iI z1), .int (iI z2), .int (iI z3), .int (iI z4), .int (iI z5), .int (iI z6)] C hM gL_addRule_X7_addRule rfl ydX7_addRule ⟨by dsimp only; omega, by dsimp only; omega⟩ hcs rfl rfl (fun h hh => by subst hh; exact hrec _ hI) (fun h hh => by subst hh; exact hI) rfl (Nat.le_of_ble_eq_true rfl) dL_addRule_10 ⟨by dsimp only; omega, by dsimp only; omega⟩ [⟨0, 13, 14, 15⟩, ⟨0, 13, 19, 18⟩] ⟨0, 13, 24, 28⟩ [] (hxt.trans rfl) (fun z hz => by
        rcases List.mem_cons.mp hz with rfl | hz
        · exact Or.inr ⟨by decide, "java/lang/IndexOutOfBoundsException", by decide +kernel, by decide⟩
        rcases List.mem_singleton.mp hz with rfl
        exact Or.inr ⟨by decide, "java/lang/IllegalArgumentException", by decide +kernel, by decide⟩) (by decide) (by decide) (by decide +kernel) (by decide) (fun h h' hh hj9 q => ?_)
  rw [hh] at hj9
  refine V_astore7 (pc' := 26) C dL_addRule_24 rfl (by decide) rfl ?_
  refine V_ldc (pc' := 28) (n := (-900003)) (v := (-900003)) C (by decide +kernel) dL_addRule_26 rfl (by decide) ?_
  exact V_end C hr hlk (fun h2 hh2 => by subst hh2; exact ⟨rfl, hj9⟩) ⟨by omega, by omega⟩ dL_addRule_28
set_option maxHeartbeats 4000000 in
set_option maxRecDepth 100000 in
theorem kW_setRank {z1 : Int} {z2 : Int} {I : Hp → Prop} {J : Hp → Option Value → Hp → Prop} (hM : Ct l yX7_setRank wsX7_setRank rm D (tyL cB cC cI cO cJ cD) ee [.ref b, .int (iI z1), .int (iI z2)] I J mc ms) (hcs : rm.cells = mc ∧ rm.slots = ms) (hrec : ∀ h, I h → ∃ t fs, h b = some (t, .inr (12, fs))) (hJ : ∀ h v h', I h → J h v h' → ∃ z : Int, v = some (.int (iI z))) : Ct l yL_setRank wsL_setRank ({ frames := rm.frames + 1, cells := mc, slots := ms, locals := rm.locals + 24 } : Room) D (tyL cB cC cI cO cJ cD) ee [.ref b, .int (iI z1), .int (iI z2)] (I) (J) mc ms := by
  refine Ctw_of (cc := cL_setRank) (own := RL) [some (.ref b), some (.int (iI z1)), some (.int (iI z2)), none] (by decide) rfl rfl (Nat.le_of_ble_eq_true rfl) (fun i9 v9 h9 => argL [.ref b, .int (iI z1), .int (iI z2)] 1 rfl i9 v9 h9) ?_
  intro p e s m9 args below meth c9 h0 sz hI C hr hlk hxt
  refine V_aload0 (pc' := 1) C dL_setRank_0 rfl ?_
  refine V_iload1 (pc' := 2) C dL_setRank_1 rfl ?_
  refine V_iload2 (pc' := 3) C dL_setRank_2 rfl ?_
  refine V_callV (ci := 12) (n := 2) [.int (iI z1), .int (iI z2)] C hM gL_setRank_X7_setRank rfl ydX7_setRank ⟨by dsimp only; omega, by dsimp only; omega⟩ hcs rfl rfl (fun h hh => by subst hh; exact hrec _ hI) (fun h hh => by subst hh; exact hI) rfl (Nat.le_of_ble_eq_true rfl) dL_setRank_3 ⟨by dsimp only; omega, by dsimp only; omega⟩ (fun h v9 h' hh hj9 => ?_)
  rw [hh] at hj9
  obtain ⟨z9, rfl⟩ := hJ h0 v9 h' hI hj9
  exact V_end C hr hlk (fun h2 hh2 => by subst hh2; exact hj9) ⟨by omega, by omega⟩ dL_setRank_6
set_option maxHeartbeats 4000000 in
set_option maxRecDepth 100000 in
theorem kW_setRank_1 {z1 : Int} {z2 : Int} {I : Hp → Prop} {JX : Hp → Hp → Prop} (hM : Tx l yX7_setRank wsX7_setRank rm D (tyL cB cC cI cO cJ cD) ee [.ref b, .int (iI z1), .int (iI z2)] I "java/lang/IndexOutOfBoundsException" JX mc ms) (hcs : rm.cells = mc ∧ rm.slots = ms) (hrec : ∀ h, I h → ∃ t fs, h b = some (t, .inr (12, fs))) : Ct l yL_setRank wsL_setRank ({ frames := rm.frames + 1, cells := mc, slots := ms, locals := rm.locals + 24 } : Room) D (tyL cB cC cI cO cJ cD) ee [.ref b, .int (iI z1), .int (iI z2)] (I) (fun h v9 h' => v9 = some (.int (iI (-900001))) ∧ JX h h') mc ms := by
  refine Ctw_of (cc := cL_setRank) (own := RL) [some (.ref b), some (.int (iI z1)), some (.int (iI z2)), none] (by decide) rfl rfl (Nat.le_of_ble_eq_true rfl) (fun i9 v9 h9 => argL [.ref b, .int (iI z1), .int (iI z2)] 1 rfl i9 v9 h9) ?_
  intro p e s m9 args below meth c9 h0 sz hI C hr hlk hxt
  refine V_aload0 (pc' := 1) C dL_setRank_0 rfl ?_
  refine V_iload1 (pc' := 2) C dL_setRank_1 rfl ?_
  refine V_iload2 (pc' := 3) C dL_setRank_2 rfl ?_
  refine V_catchV (ci := 12) (n := 2) (name := "java/lang/IndexOutOfBoundsException") [.int (iI z1), .int (iI z2)] C hM gL_setRank_X7_setRank rfl ydX7_setRank ⟨by dsimp only; omega, by dsimp only; omega⟩ hcs rfl rfl (fun h hh => by subst hh; exact hrec _ hI) (fun h hh => by subst hh; exact hI) rfl (Nat.le_of_ble_eq_true rfl) dL_setRank_3 ⟨by dsimp only; omega, by dsimp only; omega⟩ [] ⟨0, 6, 7, 15⟩ [⟨0, 6, 11, 18⟩] (hxt.trans rfl) (fun z hz => by cases hz) (by decide) (by decide) (by decide +kernel) (by decide) (fun h h' hh hj9 q => ?_)
  rw [hh] at hj9
  refine V_astore3 (pc' := 8) C dL_setRank_7 rfl (by decide) rfl ?_
  refine V_ldc (pc' := 10) (n := (-900001)) (v := (-900001)) C (by decide +kernel) dL_setRank_8 rfl (by decide) ?_
  exact V_end C hr hlk (fun h2 hh2 => by subst hh2; exact ⟨rfl, hj9⟩) ⟨by omega, by omega⟩ dL_setRank_10
set_option maxHeartbeats 4000000 in
set_option maxRecDepth 100000 in
theorem kW_setRank_2 {z1 : Int} {z2 : Int} {I : Hp → Prop} {JX : Hp → Hp → Prop} (hM : Tx l yX7_setRank wsX7_setRank rm D (tyL cB cC cI cO cJ cD) ee [.ref b, .int (iI z1), .int (iI z2)] I "java/lang/IllegalArgumentException" JX mc ms) (hcs : rm.cells = mc ∧ rm.slots = ms) (hrec : ∀ h, I h → ∃ t fs, h b = some (t, .inr (12, fs))) : Ct l yL_setRank wsL_setRank ({ frames := rm.frames + 1, cells := mc, slots := ms, locals := rm.locals + 24 } : Room) D (tyL cB cC cI cO cJ cD) ee [.ref b, .int (iI z1), .int (iI z2)] (I) (fun h v9 h' => v9 = some (.int (iI (-900002))) ∧ JX h h') mc ms := by
  refine Ctw_of (cc := cL_setRank) (own := RL) [some (.ref b), some (.int (iI z1)), some (.int (iI z2)), none] (by decide) rfl rfl (Nat.le_of_ble_eq_true rfl) (fun i9 v9 h9 => argL [.ref b, .int (iI z1), .int (iI z2)] 1 rfl i9 v9 h9) ?_
  intro p e s m9 args below meth c9 h0 sz hI C hr hlk hxt
  refine V_aload0 (pc' := 1) C dL_setRank_0 rfl ?_
  refine V_iload1 (pc' := 2) C dL_setRank_1 rfl ?_
  refine V_iload2 (pc' := 3) C dL_setRank_2 rfl ?_
  refine V_catchV (ci := 12) (n := 2) (name := "java/lang/IllegalArgumentException") [.int (iI z1), .int (iI z2)] C hM gL_setRank_X7_setRank rfl ydX7_setRank ⟨by dsimp only; omega, by dsimp only; omega⟩ hcs rfl rfl (fun h hh => by subst hh; exact hrec _ hI) (fun h hh => by subst hh; exact hI) rfl (Nat.le_of_ble_eq_true rfl) dL_setRank_3 ⟨by dsimp only; omega, by dsimp only; omega⟩ [⟨0, 6, 7, 15⟩] ⟨0, 6, 11, 18⟩ [] (hxt.trans rfl) (fun z hz => by
        rcases List.mem_singleton.mp hz with rfl
        exact Or.inr ⟨by decide, "java/lang/IndexOutOfBoundsException", by decide +kernel, by decide⟩) (by decide) (by decide) (by decide +kernel) (by decide) (fun h h' hh hj9 q => ?_)
  rw [hh] at hj9
  refine V_astore3 (pc' := 12) C dL_setRank_11 rfl (by decide) rfl ?_
  refine V_ldc (pc' := 14) (n := (-900002)) (v := (-900002)) C (by decide +kernel) dL_setRank_12 rfl (by decide) ?_
  exact V_end C hr hlk (fun h2 hh2 => by subst hh2; exact ⟨rfl, hj9⟩) ⟨by omega, by omega⟩ dL_setRank_14
set_option maxHeartbeats 4000000 in
set_option maxRecDepth 100000 in
theorem kW_rule {z1 : Int} {z2 : Int} {I : Hp → Prop} {J : Hp → Option Value → Hp → Prop} (hM : Ct l yX7_rule wsX7_rule rm D (tyL cB cC cI cO cJ cD) ee [.ref b, .int (iI z1), .int (iI z2)] I J mc ms) (hcs : rm.cells = mc ∧ rm.slots = ms) (hrec : ∀ h, I h → ∃ t fs, h b = some (t, .inr (12, fs))) (hJ : ∀ h v h', I h → J h v h' → ∃ z : Int, v = some (.int (iI z))) : Ct l yL_rule wsL_rule ({ frames := rm.frames + 1, cells := mc, slots := ms, locals := rm.locals + 23 } : Room) D (tyL cB cC cI cO cJ cD) ee [.ref b, .int (iI z1), .int (iI z2)] (I) (J) mc ms := by
  refine Ctw_of (cc := cL_rule) (own := RL) [some (.ref b), some (.int (iI z1)), some (.int (iI z2)), none] (by decide) rfl rfl (Nat.le_of_ble_eq_true rfl) (fun i9 v9 h9 => argL [.ref b, .int (iI z1), .int (iI z2)] 1 rfl i9 v9 h9) ?_
  intro p e s m9 args below meth c9 h0 sz hI C hr hlk hxt
  refine V_aload0 (pc' := 1) C dL_rule_0 rfl ?_
  refine V_iload1 (pc' := 2) C dL_rule_1 rfl ?_
  refine V_iload2 (pc' := 3) C dL_rule_2 rfl ?_
  refine V_callV (ci := 12) (n := 2) [.int (iI z1), .int (iI z2)] C hM gL_rule_X7_rule rfl ydX7_rule ⟨by dsimp only; omega, by dsimp only; omega⟩ hcs rfl rfl (fun h hh => by subst hh; exact hrec _ hI) (fun h hh => by subst hh; exact hI) rfl (Nat.le_of_ble_eq_true rfl) dL_rule_3 ⟨by dsimp only; omega, by dsimp only; omega⟩ (fun h v9 h' hh hj9 => ?_)
  rw [hh] at hj9
  obtain ⟨z9, rfl⟩ := hJ h0 v9 h' hI hj9
  exact V_end C hr hlk (fun h2 hh2 => by subst hh2; exact hj9) ⟨by omega, by omega⟩ dL_rule_6
set_option maxHeartbeats 4000000 in
set_option maxRecDepth 100000 in
theorem kW_rule_1 {z1 : Int} {z2 : Int} {I : Hp → Prop} {JX : Hp → Hp → Prop} (hM : Tx l yX7_rule wsX7_rule rm D (tyL cB cC cI cO cJ cD) ee [.ref b, .int (iI z1), .int (iI z2)] I "java/lang/IndexOutOfBoundsException" JX mc ms) (hcs : rm.cells = mc ∧ rm.slots = ms) (hrec : ∀ h, I h → ∃ t fs, h b = some (t, .inr (12, fs))) : Ct l yL_rule wsL_rule ({ frames := rm.frames + 1, cells := mc, slots := ms, locals := rm.locals + 23 } : Room) D (tyL cB cC cI cO cJ cD) ee [.ref b, .int (iI z1), .int (iI z2)] (I) (fun h v9 h' => v9 = some (.int (iI (-900001))) ∧ JX h h') mc ms := by
  refine Ctw_of (cc := cL_rule) (own := RL) [some (.ref b), some (.int (iI z1)), some (.int (iI z2)), none] (by decide) rfl rfl (Nat.le_of_ble_eq_true rfl) (fun i9 v9 h9 => argL [.ref b, .int (iI z1), .int (iI z2)] 1 rfl i9 v9 h9) ?_
  intro p e s m9 args below meth c9 h0 sz hI C hr hlk hxt
  refine V_aload0 (pc' := 1) C dL_rule_0 rfl ?_
  refine V_iload1 (pc' := 2) C dL_rule_1 rfl ?_
  refine V_iload2 (pc' := 3) C dL_rule_2 rfl ?_
  refine V_catchV (ci := 12) (n := 2) (name := "java/lang/IndexOutOfBoundsException") [.int (iI z1), .int (iI z2)] C hM gL_rule_X7_rule rfl ydX7_rule ⟨by dsimp only; omega, by dsimp only; omega⟩ hcs rfl rfl (fun h hh => by subst hh; exact hrec _ hI) (fun h hh => by subst hh; exact hI) rfl (Nat.le_of_ble_eq_true rfl) dL_rule_3 ⟨by dsimp only; omega, by dsimp only; omega⟩ [] ⟨0, 6, 7, 15⟩ [⟨0, 6, 11, 77⟩] (hxt.trans rfl) (fun z hz => by cases hz) (by decide) (by decide) (by decide +kernel) (by decide) (fun h h' hh hj9 q => ?_)
  rw [hh] at hj9
  refine V_astore3 (pc' := 8) C dL_rule_7 rfl (by decide) rfl ?_
  refine V_ldc (pc' := 10) (n := (-900001)) (v := (-900001)) C (by decide +kernel) dL_rule_8 rfl (by decide) ?_
  exact V_end C hr hlk (fun h2 hh2 => by subst hh2; exact ⟨rfl, hj9⟩) ⟨by omega, by omega⟩ dL_rule_10
set_option maxHeartbeats 4000000 in
set_option maxRecDepth 100000 in
theorem kW_rule_2 {z1 : Int} {z2 : Int} {I : Hp → Prop} {JX : Hp → Hp → Prop} (hM : Tx l yX7_rule wsX7_rule rm D (tyL cB cC cI cO cJ cD) ee [.ref b, .int (iI z1), .int (iI z2)] I "java/util/NoSuchElementException" JX mc ms) (hcs : rm.cells = mc ∧ rm.slots = ms) (hrec : ∀ h, I h → ∃ t fs, h b = some (t, .inr (12, fs))) : Ct l yL_rule wsL_rule ({ frames := rm.frames + 1, cells := mc, slots := ms, locals := rm.locals + 23 } : Room) D (tyL cB cC cI cO cJ cD) ee [.ref b, .int (iI z1), .int (iI z2)] (I) (fun h v9 h' => v9 = some (.int (iI (-900002))) ∧ JX h h') mc ms := by
  refine Ctw_of (cc := cL_rule) (own := RL) [some (.ref b), some (.int (iI z1)), some (.int (iI z2)), none] (by decide) rfl rfl (Nat.le_of_ble_eq_true rfl) (fun i9 v9 h9 => argL [.ref b, .int (iI z1), .int (iI z2)] 1 rfl i9 v9 h9) ?_
  intro p e s m9 args below meth c9 h0 sz hI C hr hlk hxt
  refine V_aload0 (pc' := 1) C dL_rule_0 rfl ?_
  refine V_iload1 (pc' := 2) C dL_rule_1 rfl ?_
  refine V_iload2 (pc' := 3) C dL_rule_2 rfl ?_
  refine V_catchV (ci := 12) (n := 2) (name := "java/util/NoSuchElementException") [.int (iI z1), .int (iI z2)] C hM gL_rule_X7_rule rfl ydX7_rule ⟨by dsimp only; omega, by dsimp only; omega⟩ hcs rfl rfl (fun h hh => by subst hh; exact hrec _ hI) (fun h hh => by subst hh; exact hI) rfl (Nat.le_of_ble_eq_true rfl) dL_rule_3 ⟨by dsimp only; omega, by dsimp only; omega⟩ [⟨0, 6, 7, 15⟩] ⟨0, 6, 11, 77⟩ [] (hxt.trans rfl) (fun z hz => by
        rcases List.mem_singleton.mp hz with rfl
        exact Or.inr ⟨by decide, "java/lang/IndexOutOfBoundsException", by decide +kernel, by decide⟩) (by decide) (by decide) (by decide +kernel) (by decide) (fun h h' hh hj9 q => ?_)
  rw [hh] at hj9
  refine V_astore3 (pc' := 12) C dL_rule_11 rfl (by decide) rfl ?_
  refine V_ldc (pc' := 14) (n := (-900002)) (v := (-900002)) C (by decide +kernel) dL_rule_12 rfl (by decide) ?_
  exact V_end C hr hlk (fun h2 hh2 => by subst hh2; exact ⟨rfl, hj9⟩) ⟨by omega, by omega⟩ dL_rule_14
set_option maxHeartbeats 4000000 in
set_option maxRecDepth 100000 in
theorem kW_undo {I : Hp → Prop} {J : Hp → Option Value → Hp → Prop} (hM : Ct l yX7_undo wsX7_undo rm D (tyL cB cC cI cO cJ cD) ee [.ref b] I J mc ms) (hcs : rm.cells = mc ∧ rm.slots = ms) (hrec : ∀ h, I h → ∃ t fs, h b = some (t, .inr (12, fs))) (hJ : ∀ h v h', I h → J h v h' → ∃ z : Int, v = some (.int (iI z))) : Ct l yL_undo wsL_undo ({ frames := rm.frames + 1, cells := mc, slots := ms, locals := rm.locals + 23 } : Room) D (tyL cB cC cI cO cJ cD) ee [.ref b] (I) (J) mc ms := by
  refine Ctw_of (cc := cL_undo) (own := RL) [some (.ref b), none] (by decide) rfl rfl (Nat.le_of_ble_eq_true rfl) (fun i9 v9 h9 => argL [.ref b] 1 rfl i9 v9 h9) ?_
  intro p e s m9 args below meth c9 h0 sz hI C hr hlk hxt
  refine V_aload0 (pc' := 1) C dL_undo_0 rfl ?_
  refine V_callV (ci := 12) (n := 0) [] C hM gL_undo_X7_undo rfl ydX7_undo ⟨by dsimp only; omega, by dsimp only; omega⟩ hcs rfl rfl (fun h hh => by subst hh; exact hrec _ hI) (fun h hh => by subst hh; exact hI) rfl (Nat.le_of_ble_eq_true rfl) dL_undo_1 ⟨by dsimp only; omega, by dsimp only; omega⟩ (fun h v9 h' hh hj9 => ?_)
  rw [hh] at hj9
  obtain ⟨z9, rfl⟩ := hJ h0 v9 h' hI hj9
  exact V_end C hr hlk (fun h2 hh2 => by subst hh2; exact hj9) ⟨by omega, by omega⟩ dL_undo_4
set_option maxHeartbeats 4000000 in
set_option maxRecDepth 100000 in
theorem kW_undo_1 {I : Hp → Prop} {JX : Hp → Hp → Prop} (hM : Tx l yX7_undo wsX7_undo rm D (tyL cB cC cI cO cJ cD) ee [.ref b] I "java/lang/IllegalStateException" JX mc ms) (hcs : rm.cells = mc ∧ rm.slots = ms) (hrec : ∀ h, I h → ∃ t fs, h b = some (t, .inr (12, fs))) : Ct l yL_undo wsL_undo ({ frames := rm.frames + 1, cells := mc, slots := ms, locals := rm.locals + 23 } : Room) D (tyL cB cC cI cO cJ cD) ee [.ref b] (I) (fun h v9 h' => v9 = some (.int (iI (-900001))) ∧ JX h h') mc ms := by
  refine Ctw_of (cc := cL_undo) (own := RL) [some (.ref b), none] (by decide) rfl rfl (Nat.le_of_ble_eq_true rfl) (fun i9 v9 h9 => argL [.ref b] 1 rfl i9 v9 h9) ?_
  intro p e s m9 args below meth c9 h0 sz hI C hr hlk hxt
  refine V_aload0 (pc' := 1) C dL_undo_0 rfl ?_
  refine V_catchV (ci := 12) (n := 0) (name := "java/lang/IllegalStateException") [] C hM gL_undo_X7_undo rfl ydX7_undo ⟨by dsimp only; omega, by dsimp only; omega⟩ hcs rfl rfl (fun h hh => by subst hh; exact hrec _ hI) (fun h hh => by subst hh; exact hI) rfl (Nat.le_of_ble_eq_true rfl) dL_undo_1 ⟨by dsimp only; omega, by dsimp only; omega⟩ [] ⟨0, 4, 5, 28⟩ [] (hxt.trans rfl) (fun z hz => by cases hz) (by decide) (by decide) (by decide +kernel) (by decide) (fun h h' hh hj9 q => ?_)
  rw [hh] at hj9
  refine V_astore1 (pc' := 6) C dL_undo_5 rfl (by decide) rfl ?_
  refine V_ldc (pc' := 8) (n := (-900001)) (v := (-900001)) C (by decide +kernel) dL_undo_6 rfl (by decide) ?_
  exact V_end C hr hlk (fun h2 hh2 => by subst hh2; exact ⟨rfl, hj9⟩) ⟨by omega, by omega⟩ dL_undo_8
set_option maxHeartbeats 4000000 in
set_option maxRecDepth 100000 in
theorem kW_meanValue {I : Hp → Prop} {J : Hp → Option Value → Hp → Prop} (hM : Ct l yX7_meanValue wsX7_meanValue rm D (tyL cB cC cI cO cJ cD) ee [.ref b] I J mc ms) (hcs : rm.cells = mc ∧ rm.slots = ms) (hrec : ∀ h, I h → ∃ t fs, h b = some (t, .inr (12, fs))) (hJ : ∀ h v h', I h → J h v h' → ∃ z : UInt64, v = some (.double z)) : Ct l yL_meanValue wsL_meanValue ({ frames := rm.frames + 1, cells := mc, slots := ms, locals := rm.locals + 24 } : Room) D (tyL cB cC cI cO cJ cD) ee [.ref b] (I) (J) mc ms := by
  refine Ctw_of (cc := cL_meanValue) (own := RL) [some (.ref b), none] (by decide) rfl rfl (Nat.le_of_ble_eq_true rfl) (fun i9 v9 h9 => argL [.ref b] 1 rfl i9 v9 h9) ?_
  intro p e s m9 args below meth c9 h0 sz hI C hr hlk hxt
  refine V_aload0 (pc' := 1) C dL_meanValue_0 rfl ?_
  refine V_callV (ci := 12) (n := 0) [] C hM gL_meanValue_X7_meanValue rfl ydX7_meanValue ⟨by dsimp only; omega, by dsimp only; omega⟩ hcs rfl rfl (fun h hh => by subst hh; exact hrec _ hI) (fun h hh => by subst hh; exact hI) rfl (Nat.le_of_ble_eq_true rfl) dL_meanValue_1 ⟨by dsimp only; omega, by dsimp only; omega⟩ (fun h v9 h' hh hj9 => ?_)
  rw [hh] at hj9
  obtain ⟨z9, rfl⟩ := hJ h0 v9 h' hI hj9
  exact V_endd C hr hlk (fun h2 hh2 => by subst hh2; exact hj9) ⟨by omega, by omega⟩ dL_meanValue_4
set_option maxHeartbeats 4000000 in
set_option maxRecDepth 100000 in
theorem kW_meanValue_1 {I : Hp → Prop} {JX : Hp → Hp → Prop} (hM : Tx l yX7_meanValue wsX7_meanValue rm D (tyL cB cC cI cO cJ cD) ee [.ref b] I "java/lang/ArithmeticException" JX mc ms) (hcs : rm.cells = mc ∧ rm.slots = ms) (hrec : ∀ h, I h → ∃ t fs, h b = some (t, .inr (12, fs))) : Ct l yL_meanValue wsL_meanValue ({ frames := rm.frames + 1, cells := mc, slots := ms, locals := rm.locals + 24 } : Room) D (tyL cB cC cI cO cJ cD) ee [.ref b] (I) (fun h v9 h' => v9 = some (.double CM9) ∧ JX h h') mc ms := by
  refine Ctw_of (cc := cL_meanValue) (own := RL) [some (.ref b), none] (by decide) rfl rfl (Nat.le_of_ble_eq_true rfl) (fun i9 v9 h9 => argL [.ref b] 1 rfl i9 v9 h9) ?_
  intro p e s m9 args below meth c9 h0 sz hI C hr hlk hxt
  refine V_aload0 (pc' := 1) C dL_meanValue_0 rfl ?_
  refine V_catchV (ci := 12) (n := 0) (name := "java/lang/ArithmeticException") [] C hM gL_meanValue_X7_meanValue rfl ydX7_meanValue ⟨by dsimp only; omega, by dsimp only; omega⟩ hcs rfl rfl (fun h hh => by subst hh; exact hrec _ hI) (fun h hh => by subst hh; exact hI) rfl (Nat.le_of_ble_eq_true rfl) dL_meanValue_1 ⟨by dsimp only; omega, by dsimp only; omega⟩ [] ⟨0, 4, 5, 86⟩ [] (hxt.trans rfl) (fun z hz => by cases hz) (by decide) (by decide) (by decide +kernel) (by decide) (fun h h' hh hj9 q => ?_)
  rw [hh] at hj9
  refine V_astore1 (pc' := 6) C dL_meanValue_5 rfl (by decide) rfl ?_
  refine V_ldc2d (pc' := 9) (v := CM9) C (by decide +kernel) dL_meanValue_6 rfl ?_
  exact V_endd C hr hlk (fun h2 hh2 => by subst hh2; exact ⟨rfl, hj9⟩) ⟨by omega, by omega⟩ dL_meanValue_9
end

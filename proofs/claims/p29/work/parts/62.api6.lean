/-! the class: grant, addRule -/
theorem ydX7_grant : yX7_grant.cls = RX7 ∧ yX7_grant.cls ≠ "java/lang/invoke/MethodHandle" ∧ yX7_grant.cls ≠ "java/lang/invoke/VarHandle" ∧ (parseMethodDescriptor yX7_grant.desc).map (fun d => d.parameters.length) = some 5 := by decide +kernel
theorem ydX7_addRule : yX7_addRule.cls = RX7 ∧ yX7_addRule.cls ≠ "java/lang/invoke/MethodHandle" ∧ yX7_addRule.cls ≠ "java/lang/invoke/VarHandle" ∧ (parseMethodDescriptor yX7_addRule.desc).map (fun d => d.parameters.length) = some 6 := by decide +kernel
section
variable {l : Launch} {D : va_G} {cB cC cI cO cJ cD : ClassId} {ee : Nat × Nat} {Tx9 : (Nat → Nat) → MSt → Hp → Prop} {P : Nat → Nat} {S X : MSt}
set_option maxHeartbeats 4000000 in
set_option maxRecDepth 100000 in
theorem kX7_grant (hwp : WFp S) (hrm : RM S) (h9 : T9ok Tx9) (hp9 : T9p Tx9) {m : Nat} (hm1 : (m : Int) < S.2 22) {c r c2 r2 : Int} (hr2 : rI c ∧ rI r) (hr3 : rI c2 ∧ rI r2) (hc2 : isCellB c r = true) (hc3 : isCellB c2 r2 = true) (hrg0 : isRangeB c r c2 r2 = true) (hlt : S.1 9 m < 4) : Ct l yX7_grant wsX7_grant ({ frames := 8, cells := 2, slots := 14, locals := 190 } : Room) D (tyL cB cC cI cO cJ cD) ee [.ref (P 1), .int (iI (m : Int)), .int (iI c), .int (iI r), .int (iI c2), .int (iI r2)] (CW cI cO ee Tx9 P S X) (Ji fun h z9 h' => z9 = S.1 9 m + 1 ∧ (∃ P', CW cI cO ee Tx9 P' (grS S m (atI c r) (atI c2 r2)) X h' ∧ P' 1 = P 1) ∧ Fr T7 h h') (2) (14) := by
  refine Ct_of (cc := cX7_grant) (own := RX7) [some (.ref (P 1)), some (.int (iI (m : Int))), some (.int (iI c)), some (.int (iI r)), some (.int (iI c2)), some (.int (iI r2)), none] (by decide) rfl rfl (Nat.le_of_ble_eq_true rfl) (fun i9 v9 h9 => argL [.ref (P 1), .int (iI (m : Int)), .int (iI c), .int (iI r), .int (iI c2), .int (iI r2)] 1 rfl i9 v9 h9) ?_
  intro p e s m9 args below meth c9 h0 sz hI C hr hlk hinit
  obtain ⟨hw1, hw2, hw3, hw4, hw5, hw6⟩ := id hwp
  obtain ⟨hma, ⟨md, ar, hsl⟩, hst9, ⟨md', ar', hgl⟩, hrg⟩ := hI.2.2.2.2.2.2.2.2.1 m hm1
  have hm9 := hw2 m (by omega) (by omega)
  obtain ⟨g, hg⟩ : ∃ g : Nat, S.1 9 m = (g : Int) := ⟨(S.1 9 m).toNat, by omega⟩
  have hcr : c = atI c r % 6 ∧ r = atI c r / 6 := by
    simp only [isCellB, isInB, Bool.and_eq_true, decide_eq_true_eq] at hc2
    unfold atI
    omega
  have hcr3 : c2 = atI c2 r2 % 6 ∧ r2 = atI c2 r2 / 6 := by
    simp only [isCellB, isInB, Bool.and_eq_true, decide_eq_true_eq] at hc3
    unfold atI
    omega
  have hg4 : g < 4 := by omega
  refine V_weak (I2 := fun x9 => CW cI cO ee Tx9 P S X x9 ∧ x9 = h0) (fun x9 hx9 => by subst hx9; exact ⟨hI, rfl⟩) ?_
  refine V_aload0 (pc' := 1) C dX7_grant_0 rfl ?_
  refine V_iload1 (pc' := 2) C dX7_grant_1 rfl ?_
  refine V_callV (ci := 12) (n := 1) [.int (iI (m : Int))] C (kX7_neededMacro (z := (m : Int)) hwp ⟨by omega, by omega⟩) gX7_grant_X7_neededMacro rfl ydX7_neededMacro ⟨Nat.le_of_ble_eq_true rfl, Nat.le_of_ble_eq_true rfl⟩ ⟨rfl, rfl⟩ rfl rfl (fun h hh => ⟨1, _, hh.1.1⟩) (fun h hh => hh.1) rfl (Nat.le_of_ble_eq_true rfl) dX7_grant_2 ⟨Nat.le_of_ble_eq_true rfl, Nat.le_of_ble_eq_true rfl⟩ (fun h v h' hh hj9 => ?_)
  obtain ⟨rfl, rfl⟩ := hj9
  refine V_weak (I2 := fun x9 => CW cI cO ee Tx9 P S X x9 ∧ x9 = h0) (fun x9 hx9 => by rw [hx9]; exact hh) ?_
  refine V_eq (st2 := [.ref (P (100 + m))]) (by rw [Int.toNat_natCast]; rfl) ?_
  refine V_astore6 (pc' := 7) C dX7_grant_5 rfl (by decide) rfl ?_
  refine V_iload2 (pc' := 8) C dX7_grant_7 rfl ?_
  refine V_iload3 (pc' := 9) C dX7_grant_8 rfl ?_
  refine V_callS (n := 2) [.int (iI c), .int (iI r)] C (kX7_needCell hr2 hc2) gX7_grant_X7_needCell rfl ydX7_needCell ⟨Nat.le_of_ble_eq_true rfl, Nat.le_of_ble_eq_true rfl⟩ ⟨rfl, rfl⟩ rfl (fun h hh => trivial) rfl (Nat.le_of_ble_eq_true rfl) dX7_grant_9 ⟨Nat.le_of_ble_eq_true rfl, Nat.le_of_ble_eq_true rfl⟩ (fun h v h' hh hj9 => ?_)
  obtain ⟨rfl, rfl⟩ := hj9
  refine V_weak (I2 := fun x9 => CW cI cO ee Tx9 P S X x9 ∧ x9 = h0) (fun x9 hx9 => by rw [hx9]; exact hh) ?_
  refine V_iload4 (pc' := 14) C dX7_grant_12 rfl ?_
  refine V_iload5 (pc' := 16) C dX7_grant_14 rfl ?_
  refine V_callS (n := 2) [.int (iI c2), .int (iI r2)] C (kX7_needCell hr3 hc3) gX7_grant_X7_needCell rfl ydX7_needCell ⟨Nat.le_of_ble_eq_true rfl, Nat.le_of_ble_eq_true rfl⟩ ⟨rfl, rfl⟩ rfl (fun h hh => trivial) rfl (Nat.le_of_ble_eq_true rfl) dX7_grant_16 ⟨Nat.le_of_ble_eq_true rfl, Nat.le_of_ble_eq_true rfl⟩ (fun h v h' hh hj9 => ?_)
  obtain ⟨rfl, rfl⟩ := hj9
  refine V_weak (I2 := fun x9 => CW cI cO ee Tx9 P S X x9 ∧ x9 = h0) (fun x9 hx9 => by rw [hx9]; exact hh) ?_
  refine V_iload2 (pc' := 20) C dX7_grant_19 rfl ?_
  refine V_iload3 (pc' := 21) C dX7_grant_20 rfl ?_
  refine V_iload4 (pc' := 23) C dX7_grant_21 rfl ?_
  refine V_iload5 (pc' := 25) C dX7_grant_23 rfl ?_
  refine sCall4 (pc' := 28) C (kX7_isRange (c := c) (r := r) (c2 := c2) (r2 := r2) ⟨hr2.1, hr2.2, hr3.1, hr3.2⟩) gX7_grant_X7_isRange rfl ydX7_isRange ⟨Nat.le_of_ble_eq_true rfl, Nat.le_of_ble_eq_true rfl⟩ ⟨rfl, rfl⟩ (Nat.le_of_ble_eq_true rfl) dX7_grant_25 ⟨Nat.zero_le _, Nat.zero_le _⟩ rfl ?_
  refine V_ifneB (tgt := 41) C dX7_grant_28 (by decide) rfl (fun c_28 => ?_) (fun c_28 => ?_)
  · refine V_aload6 (pc' := 43) C dX7_grant_41 rfl ?_
    refine V_callV (ci := 8) (n := 0) [] C (kX3_grantCount (t := 100 + m) (ts := 130 + m) (sl := P (110 + m)) (gl := P (130 + m)) (z := (m : Int)) (md := md') (ar := ar') (sn := S.1 9 m) (f := fstP P (300 + 4 * m) (S.1 9 m))) gX7_grant_X3_grantCount rfl ydX3_grantCount ⟨Nat.le_of_ble_eq_true rfl, Nat.le_of_ble_eq_true rfl⟩ ⟨rfl, rfl⟩ rfl rfl (fun h hh => by rw [hh.2]; exact ⟨100 + m, _, hma⟩) (fun h hh => by rw [hh.2]; exact ⟨hma, hgl⟩) rfl (Nat.le_of_ble_eq_true rfl) dX7_grant_43 ⟨Nat.le_of_ble_eq_true rfl, Nat.le_of_ble_eq_true rfl⟩ (fun h v h' hh hj9 => ?_)
    obtain ⟨r9, rfl, hj8, rfl⟩ := hj9
    rw [hj8]
    refine V_weak (I2 := fun x9 => CW cI cO ee Tx9 P S X x9 ∧ x9 = h0) (fun x9 hx9 => by rw [hx9]; exact hh) ?_
    refine V_iconst (pc' := 47) C dX7_grant_46 rfl ?_
    refine V_icmplt (tgt := 60) C (by omega) dX7_grant_47 (by decide) rfl (fun c_47 => ?_) (fun c_47 => ?_)
    · refine V_aload6 (pc' := 62) C dX7_grant_60 rfl ?_
      refine V_new (pc' := 65) (T := TX4) (N := 4) (ty0 := tyX4) (ci := 9) (fs := [.int 0, .int 0, .int 0, .int 0]) (300 + 4 * m + g) C (by decide +kernel) tyX4_ok (by decide +kernel) (by decide +kernel) (by decide +kernel) rfl (by decide) (Nat.le_of_ble_eq_true rfl) (Nat.le_of_ble_eq_true rfl) dX7_grant_62 rfl (fun q => ?_)
      refine V_fix (fun g1 hg1 => ?_)
      obtain ⟨g0, hg0, hq0, hg1⟩ := hg1
      rw [hg0.2] at hq0 hg1
      have hq1 : g1 q = some ((300 + 4 * m + g), .inr (9, [.int 0, .int 0, .int 0, .int 0])) := by rw [hg1]; exact hup_s
      have hf1 : Fr (fun _ => False) h0 g1 := by rw [hg1]; exact Fr.new Fr.refl hq0
      refine V_dup (pc' := 66) C rfl dX7_grant_65 rfl ?_
      refine V_iload2 (pc' := 67) C dX7_grant_66 rfl ?_
      refine V_iload3 (pc' := 68) C dX7_grant_67 rfl ?_
      refine V_iload4 (pc' := 70) C dX7_grant_68 rfl ?_
      refine V_iload5 (pc' := 72) C dX7_grant_70 rfl ?_
      refine V_callI (n := 4) [.int (iI c), .int (iI r), .int (iI c2), .int (iI r2)] C (kX4_init (t := (300 + 4 * m + g)) (c := c) (r := r) (c2 := c2) (r2 := r2)) gX7_grant_X4_init (by decide +kernel) (by decide +kernel) (by decide +kernel) rfl ydX4_init ⟨Nat.le_of_ble_eq_true rfl, Nat.le_of_ble_eq_true rfl⟩ ⟨rfl, rfl⟩ rfl (fun h hh => by rw [hh]; exact hq1) rfl (Nat.le_of_ble_eq_true rfl) dX7_grant_72 ⟨Nat.le_of_ble_eq_true rfl, Nat.le_of_ble_eq_true rfl⟩ (fun h v h' hh hj9 => ?_)
      obtain ⟨rfl, hj1, hj4⟩ := hj9
      rw [hh] at hj4
      have hf2 : Fr (fun u => u = (300 + 4 * m + g)) h0 h' := (hf1.mono (fun _ z => z.elim)).trans hj4
      have hc9 : CW cI cO ee Tx9 P S X h' := hI.kp hwp hrm h9 hf2 (fun u hu z => usT_gr hwp (by omega) hg hg4 hu z) (fun u hu => by omega)
      have hma2 : MaH (P (100 + m)) (100 + m) m (P (110 + m)) (P (130 + m)) h' := hf2 _ _ _ hma (by omega)
      have hgl2 := hgl.fr hf2 (by omega) (by omega)
      refine V_callV (ci := 8) (n := 1) [.ref q] C (kX3_keepGrant (t := 100 + m) (ts := 130 + m) (sl := P (110 + m)) (gl := P (130 + m)) (z := (m : Int)) (md := md') (ar := ar') (sn := S.1 9 m) (f := fstP P (300 + 4 * m) (S.1 9 m)) (bs := q) (tb := (300 + 4 * m + g)) (fs := [iV c, iV r, iV c2, iV r2]) (by unfold tL; omega) (by omega)) gX7_grant_X3_keepGrant rfl ydX3_keepGrant ⟨Nat.le_of_ble_eq_true rfl, Nat.le_of_ble_eq_true rfl⟩ ⟨rfl, rfl⟩ rfl rfl (fun h hh => by rw [hh]; exact ⟨100 + m, _, hma2⟩) (fun h hh => by rw [hh]; exact ⟨hma2, hgl2, hj1⟩) rfl (Nat.le_of_ble_eq_true rfl) dX7_grant_75 ⟨Nat.le_of_ble_eq_true rfl, Nat.le_of_ble_eq_true rfl⟩ (fun h v h9' hh hj9 => ?_)
      obtain ⟨rfl, ⟨q9, hk1⟩, hk2⟩ := hj9
      rw [hh] at hk2
      have hj1b : h' q = some ((300 + 4 * m + g), .inr (9, rgF (atI c r) (atI c2 r2))) := by rw [hj1]; unfold rgF; rw [← hcr.1, ← hcr.2, ← hcr3.1, ← hcr3.2]
      have hc10 : CW cI cO ee Tx9 (pUp P (300 + 4 * m + g) q) (grS S m (atI c r) (atI c2 r2)) X h9' := hc9.mk2 hk2 (fun u hu => by unfold tL; omega) (fun u hu => pUp_n (by omega)) h9 hp9 rfl rfl rfl rfl rfl rfl (MrH.addG hc9.2.2.2.2.2.2.2 hwp hrm hm1 hg hg4 hk2 hj1b hk1)
      have hma3 : MaH (P (100 + m)) (100 + m) m (P (110 + m)) (P (130 + m)) h9' := hk2 _ _ _ hma2 (by unfold tL; omega)
      have hfr9 : Fr T7 h0 h9' := (hf2.mono (fun u hu => by unfold T7; omega)).trans (hk2.mono (fun u hu => by unfold tL at hu; unfold T7; omega))
      refine V_aload6 (pc' := 80) C dX7_grant_78 rfl ?_
      refine V_callV (ci := 8) (n := 0) [] C (kX3_grantCount (t := 100 + m) (ts := 130 + m) (sl := P (110 + m)) (gl := P (130 + m)) (z := (m : Int)) (md := md' + 1) (ar := some q9) (sn := S.1 9 m + 1) (f := _)) gX7_grant_X3_grantCount rfl ydX3_grantCount ⟨Nat.le_of_ble_eq_true rfl, Nat.le_of_ble_eq_true rfl⟩ ⟨rfl, rfl⟩ rfl rfl (fun h hh => by rw [hh]; exact ⟨100 + m, _, hma3⟩) (fun h hh => by rw [hh]; exact ⟨hma3, hk1⟩) rfl (Nat.le_of_ble_eq_true rfl) dX7_grant_80 ⟨Nat.le_of_ble_eq_true rfl, Nat.le_of_ble_eq_true rfl⟩ (fun h v h8' hh hj9 => ?_)
      obtain ⟨r9, rfl, hj8, rfl⟩ := hj9
      rw [hj8]
      refine V_weak (I2 := fun x9 => CW cI cO ee Tx9 (pUp P (300 + 4 * m + g) q) (grS S m (atI c r) (atI c2 r2)) X x9 ∧ Fr T7 h0 x9) (fun x9 hx9 => by rw [hx9]; exact by rw [hh]; exact ⟨hc10, hfr9⟩) ?_
      exact V_end C hr hlk (fun h' hh => ⟨_, rfl, rfl, ⟨_, hh.1, pUp_n (by omega)⟩, hh.2⟩) ⟨Nat.le_of_ble_eq_true rfl, Nat.le_of_ble_eq_true rfl⟩ dX7_grant_83
    · exact absurd c_47 (by omega)
  · exact absurd c_28 (by rw [hrg0]; decide)
set_option maxHeartbeats 4000000 in
set_option maxRecDepth 100000 in
theorem xX7_grant_m (hwp : WFp S) {z c r c2 r2 : Int} (hz : ¬ (0 ≤ z ∧ z < S.2 22)) (hr0 : rI z) (hst : l.stackTraces = false) : Tx l yX7_grant wsX7_grant ({ frames := 8, cells := 1, slots := 6, locals := 170 } : Room) D (tyL cB cC cI cO cJ cD) ee [.ref (P 1), .int (iI z), .int (iI c), .int (iI r), .int (iI c2), .int (iI r2)] (CW cI cO ee Tx9 P S X) "java/lang/IndexOutOfBoundsException" (fun h h' => h' = h) (1) (6) := by
  refine Tx_of (cc := cX7_grant) (own := RX7) [some (.ref (P 1)), some (.int (iI z)), some (.int (iI c)), some (.int (iI r)), some (.int (iI c2)), some (.int (iI r2)), none] (by decide) rfl rfl (Nat.le_of_ble_eq_true rfl) (fun i9 v9 h9 => argL [.ref (P 1), .int (iI z), .int (iI c), .int (iI r), .int (iI c2), .int (iI r2)] 1 rfl i9 v9 h9) ?_
  intro p e s m9 args below meth c9 h0 sz hI C hlk hxt
  refine V_weak (I2 := fun x9 => CW cI cO ee Tx9 P S X x9 ∧ x9 = h0) (fun x9 hx9 => by subst hx9; exact ⟨hI, rfl⟩) ?_
  refine V_aload0 (pc' := 1) C dX7_grant_0 rfl ?_
  refine V_iload1 (pc' := 2) C dX7_grant_1 rfl ?_
  exact V_outV (ci := 12) (n := 1) [.int (iI z)] C (xX7_neededMacro (z := z) hwp hz hr0 hst) gX7_grant_X7_neededMacro rfl ydX7_neededMacro ⟨Nat.le_of_ble_eq_true rfl, Nat.le_of_ble_eq_true rfl⟩ ⟨rfl, rfl⟩ rfl rfl (fun h hh => ⟨1, _, hh.1.1⟩) (fun h hh => hh.1) rfl (Nat.le_of_ble_eq_true rfl) dX7_grant_2 ⟨Nat.le_of_ble_eq_true rfl, Nat.le_of_ble_eq_true rfl⟩ hxt hlk (fun h h' hh hj => by rw [hj]; exact hh.2) ⟨Nat.le_of_ble_eq_true rfl, Nat.le_of_ble_eq_true rfl⟩
set_option maxHeartbeats 4000000 in
set_option maxRecDepth 100000 in
theorem xX7_grant_c (hwp : WFp S) {z : Int} (hz : 0 ≤ z ∧ z < S.2 22) {c r c2 r2 : Int} (hr2 : rI c ∧ rI r) (hr3 : rI c2 ∧ rI r2) (hc2 : isCellB c r = false) (hst : l.stackTraces = false) : Tx l yX7_grant wsX7_grant ({ frames := 8, cells := 1, slots := 6, locals := 170 } : Room) D (tyL cB cC cI cO cJ cD) ee [.ref (P 1), .int (iI z), .int (iI c), .int (iI r), .int (iI c2), .int (iI r2)] (CW cI cO ee Tx9 P S X) "java/lang/IndexOutOfBoundsException" (fun h h' => h' = h) (1) (6) := by
  refine Tx_of (cc := cX7_grant) (own := RX7) [some (.ref (P 1)), some (.int (iI z)), some (.int (iI c)), some (.int (iI r)), some (.int (iI c2)), some (.int (iI r2)), none] (by decide) rfl rfl (Nat.le_of_ble_eq_true rfl) (fun i9 v9 h9 => argL [.ref (P 1), .int (iI z), .int (iI c), .int (iI r), .int (iI c2), .int (iI r2)] 1 rfl i9 v9 h9) ?_
  intro p e s m9 args below meth c9 h0 sz hI C hlk hxt
  refine V_weak (I2 := fun x9 => CW cI cO ee Tx9 P S X x9 ∧ x9 = h0) (fun x9 hx9 => by subst hx9; exact ⟨hI, rfl⟩) ?_
  refine V_aload0 (pc' := 1) C dX7_grant_0 rfl ?_
  refine V_iload1 (pc' := 2) C dX7_grant_1 rfl ?_
  refine V_callV (ci := 12) (n := 1) [.int (iI z)] C (kX7_neededMacro (z := z) hwp hz) gX7_grant_X7_neededMacro rfl ydX7_neededMacro ⟨Nat.le_of_ble_eq_true rfl, Nat.le_of_ble_eq_true rfl⟩ ⟨rfl, rfl⟩ rfl rfl (fun h hh => ⟨1, _, hh.1.1⟩) (fun h hh => hh.1) rfl (Nat.le_of_ble_eq_true rfl) dX7_grant_2 ⟨Nat.le_of_ble_eq_true rfl, Nat.le_of_ble_eq_true rfl⟩ (fun h v h' hh hj9 => ?_)
  obtain ⟨rfl, rfl⟩ := hj9
  refine V_weak (I2 := fun x9 => CW cI cO ee Tx9 P S X x9 ∧ x9 = h0) (fun x9 hx9 => by rw [hx9]; exact hh) ?_
  refine V_astore6 (pc' := 7) C dX7_grant_5 rfl (by decide) rfl ?_
  refine V_iload2 (pc' := 8) C dX7_grant_7 rfl ?_
  refine V_iload3 (pc' := 9) C dX7_grant_8 rfl ?_
  exact V_outS (n := 2) [.int (iI c), .int (iI r)] C (xX7_needCell hr2 hc2 hst) gX7_grant_X7_needCell rfl ydX7_needCell ⟨Nat.le_of_ble_eq_true rfl, Nat.le_of_ble_eq_true rfl⟩ ⟨rfl, rfl⟩ rfl (fun h hh => trivial) rfl (Nat.le_of_ble_eq_true rfl) dX7_grant_9 ⟨Nat.le_of_ble_eq_true rfl, Nat.le_of_ble_eq_true rfl⟩ hxt hlk (fun h h' hh hj => by rw [hj]; exact hh.2) ⟨Nat.le_of_ble_eq_true rfl, Nat.le_of_ble_eq_true rfl⟩
set_option maxHeartbeats 4000000 in
set_option maxRecDepth 100000 in
theorem xX7_grant_d (hwp : WFp S) {z : Int} (hz : 0 ≤ z ∧ z < S.2 22) {c r c2 r2 : Int} (hr2 : rI c ∧ rI r) (hr3 : rI c2 ∧ rI r2) (hc2 : isCellB c r = true) (hc3 : isCellB c2 r2 = false) (hst : l.stackTraces = false) : Tx l yX7_grant wsX7_grant ({ frames := 8, cells := 1, slots := 6, locals := 170 } : Room) D (tyL cB cC cI cO cJ cD) ee [.ref (P 1), .int (iI z), .int (iI c), .int (iI r), .int (iI c2), .int (iI r2)] (CW cI cO ee Tx9 P S X) "java/lang/IndexOutOfBoundsException" (fun h h' => h' = h) (1) (6) := by
  refine Tx_of (cc := cX7_grant) (own := RX7) [some (.ref (P 1)), some (.int (iI z)), some (.int (iI c)), some (.int (iI r)), some (.int (iI c2)), some (.int (iI r2)), none] (by decide) rfl rfl (Nat.le_of_ble_eq_true rfl) (fun i9 v9 h9 => argL [.ref (P 1), .int (iI z), .int (iI c), .int (iI r), .int (iI c2), .int (iI r2)] 1 rfl i9 v9 h9) ?_
  intro p e s m9 args below meth c9 h0 sz hI C hlk hxt
  refine V_weak (I2 := fun x9 => CW cI cO ee Tx9 P S X x9 ∧ x9 = h0) (fun x9 hx9 => by subst hx9; exact ⟨hI, rfl⟩) ?_
  refine V_aload0 (pc' := 1) C dX7_grant_0 rfl ?_
  refine V_iload1 (pc' := 2) C dX7_grant_1 rfl ?_
  refine V_callV (ci := 12) (n := 1) [.int (iI z)] C (kX7_neededMacro (z := z) hwp hz) gX7_grant_X7_neededMacro rfl ydX7_neededMacro ⟨Nat.le_of_ble_eq_true rfl, Nat.le_of_ble_eq_true rfl⟩ ⟨rfl, rfl⟩ rfl rfl (fun h hh => ⟨1, _, hh.1.1⟩) (fun h hh => hh.1) rfl (Nat.le_of_ble_eq_true rfl) dX7_grant_2 ⟨Nat.le_of_ble_eq_true rfl, Nat.le_of_ble_eq_true rfl⟩ (fun h v h' hh hj9 => ?_)
  obtain ⟨rfl, rfl⟩ := hj9
  refine V_weak (I2 := fun x9 => CW cI cO ee Tx9 P S X x9 ∧ x9 = h0) (fun x9 hx9 => by rw [hx9]; exact hh) ?_
  refine V_astore6 (pc' := 7) C dX7_grant_5 rfl (by decide) rfl ?_
  refine V_iload2 (pc' := 8) C dX7_grant_7 rfl ?_
  refine V_iload3 (pc' := 9) C dX7_grant_8 rfl ?_
  refine V_callS (n := 2) [.int (iI c), .int (iI r)] C (kX7_needCell hr2 hc2) gX7_grant_X7_needCell rfl ydX7_needCell ⟨Nat.le_of_ble_eq_true rfl, Nat.le_of_ble_eq_true rfl⟩ ⟨rfl, rfl⟩ rfl (fun h hh => trivial) rfl (Nat.le_of_ble_eq_true rfl) dX7_grant_9 ⟨Nat.le_of_ble_eq_true rfl, Nat.le_of_ble_eq_true rfl⟩ (fun h v h' hh hj9 => ?_)
  obtain ⟨rfl, rfl⟩ := hj9
  refine V_weak (I2 := fun x9 => CW cI cO ee Tx9 P S X x9 ∧ x9 = h0) (fun x9 hx9 => by rw [hx9]; exact hh) ?_
  refine V_iload4 (pc' := 14) C dX7_grant_12 rfl ?_
  refine V_iload5 (pc' := 16) C dX7_grant_14 rfl ?_
  exact V_outS (n := 2) [.int (iI c2), .int (iI r2)] C (xX7_needCell hr3 hc3 hst) gX7_grant_X7_needCell rfl ydX7_needCell ⟨Nat.le_of_ble_eq_true rfl, Nat.le_of_ble_eq_true rfl⟩ ⟨rfl, rfl⟩ rfl (fun h hh => trivial) rfl (Nat.le_of_ble_eq_true rfl) dX7_grant_16 ⟨Nat.le_of_ble_eq_true rfl, Nat.le_of_ble_eq_true rfl⟩ hxt hlk (fun h h' hh hj => by rw [hj]; exact hh.2) ⟨Nat.le_of_ble_eq_true rfl, Nat.le_of_ble_eq_true rfl⟩
set_option maxHeartbeats 4000000 in
set_option maxRecDepth 100000 in
theorem xX7_grant_r (hwp : WFp S) {z : Int} (hz : 0 ≤ z ∧ z < S.2 22) {c r c2 r2 : Int} (hr2 : rI c ∧ rI r) (hr3 : rI c2 ∧ rI r2) (hc2 : isCellB c r = true) (hc3 : isCellB c2 r2 = true) (hrg0 : isRangeB c r c2 r2 = false) (hst : l.stackTraces = false) : Tx l yX7_grant wsX7_grant ({ frames := 8, cells := 1, slots := 6, locals := 170 } : Room) D (tyL cB cC cI cO cJ cD) ee [.ref (P 1), .int (iI z), .int (iI c), .int (iI r), .int (iI c2), .int (iI r2)] (CW cI cO ee Tx9 P S X) "java/lang/IllegalArgumentException" (fun h h' => h' = h) (1) (6) := by
  refine Tx_of (cc := cX7_grant) (own := RX7) [some (.ref (P 1)), some (.int (iI z)), some (.int (iI c)), some (.int (iI r)), some (.int (iI c2)), some (.int (iI r2)), none] (by decide) rfl rfl (Nat.le_of_ble_eq_true rfl) (fun i9 v9 h9 => argL [.ref (P 1), .int (iI z), .int (iI c), .int (iI r), .int (iI c2), .int (iI r2)] 1 rfl i9 v9 h9) ?_
  intro p e s m9 args below meth c9 h0 sz hI C hlk hxt
  refine V_weak (I2 := fun x9 => CW cI cO ee Tx9 P S X x9 ∧ x9 = h0) (fun x9 hx9 => by subst hx9; exact ⟨hI, rfl⟩) ?_
  refine V_aload0 (pc' := 1) C dX7_grant_0 rfl ?_
  refine V_iload1 (pc' := 2) C dX7_grant_1 rfl ?_
  refine V_callV (ci := 12) (n := 1) [.int (iI z)] C (kX7_neededMacro (z := z) hwp hz) gX7_grant_X7_neededMacro rfl ydX7_neededMacro ⟨Nat.le_of_ble_eq_true rfl, Nat.le_of_ble_eq_true rfl⟩ ⟨rfl, rfl⟩ rfl rfl (fun h hh => ⟨1, _, hh.1.1⟩) (fun h hh => hh.1) rfl (Nat.le_of_ble_eq_true rfl) dX7_grant_2 ⟨Nat.le_of_ble_eq_true rfl, Nat.le_of_ble_eq_true rfl⟩ (fun h v h' hh hj9 => ?_)
  obtain ⟨rfl, rfl⟩ := hj9
  refine V_weak (I2 := fun x9 => CW cI cO ee Tx9 P S X x9 ∧ x9 = h0) (fun x9 hx9 => by rw [hx9]; exact hh) ?_
  refine V_astore6 (pc' := 7) C dX7_grant_5 rfl (by decide) rfl ?_
  refine V_iload2 (pc' := 8) C dX7_grant_7 rfl ?_
  refine V_iload3 (pc' := 9) C dX7_grant_8 rfl ?_
  refine V_callS (n := 2) [.int (iI c), .int (iI r)] C (kX7_needCell hr2 hc2) gX7_grant_X7_needCell rfl ydX7_needCell ⟨Nat.le_of_ble_eq_true rfl, Nat.le_of_ble_eq_true rfl⟩ ⟨rfl, rfl⟩ rfl (fun h hh => trivial) rfl (Nat.le_of_ble_eq_true rfl) dX7_grant_9 ⟨Nat.le_of_ble_eq_true rfl, Nat.le_of_ble_eq_true rfl⟩ (fun h v h' hh hj9 => ?_)
  obtain ⟨rfl, rfl⟩ := hj9
  refine V_weak (I2 := fun x9 => CW cI cO ee Tx9 P S X x9 ∧ x9 = h0) (fun x9 hx9 => by rw [hx9]; exact hh) ?_
  refine V_iload4 (pc' := 14) C dX7_grant_12 rfl ?_
  refine V_iload5 (pc' := 16) C dX7_grant_14 rfl ?_
  refine V_callS (n := 2) [.int (iI c2), .int (iI r2)] C (kX7_needCell hr3 hc3) gX7_grant_X7_needCell rfl ydX7_needCell ⟨Nat.le_of_ble_eq_true rfl, Nat.le_of_ble_eq_true rfl⟩ ⟨rfl, rfl⟩ rfl (fun h hh => trivial) rfl (Nat.le_of_ble_eq_true rfl) dX7_grant_16 ⟨Nat.le_of_ble_eq_true rfl, Nat.le_of_ble_eq_true rfl⟩ (fun h v h' hh hj9 => ?_)
  obtain ⟨rfl, rfl⟩ := hj9
  refine V_weak (I2 := fun x9 => CW cI cO ee Tx9 P S X x9 ∧ x9 = h0) (fun x9 hx9 => by rw [hx9]; exact hh) ?_
  refine V_iload2 (pc' := 20) C dX7_grant_19 rfl ?_
  refine V_iload3 (pc' := 21) C dX7_grant_20 rfl ?_
  refine V_iload4 (pc' := 23) C dX7_grant_21 rfl ?_
  refine V_iload5 (pc' := 25) C dX7_grant_23 rfl ?_
  refine sCall4 (pc' := 28) C (kX7_isRange (c := c) (r := r) (c2 := c2) (r2 := r2) ⟨hr2.1, hr2.2, hr3.1, hr3.2⟩) gX7_grant_X7_isRange rfl ydX7_isRange ⟨Nat.le_of_ble_eq_true rfl, Nat.le_of_ble_eq_true rfl⟩ ⟨rfl, rfl⟩ (Nat.le_of_ble_eq_true rfl) dX7_grant_25 ⟨Nat.zero_le _, Nat.zero_le _⟩ rfl ?_
  refine V_ifneB (tgt := 41) C dX7_grant_28 (by decide) rfl (fun c_28 => ?_) (fun c_28 => ?_)
  · exact absurd c_28 (by rw [hrg0]; decide)
  · exact V_throwS (text := "this is no range") (names := ["java/lang/RuntimeException", "java/lang/Exception"]) C hst (by decide +kernel) (by decide +kernel) (by decide +kernel) (by decide +kernel) (by decide +kernel) (by decide +kernel) (by decide +kernel) (by decide +kernel) dX7_grant_31 dX7_grant_34 dX7_grant_35 dX7_grant_37 dX7_grant_40 hxt (Nat.le_of_ble_eq_true rfl) (Nat.le_of_ble_eq_true rfl) ⟨Nat.le_of_ble_eq_true rfl, Nat.le_of_ble_eq_true rfl⟩ hlk (fun h' hh => hh.2) rfl ⟨Nat.le_of_ble_eq_true rfl, Nat.le_of_ble_eq_true rfl⟩
set_option maxHeartbeats 4000000 in
set_option maxRecDepth 100000 in
theorem xX7_grant_f (hwp : WFp S) {m : Nat} (hm1 : (m : Int) < S.2 22) {c r c2 r2 : Int} (hr2 : rI c ∧ rI r) (hr3 : rI c2 ∧ rI r2) (hc2 : isCellB c r = true) (hc3 : isCellB c2 r2 = true) (hrg0 : isRangeB c r c2 r2 = true) (hlt : S.1 9 m = 4) (hst : l.stackTraces = false) : Tx l yX7_grant wsX7_grant ({ frames := 8, cells := 1, slots := 6, locals := 170 } : Room) D (tyL cB cC cI cO cJ cD) ee [.ref (P 1), .int (iI (m : Int)), .int (iI c), .int (iI r), .int (iI c2), .int (iI r2)] (CW cI cO ee Tx9 P S X) "java/lang/IllegalStateException" (fun h h' => h' = h) (1) (6) := by
  refine Tx_of (cc := cX7_grant) (own := RX7) [some (.ref (P 1)), some (.int (iI (m : Int))), some (.int (iI c)), some (.int (iI r)), some (.int (iI c2)), some (.int (iI r2)), none] (by decide) rfl rfl (Nat.le_of_ble_eq_true rfl) (fun i9 v9 h9 => argL [.ref (P 1), .int (iI (m : Int)), .int (iI c), .int (iI r), .int (iI c2), .int (iI r2)] 1 rfl i9 v9 h9) ?_
  intro p e s m9 args below meth c9 h0 sz hI C hlk hxt
  obtain ⟨hw1, hw2, hw3, hw4, hw5, hw6⟩ := id hwp
  obtain ⟨hma, ⟨md, ar, hsl⟩, hst9, ⟨md', ar', hgl⟩, hrg⟩ := hI.2.2.2.2.2.2.2.2.1 m hm1
  have hm9 := hw2 m (by omega) (by omega)
  refine V_weak (I2 := fun x9 => CW cI cO ee Tx9 P S X x9 ∧ x9 = h0) (fun x9 hx9 => by subst hx9; exact ⟨hI, rfl⟩) ?_
  refine V_aload0 (pc' := 1) C dX7_grant_0 rfl ?_
  refine V_iload1 (pc' := 2) C dX7_grant_1 rfl ?_
  refine V_callV (ci := 12) (n := 1) [.int (iI (m : Int))] C (kX7_neededMacro (z := (m : Int)) hwp ⟨by omega, by omega⟩) gX7_grant_X7_neededMacro rfl ydX7_neededMacro ⟨Nat.le_of_ble_eq_true rfl, Nat.le_of_ble_eq_true rfl⟩ ⟨rfl, rfl⟩ rfl rfl (fun h hh => ⟨1, _, hh.1.1⟩) (fun h hh => hh.1) rfl (Nat.le_of_ble_eq_true rfl) dX7_grant_2 ⟨Nat.le_of_ble_eq_true rfl, Nat.le_of_ble_eq_true rfl⟩ (fun h v h' hh hj9 => ?_)
  obtain ⟨rfl, rfl⟩ := hj9
  refine V_weak (I2 := fun x9 => CW cI cO ee Tx9 P S X x9 ∧ x9 = h0) (fun x9 hx9 => by rw [hx9]; exact hh) ?_
  refine V_eq (st2 := [.ref (P (100 + m))]) (by rw [Int.toNat_natCast]; rfl) ?_
  refine V_astore6 (pc' := 7) C dX7_grant_5 rfl (by decide) rfl ?_
  refine V_iload2 (pc' := 8) C dX7_grant_7 rfl ?_
  refine V_iload3 (pc' := 9) C dX7_grant_8 rfl ?_
  refine V_callS (n := 2) [.int (iI c), .int (iI r)] C (kX7_needCell hr2 hc2) gX7_grant_X7_needCell rfl ydX7_needCell ⟨Nat.le_of_ble_eq_true rfl, Nat.le_of_ble_eq_true rfl⟩ ⟨rfl, rfl⟩ rfl (fun h hh => trivial) rfl (Nat.le_of_ble_eq_true rfl) dX7_grant_9 ⟨Nat.le_of_ble_eq_true rfl, Nat.le_of_ble_eq_true rfl⟩ (fun h v h' hh hj9 => ?_)
  obtain ⟨rfl, rfl⟩ := hj9
  refine V_weak (I2 := fun x9 => CW cI cO ee Tx9 P S X x9 ∧ x9 = h0) (fun x9 hx9 => by rw [hx9]; exact hh) ?_
  refine V_iload4 (pc' := 14) C dX7_grant_12 rfl ?_
  refine V_iload5 (pc' := 16) C dX7_grant_14 rfl ?_
  refine V_callS (n := 2) [.int (iI c2), .int (iI r2)] C (kX7_needCell hr3 hc3) gX7_grant_X7_needCell rfl ydX7_needCell ⟨Nat.le_of_ble_eq_true rfl, Nat.le_of_ble_eq_true rfl⟩ ⟨rfl, rfl⟩ rfl (fun h hh => trivial) rfl (Nat.le_of_ble_eq_true rfl) dX7_grant_16 ⟨Nat.le_of_ble_eq_true rfl, Nat.le_of_ble_eq_true rfl⟩ (fun h v h' hh hj9 => ?_)
  obtain ⟨rfl, rfl⟩ := hj9
  refine V_weak (I2 := fun x9 => CW cI cO ee Tx9 P S X x9 ∧ x9 = h0) (fun x9 hx9 => by rw [hx9]; exact hh) ?_
  refine V_iload2 (pc' := 20) C dX7_grant_19 rfl ?_
  refine V_iload3 (pc' := 21) C dX7_grant_20 rfl ?_
  refine V_iload4 (pc' := 23) C dX7_grant_21 rfl ?_
  refine V_iload5 (pc' := 25) C dX7_grant_23 rfl ?_
  refine sCall4 (pc' := 28) C (kX7_isRange (c := c) (r := r) (c2 := c2) (r2 := r2) ⟨hr2.1, hr2.2, hr3.1, hr3.2⟩) gX7_grant_X7_isRange rfl ydX7_isRange ⟨Nat.le_of_ble_eq_true rfl, Nat.le_of_ble_eq_true rfl⟩ ⟨rfl, rfl⟩ (Nat.le_of_ble_eq_true rfl) dX7_grant_25 ⟨Nat.zero_le _, Nat.zero_le _⟩ rfl ?_
  refine V_ifneB (tgt := 41) C dX7_grant_28 (by decide) rfl (fun c_28 => ?_) (fun c_28 => ?_)
  · refine V_aload6 (pc' := 43) C dX7_grant_41 rfl ?_
    refine V_callV (ci := 8) (n := 0) [] C (kX3_grantCount (t := 100 + m) (ts := 130 + m) (sl := P (110 + m)) (gl := P (130 + m)) (z := (m : Int)) (md := md') (ar := ar') (sn := S.1 9 m) (f := fstP P (300 + 4 * m) (S.1 9 m))) gX7_grant_X3_grantCount rfl ydX3_grantCount ⟨Nat.le_of_ble_eq_true rfl, Nat.le_of_ble_eq_true rfl⟩ ⟨rfl, rfl⟩ rfl rfl (fun h hh => by rw [hh.2]; exact ⟨100 + m, _, hma⟩) (fun h hh => by rw [hh.2]; exact ⟨hma, hgl⟩) rfl (Nat.le_of_ble_eq_true rfl) dX7_grant_43 ⟨Nat.le_of_ble_eq_true rfl, Nat.le_of_ble_eq_true rfl⟩ (fun h v h' hh hj9 => ?_)
    obtain ⟨r9, rfl, hj8, rfl⟩ := hj9
    rw [hj8]
    refine V_weak (I2 := fun x9 => CW cI cO ee Tx9 P S X x9 ∧ x9 = h0) (fun x9 hx9 => by rw [hx9]; exact hh) ?_
    refine V_iconst (pc' := 47) C dX7_grant_46 rfl ?_
    refine V_icmplt (tgt := 60) C (by omega) dX7_grant_47 (by decide) rfl (fun c_47 => ?_) (fun c_47 => ?_)
    · exact absurd c_47 (by omega)
    · exact V_throwS (text := "the macro has 4 grants") (names := ["java/lang/RuntimeException", "java/lang/Exception"]) C hst (by decide +kernel) (by decide +kernel) (by decide +kernel) (by decide +kernel) (by decide +kernel) (by decide +kernel) (by decide +kernel) (by decide +kernel) dX7_grant_50 dX7_grant_53 dX7_grant_54 dX7_grant_56 dX7_grant_59 hxt (Nat.le_of_ble_eq_true rfl) (Nat.le_of_ble_eq_true rfl) ⟨Nat.le_of_ble_eq_true rfl, Nat.le_of_ble_eq_true rfl⟩ hlk (fun h' hh => hh.2) rfl ⟨Nat.le_of_ble_eq_true rfl, Nat.le_of_ble_eq_true rfl⟩
  · exact absurd c_28 (by rw [hrg0]; decide)
set_option maxHeartbeats 4000000 in
set_option maxRecDepth 100000 in
theorem kX7_addRule (hwp : WFp S) (hrm : RM S) (h9 : T9ok Tx9) (hp9 : T9p Tx9) {m : Nat} (hm1 : (m : Int) < S.2 22) {c r c2 r2 : Int} (hr2 : rI c ∧ rI r) (hr3 : rI c2 ∧ rI r2) (hc2 : isCellB c r = true) (hc3 : isCellB c2 r2 = true) {k : Int} (hk0 : rI k) (hrg0 : isRangeB c r c2 r2 = true) (hrk : isRankB k = true) (hlt : S.2 23 < 6) : Ct l yX7_addRule wsX7_addRule ({ frames := 8, cells := 3, slots := 17, locals := 190 } : Room) D (tyL cB cC cI cO cJ cD) ee [.ref (P 1), .int (iI c), .int (iI r), .int (iI c2), .int (iI r2), .int (iI (m : Int)), .int (iI k)] (CW cI cO ee Tx9 P S X) (Ji fun h z9 h' => z9 = S.2 23 ∧ (∃ P', CW cI cO ee Tx9 P' (arS S (atI c r) (atI c2 r2) m k) X h' ∧ P' 1 = P 1) ∧ Fr T7 h h') (3) (17) := by
  refine Ct_of (cc := cX7_addRule) (own := RX7) [some (.ref (P 1)), some (.int (iI c)), some (.int (iI r)), some (.int (iI c2)), some (.int (iI r2)), some (.int (iI (m : Int))), some (.int (iI k)), none, none] (by decide) rfl rfl (Nat.le_of_ble_eq_true rfl) (fun i9 v9 h9 => argL [.ref (P 1), .int (iI c), .int (iI r), .int (iI c2), .int (iI r2), .int (iI (m : Int)), .int (iI k)] 2 rfl i9 v9 h9) ?_
  intro p e s m9 args below meth c9 h0 sz hI C hr hlk hinit
  have hin : ∀ w ∈ wsX70, w ∈ wsX7_addRule := by decide +kernel
  refine V_weak (I2 := fun x => CW cI cO ee Tx9 P S X x ∧ x = h0) (fun x hx => by subst hx; exact ⟨hI, rfl⟩) ?_
  obtain ⟨md1, ar1, hl1⟩ := hI.2.2.2.2.2.2.2.1
  obtain ⟨md2, ar2, hl2⟩ := hI.2.2.2.2.2.2.2.2.2.1
  have hmc := hI.2.2.2.2.2.2.2.2.1
  have hru := hI.2.2.2.2.2.2.2.2.2.2
  obtain ⟨hw1, hw2, hw3, hw4, hw5, hw6⟩ := id hwp
  have hcr : c = atI c r % 6 ∧ r = atI c r / 6 := by
    simp only [isCellB, isInB, Bool.and_eq_true, decide_eq_true_eq] at hc2
    unfold atI
    omega
  have hcr3 : c2 = atI c2 r2 % 6 ∧ r2 = atI c2 r2 / 6 := by
    simp only [isCellB, isInB, Bool.and_eq_true, decide_eq_true_eq] at hc3
    unfold atI
    omega
  obtain ⟨n, hn⟩ : ∃ n : Nat, S.2 23 = (n : Int) := ⟨(S.2 23).toNat, by omega⟩
  have hn6 : n < 6 := by omega
  refine V_iload1 (pc' := 1) C dX7_addRule_0 rfl ?_
  refine V_iload2 (pc' := 2) C dX7_addRule_1 rfl ?_
  refine V_callS (n := 2) [.int (iI c), .int (iI r)] C (kX7_needCell hr2 hc2) gX7_addRule_X7_needCell rfl ydX7_needCell ⟨Nat.le_of_ble_eq_true rfl, Nat.le_of_ble_eq_true rfl⟩ ⟨rfl, rfl⟩ rfl (fun h hh => trivial) rfl (Nat.le_of_ble_eq_true rfl) dX7_addRule_2 ⟨Nat.le_of_ble_eq_true rfl, Nat.le_of_ble_eq_true rfl⟩ (fun h v h' hh hj9 => ?_)
  obtain ⟨rfl, rfl⟩ := hj9
  refine V_weak (I2 := fun x9 => CW cI cO ee Tx9 P S X x9 ∧ x9 = h0) (fun x9 hx9 => by rw [hx9]; exact hh) ?_
  refine V_iload3 (pc' := 6) C dX7_addRule_5 rfl ?_
  refine V_iload4 (pc' := 8) C dX7_addRule_6 rfl ?_
  refine V_callS (n := 2) [.int (iI c2), .int (iI r2)] C (kX7_needCell hr3 hc3) gX7_addRule_X7_needCell rfl ydX7_needCell ⟨Nat.le_of_ble_eq_true rfl, Nat.le_of_ble_eq_true rfl⟩ ⟨rfl, rfl⟩ rfl (fun h hh => trivial) rfl (Nat.le_of_ble_eq_true rfl) dX7_addRule_8 ⟨Nat.le_of_ble_eq_true rfl, Nat.le_of_ble_eq_true rfl⟩ (fun h v h' hh hj9 => ?_)
  obtain ⟨rfl, rfl⟩ := hj9
  refine V_weak (I2 := fun x9 => CW cI cO ee Tx9 P S X x9 ∧ x9 = h0) (fun x9 hx9 => by rw [hx9]; exact hh) ?_
  refine V_aload0 (pc' := 12) C dX7_addRule_11 rfl ?_
  refine V_iload5 (pc' := 14) C dX7_addRule_12 rfl ?_
  refine V_callV (ci := 12) (n := 1) [.int (iI (m : Int))] C (kX7_neededMacro (z := (m : Int)) hwp ⟨by omega, by omega⟩) gX7_addRule_X7_neededMacro rfl ydX7_neededMacro ⟨Nat.le_of_ble_eq_true rfl, Nat.le_of_ble_eq_true rfl⟩ ⟨rfl, rfl⟩ rfl rfl (fun h hh => ⟨1, _, hh.1.1⟩) (fun h hh => hh.1) rfl (Nat.le_of_ble_eq_true rfl) dX7_addRule_14 ⟨Nat.le_of_ble_eq_true rfl, Nat.le_of_ble_eq_true rfl⟩ (fun h v h' hh hj9 => ?_)
  obtain ⟨rfl, rfl⟩ := hj9
  refine V_weak (I2 := fun x9 => CW cI cO ee Tx9 P S X x9 ∧ x9 = h0) (fun x9 hx9 => by rw [hx9]; exact hh) ?_
  refine V_eq (st2 := [.ref (P (100 + m))]) (by rw [Int.toNat_natCast]; rfl) ?_
  refine V_astore7 (pc' := 19) C dX7_addRule_17 rfl (by decide) rfl ?_
  refine V_iload1 (pc' := 20) C dX7_addRule_19 rfl ?_
  refine V_iload2 (pc' := 21) C dX7_addRule_20 rfl ?_
  refine V_iload3 (pc' := 22) C dX7_addRule_21 rfl ?_
  refine V_iload4 (pc' := 24) C dX7_addRule_22 rfl ?_
  refine sCall4 (pc' := 27) C (kX7_isRange (c := c) (r := r) (c2 := c2) (r2 := r2) ⟨hr2.1, hr2.2, hr3.1, hr3.2⟩) gX7_addRule_X7_isRange rfl ydX7_isRange ⟨Nat.le_of_ble_eq_true rfl, Nat.le_of_ble_eq_true rfl⟩ ⟨rfl, rfl⟩ (Nat.le_of_ble_eq_true rfl) dX7_addRule_24 ⟨Nat.zero_le _, Nat.zero_le _⟩ rfl ?_
  refine V_ifeqB (tgt := 38) C dX7_addRule_27 (by decide) rfl (fun c_27 => ?_) (fun c_27 => ?_)
  · exact absurd c_27 (by rw [hrg0]; decide)
  · refine V_iload6 (pc' := 32) C dX7_addRule_30 rfl ?_
    refine sCall1 (pc' := 35) C (kX7_isRank (x := k) hk0) gX7_addRule_X7_isRank rfl ydX7_isRank ⟨Nat.le_of_ble_eq_true rfl, Nat.le_of_ble_eq_true rfl⟩ ⟨rfl, rfl⟩ (Nat.le_of_ble_eq_true rfl) dX7_addRule_32 ⟨Nat.zero_le _, Nat.zero_le _⟩ rfl ?_
    refine V_ifneB (tgt := 48) C dX7_addRule_35 (by decide) rfl (fun c_35 => ?_) (fun c_35 => ?_)
    · refine V_aload0 (pc' := 49) C dX7_addRule_48 rfl ?_
      refine V_getf (pc' := 52) (T := TX7) (N := 13) (ci := 12) C hin rfl 3 (by decide) (by decide +kernel) (fun h hh => ⟨1, _, hh.1.1, rfl⟩) dX7_addRule_49 rfl ?_
      refine V_callV (ci := 4) (n := 0) [] C (kJx4a65c_size_8abf5 (t := 18) (md := md2) (ar := ar2) (sn := S.2 23)) gX7_addRule_Jx4a65c_size_8abf5 rfl ydJx4a65c_size_8abf5 ⟨Nat.le_of_ble_eq_true rfl, Nat.le_of_ble_eq_true rfl⟩ ⟨rfl, rfl⟩ rfl rfl (fun h hh => by obtain ⟨_, rfl⟩ := hh; exact ⟨18, _, hl2.1⟩) (fun h hh => by rw [hh.2]; exact hl2) rfl (Nat.le_of_ble_eq_true rfl) dX7_addRule_52 ⟨Nat.le_of_ble_eq_true rfl, Nat.le_of_ble_eq_true rfl⟩ (fun h v h' hh hj => ?_)
      obtain ⟨r9, rfl, hj8, rfl⟩ := hj
      rw [hj8]
      refine V_weak (I2 := fun x => CW cI cO ee Tx9 P S X x ∧ x = h0) (fun x hx => by rw [hx]; exact hh) ?_
      refine V_istore8 (pc' := 57) C dX7_addRule_55 rfl (by decide) rfl ?_
      refine V_iload8 (pc' := 59) C dX7_addRule_57 rfl ?_
      refine V_bipush (pc' := 61) C dX7_addRule_59 rfl (by decide) ?_
      refine V_icmplt (tgt := 74) C (by omega) dX7_addRule_61 (by decide) rfl (fun c_61 => ?_) (fun c_61 => ?_)
      · refine V_aload0 (pc' := 75) C dX7_addRule_74 rfl ?_
        refine V_getf (pc' := 78) (T := TX7) (N := 13) (ci := 12) C hin rfl 3 (by decide) (by decide +kernel) (fun h hh => ⟨1, _, hh.1.1, rfl⟩) dX7_addRule_75 rfl ?_
        refine V_new (pc' := 81) (T := TX5) (N := 3) (ty0 := tyX5) (ci := 10) (fs := [.null, .null, .int 0]) (400 + n) C (by decide +kernel) tyX5_ok (by decide +kernel) (by decide +kernel) (by decide +kernel) rfl (by decide) (Nat.le_of_ble_eq_true rfl) (Nat.le_of_ble_eq_true rfl) dX7_addRule_78 rfl (fun q => ?_)
        refine V_fix (fun g1 hg1 => ?_)
        obtain ⟨g0, hg0, hq0, hg1⟩ := hg1
        rw [hg0.2] at hq0 hg1
        have hq1 : g1 q = some ((400 + n), .inr (10, [.null, .null, .int 0])) := by rw [hg1]; exact hup_s
        have hf1 : Fr (fun _ => False) h0 g1 := by rw [hg1]; exact Fr.new Fr.refl hq0
        refine V_dup (pc' := 82) C rfl dX7_addRule_81 rfl ?_
        refine V_new (pc' := 85) (T := TX4) (N := 4) (ty0 := tyX4) (ci := 9) (fs := [.int 0, .int 0, .int 0, .int 0]) (410 + n) C (by decide +kernel) tyX4_ok (by decide +kernel) (by decide +kernel) (by decide +kernel) rfl (by decide) (Nat.le_of_ble_eq_true rfl) (Nat.le_of_ble_eq_true rfl) dX7_addRule_82 rfl (fun q1 => ?_)
        refine V_fix (fun g2 hg2 => ?_)
        obtain ⟨g3, hg3, hq3, hg2⟩ := hg2
        rw [hg3] at hq3 hg2
        have hq2 : g2 q1 = some ((410 + n), .inr (9, [.int 0, .int 0, .int 0, .int 0])) := by rw [hg2]; exact hup_s
        have hf2 : Fr (fun _ => False) g1 g2 := by rw [hg2]; exact Fr.new Fr.refl hq3
        have hq4 := hf2 _ _ _ hq1 (fun z => z)
        refine V_dup (pc' := 86) C rfl dX7_addRule_85 rfl ?_
        refine V_iload1 (pc' := 87) C dX7_addRule_86 rfl ?_
        refine V_iload2 (pc' := 88) C dX7_addRule_87 rfl ?_
        refine V_iload3 (pc' := 89) C dX7_addRule_88 rfl ?_
        refine V_iload4 (pc' := 91) C dX7_addRule_89 rfl ?_
        refine V_callI (n := 4) [.int (iI c), .int (iI r), .int (iI c2), .int (iI r2)] C (kX4_init (t := (410 + n)) (c := c) (r := r) (c2 := c2) (r2 := r2)) gX7_addRule_X4_init (by decide +kernel) (by decide +kernel) (by decide +kernel) rfl ydX4_init ⟨Nat.le_of_ble_eq_true rfl, Nat.le_of_ble_eq_true rfl⟩ ⟨rfl, rfl⟩ rfl (fun h hh => by rw [hh]; exact hq2) rfl (Nat.le_of_ble_eq_true rfl) dX7_addRule_91 ⟨Nat.le_of_ble_eq_true rfl, Nat.le_of_ble_eq_true rfl⟩ (fun h v h' hh hj9 => ?_)
        obtain ⟨rfl, hj1, hj4⟩ := hj9
        rw [hh] at hj4
        have hf3 : Fr (fun u => u = (410 + n)) h0 h' := ((hf1.trans hf2).mono (fun _ z => z.elim)).trans hj4
        have hq5 := hj4 _ _ _ hq4 (by omega)
        refine V_aload7 (pc' := 96) C dX7_addRule_94 rfl ?_
        refine V_iload6 (pc' := 98) C dX7_addRule_96 rfl ?_
        refine V_callI (n := 3) [.ref q1, .ref (P (100 + m)), .int (iI k)] C (kX5_init (t := (400 + n)) (q1 := q1) (q2 := P (100 + m)) (k := k)) gX7_addRule_X5_init (by decide +kernel) (by decide +kernel) (by decide +kernel) rfl ydX5_init ⟨Nat.le_of_ble_eq_true rfl, Nat.le_of_ble_eq_true rfl⟩ ⟨rfl, rfl⟩ rfl (fun h hh => by rw [hh]; exact hq5) rfl (Nat.le_of_ble_eq_true rfl) dX7_addRule_98 ⟨Nat.le_of_ble_eq_true rfl, Nat.le_of_ble_eq_true rfl⟩ (fun h v h5' hh hj9 => ?_)
        obtain ⟨rfl, hk1, hk4⟩ := hj9
        rw [hh] at hk4
        have hf4 : Fr (fun u => u = (400 + n) ∨ u = (410 + n)) h0 h5' := (hf3.mono (fun _ z => Or.inr z)).trans (hk4.mono (fun _ z => Or.inl z))
        have hq6 : h5' q1 = some ((410 + n), .inr (9, rgF (atI c r) (atI c2 r2))) := by rw [hk4 _ _ _ hj1 (by omega)]; unfold rgF; rw [← hcr.1, ← hcr.2, ← hcr3.1, ← hcr3.2]
        have hc9 : CW cI cO ee Tx9 P S X h5' := hI.kp hwp hrm h9 hf4 (fun u hu => by have z := usT_nr hwp hn hu; omega) (fun u hu => by omega)
        have hl5 := hl2.fr hf4 (by omega) (by omega)
        refine V_callV (ci := 4) (n := 1) [.ref q] C (kL_add (t := 18) (md := md2) (ar := ar2) (sn := S.2 23) (f := fstP P 400 (S.2 23)) (bb := q) (tb := (400 + n)) (fs := [.ref q1, .ref (P (100 + m)), .int (iI k)]) (r := (RX5, TX5, 3)) rfl (by decide) (by unfold tL; omega) (by omega)) gX7_addRule_Jx4a65c_add_9ea2d rfl ydJx4a65c_add_9ea2d ⟨Nat.le_of_ble_eq_true rfl, Nat.le_of_ble_eq_true rfl⟩ ⟨rfl, rfl⟩ rfl rfl (fun h hh => by rw [hh]; exact ⟨18, _, hl5.1⟩) (fun h hh => by rw [hh]; exact ⟨hl5, hk1⟩) rfl (Nat.le_of_ble_eq_true rfl) dX7_addRule_101 ⟨Nat.le_of_ble_eq_true rfl, Nat.le_of_ble_eq_true rfl⟩ (fun h v h9' hh hj9 => ?_)
        obtain ⟨rfl, ⟨q9, hk2⟩, hk3⟩ := hj9
        rw [hh] at hk3
        refine V_weak (I2 := fun x9 => CW cI cO ee Tx9 (pUp (pUp P (410 + n) q1) (400 + n) q) (arS S (atI c r) (atI c2 r2) m k) X x9 ∧ Fr T7 h0 x9) (fun x9 hx9 => by rw [hx9]; exact ⟨hc9.mk2 hk3 (fun u hu => by unfold tL; omega) (fun u hu => by rw [pUp_n (by omega), pUp_n (by omega)]) h9 hp9 rfl rfl rfl rfl rfl rfl (MrH.addR hc9.2.2.2.2.2.2.2 hwp hrm hn hn6 hm1 hk3 hk1 hq6 hk2), (hf4.mono (fun u hu => by unfold T7; omega)).trans (hk3.mono (fun u hu => by unfold tL at hu; unfold T7; omega))⟩) ?_
        refine V_pop (pc' := 105) C rfl dX7_addRule_104 rfl ?_
        refine V_iload8 (pc' := 107) C dX7_addRule_105 rfl ?_
        exact V_end C hr hlk (fun h' hh => ⟨_, rfl, rfl, ⟨_, hh.1, by rw [pUp_n (by omega), pUp_n (by omega)]⟩, hh.2⟩) ⟨Nat.le_of_ble_eq_true rfl, Nat.le_of_ble_eq_true rfl⟩ dX7_addRule_107
      · exact absurd c_61 (by omega)
    · exact absurd c_35 (by rw [hrk]; decide)
set_option maxHeartbeats 4000000 in
set_option maxRecDepth 100000 in
theorem xX7_addRule_c {c r c2 r2 : Int} (hr2 : rI c ∧ rI r) (hr3 : rI c2 ∧ rI r2) {z k : Int} (hc2 : isCellB c r = false) (hst : l.stackTraces = false) : Tx l yX7_addRule wsX7_addRule ({ frames := 8, cells := 1, slots := 6, locals := 170 } : Room) D (tyL cB cC cI cO cJ cD) ee [.ref (P 1), .int (iI c), .int (iI r), .int (iI c2), .int (iI r2), .int (iI z), .int (iI k)] (CW cI cO ee Tx9 P S X) "java/lang/IndexOutOfBoundsException" (fun h h' => h' = h) (1) (6) := by
  refine Tx_of (cc := cX7_addRule) (own := RX7) [some (.ref (P 1)), some (.int (iI c)), some (.int (iI r)), some (.int (iI c2)), some (.int (iI r2)), some (.int (iI z)), some (.int (iI k)), none, none] (by decide) rfl rfl (Nat.le_of_ble_eq_true rfl) (fun i9 v9 h9 => argL [.ref (P 1), .int (iI c), .int (iI r), .int (iI c2), .int (iI r2), .int (iI z), .int (iI k)] 2 rfl i9 v9 h9) ?_
  intro p e s m9 args below meth c9 h0 sz hI C hlk hxt
  refine V_weak (I2 := fun x9 => CW cI cO ee Tx9 P S X x9 ∧ x9 = h0) (fun x9 hx9 => by subst hx9; exact ⟨hI, rfl⟩) ?_
  refine V_iload1 (pc' := 1) C dX7_addRule_0 rfl ?_
  refine V_iload2 (pc' := 2) C dX7_addRule_1 rfl ?_
  exact V_outS (n := 2) [.int (iI c), .int (iI r)] C (xX7_needCell hr2 hc2 hst) gX7_addRule_X7_needCell rfl ydX7_needCell ⟨Nat.le_of_ble_eq_true rfl, Nat.le_of_ble_eq_true rfl⟩ ⟨rfl, rfl⟩ rfl (fun h hh => trivial) rfl (Nat.le_of_ble_eq_true rfl) dX7_addRule_2 ⟨Nat.le_of_ble_eq_true rfl, Nat.le_of_ble_eq_true rfl⟩ hxt hlk (fun h h' hh hj => by rw [hj]; exact hh.2) ⟨Nat.le_of_ble_eq_true rfl, Nat.le_of_ble_eq_true rfl⟩
set_option maxHeartbeats 4000000 in
set_option maxRecDepth 100000 in
theorem xX7_addRule_d {c r c2 r2 : Int} (hr2 : rI c ∧ rI r) (hr3 : rI c2 ∧ rI r2) {z k : Int} (hc2 : isCellB c r = true) (hc3 : isCellB c2 r2 = false) (hst : l.stackTraces = false) : Tx l yX7_addRule wsX7_addRule ({ frames := 8, cells := 1, slots := 6, locals := 170 } : Room) D (tyL cB cC cI cO cJ cD) ee [.ref (P 1), .int (iI c), .int (iI r), .int (iI c2), .int (iI r2), .int (iI z), .int (iI k)] (CW cI cO ee Tx9 P S X) "java/lang/IndexOutOfBoundsException" (fun h h' => h' = h) (1) (6) := by
  refine Tx_of (cc := cX7_addRule) (own := RX7) [some (.ref (P 1)), some (.int (iI c)), some (.int (iI r)), some (.int (iI c2)), some (.int (iI r2)), some (.int (iI z)), some (.int (iI k)), none, none] (by decide) rfl rfl (Nat.le_of_ble_eq_true rfl) (fun i9 v9 h9 => argL [.ref (P 1), .int (iI c), .int (iI r), .int (iI c2), .int (iI r2), .int (iI z), .int (iI k)] 2 rfl i9 v9 h9) ?_
  intro p e s m9 args below meth c9 h0 sz hI C hlk hxt
  refine V_weak (I2 := fun x9 => CW cI cO ee Tx9 P S X x9 ∧ x9 = h0) (fun x9 hx9 => by subst hx9; exact ⟨hI, rfl⟩) ?_
  refine V_iload1 (pc' := 1) C dX7_addRule_0 rfl ?_
  refine V_iload2 (pc' := 2) C dX7_addRule_1 rfl ?_
  refine V_callS (n := 2) [.int (iI c), .int (iI r)] C (kX7_needCell hr2 hc2) gX7_addRule_X7_needCell rfl ydX7_needCell ⟨Nat.le_of_ble_eq_true rfl, Nat.le_of_ble_eq_true rfl⟩ ⟨rfl, rfl⟩ rfl (fun h hh => trivial) rfl (Nat.le_of_ble_eq_true rfl) dX7_addRule_2 ⟨Nat.le_of_ble_eq_true rfl, Nat.le_of_ble_eq_true rfl⟩ (fun h v h' hh hj9 => ?_)
  obtain ⟨rfl, rfl⟩ := hj9
  refine V_weak (I2 := fun x9 => CW cI cO ee Tx9 P S X x9 ∧ x9 = h0) (fun x9 hx9 => by rw [hx9]; exact hh) ?_
  refine V_iload3 (pc' := 6) C dX7_addRule_5 rfl ?_
  refine V_iload4 (pc' := 8) C dX7_addRule_6 rfl ?_
  exact V_outS (n := 2) [.int (iI c2), .int (iI r2)] C (xX7_needCell hr3 hc3 hst) gX7_addRule_X7_needCell rfl ydX7_needCell ⟨Nat.le_of_ble_eq_true rfl, Nat.le_of_ble_eq_true rfl⟩ ⟨rfl, rfl⟩ rfl (fun h hh => trivial) rfl (Nat.le_of_ble_eq_true rfl) dX7_addRule_8 ⟨Nat.le_of_ble_eq_true rfl, Nat.le_of_ble_eq_true rfl⟩ hxt hlk (fun h h' hh hj => by rw [hj]; exact hh.2) ⟨Nat.le_of_ble_eq_true rfl, Nat.le_of_ble_eq_true rfl⟩
set_option maxHeartbeats 4000000 in
set_option maxRecDepth 100000 in
theorem xX7_addRule_m (hwp : WFp S) {z k : Int} {c r c2 r2 : Int} (hr2 : rI c ∧ rI r) (hr3 : rI c2 ∧ rI r2) (hc2 : isCellB c r = true) (hc3 : isCellB c2 r2 = true) (hz : ¬ (0 ≤ z ∧ z < S.2 22)) (hr0 : rI z) (hst : l.stackTraces = false) : Tx l yX7_addRule wsX7_addRule ({ frames := 8, cells := 1, slots := 6, locals := 170 } : Room) D (tyL cB cC cI cO cJ cD) ee [.ref (P 1), .int (iI c), .int (iI r), .int (iI c2), .int (iI r2), .int (iI z), .int (iI k)] (CW cI cO ee Tx9 P S X) "java/lang/IndexOutOfBoundsException" (fun h h' => h' = h) (1) (6) := by
  refine Tx_of (cc := cX7_addRule) (own := RX7) [some (.ref (P 1)), some (.int (iI c)), some (.int (iI r)), some (.int (iI c2)), some (.int (iI r2)), some (.int (iI z)), some (.int (iI k)), none, none] (by decide) rfl rfl (Nat.le_of_ble_eq_true rfl) (fun i9 v9 h9 => argL [.ref (P 1), .int (iI c), .int (iI r), .int (iI c2), .int (iI r2), .int (iI z), .int (iI k)] 2 rfl i9 v9 h9) ?_
  intro p e s m9 args below meth c9 h0 sz hI C hlk hxt
  refine V_weak (I2 := fun x9 => CW cI cO ee Tx9 P S X x9 ∧ x9 = h0) (fun x9 hx9 => by subst hx9; exact ⟨hI, rfl⟩) ?_
  refine V_iload1 (pc' := 1) C dX7_addRule_0 rfl ?_
  refine V_iload2 (pc' := 2) C dX7_addRule_1 rfl ?_
  refine V_callS (n := 2) [.int (iI c), .int (iI r)] C (kX7_needCell hr2 hc2) gX7_addRule_X7_needCell rfl ydX7_needCell ⟨Nat.le_of_ble_eq_true rfl, Nat.le_of_ble_eq_true rfl⟩ ⟨rfl, rfl⟩ rfl (fun h hh => trivial) rfl (Nat.le_of_ble_eq_true rfl) dX7_addRule_2 ⟨Nat.le_of_ble_eq_true rfl, Nat.le_of_ble_eq_true rfl⟩ (fun h v h' hh hj9 => ?_)
  obtain ⟨rfl, rfl⟩ := hj9
  refine V_weak (I2 := fun x9 => CW cI cO ee Tx9 P S X x9 ∧ x9 = h0) (fun x9 hx9 => by rw [hx9]; exact hh) ?_
  refine V_iload3 (pc' := 6) C dX7_addRule_5 rfl ?_
  refine V_iload4 (pc' := 8) C dX7_addRule_6 rfl ?_
  refine V_callS (n := 2) [.int (iI c2), .int (iI r2)] C (kX7_needCell hr3 hc3) gX7_addRule_X7_needCell rfl ydX7_needCell ⟨Nat.le_of_ble_eq_true rfl, Nat.le_of_ble_eq_true rfl⟩ ⟨rfl, rfl⟩ rfl (fun h hh => trivial) rfl (Nat.le_of_ble_eq_true rfl) dX7_addRule_8 ⟨Nat.le_of_ble_eq_true rfl, Nat.le_of_ble_eq_true rfl⟩ (fun h v h' hh hj9 => ?_)
  obtain ⟨rfl, rfl⟩ := hj9
  refine V_weak (I2 := fun x9 => CW cI cO ee Tx9 P S X x9 ∧ x9 = h0) (fun x9 hx9 => by rw [hx9]; exact hh) ?_
  refine V_aload0 (pc' := 12) C dX7_addRule_11 rfl ?_
  refine V_iload5 (pc' := 14) C dX7_addRule_12 rfl ?_
  exact V_outV (ci := 12) (n := 1) [.int (iI z)] C (xX7_neededMacro (z := z) hwp hz hr0 hst) gX7_addRule_X7_neededMacro rfl ydX7_neededMacro ⟨Nat.le_of_ble_eq_true rfl, Nat.le_of_ble_eq_true rfl⟩ ⟨rfl, rfl⟩ rfl rfl (fun h hh => ⟨1, _, hh.1.1⟩) (fun h hh => hh.1) rfl (Nat.le_of_ble_eq_true rfl) dX7_addRule_14 ⟨Nat.le_of_ble_eq_true rfl, Nat.le_of_ble_eq_true rfl⟩ hxt hlk (fun h h' hh hj => by rw [hj]; exact hh.2) ⟨Nat.le_of_ble_eq_true rfl, Nat.le_of_ble_eq_true rfl⟩
set_option maxHeartbeats 4000000 in
set_option maxRecDepth 100000 in
theorem xX7_addRule_r (hwp : WFp S) {z : Int} (hz : 0 ≤ z ∧ z < S.2 22) {c r c2 r2 : Int} (hr2 : rI c ∧ rI r) (hr3 : rI c2 ∧ rI r2) (hc2 : isCellB c r = true) (hc3 : isCellB c2 r2 = true) {k : Int} (hk0 : rI k) (hrg0 : isRangeB c r c2 r2 = false) (hst : l.stackTraces = false) : Tx l yX7_addRule wsX7_addRule ({ frames := 8, cells := 1, slots := 6, locals := 170 } : Room) D (tyL cB cC cI cO cJ cD) ee [.ref (P 1), .int (iI c), .int (iI r), .int (iI c2), .int (iI r2), .int (iI z), .int (iI k)] (CW cI cO ee Tx9 P S X) "java/lang/IllegalArgumentException" (fun h h' => h' = h) (1) (6) := by
  refine Tx_of (cc := cX7_addRule) (own := RX7) [some (.ref (P 1)), some (.int (iI c)), some (.int (iI r)), some (.int (iI c2)), some (.int (iI r2)), some (.int (iI z)), some (.int (iI k)), none, none] (by decide) rfl rfl (Nat.le_of_ble_eq_true rfl) (fun i9 v9 h9 => argL [.ref (P 1), .int (iI c), .int (iI r), .int (iI c2), .int (iI r2), .int (iI z), .int (iI k)] 2 rfl i9 v9 h9) ?_
  intro p e s m9 args below meth c9 h0 sz hI C hlk hxt
  refine V_weak (I2 := fun x9 => CW cI cO ee Tx9 P S X x9 ∧ x9 = h0) (fun x9 hx9 => by subst hx9; exact ⟨hI, rfl⟩) ?_
  refine V_iload1 (pc' := 1) C dX7_addRule_0 rfl ?_
  refine V_iload2 (pc' := 2) C dX7_addRule_1 rfl ?_
  refine V_callS (n := 2) [.int (iI c), .int (iI r)] C (kX7_needCell hr2 hc2) gX7_addRule_X7_needCell rfl ydX7_needCell ⟨Nat.le_of_ble_eq_true rfl, Nat.le_of_ble_eq_true rfl⟩ ⟨rfl, rfl⟩ rfl (fun h hh => trivial) rfl (Nat.le_of_ble_eq_true rfl) dX7_addRule_2 ⟨Nat.le_of_ble_eq_true rfl, Nat.le_of_ble_eq_true rfl⟩ (fun h v h' hh hj9 => ?_)
  obtain ⟨rfl, rfl⟩ := hj9
  refine V_weak (I2 := fun x9 => CW cI cO ee Tx9 P S X x9 ∧ x9 = h0) (fun x9 hx9 => by rw [hx9]; exact hh) ?_
  refine V_iload3 (pc' := 6) C dX7_addRule_5 rfl ?_
  refine V_iload4 (pc' := 8) C dX7_addRule_6 rfl ?_
  refine V_callS (n := 2) [.int (iI c2), .int (iI r2)] C (kX7_needCell hr3 hc3) gX7_addRule_X7_needCell rfl ydX7_needCell ⟨Nat.le_of_ble_eq_true rfl, Nat.le_of_ble_eq_true rfl⟩ ⟨rfl, rfl⟩ rfl (fun h hh => trivial) rfl (Nat.le_of_ble_eq_true rfl) dX7_addRule_8 ⟨Nat.le_of_ble_eq_true rfl, Nat.le_of_ble_eq_true rfl⟩ (fun h v h' hh hj9 => ?_)
  obtain ⟨rfl, rfl⟩ := hj9
  refine V_weak (I2 := fun x9 => CW cI cO ee Tx9 P S X x9 ∧ x9 = h0) (fun x9 hx9 => by rw [hx9]; exact hh) ?_
  refine V_aload0 (pc' := 12) C dX7_addRule_11 rfl ?_
  refine V_iload5 (pc' := 14) C dX7_addRule_12 rfl ?_
  refine V_callV (ci := 12) (n := 1) [.int (iI z)] C (kX7_neededMacro (z := z) hwp hz) gX7_addRule_X7_neededMacro rfl ydX7_neededMacro ⟨Nat.le_of_ble_eq_true rfl, Nat.le_of_ble_eq_true rfl⟩ ⟨rfl, rfl⟩ rfl rfl (fun h hh => ⟨1, _, hh.1.1⟩) (fun h hh => hh.1) rfl (Nat.le_of_ble_eq_true rfl) dX7_addRule_14 ⟨Nat.le_of_ble_eq_true rfl, Nat.le_of_ble_eq_true rfl⟩ (fun h v h' hh hj9 => ?_)
  obtain ⟨rfl, rfl⟩ := hj9
  refine V_weak (I2 := fun x9 => CW cI cO ee Tx9 P S X x9 ∧ x9 = h0) (fun x9 hx9 => by rw [hx9]; exact hh) ?_
  refine V_astore7 (pc' := 19) C dX7_addRule_17 rfl (by decide) rfl ?_
  refine V_iload1 (pc' := 20) C dX7_addRule_19 rfl ?_
  refine V_iload2 (pc' := 21) C dX7_addRule_20 rfl ?_
  refine V_iload3 (pc' := 22) C dX7_addRule_21 rfl ?_
  refine V_iload4 (pc' := 24) C dX7_addRule_22 rfl ?_
  refine sCall4 (pc' := 27) C (kX7_isRange (c := c) (r := r) (c2 := c2) (r2 := r2) ⟨hr2.1, hr2.2, hr3.1, hr3.2⟩) gX7_addRule_X7_isRange rfl ydX7_isRange ⟨Nat.le_of_ble_eq_true rfl, Nat.le_of_ble_eq_true rfl⟩ ⟨rfl, rfl⟩ (Nat.le_of_ble_eq_true rfl) dX7_addRule_24 ⟨Nat.zero_le _, Nat.zero_le _⟩ rfl ?_
  refine V_ifeqB (tgt := 38) C dX7_addRule_27 (by decide) rfl (fun c_27 => ?_) (fun c_27 => ?_)
  · exact V_throwS (text := "this is no range or no rank") (names := ["java/lang/RuntimeException", "java/lang/Exception"]) C hst (by decide +kernel) (by decide +kernel) (by decide +kernel) (by decide +kernel) (by decide +kernel) (by decide +kernel) (by decide +kernel) (by decide +kernel) dX7_addRule_38 dX7_addRule_41 dX7_addRule_42 dX7_addRule_44 dX7_addRule_47 hxt (Nat.le_of_ble_eq_true rfl) (Nat.le_of_ble_eq_true rfl) ⟨Nat.le_of_ble_eq_true rfl, Nat.le_of_ble_eq_true rfl⟩ hlk (fun h' hh => hh.2) rfl ⟨Nat.le_of_ble_eq_true rfl, Nat.le_of_ble_eq_true rfl⟩
  · exact absurd c_27 (by rw [hrg0]; decide)
set_option maxHeartbeats 4000000 in
set_option maxRecDepth 100000 in
theorem xX7_addRule_k (hwp : WFp S) {z : Int} (hz : 0 ≤ z ∧ z < S.2 22) {c r c2 r2 : Int} (hr2 : rI c ∧ rI r) (hr3 : rI c2 ∧ rI r2) (hc2 : isCellB c r = true) (hc3 : isCellB c2 r2 = true) {k : Int} (hk0 : rI k) (hrg0 : isRangeB c r c2 r2 = true) (hrk : isRankB k = false) (hst : l.stackTraces = false) : Tx l yX7_addRule wsX7_addRule ({ frames := 8, cells := 1, slots := 6, locals := 170 } : Room) D (tyL cB cC cI cO cJ cD) ee [.ref (P 1), .int (iI c), .int (iI r), .int (iI c2), .int (iI r2), .int (iI z), .int (iI k)] (CW cI cO ee Tx9 P S X) "java/lang/IllegalArgumentException" (fun h h' => h' = h) (1) (6) := by
  refine Tx_of (cc := cX7_addRule) (own := RX7) [some (.ref (P 1)), some (.int (iI c)), some (.int (iI r)), some (.int (iI c2)), some (.int (iI r2)), some (.int (iI z)), some (.int (iI k)), none, none] (by decide) rfl rfl (Nat.le_of_ble_eq_true rfl) (fun i9 v9 h9 => argL [.ref (P 1), .int (iI c), .int (iI r), .int (iI c2), .int (iI r2), .int (iI z), .int (iI k)] 2 rfl i9 v9 h9) ?_
  intro p e s m9 args below meth c9 h0 sz hI C hlk hxt
  refine V_weak (I2 := fun x9 => CW cI cO ee Tx9 P S X x9 ∧ x9 = h0) (fun x9 hx9 => by subst hx9; exact ⟨hI, rfl⟩) ?_
  refine V_iload1 (pc' := 1) C dX7_addRule_0 rfl ?_
  refine V_iload2 (pc' := 2) C dX7_addRule_1 rfl ?_
  refine V_callS (n := 2) [.int (iI c), .int (iI r)] C (kX7_needCell hr2 hc2) gX7_addRule_X7_needCell rfl ydX7_needCell ⟨Nat.le_of_ble_eq_true rfl, Nat.le_of_ble_eq_true rfl⟩ ⟨rfl, rfl⟩ rfl (fun h hh => trivial) rfl (Nat.le_of_ble_eq_true rfl) dX7_addRule_2 ⟨Nat.le_of_ble_eq_true rfl, Nat.le_of_ble_eq_true rfl⟩ (fun h v h' hh hj9 => ?_)
  obtain ⟨rfl, rfl⟩ := hj9
  refine V_weak (I2 := fun x9 => CW cI cO ee Tx9 P S X x9 ∧ x9 = h0) (fun x9 hx9 => by rw [hx9]; exact hh) ?_
  refine V_iload3 (pc' := 6) C dX7_addRule_5 rfl ?_
  refine V_iload4 (pc' := 8) C dX7_addRule_6 rfl ?_
  refine V_callS (n := 2) [.int (iI c2), .int (iI r2)] C (kX7_needCell hr3 hc3) gX7_addRule_X7_needCell rfl ydX7_needCell ⟨Nat.le_of_ble_eq_true rfl, Nat.le_of_ble_eq_true rfl⟩ ⟨rfl, rfl⟩ rfl (fun h hh => trivial) rfl (Nat.le_of_ble_eq_true rfl) dX7_addRule_8 ⟨Nat.le_of_ble_eq_true rfl, Nat.le_of_ble_eq_true rfl⟩ (fun h v h' hh hj9 => ?_)
  obtain ⟨rfl, rfl⟩ := hj9
  refine V_weak (I2 := fun x9 => CW cI cO ee Tx9 P S X x9 ∧ x9 = h0) (fun x9 hx9 => by rw [hx9]; exact hh) ?_
  refine V_aload0 (pc' := 12) C dX7_addRule_11 rfl ?_
  refine V_iload5 (pc' := 14) C dX7_addRule_12 rfl ?_
  refine V_callV (ci := 12) (n := 1) [.int (iI z)] C (kX7_neededMacro (z := z) hwp hz) gX7_addRule_X7_neededMacro rfl ydX7_neededMacro ⟨Nat.le_of_ble_eq_true rfl, Nat.le_of_ble_eq_true rfl⟩ ⟨rfl, rfl⟩ rfl rfl (fun h hh => ⟨1, _, hh.1.1⟩) (fun h hh => hh.1) rfl (Nat.le_of_ble_eq_true rfl) dX7_addRule_14 ⟨Nat.le_of_ble_eq_true rfl, Nat.le_of_ble_eq_true rfl⟩ (fun h v h' hh hj9 => ?_)
  obtain ⟨rfl, rfl⟩ := hj9
  refine V_weak (I2 := fun x9 => CW cI cO ee Tx9 P S X x9 ∧ x9 = h0) (fun x9 hx9 => by rw [hx9]; exact hh) ?_
  refine V_astore7 (pc' := 19) C dX7_addRule_17 rfl (by decide) rfl ?_
  refine V_iload1 (pc' := 20) C dX7_addRule_19 rfl ?_
  refine V_iload2 (pc' := 21) C dX7_addRule_20 rfl ?_
  refine V_iload3 (pc' := 22) C dX7_addRule_21 rfl ?_
  refine V_iload4 (pc' := 24) C dX7_addRule_22 rfl ?_
  refine sCall4 (pc' := 27) C (kX7_isRange (c := c) (r := r) (c2 := c2) (r2 := r2) ⟨hr2.1, hr2.2, hr3.1, hr3.2⟩) gX7_addRule_X7_isRange rfl ydX7_isRange ⟨Nat.le_of_ble_eq_true rfl, Nat.le_of_ble_eq_true rfl⟩ ⟨rfl, rfl⟩ (Nat.le_of_ble_eq_true rfl) dX7_addRule_24 ⟨Nat.zero_le _, Nat.zero_le _⟩ rfl ?_
  refine V_ifeqB (tgt := 38) C dX7_addRule_27 (by decide) rfl (fun c_27 => ?_) (fun c_27 => ?_)
  · exact absurd c_27 (by rw [hrg0]; decide)
  · refine V_iload6 (pc' := 32) C dX7_addRule_30 rfl ?_
    refine sCall1 (pc' := 35) C (kX7_isRank (x := k) hk0) gX7_addRule_X7_isRank rfl ydX7_isRank ⟨Nat.le_of_ble_eq_true rfl, Nat.le_of_ble_eq_true rfl⟩ ⟨rfl, rfl⟩ (Nat.le_of_ble_eq_true rfl) dX7_addRule_32 ⟨Nat.zero_le _, Nat.zero_le _⟩ rfl ?_
    refine V_ifneB (tgt := 48) C dX7_addRule_35 (by decide) rfl (fun c_35 => ?_) (fun c_35 => ?_)
    · exact absurd c_35 (by rw [hrk]; decide)
    · exact V_throwS (text := "this is no range or no rank") (names := ["java/lang/RuntimeException", "java/lang/Exception"]) C hst (by decide +kernel) (by decide +kernel) (by decide +kernel) (by decide +kernel) (by decide +kernel) (by decide +kernel) (by decide +kernel) (by decide +kernel) dX7_addRule_38 dX7_addRule_41 dX7_addRule_42 dX7_addRule_44 dX7_addRule_47 hxt (Nat.le_of_ble_eq_true rfl) (Nat.le_of_ble_eq_true rfl) ⟨Nat.le_of_ble_eq_true rfl, Nat.le_of_ble_eq_true rfl⟩ hlk (fun h' hh => hh.2) rfl ⟨Nat.le_of_ble_eq_true rfl, Nat.le_of_ble_eq_true rfl⟩
set_option maxHeartbeats 4000000 in
set_option maxRecDepth 100000 in
theorem xX7_addRule_f (hwp : WFp S) {z : Int} (hz : 0 ≤ z ∧ z < S.2 22) {c r c2 r2 : Int} (hr2 : rI c ∧ rI r) (hr3 : rI c2 ∧ rI r2) (hc2 : isCellB c r = true) (hc3 : isCellB c2 r2 = true) {k : Int} (hk0 : rI k) (hrg0 : isRangeB c r c2 r2 = true) (hrk : isRankB k = true) (hlt : S.2 23 = 6) (hst : l.stackTraces = false) : Tx l yX7_addRule wsX7_addRule ({ frames := 8, cells := 1, slots := 6, locals := 170 } : Room) D (tyL cB cC cI cO cJ cD) ee [.ref (P 1), .int (iI c), .int (iI r), .int (iI c2), .int (iI r2), .int (iI z), .int (iI k)] (CW cI cO ee Tx9 P S X) "java/lang/IllegalStateException" (fun h h' => h' = h) (1) (6) := by
  refine Tx_of (cc := cX7_addRule) (own := RX7) [some (.ref (P 1)), some (.int (iI c)), some (.int (iI r)), some (.int (iI c2)), some (.int (iI r2)), some (.int (iI z)), some (.int (iI k)), none, none] (by decide) rfl rfl (Nat.le_of_ble_eq_true rfl) (fun i9 v9 h9 => argL [.ref (P 1), .int (iI c), .int (iI r), .int (iI c2), .int (iI r2), .int (iI z), .int (iI k)] 2 rfl i9 v9 h9) ?_
  intro p e s m9 args below meth c9 h0 sz hI C hlk hxt
  have hin : ∀ w ∈ wsX70, w ∈ wsX7_addRule := by decide +kernel
  refine V_weak (I2 := fun x => CW cI cO ee Tx9 P S X x ∧ x = h0) (fun x hx => by subst hx; exact ⟨hI, rfl⟩) ?_
  obtain ⟨md1, ar1, hl1⟩ := hI.2.2.2.2.2.2.2.1
  obtain ⟨md2, ar2, hl2⟩ := hI.2.2.2.2.2.2.2.2.2.1
  have hmc := hI.2.2.2.2.2.2.2.2.1
  have hru := hI.2.2.2.2.2.2.2.2.2.2
  obtain ⟨hw1, hw2, hw3, hw4, hw5, hw6⟩ := id hwp
  refine V_iload1 (pc' := 1) C dX7_addRule_0 rfl ?_
  refine V_iload2 (pc' := 2) C dX7_addRule_1 rfl ?_
  refine V_callS (n := 2) [.int (iI c), .int (iI r)] C (kX7_needCell hr2 hc2) gX7_addRule_X7_needCell rfl ydX7_needCell ⟨Nat.le_of_ble_eq_true rfl, Nat.le_of_ble_eq_true rfl⟩ ⟨rfl, rfl⟩ rfl (fun h hh => trivial) rfl (Nat.le_of_ble_eq_true rfl) dX7_addRule_2 ⟨Nat.le_of_ble_eq_true rfl, Nat.le_of_ble_eq_true rfl⟩ (fun h v h' hh hj9 => ?_)
  obtain ⟨rfl, rfl⟩ := hj9
  refine V_weak (I2 := fun x9 => CW cI cO ee Tx9 P S X x9 ∧ x9 = h0) (fun x9 hx9 => by rw [hx9]; exact hh) ?_
  refine V_iload3 (pc' := 6) C dX7_addRule_5 rfl ?_
  refine V_iload4 (pc' := 8) C dX7_addRule_6 rfl ?_
  refine V_callS (n := 2) [.int (iI c2), .int (iI r2)] C (kX7_needCell hr3 hc3) gX7_addRule_X7_needCell rfl ydX7_needCell ⟨Nat.le_of_ble_eq_true rfl, Nat.le_of_ble_eq_true rfl⟩ ⟨rfl, rfl⟩ rfl (fun h hh => trivial) rfl (Nat.le_of_ble_eq_true rfl) dX7_addRule_8 ⟨Nat.le_of_ble_eq_true rfl, Nat.le_of_ble_eq_true rfl⟩ (fun h v h' hh hj9 => ?_)
  obtain ⟨rfl, rfl⟩ := hj9
  refine V_weak (I2 := fun x9 => CW cI cO ee Tx9 P S X x9 ∧ x9 = h0) (fun x9 hx9 => by rw [hx9]; exact hh) ?_
  refine V_aload0 (pc' := 12) C dX7_addRule_11 rfl ?_
  refine V_iload5 (pc' := 14) C dX7_addRule_12 rfl ?_
  refine V_callV (ci := 12) (n := 1) [.int (iI z)] C (kX7_neededMacro (z := z) hwp hz) gX7_addRule_X7_neededMacro rfl ydX7_neededMacro ⟨Nat.le_of_ble_eq_true rfl, Nat.le_of_ble_eq_true rfl⟩ ⟨rfl, rfl⟩ rfl rfl (fun h hh => ⟨1, _, hh.1.1⟩) (fun h hh => hh.1) rfl (Nat.le_of_ble_eq_true rfl) dX7_addRule_14 ⟨Nat.le_of_ble_eq_true rfl, Nat.le_of_ble_eq_true rfl⟩ (fun h v h' hh hj9 => ?_)
  obtain ⟨rfl, rfl⟩ := hj9
  refine V_weak (I2 := fun x9 => CW cI cO ee Tx9 P S X x9 ∧ x9 = h0) (fun x9 hx9 => by rw [hx9]; exact hh) ?_
  refine V_astore7 (pc' := 19) C dX7_addRule_17 rfl (by decide) rfl ?_
  refine V_iload1 (pc' := 20) C dX7_addRule_19 rfl ?_
  refine V_iload2 (pc' := 21) C dX7_addRule_20 rfl ?_
  refine V_iload3 (pc' := 22) C dX7_addRule_21 rfl ?_
  refine V_iload4 (pc' := 24) C dX7_addRule_22 rfl ?_
  refine sCall4 (pc' := 27) C (kX7_isRange (c := c) (r := r) (c2 := c2) (r2 := r2) ⟨hr2.1, hr2.2, hr3.1, hr3.2⟩) gX7_addRule_X7_isRange rfl ydX7_isRange ⟨Nat.le_of_ble_eq_true rfl, Nat.le_of_ble_eq_true rfl⟩ ⟨rfl, rfl⟩ (Nat.le_of_ble_eq_true rfl) dX7_addRule_24 ⟨Nat.zero_le _, Nat.zero_le _⟩ rfl ?_
  refine V_ifeqB (tgt := 38) C dX7_addRule_27 (by decide) rfl (fun c_27 => ?_) (fun c_27 => ?_)
  · exact absurd c_27 (by rw [hrg0]; decide)
  · refine V_iload6 (pc' := 32) C dX7_addRule_30 rfl ?_
    refine sCall1 (pc' := 35) C (kX7_isRank (x := k) hk0) gX7_addRule_X7_isRank rfl ydX7_isRank ⟨Nat.le_of_ble_eq_true rfl, Nat.le_of_ble_eq_true rfl⟩ ⟨rfl, rfl⟩ (Nat.le_of_ble_eq_true rfl) dX7_addRule_32 ⟨Nat.zero_le _, Nat.zero_le _⟩ rfl ?_
    refine V_ifneB (tgt := 48) C dX7_addRule_35 (by decide) rfl (fun c_35 => ?_) (fun c_35 => ?_)
    · refine V_aload0 (pc' := 49) C dX7_addRule_48 rfl ?_
      refine V_getf (pc' := 52) (T := TX7) (N := 13) (ci := 12) C hin rfl 3 (by decide) (by decide +kernel) (fun h hh => ⟨1, _, hh.1.1, rfl⟩) dX7_addRule_49 rfl ?_
      refine V_callV (ci := 4) (n := 0) [] C (kJx4a65c_size_8abf5 (t := 18) (md := md2) (ar := ar2) (sn := S.2 23)) gX7_addRule_Jx4a65c_size_8abf5 rfl ydJx4a65c_size_8abf5 ⟨Nat.le_of_ble_eq_true rfl, Nat.le_of_ble_eq_true rfl⟩ ⟨rfl, rfl⟩ rfl rfl (fun h hh => by obtain ⟨_, rfl⟩ := hh; exact ⟨18, _, hl2.1⟩) (fun h hh => by rw [hh.2]; exact hl2) rfl (Nat.le_of_ble_eq_true rfl) dX7_addRule_52 ⟨Nat.le_of_ble_eq_true rfl, Nat.le_of_ble_eq_true rfl⟩ (fun h v h' hh hj => ?_)
      obtain ⟨r9, rfl, hj8, rfl⟩ := hj
      rw [hj8]
      refine V_weak (I2 := fun x => CW cI cO ee Tx9 P S X x ∧ x = h0) (fun x hx => by rw [hx]; exact hh) ?_
      refine V_istore8 (pc' := 57) C dX7_addRule_55 rfl (by decide) rfl ?_
      refine V_iload8 (pc' := 59) C dX7_addRule_57 rfl ?_
      refine V_bipush (pc' := 61) C dX7_addRule_59 rfl (by decide) ?_
      refine V_icmplt (tgt := 74) C (by omega) dX7_addRule_61 (by decide) rfl (fun c_61 => ?_) (fun c_61 => ?_)
      · exact absurd c_61 (by omega)
      · exact V_throwS (text := "there are 6 rules") (names := ["java/lang/RuntimeException", "java/lang/Exception"]) C hst (by decide +kernel) (by decide +kernel) (by decide +kernel) (by decide +kernel) (by decide +kernel) (by decide +kernel) (by decide +kernel) (by decide +kernel) dX7_addRule_64 dX7_addRule_67 dX7_addRule_68 dX7_addRule_70 dX7_addRule_73 hxt (Nat.le_of_ble_eq_true rfl) (Nat.le_of_ble_eq_true rfl) ⟨Nat.le_of_ble_eq_true rfl, Nat.le_of_ble_eq_true rfl⟩ hlk (fun h' hh => hh.2) rfl ⟨Nat.le_of_ble_eq_true rfl, Nat.le_of_ble_eq_true rfl⟩
    · exact absurd c_35 (by rw [hrk]; decide)
end

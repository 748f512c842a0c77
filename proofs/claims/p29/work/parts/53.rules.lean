/-! the rules of an action, as the reference has them -/
def RM (S : MSt) : Prop := ∀ r : Int, 0 ≤ r → r < S.2 23 → S.1 14 r < S.2 22
def TKA : Nat → Prop := fun u => u = 1 ∨ tC 4 u ∨ tC 2 u ∨ tU 6 u ∨ u = 13
theorem KD_of {S S' : MSt} (h : KD S) (e : ∀ k, 4 ≤ k → k < 16 → S'.1 k = S.1 k) : KD S' := by
  unfold KD
  rw [e 4 (by decide) (by decide), e 5 (by decide) (by decide)]
  exact h
theorem RM_of {S S' : MSt} (h : RM S) (e : S'.1 14 = S.1 14) (e2 : S'.2 22 = S.2 22) (e3 : S'.2 23 = S.2 23) : RM S' := by
  unfold RM
  rw [e, e2, e3]
  exact h
theorem chS_2 (X : MSt) (run k : Int) : (chS X run k).2 = run ∨ (chS X run k).2 = run + 1 := by
  unfold chS
  split
  · split
    · exact Or.inr rfl
    · exact Or.inl (Int.add_zero _)
  · exact Or.inl rfl
theorem RelA.u26 {S X : MSt} {fr v : Int} (H : RelA S X fr) : RelA (uG S 26 v) X fr := ⟨H.1.e rfl rfl rfl rfl rfl rfl rfl rfl rfl rfl rfl rfl rfl, H.2.e rfl rfl rfl rfl rfl⟩
theorem RelA.tr {S X : MSt} {fr : Int} (H : RelA S X fr) (f : Int → Int) : RelA S (Xtr X f) fr := ⟨H.1.e rfl rfl rfl rfl rfl rfl rfl rfl rfl rfl rfl rfl rfl, H.2.e rfl rfl rfl rfl rfl⟩
theorem E1_skip (S : MSt) (m x : Int) : E1 (uG S 26 (S.2 26 + 1)) (uG (whyS S m x).2 26 ((whyS S m x).2.2 26 + 1)) := ⟨fun k hk => whyS_1 S m x k hk, by
  have e := whyS_2 S m x
  show (fun j => if j = 26 then (whyS S m x).2.2 26 + 1 else (whyS S m x).2.2 j) = fun j => if j = 26 then S.2 26 + 1 else S.2 j
  rw [e]⟩
theorem ydX7_runRules : yX7_runRules.cls = RX7 ∧ yX7_runRules.cls ≠ "java/lang/invoke/MethodHandle" ∧ yX7_runRules.cls ≠ "java/lang/invoke/VarHandle" ∧ (parseMethodDescriptor yX7_runRules.desc).map (fun d => d.parameters.length) = some 0 := by decide +kernel
section
variable {l : Launch} {D : va_G} {cB cC cI cO cJ cD : ClassId} {ee : Nat × Nat} {Tx9 : (Nat → Nat) → MSt → Hp → Prop} {P : Nat → Nat} {S X : MSt}
theorem kX7_rrf (hwp : WFp S) (hwl : WFl S) (hkd : KD S) (hrm : RM S) (h9 : T9ok Tx9) {fr run k : Int} (hA : RelA S X fr) (hk : fr ≤ k ∧ k < S.2 24) (h3 : S.1 19 k < 3) (h20 : 0 ≤ run ∧ run < 20) (hlg : 0 ≤ fr ∧ S.2 24 ≤ fr + 200 ∧ S.2 24 ≤ 2090) (hln : S.2 29 + fr + 210 ≤ X.2 26 ∧ X.2 26 ≤ 107520) : Ct l yX7_runRuleFor wsX7_runRuleFor ({ frames := 8, cells := 0, slots := 0, locals := 190 } : Room) D (tyL cB cC cI cO cJ cD) ee [.ref (P 1), .int (iI (S.1 16 k)), .int (iI (S.1 19 k + 1))] (CW cI cO ee Tx9 P S X) (Ji fun h z9 h' => z9 = bI (decide ((chS S run k).2 = run + 1)) ∧ (∃ X', CW cI cO ee Tx9 P (chS S run k).1 X' h' ∧ RelA (chS S run k).1 X' fr ∧ xK X X') ∧ Fr TKA h h') 0 0 := by
  obtain ⟨hl0, hl1⟩ := id hwl
  obtain ⟨hw1, hw2, hw3, hw4, hw5, hw6⟩ := id hwp
  have hwk := hl1 k (by omega) hk.2
  have hx : 0 ≤ S.1 16 k ∧ S.1 16 k < 48 := ⟨hwk.1, hwk.2.1⟩
  have hL1 := hA.1.1
  have hD1 := hA.2.1
  by_cases hq : 0 ≤ ruledI S (S.1 16 k)
  · have hrl : ruledI S (S.1 16 k) < S.2 23 := by
      have h8 := (ruN_lt (S := S) (x := S.1 16 k) (S.2 23).toNat).2
      show ruN S (S.1 16 k) (S.2 23).toNat < S.2 23
      omega
    have h14 := hw4 (ruledI S (S.1 16 k)) hq (by omega)
    have hrm9 := hrm _ hq hrl
    by_cases hc : S.1 14 (ruledI S (S.1 16 k)) = S.2 27
    · have e : chS S run k = (S, run) := chS_no (fun z => z.2.2.1 hc)
      rw [e]
      refine Ct_mono (kX7_runRuleFor_n2 hwp hx ⟨hq, hc⟩ hrm9) (fun h q => q) (fun h v h' hI hJ => ?_)
      obtain ⟨z, rfl, rfl, rfl⟩ := hJ
      exact ⟨_, rfl, by rw [show decide ((S, run).2 = run + 1) = false from decide_eq_false (show ¬ run = run + 1 by omega)], ⟨X, hI, hA, xK.rf⟩, Fr.refl⟩
    · obtain ⟨m, hm⟩ : ∃ m : Nat, S.1 14 (ruledI S (S.1 16 k)) = (m : Int) := ⟨(S.1 14 (ruledI S (S.1 16 k))).toNat, by omega⟩
      by_cases hw : (whyS S m (S.1 16 k)).1 = 45
      · have e : chS S run k = (runS (uG (whyS S m (S.1 16 k)).2 26 ((whyS S m (S.1 16 k)).2.2 26 + 0)) m (S.1 16 k) (S.1 19 k + 1), run + 1) := by
          have e9 := chS_yes (X := S) (run := run) (k := k) ⟨hq, h3, hc, h20.2⟩ (by rw [hm]; exact hw)
          rw [e9, hm]
        rw [e]
        have hok := run_ok (Y := S) (S := S) (S.1 19 k + 1) hwp ⟨fun k _ _ => rfl, rfl⟩ ⟨by omega, by omega⟩ hx ⟨by omega, by omega⟩ hw
        refine Ct_mono (kX7_runRuleFor_r hwp hkd h9 (by omega) hx ⟨hq, hm⟩ (by omega) hw ⟨by omega, by omega⟩ (by omega)) (fun h q => q) (fun h v h' hI hJ => ?_)
        obtain ⟨z, rfl, rfl, ⟨f, hj1⟩, hj2⟩ := hJ
        have hm4 := hw2 m (by omega) (by omega)
        have hE := E1.rn (dp := S.1 19 k + 1) (E1_u26 (E1_why S m (S.1 16 k))) hx (n := (S.1 4 m).toNat) (fun j hj => hok.1 j (by omega)) (S.1 4 m).toNat (Nat.le_refl _)
        have hn : (uG (whyS S m (S.1 16 k)).2 26 ((whyS S m (S.1 16 k)).2.2 26 + 0)).1 4 m = S.1 4 m := by rw [uG_1, whyS_1 S m _ 4 (by decide)]
        have hR := RelA.rn (dp := S.1 19 k + 1) (hA.tr f) (by omega) ⟨by omega, by omega⟩ (n := (S.1 4 m).toNat) (x := S.1 16 k) (m := m) (fun j hj => hok.1 j (by omega)) (fun j hj => hok.2.2 j (by omega)) (S.1 4 m).toNat (Nat.le_refl _)
        refine ⟨_, rfl, by rw [show decide ((run + 1) = run + 1) = true from decide_eq_true rfl], ⟨rnX S (Xtr X f) m (S.1 16 k) (S.1 19 k + 1) (S.1 4 m).toNat, ?_, ?_, (xK_tr X f).trans (xK_rn _ _ _ _ _ _)⟩, hj2.mono (fun u hu => Or.inr hu)⟩
        · unfold runS
          rw [hn]
          exact hj1.congr h9 hE.cw
        · unfold runS
          rw [hn]
          exact hR.e1 hE
      · have e : chS S run k = (uG (whyS S m (S.1 16 k)).2 26 ((whyS S m (S.1 16 k)).2.2 26 + 1), run + 0) := by
          have e9 := chS_skip (X := S) (run := run) (k := k) ⟨hq, h3, hc, h20.2⟩ (by rw [hm]; exact hw)
          rw [e9, hm]
        rw [e]
        refine Ct_mono (kX7_runRuleFor_s hwp hkd h9 (by omega) hx ⟨hq, hm⟩ (by omega) hw) (fun h q => q) (fun h v h' hI hJ => ?_)
        obtain ⟨z, rfl, rfl, ⟨f, hj1⟩, hj2⟩ := hJ
        exact ⟨_, rfl, by rw [show decide ((run + 0) = run + 1) = false from decide_eq_false (by omega)], ⟨Xtr X f, hj1.congr h9 (E1_skip S m _).cw, ((hA.tr f).u26).e1 (E1_skip S m _), xK_tr X f⟩, hj2.mono (fun u hu => hu.elim Or.inl (fun z => Or.inr (Or.inl z)))⟩
  · have e : chS S run k = (S, run) := chS_no (fun z => hq z.1)
    rw [e]
    refine Ct_mono (kX7_runRuleFor_n1 hwp hx (by omega)) (fun h q => q) (fun h v h' hI hJ => ?_)
    obtain ⟨z, rfl, rfl, rfl⟩ := hJ
    exact ⟨_, rfl, by rw [show decide ((S, run).2 = run + 1) = false from decide_eq_false (show ¬ run = run + 1 by omega)], ⟨X, hI, hA, xK.rf⟩, Fr.refl⟩
set_option maxHeartbeats 4000000 in
set_option maxRecDepth 100000 in
theorem kX7_runRules (hwp : WFp S) (hwl : WFl S) (hkd : KD S) (hrm : RM S) (h9 : T9ok Tx9) {fr : Int} (hA : RelA S X fr) (hfr : 0 ≤ fr ∧ fr ≤ S.2 24 ∧ S.2 24 ≤ fr + 10 ∧ S.2 24 ≤ 1890) (hln : S.2 29 + fr + 210 ≤ X.2 26 ∧ X.2 26 ≤ 107520) : Ct l yX7_runRules wsX7_runRules ({ frames := 10, cells := 0, slots := 0, locals := 240 } : Room) D (tyL cB cC cI cO cJ cD) ee [.ref (P 1)] (CW cI cO ee Tx9 P S X) (fun h v9 h' => v9 = none ∧ (∃ X', CW cI cO ee Tx9 P (chX S fr) X' h' ∧ RelA (chX S fr) X' fr ∧ xK X X') ∧ Fr TKA h h') (0) (0) := by
  refine Ct_of (cc := cX7_runRules) (own := RX7) [some (.ref (P 1)), none, none, none] (by decide) rfl rfl (Nat.le_of_ble_eq_true rfl) (fun i9 v9 h9 => argL [.ref (P 1)] 3 rfl i9 v9 h9) ?_
  intro p e s m9 args below meth c9 h0 sz hI C hr hlk hinit
  have hin : ∀ w ∈ wsX70, w ∈ wsX7_runRules := by decide +kernel
  have hsp := chL_sp hwp hwl hfr.1 hfr.2.2.2 hfr.2.2.1
  refine V_weak (I2 := fun x9 => CW cI cO ee Tx9 P S X x9 ∧ Fr TKA h0 x9) (fun x9 hx9 => by subst hx9; exact ⟨hI, Fr.refl⟩) ?_
  refine V_iconst (pc' := 1) C dX7_runRules_0 rfl ?_
  refine V_istore1 (pc' := 2) C dX7_runRules_1 rfl (by decide) rfl ?_
  refine V_iconst (pc' := 3) C dX7_runRules_2 rfl ?_
  refine V_istore2 (pc' := 4) C dX7_runRules_3 rfl (by decide) rfl ?_
  refine V_for0 (N := chL S fr) (fun j => fun x9 => ∃ Xj, (RelA (chI S fr j).1 Xj fr ∧ xK X Xj) ∧ (CW cI cO ee Tx9 P (chI S fr j).1 Xj x9 ∧ Fr TKA h0 x9)) (fun j => [some (.ref (P 1)), some (.int (iI (chI S fr j).2)), some (.int (iI j)), none]) (fun _ => True) trivial (fun h hh => ⟨X, ⟨hA, xK.rf⟩, hh⟩) rfl (fun j hj hv hk => ?_) (fun hv => ?_)
  · refine V_ex (fun Xj => V_and (fun hXj => ?_))
    obtain ⟨hAj, hKj⟩ := hXj
    have hcw := chI_wf hwp hwl hfr.1 hfr.2.2.2 j (fun i hi => hsp.1 i (by omega))
    have hjl := hsp.1 j hj
    obtain ⟨gw, gl, g0, g20, g24, g24b, gk, g2⟩ := id hcw
    have g29 := g2 29 (by decide) (by decide)
    have gA1 := hAj.1.1
    have gD1 := hAj.2.1
    have gX := hKj.1
    refine V_iload2 (pc' := 5) C dX7_runRules_4 rfl ?_
    refine V_aload0 (pc' := 6) C dX7_runRules_5 rfl ?_
    refine V_getf (pc' := 9) (T := TX7) (N := 13) (ci := 12) C hin rfl 7 (by decide) (by decide +kernel) (fun h hh => ⟨1, _, hh.1.1, rfl⟩) dX7_runRules_6 rfl ?_
    refine V_alen (pc' := 10) (n := 210) C 2 rfl (fun h hh => ⟨13, hh.1.2.2.2.2.2.1⟩) dX7_runRules_9 rfl ?_
    first | (refine V_eq (st2 := [.int (iI 210), .int (iI (j : Int))]) rfl ?_) | (refine V_eq (st2 := [.int (iI 210), .int (iI ((chL S fr : Nat) : Int))]) rfl ?_)
    refine V_icmpge (tgt := 79) C (by omega) dX7_runRules_10 (by decide) rfl (fun c_10 => ?_) (fun c_10 => ?_)
    · exact absurd c_10 (by omega)
    · refine V_aload0 (pc' := 14) C dX7_runRules_13 rfl ?_
      refine V_getf (pc' := 17) (T := TX7) (N := 13) (ci := 12) C hin rfl 8 (by decide) (by decide +kernel) (fun h hh => ⟨1, _, hh.1.1, rfl⟩) dX7_runRules_14 rfl ?_
      refine V_iload2 (pc' := 18) C dX7_runRules_17 rfl ?_
      refine V_iadd (pc' := 19) C dX7_runRules_18 rfl ?_
      refine V_aload0 (pc' := 20) C dX7_runRules_19 rfl ?_
      refine V_getf (pc' := 23) (T := TX7) (N := 13) (ci := 12) C hin rfl 4 (by decide) (by decide +kernel) (fun h hh => ⟨1, _, hh.1.1, rfl⟩) dX7_runRules_20 rfl ?_
      refine V_callV (ci := 5) (n := 0) [] C (kX0_size (v := fun k => P (7 + k)) (t := 6) (F := fun k => Xj.1 (7 + k)) (n := Xj.2 25) (len := (Xj.2 26).toNat)) gX7_runRules_X0_size rfl ydX0_size ⟨Nat.le_of_ble_eq_true rfl, Nat.le_of_ble_eq_true rfl⟩ ⟨rfl, rfl⟩ rfl rfl (fun h hh => ⟨6, _, hh.1.2.2.2.1.1⟩) (fun h hh => hh.1.2.2.2.1) rfl (Nat.le_of_ble_eq_true rfl) dX7_runRules_23 ⟨Nat.le_of_ble_eq_true rfl, Nat.le_of_ble_eq_true rfl⟩ (fun h v h' hh hj9 => ?_)
      obtain ⟨r9, rfl, hj8, rfl⟩ := hj9
      rw [hj8]
      first | (refine V_weak (I2 := fun x9 => CW cI cO ee Tx9 P (chI S fr j).1 Xj x9 ∧ Fr TKA h0 x9) (fun x9 hx9 => by rw [hx9]; exact hh) ?_) | (refine V_weak (I2 := fun x9 => CW cI cO ee Tx9 P (chI S fr (chL S fr)).1 Xj x9 ∧ Fr TKA h0 x9) (fun x9 hx9 => by rw [hx9]; exact hh) ?_)
      refine V_icmpge (tgt := 79) C (by omega) dX7_runRules_26 (by decide) rfl (fun c_26 => ?_) (fun c_26 => ?_)
      · exact absurd c_26 (by omega)
      · refine V_aload0 (pc' := 30) C dX7_runRules_29 rfl ?_
        refine V_getf (pc' := 33) (T := TX7) (N := 13) (ci := 12) C hin rfl 7 (by decide) (by decide +kernel) (fun h hh => ⟨1, _, hh.1.1, rfl⟩) dX7_runRules_30 rfl ?_
        refine V_iload2 (pc' := 34) C dX7_runRules_33 rfl ?_
        refine V_iald (pc' := 35) (n := 210) (f := Xj.1 13) C 2 rfl (fun h hh => ⟨13, hh.1.2.2.2.2.2.1⟩) ⟨by omega, by omega, by omega⟩ dX7_runRules_34 rfl ?_
        have hd19 : Xj.1 13 (j : Int) = (chI S fr j).1.1 19 (fr + j) := by
          have := hAj.2.2 (fr + j) (by omega) (by omega)
          rw [show fr + (j : Int) - fr = j by omega] at this
          exact this
        rw [hd19]
        have hl9 := gl.2 (fr + j) (by omega) (by omega)
        refine V_istore3 (pc' := 36) C dX7_runRules_35 rfl (by decide) rfl ?_
        refine V_iload3 (pc' := 37) C dX7_runRules_36 rfl ?_
        refine V_iconst (pc' := 38) C dX7_runRules_37 rfl ?_
        refine V_icmpge (tgt := 73) C (by omega) dX7_runRules_38 (by decide) rfl (fun c_38 => ?_) (fun c_38 => ?_)
        · refine V_iinc2 (pc' := 76) C dX7_runRules_73 rfl (by decide) rfl ?_
          refine V_goto (tgt := 4) C dX7_runRules_76 (by decide) ?_
          refine V_forget3 ?_
          have e9 : chI S fr (j + 1) = ((chI S fr j).1, (chI S fr j).2) := chS_no (fun z => by have z1 := z.2.1; have z2 := z.2.2.2; omega)
          exact V_conv (fun h q => ⟨Xj, ⟨by rw [e9]; exact hAj, hKj⟩, by rw [e9]; exact q⟩) (by rw [e9]; simp) (hk trivial)
        · refine V_iload1 (pc' := 42) C dX7_runRules_41 rfl ?_
          refine V_bipush (pc' := 44) C dX7_runRules_42 rfl (by decide) ?_
          refine V_icmpge (tgt := 73) C (by omega) dX7_runRules_44 (by decide) rfl (fun c_44 => ?_) (fun c_44 => ?_)
          · refine V_iinc2 (pc' := 76) C dX7_runRules_73 rfl (by decide) rfl ?_
            refine V_goto (tgt := 4) C dX7_runRules_76 (by decide) ?_
            refine V_forget3 ?_
            have e9 : chI S fr (j + 1) = ((chI S fr j).1, (chI S fr j).2) := chS_no (fun z => by have z1 := z.2.1; have z2 := z.2.2.2; omega)
            exact V_conv (fun h q => ⟨Xj, ⟨by rw [e9]; exact hAj, hKj⟩, by rw [e9]; exact q⟩) (by rw [e9]; simp) (hk trivial)
          · refine V_aload0 (pc' := 48) C dX7_runRules_47 rfl ?_
            refine V_aload0 (pc' := 49) C dX7_runRules_48 rfl ?_
            refine V_getf (pc' := 52) (T := TX7) (N := 13) (ci := 12) C hin rfl 4 (by decide) (by decide +kernel) (fun h hh => ⟨1, _, hh.1.1, rfl⟩) dX7_runRules_49 rfl ?_
            refine V_aload0 (pc' := 53) C dX7_runRules_52 rfl ?_
            refine V_getf (pc' := 56) (T := TX7) (N := 13) (ci := 12) C hin rfl 8 (by decide) (by decide +kernel) (fun h hh => ⟨1, _, hh.1.1, rfl⟩) dX7_runRules_53 rfl ?_
            refine V_iload2 (pc' := 57) C dX7_runRules_56 rfl ?_
            refine V_iadd (pc' := 58) C dX7_runRules_57 rfl ?_
            refine V_callV (ci := 5) (n := 1) [.int (iI (Xj.2 20 + (j : Int)))] C (kX0_placeAt (v := fun k => P (7 + k)) (t := 6) (F := fun k => Xj.1 (7 + k)) (n := Xj.2 25) (len := (Xj.2 26).toNat) (z := Xj.2 20 + (j : Int)) ⟨by omega, by omega⟩) gX7_runRules_X0_placeAt rfl ydX0_placeAt ⟨Nat.le_of_ble_eq_true rfl, Nat.le_of_ble_eq_true rfl⟩ ⟨rfl, rfl⟩ rfl rfl (fun h hh => ⟨6, _, hh.1.2.2.2.1.1⟩) (fun h hh => hh.1.2.2.2.1) rfl (Nat.le_of_ble_eq_true rfl) dX7_runRules_58 ⟨Nat.le_of_ble_eq_true rfl, Nat.le_of_ble_eq_true rfl⟩ (fun h v h' hh hj9 => ?_)
            obtain ⟨r9, rfl, hj8, rfl⟩ := hj9
            have hp16 : Xj.1 7 (Xj.2 20 + (j : Int)) = (chI S fr j).1.1 16 (fr + j) := by
              have h8 := (hAj.1.2.1 (fr + j).toNat (by omega)).1
              rw [show (((fr + j).toNat : Nat) : Int) = fr + j by omega] at h8
              rw [show Xj.2 20 + (j : Int) = (chI S fr j).1.2 29 + (fr + (j : Int)) by omega]
              exact h8
            have hj7 := hj8.trans hp16
            rw [hj7]
            refine V_weak (I2 := fun x9 => CW cI cO ee Tx9 P (chI S fr j).1 Xj x9 ∧ Fr TKA h0 x9) (fun x9 hx9 => by rw [hx9]; exact hh) ?_
            refine V_iload3 (pc' := 62) C dX7_runRules_61 rfl ?_
            refine V_iconst (pc' := 63) C dX7_runRules_62 rfl ?_
            refine V_iadd (pc' := 64) C dX7_runRules_63 rfl ?_
            refine V_callV (ci := 12) (n := 2) [.int (iI ((chI S fr j).1.1 16 (fr + j))), .int (iI ((chI S fr j).1.1 19 (fr + j) + 1))] C (kX7_rrf (S := (chI S fr j).1) (X := Xj) (run := (chI S fr j).2) (k := fr + j) (fr := fr) gw gl (KD_of hkd gk) (RM_of hrm (gk 14 (by decide) (by decide)) (g2 22 (by decide) (by decide)) (g2 23 (by decide) (by decide))) h9 hAj ⟨by omega, by omega⟩ (by omega) ⟨by omega, by omega⟩ ⟨by omega, by omega, by omega⟩ ⟨by omega, by omega⟩) gX7_runRules_X7_runRuleFor rfl ydX7_runRuleFor ⟨Nat.le_of_ble_eq_true rfl, Nat.le_of_ble_eq_true rfl⟩ ⟨rfl, rfl⟩ rfl rfl (fun h hh => ⟨1, _, hh.1.1⟩) (fun h hh => hh.1) rfl (Nat.le_of_ble_eq_true rfl) dX7_runRules_64 ⟨Nat.le_of_ble_eq_true rfl, Nat.le_of_ble_eq_true rfl⟩ (fun h v h' hh hj9 => ?_)
            obtain ⟨r9, rfl, hj8, ⟨X9, hc9, hr9, hx9⟩, hj2⟩ := hj9
            rw [hj8]
            refine V_weak (I2 := fun x9 => CW cI cO ee Tx9 P (chI S fr (j + 1)).1 X9 x9 ∧ Fr TKA h0 x9) (fun x9 hx9 => by rw [hx9]; exact ⟨hc9, hh.2.trans hj2⟩) ?_
            refine V_ifeqB (tgt := 73) C dX7_runRules_67 (by decide) rfl (fun c_67 => ?_) (fun c_67 => ?_)
            · refine V_iinc2 (pc' := 76) C dX7_runRules_73 rfl (by decide) rfl ?_
              refine V_goto (tgt := 4) C dX7_runRules_76 (by decide) ?_
              refine V_forget3 ?_
              have e7 := chS_2 (chI S fr j).1 (chI S fr j).2 (fr + j)
              have e8 : (chI S fr (j + 1)).2 = (chI S fr j).2 := by
                simp only [decide_eq_false_iff_not] at c_67
                show (chS (chI S fr j).1 (chI S fr j).2 (fr + j)).2 = (chI S fr j).2
                omega
              exact V_conv (fun h q => ⟨X9, ⟨hr9, hKj.trans hx9⟩, q⟩) (by rw [e8]; simp) (hk trivial)
            · refine V_iinc1 (pc' := 73) C dX7_runRules_70 rfl (by decide) rfl ?_
              refine V_iinc2 (pc' := 76) C dX7_runRules_73 rfl (by decide) rfl ?_
              refine V_goto (tgt := 4) C dX7_runRules_76 (by decide) ?_
              refine V_forget3 ?_
              have e7 := chS_2 (chI S fr j).1 (chI S fr j).2 (fr + j)
              have e8 : (chI S fr (j + 1)).2 = ((chI S fr j).2) + 1 := by
                simp only [decide_eq_true_eq] at c_67
                show (chS (chI S fr j).1 (chI S fr j).2 (fr + j)).2 = ((chI S fr j).2) + 1
                omega
              exact V_conv (fun h q => ⟨X9, ⟨hr9, hKj.trans hx9⟩, q⟩) (by rw [e8]; simp) (hk trivial)
  · refine V_ex (fun Xj => V_and (fun hXj => ?_))
    obtain ⟨hAj, hKj⟩ := hXj
    have hcw := chI_wf hwp hwl hfr.1 hfr.2.2.2 (chL S fr) (fun i hi => hsp.1 i hi)
    obtain ⟨gw, gl, g0, g20, g24, g24b, gk, g2⟩ := id hcw
    have g29 := g2 29 (by decide) (by decide)
    have gA1 := hAj.1.1
    have gD1 := hAj.2.1
    have gX := hKj.1
    refine V_iload2 (pc' := 5) C dX7_runRules_4 rfl ?_
    refine V_aload0 (pc' := 6) C dX7_runRules_5 rfl ?_
    refine V_getf (pc' := 9) (T := TX7) (N := 13) (ci := 12) C hin rfl 7 (by decide) (by decide +kernel) (fun h hh => ⟨1, _, hh.1.1, rfl⟩) dX7_runRules_6 rfl ?_
    refine V_alen (pc' := 10) (n := 210) C 2 rfl (fun h hh => ⟨13, hh.1.2.2.2.2.2.1⟩) dX7_runRules_9 rfl ?_
    first | (refine V_eq (st2 := [.int (iI 210), .int (iI (j : Int))]) rfl ?_) | (refine V_eq (st2 := [.int (iI 210), .int (iI ((chL S fr : Nat) : Int))]) rfl ?_)
    refine V_icmpge (tgt := 79) C (by omega) dX7_runRules_10 (by decide) rfl (fun c_10 => ?_) (fun c_10 => ?_)
    · exact V_endv C hr hlk (fun h' hh => ⟨rfl, ⟨Xj, hh.1, hAj, hKj⟩, hh.2⟩) ⟨Nat.le_refl _, Nat.le_refl _⟩ dX7_runRules_79
    · refine V_aload0 (pc' := 14) C dX7_runRules_13 rfl ?_
      refine V_getf (pc' := 17) (T := TX7) (N := 13) (ci := 12) C hin rfl 8 (by decide) (by decide +kernel) (fun h hh => ⟨1, _, hh.1.1, rfl⟩) dX7_runRules_14 rfl ?_
      refine V_iload2 (pc' := 18) C dX7_runRules_17 rfl ?_
      refine V_iadd (pc' := 19) C dX7_runRules_18 rfl ?_
      refine V_aload0 (pc' := 20) C dX7_runRules_19 rfl ?_
      refine V_getf (pc' := 23) (T := TX7) (N := 13) (ci := 12) C hin rfl 4 (by decide) (by decide +kernel) (fun h hh => ⟨1, _, hh.1.1, rfl⟩) dX7_runRules_20 rfl ?_
      refine V_callV (ci := 5) (n := 0) [] C (kX0_size (v := fun k => P (7 + k)) (t := 6) (F := fun k => Xj.1 (7 + k)) (n := Xj.2 25) (len := (Xj.2 26).toNat)) gX7_runRules_X0_size rfl ydX0_size ⟨Nat.le_of_ble_eq_true rfl, Nat.le_of_ble_eq_true rfl⟩ ⟨rfl, rfl⟩ rfl rfl (fun h hh => ⟨6, _, hh.1.2.2.2.1.1⟩) (fun h hh => hh.1.2.2.2.1) rfl (Nat.le_of_ble_eq_true rfl) dX7_runRules_23 ⟨Nat.le_of_ble_eq_true rfl, Nat.le_of_ble_eq_true rfl⟩ (fun h v h' hh hj9 => ?_)
      obtain ⟨r9, rfl, hj8, rfl⟩ := hj9
      rw [hj8]
      first | (refine V_weak (I2 := fun x9 => CW cI cO ee Tx9 P (chI S fr j).1 Xj x9 ∧ Fr TKA h0 x9) (fun x9 hx9 => by rw [hx9]; exact hh) ?_) | (refine V_weak (I2 := fun x9 => CW cI cO ee Tx9 P (chI S fr (chL S fr)).1 Xj x9 ∧ Fr TKA h0 x9) (fun x9 hx9 => by rw [hx9]; exact hh) ?_)
      refine V_icmpge (tgt := 79) C (by omega) dX7_runRules_26 (by decide) rfl (fun c_26 => ?_) (fun c_26 => ?_)
      · exact V_endv C hr hlk (fun h' hh => ⟨rfl, ⟨Xj, hh.1, hAj, hKj⟩, hh.2⟩) ⟨Nat.le_refl _, Nat.le_refl _⟩ dX7_runRules_79
      · exact absurd c_26 (by omega)
end

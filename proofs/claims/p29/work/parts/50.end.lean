/-! an action's end -/
def XhF (X : MSt) (f : Int → Int) (n : Int) : MSt := (fun j => if j = 12 then f else X.1 j, fun j => if j = 27 then n else X.2 j)
theorem CW.hist {cI cO : ClassId} {ee : Nat × Nat} {Tx9 : (Nat → Nat) → MSt → Hp → Prop} {P : Nat → Nat} {S X : MSt} {h h' : Hp} {f : Int → Int} {n : Int} (H : CW cI cO ee Tx9 P S X h) (hw : WFp S) (h9 : T9ok Tx9) (h1 : HiH cI (P 11) (P 12) 11 f n h') (hF : Fr (tC 11) h h') : CW cI cO ee Tx9 P S (XhF X f n) h' := by
  obtain ⟨a1, a2, a3, a4, a5, a6, a7, a8⟩ := H
  have nt : ∀ u, u ≠ 11 → u ≠ 12 → ¬ tC 11 u := fun u q1 q2 z => by
    unfold tC at z
    omega
  exact ⟨MnH.fr (X := X) a1 hF (nt _ (by decide) (by decide)), a2.fr hF (nt _ (by decide) (by decide)) (nt _ (by decide) (by decide)), a3.fr hF (nt _ (by decide) (by decide)) (nt _ (by decide) (by decide)), AuH.eq (AuX.fr (X := X) a4 hF (fun u _ _ => nt _ (by omega) (by omega))) (fun k hk => match k, hk with
    | 0, _ => rfl
    | 1, _ => rfl
    | 2, _ => rfl
    | 3, _ => rfl), h1, DpX.fr (X := X) a6 hF (nt _ (by decide) (by decide)), h9 P S S h h' (tC 11) rfl rfl hF (nt _ (by decide) (by decide)) (nt _ (by decide) (by decide)) a7, a8.fr hw hF (fun u _ _ => nt _ (by omega) (by omega))⟩
theorem ydX7_endAction : yX7_endAction.cls = RX7 ∧ yX7_endAction.cls ≠ "java/lang/invoke/MethodHandle" ∧ yX7_endAction.cls ≠ "java/lang/invoke/VarHandle" ∧ (parseMethodDescriptor yX7_endAction.desc).map (fun d => d.parameters.length) = some 0 := by decide +kernel
section
variable {l : Launch} {D : va_G} {cB cC cI cO cJ cD : ClassId} {ee : Nat × Nat} {Tx9 : (Nat → Nat) → MSt → Hp → Prop} {P : Nat → Nat} {S X : MSt}
set_option maxHeartbeats 4000000 in
set_option maxRecDepth 100000 in
theorem kX7_endAction_n (hwp : WFp S) (h9 : T9ok Tx9) (hc9 : 0 ≤ X.2 25 ∧ X.2 25 ≤ 107520 ∧ 0 ≤ X.2 20 ∧ X.2 20 ≤ 107520) (hd : X.2 25 - X.2 20 ≤ 0) : Ct l yX7_endAction wsX7_endAction ({ frames := 4, cells := 0, slots := 0, locals := 90 } : Room) D (tyL cB cC cI cO cJ cD) ee [.ref (P 1)] (CW cI cO ee Tx9 P S X) (Ji fun h z9 h' => z9 = X.2 25 - X.2 20 ∧ h' = h) (0) (0) := by
  refine Ct_of (cc := cX7_endAction) (own := RX7) [some (.ref (P 1)), none] (by decide) rfl rfl (Nat.le_of_ble_eq_true rfl) (fun i9 v9 h9 => argL [.ref (P 1)] 1 rfl i9 v9 h9) ?_
  intro p e s m9 args below meth c9 h0 sz hI C hr hlk hinit
  have hin : ∀ w ∈ wsX70, w ∈ wsX7_endAction := by decide +kernel
  refine V_weak (I2 := fun x9 => CW cI cO ee Tx9 P S X x9 ∧ x9 = h0) (fun x9 hx9 => by subst hx9; exact ⟨hI, rfl⟩) ?_
  refine V_aload0 (pc' := 1) C dX7_endAction_0 rfl ?_
  refine V_getf (pc' := 4) (T := TX7) (N := 13) (ci := 12) C hin rfl 4 (by decide) (by decide +kernel) (fun h hh => ⟨1, _, hh.1.1, rfl⟩) dX7_endAction_1 rfl ?_
  refine V_callV (ci := 5) (n := 0) [] C (kX0_size (v := fun k => P (7 + k)) (t := 6) (F := fun k => X.1 (7 + k)) (n := X.2 25) (len := (X.2 26).toNat)) gX7_endAction_X0_size rfl ydX0_size ⟨Nat.le_of_ble_eq_true rfl, Nat.le_of_ble_eq_true rfl⟩ ⟨rfl, rfl⟩ rfl rfl (fun h hh => ⟨6, _, hh.1.2.2.2.1.1⟩) (fun h hh => hh.1.2.2.2.1) rfl (Nat.le_of_ble_eq_true rfl) dX7_endAction_4 ⟨Nat.le_of_ble_eq_true rfl, Nat.le_of_ble_eq_true rfl⟩ (fun h v h' hh hj9 => ?_)
  obtain ⟨r9, rfl, hj8, rfl⟩ := hj9
  rw [hj8]
  refine V_weak (I2 := fun x9 => CW cI cO ee Tx9 P S X x9 ∧ x9 = h0) (fun x9 hx9 => by rw [hx9]; exact hh) ?_
  refine V_aload0 (pc' := 8) C dX7_endAction_7 rfl ?_
  refine V_getf (pc' := 11) (T := TX7) (N := 13) (ci := 12) C hin rfl 8 (by decide) (by decide +kernel) (fun h hh => ⟨1, _, hh.1.1, rfl⟩) dX7_endAction_8 rfl ?_
  refine V_isub (pc' := 12) C dX7_endAction_11 rfl ?_
  refine V_istore1 (pc' := 13) C dX7_endAction_12 rfl (by decide) rfl ?_
  refine V_iload1 (pc' := 14) C dX7_endAction_13 rfl ?_
  refine V_ifle (tgt := 28) C (by omega) dX7_endAction_14 (by decide) rfl (fun c_14 => ?_) (fun c_14 => ?_)
  · refine V_iload1 (pc' := 29) C dX7_endAction_28 rfl ?_
    exact V_end C hr hlk (fun h' hh => ⟨_, rfl, rfl, hh.2⟩) ⟨Nat.le_refl _, Nat.le_refl _⟩ dX7_endAction_29
  · exact absurd c_14 (by omega)
set_option maxHeartbeats 4000000 in
set_option maxRecDepth 100000 in
theorem kX7_endAction_b (hwp : WFp S) (h9 : T9ok Tx9) (hc9 : 0 ≤ X.2 25 ∧ X.2 25 ≤ 107520 ∧ 0 ≤ X.2 20 ∧ X.2 20 ≤ 107520) (hd : 0 < X.2 25 - X.2 20) (hh7 : X.2 27 = 8) : Ct l yX7_endAction wsX7_endAction ({ frames := 4, cells := 0, slots := 0, locals := 90 } : Room) D (tyL cB cC cI cO cJ cD) ee [.ref (P 1)] (CW cI cO ee Tx9 P S X) (Ji fun h z9 h' => z9 = X.2 25 - X.2 20 ∧ CW cI cO ee Tx9 P S (XhF X (keepF (X.1 12) (X.2 27) (X.2 20)) (keepN (X.2 27))) h' ∧ Fr (tC 11) h h') (0) (0) := by
  refine Ct_of (cc := cX7_endAction) (own := RX7) [some (.ref (P 1)), none] (by decide) rfl rfl (Nat.le_of_ble_eq_true rfl) (fun i9 v9 h9 => argL [.ref (P 1)] 1 rfl i9 v9 h9) ?_
  intro p e s m9 args below meth c9 h0 sz hI C hr hlk hinit
  have hin : ∀ w ∈ wsX70, w ∈ wsX7_endAction := by decide +kernel
  refine V_weak (I2 := fun x9 => CW cI cO ee Tx9 P S X x9 ∧ x9 = h0) (fun x9 hx9 => by subst hx9; exact ⟨hI, rfl⟩) ?_
  refine V_aload0 (pc' := 1) C dX7_endAction_0 rfl ?_
  refine V_getf (pc' := 4) (T := TX7) (N := 13) (ci := 12) C hin rfl 4 (by decide) (by decide +kernel) (fun h hh => ⟨1, _, hh.1.1, rfl⟩) dX7_endAction_1 rfl ?_
  refine V_callV (ci := 5) (n := 0) [] C (kX0_size (v := fun k => P (7 + k)) (t := 6) (F := fun k => X.1 (7 + k)) (n := X.2 25) (len := (X.2 26).toNat)) gX7_endAction_X0_size rfl ydX0_size ⟨Nat.le_of_ble_eq_true rfl, Nat.le_of_ble_eq_true rfl⟩ ⟨rfl, rfl⟩ rfl rfl (fun h hh => ⟨6, _, hh.1.2.2.2.1.1⟩) (fun h hh => hh.1.2.2.2.1) rfl (Nat.le_of_ble_eq_true rfl) dX7_endAction_4 ⟨Nat.le_of_ble_eq_true rfl, Nat.le_of_ble_eq_true rfl⟩ (fun h v h' hh hj9 => ?_)
  obtain ⟨r9, rfl, hj8, rfl⟩ := hj9
  rw [hj8]
  refine V_weak (I2 := fun x9 => CW cI cO ee Tx9 P S X x9 ∧ x9 = h0) (fun x9 hx9 => by rw [hx9]; exact hh) ?_
  refine V_aload0 (pc' := 8) C dX7_endAction_7 rfl ?_
  refine V_getf (pc' := 11) (T := TX7) (N := 13) (ci := 12) C hin rfl 8 (by decide) (by decide +kernel) (fun h hh => ⟨1, _, hh.1.1, rfl⟩) dX7_endAction_8 rfl ?_
  refine V_isub (pc' := 12) C dX7_endAction_11 rfl ?_
  refine V_istore1 (pc' := 13) C dX7_endAction_12 rfl (by decide) rfl ?_
  refine V_iload1 (pc' := 14) C dX7_endAction_13 rfl ?_
  refine V_ifle (tgt := 28) C (by omega) dX7_endAction_14 (by decide) rfl (fun c_14 => ?_) (fun c_14 => ?_)
  · exact absurd c_14 (by omega)
  · refine V_aload0 (pc' := 18) C dX7_endAction_17 rfl ?_
    refine V_getf (pc' := 21) (T := TX7) (N := 13) (ci := 12) C hin rfl 5 (by decide) (by decide +kernel) (fun h hh => ⟨1, _, hh.1.1, rfl⟩) dX7_endAction_18 rfl ?_
    refine V_aload0 (pc' := 22) C dX7_endAction_21 rfl ?_
    refine V_getf (pc' := 25) (T := TX7) (N := 13) (ci := 12) C hin rfl 8 (by decide) (by decide +kernel) (fun h hh => ⟨1, _, hh.1.1, rfl⟩) dX7_endAction_22 rfl ?_
    refine V_callV (ci := 7) (n := 1) [.int (iI (X.2 20))] C (kX2_keep_b (v := P 12) (t := 11) (g := X.1 12) (n := X.2 27) (x := X.2 20) hh7) gX7_endAction_X2_keep rfl ydX2_keep ⟨Nat.le_of_ble_eq_true rfl, Nat.le_of_ble_eq_true rfl⟩ ⟨rfl, rfl⟩ rfl rfl (fun h hh => ⟨11, _, hh.1.2.2.2.2.1.1⟩) (fun h hh => hh.1.2.2.2.2.1) rfl (Nat.le_of_ble_eq_true rfl) dX7_endAction_25 ⟨Nat.le_of_ble_eq_true rfl, Nat.le_of_ble_eq_true rfl⟩ (fun h v h' hh hj9 => ?_)
    obtain ⟨rfl, hj1, hj2⟩ := hj9
    refine V_weak (I2 := fun x9 => CW cI cO ee Tx9 P S (XhF X (keepF (X.1 12) (X.2 27) (X.2 20)) (keepN (X.2 27))) x9 ∧ Fr (tC 11) h0 x9) (fun x9 hx9 => by rw [hx9]; exact ⟨hh.1.hist hwp h9 hj1 hj2, by rw [← hh.2]; exact hj2⟩) ?_
    refine V_iload1 (pc' := 29) C dX7_endAction_28 rfl ?_
    exact V_end C hr hlk (fun h' hh => ⟨_, rfl, rfl, hh.1, hh.2⟩) ⟨Nat.le_refl _, Nat.le_refl _⟩ dX7_endAction_29
set_option maxHeartbeats 4000000 in
set_option maxRecDepth 100000 in
theorem kX7_endAction_s (hwp : WFp S) (h9 : T9ok Tx9) (hc9 : 0 ≤ X.2 25 ∧ X.2 25 ≤ 107520 ∧ 0 ≤ X.2 20 ∧ X.2 20 ≤ 107520) (hd : 0 < X.2 25 - X.2 20) (hh7 : 0 ≤ X.2 27 ∧ X.2 27 < 8) : Ct l yX7_endAction wsX7_endAction ({ frames := 4, cells := 0, slots := 0, locals := 90 } : Room) D (tyL cB cC cI cO cJ cD) ee [.ref (P 1)] (CW cI cO ee Tx9 P S X) (Ji fun h z9 h' => z9 = X.2 25 - X.2 20 ∧ CW cI cO ee Tx9 P S (XhF X (keepF (X.1 12) (X.2 27) (X.2 20)) (keepN (X.2 27))) h' ∧ Fr (tC 11) h h') (0) (0) := by
  refine Ct_of (cc := cX7_endAction) (own := RX7) [some (.ref (P 1)), none] (by decide) rfl rfl (Nat.le_of_ble_eq_true rfl) (fun i9 v9 h9 => argL [.ref (P 1)] 1 rfl i9 v9 h9) ?_
  intro p e s m9 args below meth c9 h0 sz hI C hr hlk hinit
  have hin : ∀ w ∈ wsX70, w ∈ wsX7_endAction := by decide +kernel
  refine V_weak (I2 := fun x9 => CW cI cO ee Tx9 P S X x9 ∧ x9 = h0) (fun x9 hx9 => by subst hx9; exact ⟨hI, rfl⟩) ?_
  refine V_aload0 (pc' := 1) C dX7_endAction_0 rfl ?_
  refine V_getf (pc' := 4) (T := TX7) (N := 13) (ci := 12) C hin rfl 4 (by decide) (by decide +kernel) (fun h hh => ⟨1, _, hh.1.1, rfl⟩) dX7_endAction_1 rfl ?_
  refine V_callV (ci := 5) (n := 0) [] C (kX0_size (v := fun k => P (7 + k)) (t := 6) (F := fun k => X.1 (7 + k)) (n := X.2 25) (len := (X.2 26).toNat)) gX7_endAction_X0_size rfl ydX0_size ⟨Nat.le_of_ble_eq_true rfl, Nat.le_of_ble_eq_true rfl⟩ ⟨rfl, rfl⟩ rfl rfl (fun h hh => ⟨6, _, hh.1.2.2.2.1.1⟩) (fun h hh => hh.1.2.2.2.1) rfl (Nat.le_of_ble_eq_true rfl) dX7_endAction_4 ⟨Nat.le_of_ble_eq_true rfl, Nat.le_of_ble_eq_true rfl⟩ (fun h v h' hh hj9 => ?_)
  obtain ⟨r9, rfl, hj8, rfl⟩ := hj9
  rw [hj8]
  refine V_weak (I2 := fun x9 => CW cI cO ee Tx9 P S X x9 ∧ x9 = h0) (fun x9 hx9 => by rw [hx9]; exact hh) ?_
  refine V_aload0 (pc' := 8) C dX7_endAction_7 rfl ?_
  refine V_getf (pc' := 11) (T := TX7) (N := 13) (ci := 12) C hin rfl 8 (by decide) (by decide +kernel) (fun h hh => ⟨1, _, hh.1.1, rfl⟩) dX7_endAction_8 rfl ?_
  refine V_isub (pc' := 12) C dX7_endAction_11 rfl ?_
  refine V_istore1 (pc' := 13) C dX7_endAction_12 rfl (by decide) rfl ?_
  refine V_iload1 (pc' := 14) C dX7_endAction_13 rfl ?_
  refine V_ifle (tgt := 28) C (by omega) dX7_endAction_14 (by decide) rfl (fun c_14 => ?_) (fun c_14 => ?_)
  · exact absurd c_14 (by omega)
  · refine V_aload0 (pc' := 18) C dX7_endAction_17 rfl ?_
    refine V_getf (pc' := 21) (T := TX7) (N := 13) (ci := 12) C hin rfl 5 (by decide) (by decide +kernel) (fun h hh => ⟨1, _, hh.1.1, rfl⟩) dX7_endAction_18 rfl ?_
    refine V_aload0 (pc' := 22) C dX7_endAction_21 rfl ?_
    refine V_getf (pc' := 25) (T := TX7) (N := 13) (ci := 12) C hin rfl 8 (by decide) (by decide +kernel) (fun h hh => ⟨1, _, hh.1.1, rfl⟩) dX7_endAction_22 rfl ?_
    refine V_callV (ci := 7) (n := 1) [.int (iI (X.2 20))] C (kX2_keep_s (v := P 12) (t := 11) (g := X.1 12) (n := X.2 27) (x := X.2 20) hh7) gX7_endAction_X2_keep rfl ydX2_keep ⟨Nat.le_of_ble_eq_true rfl, Nat.le_of_ble_eq_true rfl⟩ ⟨rfl, rfl⟩ rfl rfl (fun h hh => ⟨11, _, hh.1.2.2.2.2.1.1⟩) (fun h hh => hh.1.2.2.2.2.1) rfl (Nat.le_of_ble_eq_true rfl) dX7_endAction_25 ⟨Nat.le_of_ble_eq_true rfl, Nat.le_of_ble_eq_true rfl⟩ (fun h v h' hh hj9 => ?_)
    obtain ⟨rfl, hj1, hj2⟩ := hj9
    refine V_weak (I2 := fun x9 => CW cI cO ee Tx9 P S (XhF X (keepF (X.1 12) (X.2 27) (X.2 20)) (keepN (X.2 27))) x9 ∧ Fr (tC 11) h0 x9) (fun x9 hx9 => by rw [hx9]; exact ⟨hh.1.hist hwp h9 hj1 hj2, by rw [← hh.2]; exact hj2⟩) ?_
    refine V_iload1 (pc' := 29) C dX7_endAction_28 rfl ?_
    exact V_end C hr hlk (fun h' hh => ⟨_, rfl, rfl, hh.1, hh.2⟩) ⟨Nat.le_refl _, Nat.le_refl _⟩ dX7_endAction_29
end

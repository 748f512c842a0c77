/-! an action's begin -/
theorem CW.beg {cI cO : ClassId} {ee : Nat × Nat} {Tx9 : (Nat → Nat) → MSt → Hp → Prop} {P : Nat → Nat} {S X : MSt} {h : Hp} {v : Int} (H : CW cI cO ee Tx9 P S X h) (hw : WFp S) (h9 : T9ok Tx9) : CW cI cO ee Tx9 P S (uG X 20 v) (hup h (P 1) (1, .inr (12, (mnF P S X).set 8 (iV v)))) := by
  obtain ⟨a1, a2, a3, a4, a5, a6, a7, a8⟩ := H
  have hF : Fr (fun u => u = 1) h (hup h (P 1) (1, .inr (12, (mnF P S X).set 8 (iV v)))) := Fr.refl.up a1 rfl
  exact ⟨hup_s, a2.fr hF (by decide) (by decide), a3.fr hF (by decide) (by decide), AuX.fr (X := X) a4 hF (fun u _ _ => by omega), a5.fr hF (by decide) (by decide), DpX.fr (X := X) a6 hF (by decide), h9 P S S h _ _ rfl rfl hF (by decide) (by decide) a7, a8.fr hw hF (fun u _ _ => by omega)⟩
/-- the recorded macro -/
theorem CW.rec {cI cO : ClassId} {ee : Nat × Nat} {Tx9 : (Nat → Nat) → MSt → Hp → Prop} {P : Nat → Nat} {S X : MSt} {h : Hp} {v : Int} (H : CW cI cO ee Tx9 P S X h) (hw : WFp S) (h9 : T9ok Tx9) : CW cI cO ee Tx9 P (uG S 27 v) X (hup h (P 1) (1, .inr (12, (mnF P S X).set 9 (iV v)))) := by
  obtain ⟨a1, a2, a3, a4, a5, a6, a7, a8⟩ := H
  have hF : Fr (fun u => u = 1) h (hup h (P 1) (1, .inr (12, (mnF P S X).set 9 (iV v)))) := Fr.refl.up a1 rfl
  exact ⟨hup_s, a2.fr hF (by decide) (by decide), a3.fr hF (by decide) (by decide), a4.fr hF (fun u _ _ => by omega), a5.fr hF (by decide) (by decide), a6.fr hF (by decide), h9 P S (uG S 27 v) h _ _ rfl rfl hF (by decide) (by decide) a7, MrH.fr (S := S) a8 hw hF (fun u _ _ => by omega)⟩
theorem ydX7_beginAction : yX7_beginAction.cls = RX7 ∧ yX7_beginAction.cls ≠ "java/lang/invoke/MethodHandle" ∧ yX7_beginAction.cls ≠ "java/lang/invoke/VarHandle" ∧ (parseMethodDescriptor yX7_beginAction.desc).map (fun d => d.parameters.length) = some 0 := by decide +kernel
section
variable {l : Launch} {D : va_G} {cB cC cI cO cJ cD : ClassId} {ee : Nat × Nat} {Tx9 : (Nat → Nat) → MSt → Hp → Prop} {P : Nat → Nat} {S X : MSt}
set_option maxHeartbeats 4000000 in
set_option maxRecDepth 100000 in
theorem kX7_beginAction_s (hwp : WFp S) (h9 : T9ok Tx9) (hs : X.2 25 + 210 ≤ (X.2 26).toNat ∨ 107520 ≤ (X.2 26).toNat) : Ct l yX7_beginAction wsX7_beginAction ({ frames := 4, cells := 0, slots := 0, locals := 90 } : Room) D (tyL cB cC cI cO cJ cD) ee [.ref (P 1)] (CW cI cO ee Tx9 P S X) (fun h v9 h' => v9 = none ∧ CW cI cO ee Tx9 P S (uG X 20 (X.2 25)) h' ∧ Fr (fun u => u = 1) h h') (0) (0) := by
  refine Ct_of (cc := cX7_beginAction) (own := RX7) [some (.ref (P 1))] (by decide) rfl rfl (Nat.le_of_ble_eq_true rfl) (fun i9 v9 h9 => argL [.ref (P 1)] 0 rfl i9 v9 h9) ?_
  intro p e s m9 args below meth c9 h0 sz hI C hr hlk hinit
  have hin : ∀ w ∈ wsX70, w ∈ wsX7_beginAction := by decide +kernel
  refine V_weak (I2 := fun x9 => CW cI cO ee Tx9 P S (X) x9 ∧ Fr (fun u => u = 1) h0 x9) (fun x9 hx9 => by subst hx9; exact ⟨hI, Fr.refl⟩) ?_
  refine V_aload0 (pc' := 1) C dX7_beginAction_0 rfl ?_
  refine V_aload0 (pc' := 2) C dX7_beginAction_1 rfl ?_
  refine V_getf (pc' := 5) (T := TX7) (N := 13) (ci := 12) C hin rfl 4 (by decide) (by decide +kernel) (fun h hh => ⟨1, _, hh.1.1, rfl⟩) dX7_beginAction_2 rfl ?_
  refine V_callV (ci := 5) (n := 0) [] C (kX0_size (v := fun k => P (7 + k)) (t := 6) (F := fun k => X.1 (7 + k)) (n := X.2 25) (len := (X.2 26).toNat)) gX7_beginAction_X0_size rfl ydX0_size ⟨Nat.le_of_ble_eq_true rfl, Nat.le_of_ble_eq_true rfl⟩ ⟨rfl, rfl⟩ rfl rfl (fun h hh => ⟨6, _, hh.1.2.2.2.1.1⟩) (fun h hh => hh.1.2.2.2.1) rfl (Nat.le_of_ble_eq_true rfl) dX7_beginAction_5 ⟨Nat.le_of_ble_eq_true rfl, Nat.le_of_ble_eq_true rfl⟩ (fun h v h' hh hj9 => ?_)
  obtain ⟨r9, rfl, hj8, rfl⟩ := hj9
  rw [hj8]
  refine V_weak (I2 := fun x9 => CW cI cO ee Tx9 P S (X) x9 ∧ Fr (fun u => u = 1) h0 x9) (fun x9 hx9 => by rw [hx9]; exact hh) ?_
  refine V_putf (pc' := 11) (T := TX7) (N := 13) (ci := 12) (I2 := fun x9 => CW cI cO ee Tx9 P S (uG X 20 (X.2 25)) x9 ∧ Fr (fun u => u = 1) h0 x9) C hin tyX7_ok nmX7 rfl 8 (by decide) (by decide +kernel) rfl rfl rfl (fun h hh => ⟨1, _, hh.1.1, Nat.le_of_ble_eq_true rfl, hh.1.beg hwp h9, hh.2.up hh.1.1 rfl⟩) dX7_beginAction_8 rfl ?_
  refine V_aload0 (pc' := 12) C dX7_beginAction_11 rfl ?_
  refine V_getf (pc' := 15) (T := TX7) (N := 13) (ci := 12) C hin rfl 4 (by decide) (by decide +kernel) (fun h hh => ⟨1, _, hh.1.1, rfl⟩) dX7_beginAction_12 rfl ?_
  refine V_callV (ci := 5) (n := 0) [] C (kX0_makeRoom_s (v := fun k => P (7 + k)) (t := 6) (F := fun k => X.1 (7 + k)) (n := X.2 25) (len := (X.2 26).toNat) hs) gX7_beginAction_X0_makeRoom rfl ydX0_makeRoom ⟨Nat.le_of_ble_eq_true rfl, Nat.le_of_ble_eq_true rfl⟩ ⟨rfl, rfl⟩ rfl rfl (fun h hh => ⟨6, _, hh.1.2.2.2.1.1⟩) (fun h hh => hh.1.2.2.2.1) rfl (Nat.le_of_ble_eq_true rfl) dX7_beginAction_15 ⟨Nat.le_of_ble_eq_true rfl, Nat.le_of_ble_eq_true rfl⟩ (fun h v h' hh hj9 => ?_)
  obtain ⟨rfl, rfl⟩ := hj9
  refine V_weak (I2 := fun x9 => CW cI cO ee Tx9 P S (uG X 20 (X.2 25)) x9 ∧ Fr (fun u => u = 1) h0 x9) (fun x9 hx9 => by rw [hx9]; exact hh) ?_
  exact V_endv C hr hlk (fun h' hh => ⟨rfl, hh.1, hh.2⟩) ⟨Nat.le_refl _, Nat.le_refl _⟩ dX7_beginAction_18
end

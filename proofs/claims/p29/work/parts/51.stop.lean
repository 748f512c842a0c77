/-! the class: stop -/
theorem ydX7_stop : yX7_stop.cls = RX7 ∧ yX7_stop.cls ≠ "java/lang/invoke/MethodHandle" ∧ yX7_stop.cls ≠ "java/lang/invoke/VarHandle" ∧ (parseMethodDescriptor yX7_stop.desc).map (fun d => d.parameters.length) = some 0 := by decide +kernel
section
variable {l : Launch} {D : va_G} {cB cC cI cO cJ cD : ClassId} {ee : Nat × Nat} {Tx9 : (Nat → Nat) → MSt → Hp → Prop} {P : Nat → Nat} {S X : MSt}
set_option maxHeartbeats 4000000 in
set_option maxRecDepth 100000 in
theorem kX7_stop (hwp : WFp S) (h9 : T9ok Tx9) (hz : 0 ≤ S.2 27 ∧ S.2 27 < S.2 22) : Ct l yX7_stop wsX7_stop ({ frames := 6, cells := 0, slots := 0, locals := 130 } : Room) D (tyL cB cC cI cO cJ cD) ee [.ref (P 1)] (CW cI cO ee Tx9 P S X) (Ji fun h z9 h' => z9 = S.1 4 (S.2 27) ∧ CW cI cO ee Tx9 P (uG S 27 (-1)) X h' ∧ Fr (fun u => u = 1) h h') (0) (0) := by
  refine Ct_of (cc := cX7_stop) (own := RX7) [some (.ref (P 1)), none] (by decide) rfl rfl (Nat.le_of_ble_eq_true rfl) (fun i9 v9 h9 => argL [.ref (P 1)] 1 rfl i9 v9 h9) ?_
  intro p e s m9 args below meth c9 h0 sz hI C hr hlk hinit
  have hin : ∀ w ∈ wsX70, w ∈ wsX7_stop := by decide +kernel
  obtain ⟨hma, ⟨md, ar, hsl⟩, hst9, ⟨md', ar', hgl⟩, hrg⟩ := hI.2.2.2.2.2.2.2.2.1 (S.2 27).toNat (by omega)
  rw [show (((S.2 27).toNat : Nat) : Int) = S.2 27 by omega] at hsl hgl
  refine V_weak (I2 := fun x9 => CW cI cO ee Tx9 P S X x9 ∧ x9 = h0) (fun x9 hx9 => by subst hx9; exact ⟨hI, rfl⟩) ?_
  refine V_aload0 (pc' := 1) C dX7_stop_0 rfl ?_
  refine V_aload0 (pc' := 2) C dX7_stop_1 rfl ?_
  refine V_getf (pc' := 5) (T := TX7) (N := 13) (ci := 12) C hin rfl 9 (by decide) (by decide +kernel) (fun h hh => ⟨1, _, hh.1.1, rfl⟩) dX7_stop_2 rfl ?_
  refine V_callV (ci := 12) (n := 1) [.int (iI (S.2 27))] C (kX7_macroAt_s (z := S.2 27) hwp hz) gX7_stop_X7_macroAt rfl ydX7_macroAt ⟨Nat.le_of_ble_eq_true rfl, Nat.le_of_ble_eq_true rfl⟩ ⟨rfl, rfl⟩ rfl rfl (fun h hh => ⟨1, _, hh.1.1⟩) (fun h hh => hh.1) rfl (Nat.le_of_ble_eq_true rfl) dX7_stop_5 ⟨Nat.le_of_ble_eq_true rfl, Nat.le_of_ble_eq_true rfl⟩ (fun h v h' hh hj9 => ?_)
  obtain ⟨rfl, rfl⟩ := hj9
  refine V_weak (I2 := fun x9 => CW cI cO ee Tx9 P S X x9 ∧ x9 = h0) (fun x9 hx9 => by rw [hx9]; exact hh) ?_
  refine V_astore1 (pc' := 9) C dX7_stop_8 rfl (by decide) rfl ?_
  refine V_aload1 (pc' := 10) C dX7_stop_9 rfl ?_
  refine V_ifnonnull (tgt := 23) C dX7_stop_10 (by decide) ?_
  refine V_aload0 (pc' := 24) C dX7_stop_23 rfl ?_
  refine V_iconst (pc' := 25) C dX7_stop_24 rfl ?_
  refine V_putf (pc' := 28) (T := TX7) (N := 13) (ci := 12) (I2 := fun x9 => CW cI cO ee Tx9 P (uG S 27 (-1)) X x9 ∧ Fr (fun u => u = 1) h0 x9) C hin tyX7_ok nmX7 rfl 9 (by decide) (by decide +kernel) rfl rfl rfl (fun h hh => ⟨1, _, hh.1.1, Nat.le_of_ble_eq_true rfl, hh.1.rec hwp h9, by rw [← hh.2]; exact Fr.refl.up hh.1.1 rfl⟩) dX7_stop_25 rfl ?_
  refine V_aload1 (pc' := 29) C dX7_stop_28 rfl ?_
  refine V_callV (ci := 8) (n := 0) [] C (kX3_stepCount (t := 100 + (S.2 27).toNat) (ts := 110 + (S.2 27).toNat) (sl := P (110 + (S.2 27).toNat)) (gl := P (130 + (S.2 27).toNat)) (z := (((S.2 27).toNat : Nat) : Int)) (md := md) (ar := ar) (sn := S.1 4 (S.2 27)) (f := _)) gX7_stop_X3_stepCount rfl ydX3_stepCount ⟨Nat.le_of_ble_eq_true rfl, Nat.le_of_ble_eq_true rfl⟩ ⟨rfl, rfl⟩ rfl rfl (fun h hh => ⟨100 + (S.2 27).toNat, _, hh.2 _ _ _ hma (by omega)⟩) (fun h hh => ⟨hh.2 _ _ _ hma (by omega), hsl.fr hh.2 (by omega) (by omega)⟩) rfl (Nat.le_of_ble_eq_true rfl) dX7_stop_29 ⟨Nat.le_of_ble_eq_true rfl, Nat.le_of_ble_eq_true rfl⟩ (fun h v h' hh hj9 => ?_)
  obtain ⟨r9, rfl, hj8, rfl⟩ := hj9
  rw [hj8]
  refine V_weak (I2 := fun x9 => CW cI cO ee Tx9 P (uG S 27 (-1)) X x9 ∧ Fr (fun u => u = 1) h0 x9) (fun x9 hx9 => by rw [hx9]; exact hh) ?_
  exact V_end C hr hlk (fun h' hh => ⟨_, rfl, rfl, hh.1, hh.2⟩) ⟨Nat.le_refl _, Nat.le_refl _⟩ dX7_stop_32
set_option maxHeartbeats 4000000 in
set_option maxRecDepth 100000 in
theorem xX7_stop (hwp : WFp S) (hz : ¬ (0 ≤ S.2 27 ∧ S.2 27 < S.2 22)) (hr0 : rI (S.2 27)) (hst : l.stackTraces = false) : Tx l yX7_stop wsX7_stop ({ frames := 8, cells := 1, slots := 6, locals := 170 } : Room) D (tyL cB cC cI cO cJ cD) ee [.ref (P 1)] (CW cI cO ee Tx9 P S X) "java/lang/IllegalStateException" (fun h h' => h' = h) (1) (6) := by
  refine Tx_of (cc := cX7_stop) (own := RX7) [some (.ref (P 1)), none] (by decide) rfl rfl (Nat.le_of_ble_eq_true rfl) (fun i9 v9 h9 => argL [.ref (P 1)] 1 rfl i9 v9 h9) ?_
  intro p e s m9 args below meth c9 h0 sz hI C hlk hxt
  have hin : ∀ w ∈ wsX70, w ∈ wsX7_stop := by decide +kernel
  refine V_weak (I2 := fun x9 => CW cI cO ee Tx9 P S X x9 ∧ x9 = h0) (fun x9 hx9 => by subst hx9; exact ⟨hI, rfl⟩) ?_
  refine V_aload0 (pc' := 1) C dX7_stop_0 rfl ?_
  refine V_aload0 (pc' := 2) C dX7_stop_1 rfl ?_
  refine V_getf (pc' := 5) (T := TX7) (N := 13) (ci := 12) C hin rfl 9 (by decide) (by decide +kernel) (fun h hh => ⟨1, _, hh.1.1, rfl⟩) dX7_stop_2 rfl ?_
  refine V_callV (ci := 12) (n := 1) [.int (iI (S.2 27))] C (kX7_macroAt_n (z := S.2 27) hwp hz hr0) gX7_stop_X7_macroAt rfl ydX7_macroAt ⟨Nat.le_of_ble_eq_true rfl, Nat.le_of_ble_eq_true rfl⟩ ⟨rfl, rfl⟩ rfl rfl (fun h hh => ⟨1, _, hh.1.1⟩) (fun h hh => hh.1) rfl (Nat.le_of_ble_eq_true rfl) dX7_stop_5 ⟨Nat.le_of_ble_eq_true rfl, Nat.le_of_ble_eq_true rfl⟩ (fun h v h' hh hj9 => ?_)
  obtain ⟨rfl, rfl⟩ := hj9
  refine V_weak (I2 := fun x9 => CW cI cO ee Tx9 P S X x9 ∧ x9 = h0) (fun x9 hx9 => by rw [hx9]; exact hh) ?_
  refine V_astoreN1 (pc' := 9) C dX7_stop_8 rfl (by decide) rfl ?_
  refine V_aloadN1 (pc' := 10) C dX7_stop_9 rfl ?_
  refine V_ifnonnullN (pc' := 13) C dX7_stop_10 rfl ?_
  exact V_throwS (text := "no macro is recorded") (names := ["java/lang/RuntimeException", "java/lang/Exception"]) C hst (by decide +kernel) (by decide +kernel) (by decide +kernel) (by decide +kernel) (by decide +kernel) (by decide +kernel) (by decide +kernel) (by decide +kernel) dX7_stop_13 dX7_stop_16 dX7_stop_17 dX7_stop_19 dX7_stop_22 hxt (Nat.le_of_ble_eq_true rfl) (Nat.le_of_ble_eq_true rfl) ⟨Nat.le_of_ble_eq_true rfl, Nat.le_of_ble_eq_true rfl⟩ hlk (fun h' hh => hh.2) rfl ⟨Nat.le_of_ble_eq_true rfl, Nat.le_of_ble_eq_true rfl⟩
end

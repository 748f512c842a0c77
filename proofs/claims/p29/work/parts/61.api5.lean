/-! the class: addMacro, takeGrants, record, setRank -/
theorem WFp_4 {S : MSt} {m : Int} (h : WFp S) : WFp (uA S 4 m 0) := by
  obtain ⟨w1, w2, w3, w4, w5, w6⟩ := h
  refine ⟨w1, fun j j0 j1 => ?_, w3, w4, w5, w6⟩
  have e4 : (uA S 4 m 0).1 4 = upZ (S.1 4) m 0 := uA_s _ _ _ _
  have e9 : (uA S 4 m 0).1 9 = S.1 9 := uA_n _ (by decide) _ _
  have := w2 j j0 j1
  rw [e4, e9]
  unfold upZ
  split <;> omega
theorem WFp_27m {S : MSt} {m : Int} (h : WFp S) (hm : 0 ≤ m ∧ m < 6) : WFp (uG S 27 m) := by
  obtain ⟨w1, w2, w3, w4, w5, w6⟩ := h
  refine ⟨w1, w2, w3, w4, ⟨w5.1, w5.2.1, w5.2.2.1, w5.2.2.2.1, ?_, ?_, w5.2.2.2.2.2.2⟩, w6⟩
  · show -1 ≤ m
    omega
  · exact hm.2
theorem WFp_28 {S : MSt} {v : Int} (h : WFp S) (hv : 0 ≤ v ∧ v < 48) : WFp (uG S 28 v) := by
  obtain ⟨w1, w2, w3, w4, w5, w6⟩ := h
  exact ⟨w1, w2, w3, w4, ⟨w5.1, w5.2.1, w5.2.2.1, w5.2.2.2.1, w5.2.2.2.2.1, w5.2.2.2.2.2.1, hv.1, hv.2⟩, w6⟩
theorem ydX7_addMacro : yX7_addMacro.cls = RX7 ∧ yX7_addMacro.cls ≠ "java/lang/invoke/MethodHandle" ∧ yX7_addMacro.cls ≠ "java/lang/invoke/VarHandle" ∧ (parseMethodDescriptor yX7_addMacro.desc).map (fun d => d.parameters.length) = some 0 := by decide +kernel
theorem ydX7_takeGrants : yX7_takeGrants.cls = RX7 ∧ yX7_takeGrants.cls ≠ "java/lang/invoke/MethodHandle" ∧ yX7_takeGrants.cls ≠ "java/lang/invoke/VarHandle" ∧ (parseMethodDescriptor yX7_takeGrants.desc).map (fun d => d.parameters.length) = some 1 := by decide +kernel
theorem ydX7_record : yX7_record.cls = RX7 ∧ yX7_record.cls ≠ "java/lang/invoke/MethodHandle" ∧ yX7_record.cls ≠ "java/lang/invoke/VarHandle" ∧ (parseMethodDescriptor yX7_record.desc).map (fun d => d.parameters.length) = some 3 := by decide +kernel
theorem ydX7_setRank : yX7_setRank.cls = RX7 ∧ yX7_setRank.cls ≠ "java/lang/invoke/MethodHandle" ∧ yX7_setRank.cls ≠ "java/lang/invoke/VarHandle" ∧ (parseMethodDescriptor yX7_setRank.desc).map (fun d => d.parameters.length) = some 2 := by decide +kernel
section
variable {l : Launch} {D : va_G} {cB cC cI cO cJ cD : ClassId} {ee : Nat × Nat} {Tx9 : (Nat → Nat) → MSt → Hp → Prop} {P : Nat → Nat} {S X : MSt}
set_option maxHeartbeats 4000000 in
set_option maxRecDepth 100000 in
theorem kX7_addMacro (hwp : WFp S) (hrm : RM S) (hum : UM S) (h9 : T9ok Tx9) (hp9 : T9p Tx9) {m : Nat} (hm : S.2 22 = (m : Int)) (hm6 : m < 6) : Ct l yX7_addMacro wsX7_addMacro ({ frames := 8, cells := 4, slots := 19, locals := 190 } : Room) D (tyL cB cC cI cO cJ cD) ee [.ref (P 1)] (CW cI cO ee Tx9 P S X) (Ji fun h z9 h' => z9 = S.2 22 ∧ (∃ P', CW cI cO ee Tx9 P' (uG S 22 (S.2 22 + 1)) X h' ∧ P' 1 = P 1) ∧ Fr T7 h h') (4) (19) := by
  refine Ct_of (cc := cX7_addMacro) (own := RX7) [some (.ref (P 1)), none] (by decide) rfl rfl (Nat.le_of_ble_eq_true rfl) (fun i9 v9 h9 => argL [.ref (P 1)] 1 rfl i9 v9 h9) ?_
  intro p e s m9 args below meth c9 h0 sz hI C hr hlk hinit
  have hin : ∀ w ∈ wsX70, w ∈ wsX7_addMacro := by decide +kernel
  refine V_weak (I2 := fun x => CW cI cO ee Tx9 P S X x ∧ x = h0) (fun x hx => by subst hx; exact ⟨hI, rfl⟩) ?_
  obtain ⟨md1, ar1, hl1⟩ := hI.2.2.2.2.2.2.2.1
  obtain ⟨md2, ar2, hl2⟩ := hI.2.2.2.2.2.2.2.2.2.1
  have hmc := hI.2.2.2.2.2.2.2.2.1
  have hru := hI.2.2.2.2.2.2.2.2.2.2
  obtain ⟨hw1, hw2, hw3, hw4, hw5, hw6⟩ := id hwp
  refine V_aload0 (pc' := 1) C dX7_addMacro_0 rfl ?_
  refine V_getf (pc' := 4) (T := TX7) (N := 13) (ci := 12) C hin rfl 2 (by decide) (by decide +kernel) (fun h hh => ⟨1, _, hh.1.1, rfl⟩) dX7_addMacro_1 rfl ?_
  refine V_callV (ci := 4) (n := 0) [] C (kJx4a65c_size_8abf5 (t := 16) (md := md1) (ar := ar1) (sn := S.2 22)) gX7_addMacro_Jx4a65c_size_8abf5 rfl ydJx4a65c_size_8abf5 ⟨Nat.le_of_ble_eq_true rfl, Nat.le_of_ble_eq_true rfl⟩ ⟨rfl, rfl⟩ rfl rfl (fun h hh => by obtain ⟨_, rfl⟩ := hh; exact ⟨16, _, hl1.1⟩) (fun h hh => by rw [hh.2]; exact hl1) rfl (Nat.le_of_ble_eq_true rfl) dX7_addMacro_4 ⟨Nat.le_of_ble_eq_true rfl, Nat.le_of_ble_eq_true rfl⟩ (fun h v h' hh hj => ?_)
  obtain ⟨r9, rfl, hj8, rfl⟩ := hj
  rw [hj8]
  refine V_weak (I2 := fun x => CW cI cO ee Tx9 P S X x ∧ x = h0) (fun x hx => by rw [hx]; exact hh) ?_
  refine V_istore1 (pc' := 8) C dX7_addMacro_7 rfl (by decide) rfl ?_
  refine V_iload1 (pc' := 9) C dX7_addMacro_8 rfl ?_
  refine V_bipush (pc' := 11) C dX7_addMacro_9 rfl (by decide) ?_
  refine V_icmplt (tgt := 24) C (by omega) dX7_addMacro_11 (by decide) rfl (fun c_11 => ?_) (fun c_11 => ?_)
  · refine V_aload0 (pc' := 25) C dX7_addMacro_24 rfl ?_
    refine V_getf (pc' := 28) (T := TX7) (N := 13) (ci := 12) C hin rfl 2 (by decide) (by decide +kernel) (fun h hh => ⟨1, _, hh.1.1, rfl⟩) dX7_addMacro_25 rfl ?_
    refine V_new (pc' := 31) (T := TX3) (N := 3) (ty0 := tyX3) (ci := 8) (fs := [.int 0, .null, .null]) (100 + m) C (by decide +kernel) tyX3_ok (by decide +kernel) (by decide +kernel) (by decide +kernel) rfl (by decide) (Nat.le_of_ble_eq_true rfl) (Nat.le_of_ble_eq_true rfl) dX7_addMacro_28 rfl (fun q => ?_)
    refine V_fix (fun g1 hg1 => ?_)
    obtain ⟨g0, hg0, hq0, hg1⟩ := hg1
    rw [hg0.2] at hq0 hg1
    have hq1 : g1 q = some (100 + m, .inr (8, [.int 0, .null, .null])) := by rw [hg1]; exact hup_s
    have hf1 : Fr (fun _ => False) h0 g1 := by rw [hg1]; exact Fr.new Fr.refl hq0
    refine V_dup (pc' := 32) C rfl dX7_addMacro_31 rfl ?_
    refine V_iload1 (pc' := 33) C dX7_addMacro_32 rfl ?_
    refine V_callI (n := 1) [.int (iI (S.2 22))] C (kX3_init (t := 100 + m) (ts := 110 + m) (tg := 130 + m) (z := S.2 22) (by unfold tL; omega)) gX7_addMacro_X3_init (by decide +kernel) (by decide +kernel) (by decide +kernel) rfl ydX3_init ⟨Nat.le_of_ble_eq_true rfl, Nat.le_of_ble_eq_true rfl⟩ ⟨rfl, rfl⟩ rfl (fun h hh => by rw [hh]; exact hq1) rfl (Nat.le_of_ble_eq_true rfl) dX7_addMacro_33 ⟨Nat.le_of_ble_eq_true rfl, Nat.le_of_ble_eq_true rfl⟩ (fun h v h' hh hj9 => ?_)
    obtain ⟨rfl, ⟨q1, q2, hj1, hj2, hj3⟩, hj4⟩ := hj9
    rw [hh] at hj4
    have hf2 : Fr (fun u => u = 100 + m ∨ tL (110 + m) u ∨ tL (130 + m) u) h0 h' := (hf1.mono (fun _ z => z.elim)).trans hj4
    have hc2 : CW cI cO ee Tx9 P S X h' := hI.kp hwp hrm h9 hf2 (fun u hu => by have z := usT_nm hwp hum hm hu; unfold tL; omega) (fun u hu => by unfold tL; omega)
    have hl2 := hl1.fr hf2 (by unfold tL; omega) (by unfold tL; omega)
    unfold MaH at hj1
    rw [hm] at hj1
    refine V_callV (ci := 4) (n := 1) [.ref q] C (kL_add (t := 16) (md := md1) (ar := ar1) (sn := S.2 22) (f := fstP P 100 (S.2 22)) (bb := q) (tb := 100 + m) (fs := [.int (iI (m : Int)), .ref q1, .ref q2]) (r := (RX3, TX3, 3)) rfl (by decide) (by unfold tL; omega) (by omega)) gX7_addMacro_Jx4a65c_add_9ea2d rfl ydJx4a65c_add_9ea2d ⟨Nat.le_of_ble_eq_true rfl, Nat.le_of_ble_eq_true rfl⟩ ⟨rfl, rfl⟩ rfl rfl (fun h hh => by rw [hh]; exact ⟨16, _, hl2.1⟩) (fun h hh => by rw [hh]; exact ⟨hl2, hj1⟩) rfl (Nat.le_of_ble_eq_true rfl) dX7_addMacro_36 ⟨Nat.le_of_ble_eq_true rfl, Nat.le_of_ble_eq_true rfl⟩ (fun h v h9' hh hj9 => ?_)
    obtain ⟨rfl, ⟨q9, hk1⟩, hk2⟩ := hj9
    rw [hh] at hk2
    refine V_weak (I2 := fun x9 => CW cI cO ee Tx9 (pUp (pUp (pUp P (130 + m) q2) (110 + m) q1) (100 + m) q) (uG S 22 (S.2 22 + 1)) X x9 ∧ Fr T7 h0 x9) (fun x9 hx9 => by rw [hx9]; exact ⟨hc2.mk2 hk2 (fun u hu => by unfold tL; omega) (fun u hu => by rw [pUp_n (by omega), pUp_n (by omega), pUp_n (by omega)]) h9 hp9 rfl rfl rfl rfl rfl rfl (MrH.addM hc2.2.2.2.2.2.2.2 hwp hrm hum hm hm6 hk2 hj1 hj2 hj3 hk1), (hf2.mono (fun u hu => by unfold tL at hu; unfold T7; omega)).trans (hk2.mono (fun u hu => by unfold tL at hu; unfold T7; omega))⟩) ?_
    refine V_pop (pc' := 40) C rfl dX7_addMacro_39 rfl ?_
    refine V_iload1 (pc' := 41) C dX7_addMacro_40 rfl ?_
    exact V_end C hr hlk (fun h' hh => ⟨_, rfl, rfl, ⟨_, hh.1, by rw [pUp_n (by omega), pUp_n (by omega), pUp_n (by omega)]⟩, hh.2⟩) ⟨Nat.le_of_ble_eq_true rfl, Nat.le_of_ble_eq_true rfl⟩ dX7_addMacro_41
  · exact absurd c_11 (by omega)
set_option maxHeartbeats 4000000 in
set_option maxRecDepth 100000 in
theorem xX7_addMacro (hwp : WFp S) (hz : 6 ≤ S.2 22) (hst : l.stackTraces = false) : Tx l yX7_addMacro wsX7_addMacro ({ frames := 8, cells := 1, slots := 6, locals := 170 } : Room) D (tyL cB cC cI cO cJ cD) ee [.ref (P 1)] (CW cI cO ee Tx9 P S X) "java/lang/IllegalStateException" (fun h h' => h' = h) (1) (6) := by
  refine Tx_of (cc := cX7_addMacro) (own := RX7) [some (.ref (P 1)), none] (by decide) rfl rfl (Nat.le_of_ble_eq_true rfl) (fun i9 v9 h9 => argL [.ref (P 1)] 1 rfl i9 v9 h9) ?_
  intro p e s m9 args below meth c9 h0 sz hI C hlk hxt
  have hin : ∀ w ∈ wsX70, w ∈ wsX7_addMacro := by decide +kernel
  refine V_weak (I2 := fun x => CW cI cO ee Tx9 P S X x ∧ x = h0) (fun x hx => by subst hx; exact ⟨hI, rfl⟩) ?_
  obtain ⟨md1, ar1, hl1⟩ := hI.2.2.2.2.2.2.2.1
  obtain ⟨md2, ar2, hl2⟩ := hI.2.2.2.2.2.2.2.2.2.1
  have hmc := hI.2.2.2.2.2.2.2.2.1
  have hru := hI.2.2.2.2.2.2.2.2.2.2
  obtain ⟨hw1, hw2, hw3, hw4, hw5, hw6⟩ := id hwp
  refine V_aload0 (pc' := 1) C dX7_addMacro_0 rfl ?_
  refine V_getf (pc' := 4) (T := TX7) (N := 13) (ci := 12) C hin rfl 2 (by decide) (by decide +kernel) (fun h hh => ⟨1, _, hh.1.1, rfl⟩) dX7_addMacro_1 rfl ?_
  refine V_callV (ci := 4) (n := 0) [] C (kJx4a65c_size_8abf5 (t := 16) (md := md1) (ar := ar1) (sn := S.2 22)) gX7_addMacro_Jx4a65c_size_8abf5 rfl ydJx4a65c_size_8abf5 ⟨Nat.le_of_ble_eq_true rfl, Nat.le_of_ble_eq_true rfl⟩ ⟨rfl, rfl⟩ rfl rfl (fun h hh => by obtain ⟨_, rfl⟩ := hh; exact ⟨16, _, hl1.1⟩) (fun h hh => by rw [hh.2]; exact hl1) rfl (Nat.le_of_ble_eq_true rfl) dX7_addMacro_4 ⟨Nat.le_of_ble_eq_true rfl, Nat.le_of_ble_eq_true rfl⟩ (fun h v h' hh hj => ?_)
  obtain ⟨r9, rfl, hj8, rfl⟩ := hj
  rw [hj8]
  refine V_weak (I2 := fun x => CW cI cO ee Tx9 P S X x ∧ x = h0) (fun x hx => by rw [hx]; exact hh) ?_
  refine V_istore1 (pc' := 8) C dX7_addMacro_7 rfl (by decide) rfl ?_
  refine V_iload1 (pc' := 9) C dX7_addMacro_8 rfl ?_
  refine V_bipush (pc' := 11) C dX7_addMacro_9 rfl (by decide) ?_
  refine V_icmplt (tgt := 24) C (by omega) dX7_addMacro_11 (by decide) rfl (fun c_11 => ?_) (fun c_11 => ?_)
  · exact absurd c_11 (by omega)
  · exact V_throwS (text := "there are 6 macros") (names := ["java/lang/RuntimeException", "java/lang/Exception"]) C hst (by decide +kernel) (by decide +kernel) (by decide +kernel) (by decide +kernel) (by decide +kernel) (by decide +kernel) (by decide +kernel) (by decide +kernel) dX7_addMacro_14 dX7_addMacro_17 dX7_addMacro_18 dX7_addMacro_20 dX7_addMacro_23 hxt (Nat.le_of_ble_eq_true rfl) (Nat.le_of_ble_eq_true rfl) ⟨Nat.le_of_ble_eq_true rfl, Nat.le_of_ble_eq_true rfl⟩ hlk (fun h' hh => hh.2) rfl ⟨Nat.le_of_ble_eq_true rfl, Nat.le_of_ble_eq_true rfl⟩
set_option maxHeartbeats 4000000 in
set_option maxRecDepth 100000 in
theorem kX7_takeGrants (hwp : WFp S) (hrm : RM S) (h9 : T9ok Tx9) (hp9 : T9p Tx9) {m : Nat} (hm1 : (m : Int) < S.2 22) : Ct l yX7_takeGrants wsX7_takeGrants ({ frames := 8, cells := 0, slots := 0, locals := 170 } : Room) D (tyL cB cC cI cO cJ cD) ee [.ref (P 1), .int (iI (m : Int))] (CW cI cO ee Tx9 P S X) (Ji fun h z9 h' => z9 = S.1 9 m ∧ CW cI cO ee Tx9 P (uA S 9 m 0) X h' ∧ Fr T7 h h') (0) (0) := by
  refine Ct_of (cc := cX7_takeGrants) (own := RX7) [some (.ref (P 1)), some (.int (iI (m : Int))), none, none] (by decide) rfl rfl (Nat.le_of_ble_eq_true rfl) (fun i9 v9 h9 => argL [.ref (P 1), .int (iI (m : Int))] 2 rfl i9 v9 h9) ?_
  intro p e s m9 args below meth c9 h0 sz hI C hr hlk hinit
  obtain ⟨hw1, hw2, hw3, hw4, hw5, hw6⟩ := id hwp
  obtain ⟨hma, ⟨md, ar, hsl⟩, hst9, ⟨md', ar', hgl⟩, hrg⟩ := hI.2.2.2.2.2.2.2.2.1 m hm1
  have hm9 := hw2 m (by omega) (by omega)
  refine V_weak (I2 := fun x9 => CW cI cO ee Tx9 P S X x9 ∧ x9 = h0) (fun x9 hx9 => by subst hx9; exact ⟨hI, rfl⟩) ?_
  refine V_aload0 (pc' := 1) C dX7_takeGrants_0 rfl ?_
  refine V_iload1 (pc' := 2) C dX7_takeGrants_1 rfl ?_
  refine V_callV (ci := 12) (n := 1) [.int (iI (m : Int))] C (kX7_neededMacro (z := (m : Int)) hwp ⟨by omega, by omega⟩) gX7_takeGrants_X7_neededMacro rfl ydX7_neededMacro ⟨Nat.le_of_ble_eq_true rfl, Nat.le_of_ble_eq_true rfl⟩ ⟨rfl, rfl⟩ rfl rfl (fun h hh => ⟨1, _, hh.1.1⟩) (fun h hh => hh.1) rfl (Nat.le_of_ble_eq_true rfl) dX7_takeGrants_2 ⟨Nat.le_of_ble_eq_true rfl, Nat.le_of_ble_eq_true rfl⟩ (fun h v h' hh hj9 => ?_)
  obtain ⟨rfl, rfl⟩ := hj9
  refine V_weak (I2 := fun x9 => CW cI cO ee Tx9 P S X x9 ∧ x9 = h0) (fun x9 hx9 => by rw [hx9]; exact hh) ?_
  refine V_eq (st2 := [.ref (P (100 + m))]) (by rw [Int.toNat_natCast]; rfl) ?_
  refine V_astore2 (pc' := 6) C dX7_takeGrants_5 rfl (by decide) rfl ?_
  refine V_aload2 (pc' := 7) C dX7_takeGrants_6 rfl ?_
  refine V_callV (ci := 8) (n := 0) [] C (kX3_grantCount (t := 100 + m) (ts := 130 + m) (sl := P (110 + m)) (gl := P (130 + m)) (z := (m : Int)) (md := md') (ar := ar') (sn := S.1 9 m) (f := fstP P (300 + 4 * m) (S.1 9 m))) gX7_takeGrants_X3_grantCount rfl ydX3_grantCount ⟨Nat.le_of_ble_eq_true rfl, Nat.le_of_ble_eq_true rfl⟩ ⟨rfl, rfl⟩ rfl rfl (fun h hh => by rw [hh.2]; exact ⟨100 + m, _, hma⟩) (fun h hh => by rw [hh.2]; exact ⟨hma, hgl⟩) rfl (Nat.le_of_ble_eq_true rfl) dX7_takeGrants_7 ⟨Nat.le_of_ble_eq_true rfl, Nat.le_of_ble_eq_true rfl⟩ (fun h v h' hh hj9 => ?_)
  obtain ⟨r9, rfl, hj8, rfl⟩ := hj9
  rw [hj8]
  refine V_weak (I2 := fun x9 => CW cI cO ee Tx9 P S X x9 ∧ x9 = h0) (fun x9 hx9 => by rw [hx9]; exact hh) ?_
  refine V_istore3 (pc' := 11) C dX7_takeGrants_10 rfl (by decide) rfl ?_
  refine V_aload2 (pc' := 12) C dX7_takeGrants_11 rfl ?_
  refine V_callV (ci := 8) (n := 0) [] C (kX3_dropGrants (t := 100 + m) (ts := 130 + m) (sl := P (110 + m)) (gl := P (130 + m)) (z := (m : Int)) (md := md') (ar := ar') (sn := S.1 9 m) (f := fstP P (300 + 4 * m) (S.1 9 m))) gX7_takeGrants_X3_dropGrants rfl ydX3_dropGrants ⟨Nat.le_of_ble_eq_true rfl, Nat.le_of_ble_eq_true rfl⟩ ⟨rfl, rfl⟩ rfl rfl (fun h hh => by rw [hh.2]; exact ⟨100 + m, _, hma⟩) (fun h hh => by rw [hh.2]; exact ⟨hma, hgl⟩) rfl (Nat.le_of_ble_eq_true rfl) dX7_takeGrants_12 ⟨Nat.le_of_ble_eq_true rfl, Nat.le_of_ble_eq_true rfl⟩ (fun h v h' hh hj9 => ?_)
  obtain ⟨rfl, hj1, hj2⟩ := hj9
  rw [hh.2] at hj2
  refine V_weak (I2 := fun x9 => CW cI cO ee Tx9 P (uA S 9 m 0) X x9 ∧ Fr T7 h0 x9) (fun x9 hx9 => by rw [hx9]; exact ⟨hI.mk2 hj2 (fun u hu => by unfold tL; omega) (fun _ _ => rfl) h9 hp9 rfl rfl rfl rfl rfl rfl (MrH.dropGr hI.2.2.2.2.2.2.2 hwp hrm hm1 hj2 hj1), hj2.mono (fun u hu => by unfold tL at hu; unfold T7; omega)⟩) ?_
  refine V_iload3 (pc' := 16) C dX7_takeGrants_15 rfl ?_
  exact V_end C hr hlk (fun h' hh => ⟨_, rfl, rfl, hh.1, hh.2⟩) ⟨Nat.le_of_ble_eq_true rfl, Nat.le_of_ble_eq_true rfl⟩ dX7_takeGrants_16
set_option maxHeartbeats 4000000 in
set_option maxRecDepth 100000 in
theorem xX7_takeGrants {z : Int} (hwp : WFp S) (hz : ¬ (0 ≤ z ∧ z < S.2 22)) (hr0 : rI z) (hst : l.stackTraces = false) : Tx l yX7_takeGrants wsX7_takeGrants ({ frames := 8, cells := 1, slots := 6, locals := 170 } : Room) D (tyL cB cC cI cO cJ cD) ee [.ref (P 1), .int (iI z)] (CW cI cO ee Tx9 P S X) "java/lang/IndexOutOfBoundsException" (fun h h' => h' = h) (1) (6) := by
  refine Tx_of (cc := cX7_takeGrants) (own := RX7) [some (.ref (P 1)), some (.int (iI z)), none, none] (by decide) rfl rfl (Nat.le_of_ble_eq_true rfl) (fun i9 v9 h9 => argL [.ref (P 1), .int (iI z)] 2 rfl i9 v9 h9) ?_
  intro p e s m9 args below meth c9 h0 sz hI C hlk hxt
  refine V_weak (I2 := fun x9 => CW cI cO ee Tx9 P S X x9 ∧ x9 = h0) (fun x9 hx9 => by subst hx9; exact ⟨hI, rfl⟩) ?_
  refine V_aload0 (pc' := 1) C dX7_takeGrants_0 rfl ?_
  refine V_iload1 (pc' := 2) C dX7_takeGrants_1 rfl ?_
  exact V_outV (ci := 12) (n := 1) [.int (iI z)] C (xX7_neededMacro (z := z) hwp hz hr0 hst) gX7_takeGrants_X7_neededMacro rfl ydX7_neededMacro ⟨Nat.le_of_ble_eq_true rfl, Nat.le_of_ble_eq_true rfl⟩ ⟨rfl, rfl⟩ rfl rfl (fun h hh => ⟨1, _, hh.1.1⟩) (fun h hh => hh.1) rfl (Nat.le_of_ble_eq_true rfl) dX7_takeGrants_2 ⟨Nat.le_of_ble_eq_true rfl, Nat.le_of_ble_eq_true rfl⟩ hxt hlk (fun h h' hh hj => by rw [hj]; exact hh.2) ⟨Nat.le_of_ble_eq_true rfl, Nat.le_of_ble_eq_true rfl⟩
set_option maxHeartbeats 4000000 in
set_option maxRecDepth 100000 in
theorem kX7_record (hwp : WFp S) (hrm : RM S) (h9 : T9ok Tx9) (hp9 : T9p Tx9) {m : Nat} (hm1 : (m : Int) < S.2 22) {c r : Int} (hr2 : rI c ∧ rI r) (hc2 : isCellB c r = true) (hz : S.2 27 = -1) : Ct l yX7_record wsX7_record ({ frames := 8, cells := 0, slots := 0, locals := 170 } : Room) D (tyL cB cC cI cO cJ cD) ee [.ref (P 1), .int (iI (m : Int)), .int (iI c), .int (iI r)] (CW cI cO ee Tx9 P S X) (Ji fun h z9 h' => z9 = S.1 4 m ∧ CW cI cO ee Tx9 P (uG (uG (uA S 4 m 0) 27 m) 28 (atI c r)) X h' ∧ Fr T7 h h') (0) (0) := by
  refine Ct_of (cc := cX7_record) (own := RX7) [some (.ref (P 1)), some (.int (iI (m : Int))), some (.int (iI c)), some (.int (iI r)), none, none] (by decide) rfl rfl (Nat.le_of_ble_eq_true rfl) (fun i9 v9 h9 => argL [.ref (P 1), .int (iI (m : Int)), .int (iI c), .int (iI r)] 2 rfl i9 v9 h9) ?_
  intro p e s m9 args below meth c9 h0 sz hI C hr hlk hinit
  have hin : ∀ w ∈ wsX70, w ∈ wsX7_record := by decide +kernel
  obtain ⟨hw1, hw2, hw3, hw4, hw5, hw6⟩ := id hwp
  obtain ⟨hma, ⟨md, ar, hsl⟩, hst9, ⟨md', ar', hgl⟩, hrg⟩ := hI.2.2.2.2.2.2.2.2.1 m hm1
  have hm9 := hw2 m (by omega) (by omega)
  have hc9 : (0 ≤ c ∧ c < 6) ∧ 0 ≤ r ∧ r < 8 := by
    simp only [isCellB, isInB, Bool.and_eq_true, decide_eq_true_eq] at hc2
    omega
  refine V_weak (I2 := fun x9 => CW cI cO ee Tx9 P S X x9 ∧ x9 = h0) (fun x9 hx9 => by subst hx9; exact ⟨hI, rfl⟩) ?_
  refine V_aload0 (pc' := 1) C dX7_record_0 rfl ?_
  refine V_iload1 (pc' := 2) C dX7_record_1 rfl ?_
  refine V_callV (ci := 12) (n := 1) [.int (iI (m : Int))] C (kX7_neededMacro (z := (m : Int)) hwp ⟨by omega, by omega⟩) gX7_record_X7_neededMacro rfl ydX7_neededMacro ⟨Nat.le_of_ble_eq_true rfl, Nat.le_of_ble_eq_true rfl⟩ ⟨rfl, rfl⟩ rfl rfl (fun h hh => ⟨1, _, hh.1.1⟩) (fun h hh => hh.1) rfl (Nat.le_of_ble_eq_true rfl) dX7_record_2 ⟨Nat.le_of_ble_eq_true rfl, Nat.le_of_ble_eq_true rfl⟩ (fun h v h' hh hj9 => ?_)
  obtain ⟨rfl, rfl⟩ := hj9
  refine V_weak (I2 := fun x9 => CW cI cO ee Tx9 P S X x9 ∧ x9 = h0) (fun x9 hx9 => by rw [hx9]; exact hh) ?_
  refine V_eq (st2 := [.ref (P (100 + m))]) (by rw [Int.toNat_natCast]; rfl) ?_
  refine V_astore4 (pc' := 7) C dX7_record_5 rfl (by decide) rfl ?_
  refine V_iload2 (pc' := 8) C dX7_record_7 rfl ?_
  refine V_iload3 (pc' := 9) C dX7_record_8 rfl ?_
  refine V_callS (n := 2) [.int (iI c), .int (iI r)] C (kX7_needCell hr2 hc2) gX7_record_X7_needCell rfl ydX7_needCell ⟨Nat.le_of_ble_eq_true rfl, Nat.le_of_ble_eq_true rfl⟩ ⟨rfl, rfl⟩ rfl (fun h hh => trivial) rfl (Nat.le_of_ble_eq_true rfl) dX7_record_9 ⟨Nat.le_of_ble_eq_true rfl, Nat.le_of_ble_eq_true rfl⟩ (fun h v h' hh hj9 => ?_)
  obtain ⟨rfl, rfl⟩ := hj9
  refine V_weak (I2 := fun x9 => CW cI cO ee Tx9 P S X x9 ∧ x9 = h0) (fun x9 hx9 => by rw [hx9]; exact hh) ?_
  refine V_aload0 (pc' := 13) C dX7_record_12 rfl ?_
  refine V_getf (pc' := 16) (T := TX7) (N := 13) (ci := 12) C hin rfl 9 (by decide) (by decide +kernel) (fun h hh => ⟨1, _, hh.1.1, rfl⟩) dX7_record_13 rfl ?_
  refine V_iconst (pc' := 17) C dX7_record_16 rfl ?_
  refine V_icmpeq (tgt := 30) C (by omega) dX7_record_17 (by decide) rfl (fun c_17 => ?_) (fun c_17 => ?_)
  · refine V_aload4 (pc' := 32) C dX7_record_30 rfl ?_
    refine V_callV (ci := 8) (n := 0) [] C (kX3_stepCount (t := 100 + m) (ts := 110 + m) (sl := P (110 + m)) (gl := P (130 + m)) (z := (m : Int)) (md := md) (ar := ar) (sn := S.1 4 m) (f := fstP P (200 + 10 * m) (S.1 4 m))) gX7_record_X3_stepCount rfl ydX3_stepCount ⟨Nat.le_of_ble_eq_true rfl, Nat.le_of_ble_eq_true rfl⟩ ⟨rfl, rfl⟩ rfl rfl (fun h hh => by rw [hh.2]; exact ⟨100 + m, _, hma⟩) (fun h hh => by rw [hh.2]; exact ⟨hma, hsl⟩) rfl (Nat.le_of_ble_eq_true rfl) dX7_record_32 ⟨Nat.le_of_ble_eq_true rfl, Nat.le_of_ble_eq_true rfl⟩ (fun h v h' hh hj9 => ?_)
    obtain ⟨r9, rfl, hj8, rfl⟩ := hj9
    rw [hj8]
    refine V_weak (I2 := fun x9 => CW cI cO ee Tx9 P S X x9 ∧ x9 = h0) (fun x9 hx9 => by rw [hx9]; exact hh) ?_
    refine V_istore5 (pc' := 37) C dX7_record_35 rfl (by decide) rfl ?_
    refine V_aload4 (pc' := 39) C dX7_record_37 rfl ?_
    refine V_callV (ci := 8) (n := 0) [] C (kX3_dropSteps (t := 100 + m) (ts := 110 + m) (sl := P (110 + m)) (gl := P (130 + m)) (z := (m : Int)) (md := md) (ar := ar) (sn := S.1 4 m) (f := fstP P (200 + 10 * m) (S.1 4 m))) gX7_record_X3_dropSteps rfl ydX3_dropSteps ⟨Nat.le_of_ble_eq_true rfl, Nat.le_of_ble_eq_true rfl⟩ ⟨rfl, rfl⟩ rfl rfl (fun h hh => by rw [hh.2]; exact ⟨100 + m, _, hma⟩) (fun h hh => by rw [hh.2]; exact ⟨hma, hsl⟩) rfl (Nat.le_of_ble_eq_true rfl) dX7_record_39 ⟨Nat.le_of_ble_eq_true rfl, Nat.le_of_ble_eq_true rfl⟩ (fun h v h' hh hj9 => ?_)
    obtain ⟨rfl, hj1, hj2⟩ := hj9
    rw [hh.2] at hj2
    refine V_weak (I2 := fun x9 => CW cI cO ee Tx9 P (uA S 4 m 0) X x9 ∧ Fr T7 h0 x9) (fun x9 hx9 => by rw [hx9]; exact ⟨hI.mk2 hj2 (fun u hu => by unfold tL; omega) (fun _ _ => rfl) h9 hp9 rfl rfl rfl rfl rfl rfl (MrH.dropSt hI.2.2.2.2.2.2.2 hwp hrm hm1 hj2 hj1), hj2.mono (fun u hu => by unfold tL at hu; unfold T7; omega)⟩) ?_
    refine V_aload0 (pc' := 43) C dX7_record_42 rfl ?_
    refine V_iload1 (pc' := 44) C dX7_record_43 rfl ?_
    refine V_putf (pc' := 47) (T := TX7) (N := 13) (ci := 12) (I2 := fun x9 => CW cI cO ee Tx9 P (uG (uA S 4 m 0) 27 m) X x9 ∧ Fr T7 h0 x9) C hin tyX7_ok nmX7 rfl 9 (by decide) (by decide +kernel) rfl rfl rfl (fun h hh => ⟨1, _, hh.1.1, Nat.le_of_ble_eq_true rfl, hh.1.rec (WFp_4 hwp) h9, hh.2.up hh.1.1 (by unfold T7; omega)⟩) dX7_record_44 rfl ?_
    refine V_aload0 (pc' := 48) C dX7_record_47 rfl ?_
    refine V_iload2 (pc' := 49) C dX7_record_48 rfl ?_
    refine V_putf (pc' := 52) (T := TX7) (N := 13) (ci := 12) (I2 := fun x9 => CW cI cO ee Tx9 P (uG (uG (uA S 4 m 0) 27 m) 28 (atI c (S.2 28 / 6))) X x9 ∧ Fr T7 h0 x9) C hin tyX7_ok nmX7 rfl 10 (by decide) (by decide +kernel) rfl rfl rfl (fun h hh => ⟨1, _, hh.1.1, Nat.le_of_ble_eq_true rfl, hh.1.base (WFp_27m (WFp_4 hwp) ⟨by omega, by omega⟩) h9 (Or.inl ⟨rfl, by unfold atI; omega, by unfold atI; show _ = S.2 28 / 6; omega⟩), hh.2.up hh.1.1 (by unfold T7; omega)⟩) dX7_record_49 rfl ?_
    refine V_aload0 (pc' := 53) C dX7_record_52 rfl ?_
    refine V_iload3 (pc' := 54) C dX7_record_53 rfl ?_
    refine V_putf (pc' := 57) (T := TX7) (N := 13) (ci := 12) (I2 := fun x9 => CW cI cO ee Tx9 P (uG (uG (uG (uA S 4 m 0) 27 m) 28 (atI c (S.2 28 / 6))) 28 (atI c r)) X x9 ∧ Fr T7 h0 x9) C hin tyX7_ok nmX7 rfl 11 (by decide) (by decide +kernel) rfl rfl rfl (fun h hh => ⟨1, _, hh.1.1, Nat.le_of_ble_eq_true rfl, hh.1.base (WFp_28 (WFp_27m (WFp_4 hwp) ⟨by omega, by omega⟩) (by unfold atI; omega)) h9 (Or.inr ⟨rfl, by show _ = (atI c (S.2 28 / 6)) % 6; unfold atI; omega, by unfold atI; omega⟩), hh.2.up hh.1.1 (by unfold T7; omega)⟩) dX7_record_54 rfl ?_
    refine V_iload5 (pc' := 59) C dX7_record_57 rfl ?_
    exact V_end C hr hlk (fun h' hh => ⟨_, rfl, rfl, by have h8 := hh.1; rw [uG_uG] at h8; exact h8, hh.2⟩) ⟨Nat.le_of_ble_eq_true rfl, Nat.le_of_ble_eq_true rfl⟩ dX7_record_59
  · exact absurd c_17 (by omega)
set_option maxHeartbeats 4000000 in
set_option maxRecDepth 100000 in
theorem xX7_record_m (hwp : WFp S) {z c r : Int} (hz : ¬ (0 ≤ z ∧ z < S.2 22)) (hr0 : rI z) (hst : l.stackTraces = false) : Tx l yX7_record wsX7_record ({ frames := 8, cells := 1, slots := 6, locals := 170 } : Room) D (tyL cB cC cI cO cJ cD) ee [.ref (P 1), .int (iI z), .int (iI c), .int (iI r)] (CW cI cO ee Tx9 P S X) "java/lang/IndexOutOfBoundsException" (fun h h' => h' = h) (1) (6) := by
  refine Tx_of (cc := cX7_record) (own := RX7) [some (.ref (P 1)), some (.int (iI z)), some (.int (iI c)), some (.int (iI r)), none, none] (by decide) rfl rfl (Nat.le_of_ble_eq_true rfl) (fun i9 v9 h9 => argL [.ref (P 1), .int (iI z), .int (iI c), .int (iI r)] 2 rfl i9 v9 h9) ?_
  intro p e s m9 args below meth c9 h0 sz hI C hlk hxt
  refine V_weak (I2 := fun x9 => CW cI cO ee Tx9 P S X x9 ∧ x9 = h0) (fun x9 hx9 => by subst hx9; exact ⟨hI, rfl⟩) ?_
  refine V_aload0 (pc' := 1) C dX7_record_0 rfl ?_
  refine V_iload1 (pc' := 2) C dX7_record_1 rfl ?_
  exact V_outV (ci := 12) (n := 1) [.int (iI z)] C (xX7_neededMacro (z := z) hwp hz hr0 hst) gX7_record_X7_neededMacro rfl ydX7_neededMacro ⟨Nat.le_of_ble_eq_true rfl, Nat.le_of_ble_eq_true rfl⟩ ⟨rfl, rfl⟩ rfl rfl (fun h hh => ⟨1, _, hh.1.1⟩) (fun h hh => hh.1) rfl (Nat.le_of_ble_eq_true rfl) dX7_record_2 ⟨Nat.le_of_ble_eq_true rfl, Nat.le_of_ble_eq_true rfl⟩ hxt hlk (fun h h' hh hj => by rw [hj]; exact hh.2) ⟨Nat.le_of_ble_eq_true rfl, Nat.le_of_ble_eq_true rfl⟩
set_option maxHeartbeats 4000000 in
set_option maxRecDepth 100000 in
theorem xX7_record_c (hwp : WFp S) {z : Int} (hz : 0 ≤ z ∧ z < S.2 22) {c r : Int} (hr2 : rI c ∧ rI r) (hc2 : isCellB c r = false) (hst : l.stackTraces = false) : Tx l yX7_record wsX7_record ({ frames := 8, cells := 1, slots := 6, locals := 170 } : Room) D (tyL cB cC cI cO cJ cD) ee [.ref (P 1), .int (iI z), .int (iI c), .int (iI r)] (CW cI cO ee Tx9 P S X) "java/lang/IndexOutOfBoundsException" (fun h h' => h' = h) (1) (6) := by
  refine Tx_of (cc := cX7_record) (own := RX7) [some (.ref (P 1)), some (.int (iI z)), some (.int (iI c)), some (.int (iI r)), none, none] (by decide) rfl rfl (Nat.le_of_ble_eq_true rfl) (fun i9 v9 h9 => argL [.ref (P 1), .int (iI z), .int (iI c), .int (iI r)] 2 rfl i9 v9 h9) ?_
  intro p e s m9 args below meth c9 h0 sz hI C hlk hxt
  refine V_weak (I2 := fun x9 => CW cI cO ee Tx9 P S X x9 ∧ x9 = h0) (fun x9 hx9 => by subst hx9; exact ⟨hI, rfl⟩) ?_
  refine V_aload0 (pc' := 1) C dX7_record_0 rfl ?_
  refine V_iload1 (pc' := 2) C dX7_record_1 rfl ?_
  refine V_callV (ci := 12) (n := 1) [.int (iI z)] C (kX7_neededMacro (z := z) hwp hz) gX7_record_X7_neededMacro rfl ydX7_neededMacro ⟨Nat.le_of_ble_eq_true rfl, Nat.le_of_ble_eq_true rfl⟩ ⟨rfl, rfl⟩ rfl rfl (fun h hh => ⟨1, _, hh.1.1⟩) (fun h hh => hh.1) rfl (Nat.le_of_ble_eq_true rfl) dX7_record_2 ⟨Nat.le_of_ble_eq_true rfl, Nat.le_of_ble_eq_true rfl⟩ (fun h v h' hh hj9 => ?_)
  obtain ⟨rfl, rfl⟩ := hj9
  refine V_weak (I2 := fun x9 => CW cI cO ee Tx9 P S X x9 ∧ x9 = h0) (fun x9 hx9 => by rw [hx9]; exact hh) ?_
  refine V_astore4 (pc' := 7) C dX7_record_5 rfl (by decide) rfl ?_
  refine V_iload2 (pc' := 8) C dX7_record_7 rfl ?_
  refine V_iload3 (pc' := 9) C dX7_record_8 rfl ?_
  exact V_outS (n := 2) [.int (iI c), .int (iI r)] C (xX7_needCell hr2 hc2 hst) gX7_record_X7_needCell rfl ydX7_needCell ⟨Nat.le_of_ble_eq_true rfl, Nat.le_of_ble_eq_true rfl⟩ ⟨rfl, rfl⟩ rfl (fun h hh => trivial) rfl (Nat.le_of_ble_eq_true rfl) dX7_record_9 ⟨Nat.le_of_ble_eq_true rfl, Nat.le_of_ble_eq_true rfl⟩ hxt hlk (fun h h' hh hj => by rw [hj]; exact hh.2) ⟨Nat.le_of_ble_eq_true rfl, Nat.le_of_ble_eq_true rfl⟩
set_option maxHeartbeats 4000000 in
set_option maxRecDepth 100000 in
theorem xX7_record_i (hwp : WFp S) {z : Int} (hz : 0 ≤ z ∧ z < S.2 22) {c r : Int} (hr2 : rI c ∧ rI r) (hc2 : isCellB c r = true) (hrec : S.2 27 ≠ -1) (hst : l.stackTraces = false) : Tx l yX7_record wsX7_record ({ frames := 8, cells := 1, slots := 6, locals := 170 } : Room) D (tyL cB cC cI cO cJ cD) ee [.ref (P 1), .int (iI z), .int (iI c), .int (iI r)] (CW cI cO ee Tx9 P S X) "java/lang/IllegalStateException" (fun h h' => h' = h) (1) (6) := by
  refine Tx_of (cc := cX7_record) (own := RX7) [some (.ref (P 1)), some (.int (iI z)), some (.int (iI c)), some (.int (iI r)), none, none] (by decide) rfl rfl (Nat.le_of_ble_eq_true rfl) (fun i9 v9 h9 => argL [.ref (P 1), .int (iI z), .int (iI c), .int (iI r)] 2 rfl i9 v9 h9) ?_
  intro p e s m9 args below meth c9 h0 sz hI C hlk hxt
  have hin : ∀ w ∈ wsX70, w ∈ wsX7_record := by decide +kernel
  refine V_weak (I2 := fun x9 => CW cI cO ee Tx9 P S X x9 ∧ x9 = h0) (fun x9 hx9 => by subst hx9; exact ⟨hI, rfl⟩) ?_
  refine V_aload0 (pc' := 1) C dX7_record_0 rfl ?_
  refine V_iload1 (pc' := 2) C dX7_record_1 rfl ?_
  refine V_callV (ci := 12) (n := 1) [.int (iI z)] C (kX7_neededMacro (z := z) hwp hz) gX7_record_X7_neededMacro rfl ydX7_neededMacro ⟨Nat.le_of_ble_eq_true rfl, Nat.le_of_ble_eq_true rfl⟩ ⟨rfl, rfl⟩ rfl rfl (fun h hh => ⟨1, _, hh.1.1⟩) (fun h hh => hh.1) rfl (Nat.le_of_ble_eq_true rfl) dX7_record_2 ⟨Nat.le_of_ble_eq_true rfl, Nat.le_of_ble_eq_true rfl⟩ (fun h v h' hh hj9 => ?_)
  obtain ⟨rfl, rfl⟩ := hj9
  refine V_weak (I2 := fun x9 => CW cI cO ee Tx9 P S X x9 ∧ x9 = h0) (fun x9 hx9 => by rw [hx9]; exact hh) ?_
  refine V_astore4 (pc' := 7) C dX7_record_5 rfl (by decide) rfl ?_
  refine V_iload2 (pc' := 8) C dX7_record_7 rfl ?_
  refine V_iload3 (pc' := 9) C dX7_record_8 rfl ?_
  refine V_callS (n := 2) [.int (iI c), .int (iI r)] C (kX7_needCell hr2 hc2) gX7_record_X7_needCell rfl ydX7_needCell ⟨Nat.le_of_ble_eq_true rfl, Nat.le_of_ble_eq_true rfl⟩ ⟨rfl, rfl⟩ rfl (fun h hh => trivial) rfl (Nat.le_of_ble_eq_true rfl) dX7_record_9 ⟨Nat.le_of_ble_eq_true rfl, Nat.le_of_ble_eq_true rfl⟩ (fun h v h' hh hj9 => ?_)
  obtain ⟨rfl, rfl⟩ := hj9
  refine V_weak (I2 := fun x9 => CW cI cO ee Tx9 P S X x9 ∧ x9 = h0) (fun x9 hx9 => by rw [hx9]; exact hh) ?_
  refine V_aload0 (pc' := 13) C dX7_record_12 rfl ?_
  refine V_getf (pc' := 16) (T := TX7) (N := 13) (ci := 12) C hin rfl 9 (by decide) (by decide +kernel) (fun h hh => ⟨1, _, hh.1.1, rfl⟩) dX7_record_13 rfl ?_
  refine V_iconst (pc' := 17) C dX7_record_16 rfl ?_
  refine V_icmpeq (tgt := 30) C (by have := hwp.2.2.2.2.1; omega) dX7_record_17 (by decide) rfl (fun c_17 => ?_) (fun c_17 => ?_)
  · exact absurd c_17 (by omega)
  · exact V_throwS (text := "a macro is recorded") (names := ["java/lang/RuntimeException", "java/lang/Exception"]) C hst (by decide +kernel) (by decide +kernel) (by decide +kernel) (by decide +kernel) (by decide +kernel) (by decide +kernel) (by decide +kernel) (by decide +kernel) dX7_record_20 dX7_record_23 dX7_record_24 dX7_record_26 dX7_record_29 hxt (Nat.le_of_ble_eq_true rfl) (Nat.le_of_ble_eq_true rfl) ⟨Nat.le_of_ble_eq_true rfl, Nat.le_of_ble_eq_true rfl⟩ hlk (fun h' hh => hh.2) rfl ⟨Nat.le_of_ble_eq_true rfl, Nat.le_of_ble_eq_true rfl⟩
set_option maxHeartbeats 4000000 in
set_option maxRecDepth 100000 in
theorem kX7_setRank (hwp : WFp S) (h9 : T9ok Tx9) (hp9 : T9p Tx9) {q : Nat} (hq1 : (q : Int) < S.2 23) {k : Int} (hk0 : rI k) (hrk : isRankB k = true) : Ct l yX7_setRank wsX7_setRank ({ frames := 6, cells := 0, slots := 0, locals := 130 } : Room) D (tyL cB cC cI cO cJ cD) ee [.ref (P 1), .int (iI (q : Int)), .int (iI k)] (CW cI cO ee Tx9 P S X) (Ji fun h z9 h' => z9 = S.1 15 q ∧ CW cI cO ee Tx9 P (uA S 15 q k) X h' ∧ Fr T7 h h') (0) (0) := by
  refine Ct_of (cc := cX7_setRank) (own := RX7) [some (.ref (P 1)), some (.int (iI (q : Int))), some (.int (iI k)), none, none] (by decide) rfl rfl (Nat.le_of_ble_eq_true rfl) (fun i9 v9 h9 => argL [.ref (P 1), .int (iI (q : Int)), .int (iI k)] 2 rfl i9 v9 h9) ?_
  intro p e s m9 args below meth c9 h0 sz hI C hr hlk hinit
  have hin5 : ∀ w ∈ wsX50, w ∈ wsX7_setRank := by decide +kernel
  obtain ⟨hw1, hw2, hw3, hw4, hw5, hw6⟩ := id hwp
  have hru9 := hI.2.2.2.2.2.2.2.2.2.2 q hq1
  unfold Rul1 at hru9
  have hw9 := hw4 q (by omega) (by omega)
  refine V_weak (I2 := fun x9 => CW cI cO ee Tx9 P S X x9 ∧ x9 = h0) (fun x9 hx9 => by subst hx9; exact ⟨hI, rfl⟩) ?_
  refine V_aload0 (pc' := 1) C dX7_setRank_0 rfl ?_
  refine V_iload1 (pc' := 2) C dX7_setRank_1 rfl ?_
  refine V_callV (ci := 12) (n := 1) [.int (iI (q : Int))] C (kX7_ruleAt_s (z := (q : Int)) hwp ⟨by omega, by omega⟩) gX7_setRank_X7_ruleAt rfl ydX7_ruleAt ⟨Nat.le_of_ble_eq_true rfl, Nat.le_of_ble_eq_true rfl⟩ ⟨rfl, rfl⟩ rfl rfl (fun h hh => ⟨1, _, hh.1.1⟩) (fun h hh => hh.1) rfl (Nat.le_of_ble_eq_true rfl) dX7_setRank_2 ⟨Nat.le_of_ble_eq_true rfl, Nat.le_of_ble_eq_true rfl⟩ (fun h v h' hh hj9 => ?_)
  obtain ⟨rfl, rfl⟩ := hj9
  refine V_weak (I2 := fun x9 => CW cI cO ee Tx9 P S X x9 ∧ x9 = h0) (fun x9 hx9 => by rw [hx9]; exact hh) ?_
  refine V_eq (st2 := [.ref (P (400 + q))]) (by rw [Int.toNat_natCast]; rfl) ?_
  refine V_astore3 (pc' := 6) C dX7_setRank_5 rfl (by decide) rfl ?_
  refine V_aload3 (pc' := 7) C dX7_setRank_6 rfl ?_
  refine V_ifnonnull (tgt := 20) C dX7_setRank_7 (by decide) ?_
  refine V_iload2 (pc' := 21) C dX7_setRank_20 rfl ?_
  refine sCall1 (pc' := 24) C (kX7_isRank (x := k) hk0) gX7_setRank_X7_isRank rfl ydX7_isRank ⟨Nat.le_of_ble_eq_true rfl, Nat.le_of_ble_eq_true rfl⟩ ⟨rfl, rfl⟩ (Nat.le_of_ble_eq_true rfl) dX7_setRank_21 ⟨Nat.zero_le _, Nat.zero_le _⟩ rfl ?_
  refine V_ifneB (tgt := 37) C dX7_setRank_24 (by decide) rfl (fun c_24 => ?_) (fun c_24 => ?_)
  · refine V_aload3 (pc' := 38) C dX7_setRank_37 rfl ?_
    refine V_getfN (pc' := 41) (T := TX5) (N := 3) (ci := 10) C hin5 rfl 2 (by decide) (by decide) (fun h hh => by obtain ⟨_, rfl⟩ := hh; exact ⟨400 + q, _, hru9.1, rfl⟩) dX7_setRank_38 rfl ?_
    refine V_istore4 (pc' := 43) C dX7_setRank_41 rfl (by decide) rfl ?_
    refine V_aload3 (pc' := 44) C dX7_setRank_43 rfl ?_
    refine V_iload2 (pc' := 45) C dX7_setRank_44 rfl ?_
    refine V_putfN (pc' := 48) (T := TX5) (N := 3) (ci := 10) (I2 := fun x9 => CW cI cO ee Tx9 P (uA S 15 q k) X x9 ∧ Fr T7 h0 x9) C hin5 tyX5_ok nmX5 rfl 2 (by decide) (by decide) rfl rfl rfl (fun h hh => by obtain ⟨hh1, rfl⟩ := hh; exact ⟨400 + q, _, hru9.1, Nat.le_of_ble_eq_true rfl, hI.mk2 (Fr.refl.up (T := fun u => u = 400 + q) hru9.1 rfl) (fun u hu => by omega) (fun _ _ => rfl) h9 hp9 rfl rfl rfl rfl rfl rfl (MrH.rank hI.2.2.2.2.2.2.2 hwp hq1), Fr.refl.up hru9.1 (by unfold T7; omega)⟩) dX7_setRank_45 rfl ?_
    refine V_iload4 (pc' := 50) C dX7_setRank_48 rfl ?_
    exact V_end C hr hlk (fun h' hh => ⟨_, rfl, rfl, hh.1, hh.2⟩) ⟨Nat.le_of_ble_eq_true rfl, Nat.le_of_ble_eq_true rfl⟩ dX7_setRank_50
  · exact absurd c_24 (by simp_all)
set_option maxHeartbeats 4000000 in
set_option maxRecDepth 100000 in
theorem xX7_setRank_1 (hwp : WFp S) {z k : Int} (hz : ¬ (0 ≤ z ∧ z < S.2 23)) (hr0 : rI z) (hst : l.stackTraces = false) : Tx l yX7_setRank wsX7_setRank ({ frames := 8, cells := 1, slots := 6, locals := 170 } : Room) D (tyL cB cC cI cO cJ cD) ee [.ref (P 1), .int (iI z), .int (iI k)] (CW cI cO ee Tx9 P S X) "java/lang/IndexOutOfBoundsException" (fun h h' => h' = h) (1) (6) := by
  refine Tx_of (cc := cX7_setRank) (own := RX7) [some (.ref (P 1)), some (.int (iI z)), some (.int (iI k)), none, none] (by decide) rfl rfl (Nat.le_of_ble_eq_true rfl) (fun i9 v9 h9 => argL [.ref (P 1), .int (iI z), .int (iI k)] 2 rfl i9 v9 h9) ?_
  intro p e s m9 args below meth c9 h0 sz hI C hlk hxt
  refine V_weak (I2 := fun x9 => CW cI cO ee Tx9 P S X x9 ∧ x9 = h0) (fun x9 hx9 => by subst hx9; exact ⟨hI, rfl⟩) ?_
  refine V_aload0 (pc' := 1) C dX7_setRank_0 rfl ?_
  refine V_iload1 (pc' := 2) C dX7_setRank_1 rfl ?_
  refine V_callV (ci := 12) (n := 1) [.int (iI z)] C (kX7_ruleAt_n (z := z) hwp hz hr0) gX7_setRank_X7_ruleAt rfl ydX7_ruleAt ⟨Nat.le_of_ble_eq_true rfl, Nat.le_of_ble_eq_true rfl⟩ ⟨rfl, rfl⟩ rfl rfl (fun h hh => ⟨1, _, hh.1.1⟩) (fun h hh => hh.1) rfl (Nat.le_of_ble_eq_true rfl) dX7_setRank_2 ⟨Nat.le_of_ble_eq_true rfl, Nat.le_of_ble_eq_true rfl⟩ (fun h v h' hh hj9 => ?_)
  obtain ⟨rfl, rfl⟩ := hj9
  refine V_weak (I2 := fun x9 => CW cI cO ee Tx9 P S X x9 ∧ x9 = h0) (fun x9 hx9 => by rw [hx9]; exact hh) ?_
  refine V_astoreN3 (pc' := 6) C dX7_setRank_5 rfl (by decide) rfl ?_
  refine V_aloadN3 (pc' := 7) C dX7_setRank_6 rfl ?_
  refine V_ifnonnullN (pc' := 10) C dX7_setRank_7 rfl ?_
  exact V_throwS (text := "no such rule") (names := ["java/lang/RuntimeException", "java/lang/Exception"]) C hst (by decide +kernel) (by decide +kernel) (by decide +kernel) (by decide +kernel) (by decide +kernel) (by decide +kernel) (by decide +kernel) (by decide +kernel) dX7_setRank_10 dX7_setRank_13 dX7_setRank_14 dX7_setRank_16 dX7_setRank_19 hxt (Nat.le_of_ble_eq_true rfl) (Nat.le_of_ble_eq_true rfl) ⟨Nat.le_of_ble_eq_true rfl, Nat.le_of_ble_eq_true rfl⟩ hlk (fun h' hh => hh.2) rfl ⟨Nat.le_of_ble_eq_true rfl, Nat.le_of_ble_eq_true rfl⟩
set_option maxHeartbeats 4000000 in
set_option maxRecDepth 100000 in
theorem xX7_setRank_2 (hwp : WFp S) (h9 : T9ok Tx9) (hp9 : T9p Tx9) {q : Nat} (hq1 : (q : Int) < S.2 23) {k : Int} (hk0 : rI k) (hrk : isRankB k = false) (hst : l.stackTraces = false) : Tx l yX7_setRank wsX7_setRank ({ frames := 8, cells := 1, slots := 6, locals := 170 } : Room) D (tyL cB cC cI cO cJ cD) ee [.ref (P 1), .int (iI (q : Int)), .int (iI k)] (CW cI cO ee Tx9 P S X) "java/lang/IllegalArgumentException" (fun h h' => h' = h) (1) (6) := by
  refine Tx_of (cc := cX7_setRank) (own := RX7) [some (.ref (P 1)), some (.int (iI (q : Int))), some (.int (iI k)), none, none] (by decide) rfl rfl (Nat.le_of_ble_eq_true rfl) (fun i9 v9 h9 => argL [.ref (P 1), .int (iI (q : Int)), .int (iI k)] 2 rfl i9 v9 h9) ?_
  intro p e s m9 args below meth c9 h0 sz hI C hlk hxt
  refine V_weak (I2 := fun x9 => CW cI cO ee Tx9 P S X x9 ∧ x9 = h0) (fun x9 hx9 => by subst hx9; exact ⟨hI, rfl⟩) ?_
  refine V_aload0 (pc' := 1) C dX7_setRank_0 rfl ?_
  refine V_iload1 (pc' := 2) C dX7_setRank_1 rfl ?_
  refine V_callV (ci := 12) (n := 1) [.int (iI (q : Int))] C (kX7_ruleAt_s (z := (q : Int)) hwp ⟨by omega, by omega⟩) gX7_setRank_X7_ruleAt rfl ydX7_ruleAt ⟨Nat.le_of_ble_eq_true rfl, Nat.le_of_ble_eq_true rfl⟩ ⟨rfl, rfl⟩ rfl rfl (fun h hh => ⟨1, _, hh.1.1⟩) (fun h hh => hh.1) rfl (Nat.le_of_ble_eq_true rfl) dX7_setRank_2 ⟨Nat.le_of_ble_eq_true rfl, Nat.le_of_ble_eq_true rfl⟩ (fun h v h' hh hj9 => ?_)
  obtain ⟨rfl, rfl⟩ := hj9
  refine V_weak (I2 := fun x9 => CW cI cO ee Tx9 P S X x9 ∧ x9 = h0) (fun x9 hx9 => by rw [hx9]; exact hh) ?_
  refine V_eq (st2 := [.ref (P (400 + q))]) (by rw [Int.toNat_natCast]; rfl) ?_
  refine V_astore3 (pc' := 6) C dX7_setRank_5 rfl (by decide) rfl ?_
  refine V_aload3 (pc' := 7) C dX7_setRank_6 rfl ?_
  refine V_ifnonnull (tgt := 20) C dX7_setRank_7 (by decide) ?_
  refine V_iload2 (pc' := 21) C dX7_setRank_20 rfl ?_
  refine sCall1 (pc' := 24) C (kX7_isRank (x := k) hk0) gX7_setRank_X7_isRank rfl ydX7_isRank ⟨Nat.le_of_ble_eq_true rfl, Nat.le_of_ble_eq_true rfl⟩ ⟨rfl, rfl⟩ (Nat.le_of_ble_eq_true rfl) dX7_setRank_21 ⟨Nat.zero_le _, Nat.zero_le _⟩ rfl ?_
  refine V_ifneB (tgt := 37) C dX7_setRank_24 (by decide) rfl (fun c_24 => ?_) (fun c_24 => ?_)
  · exact absurd c_24 (by simp_all)
  · exact V_throwS (text := "the rank is out of range") (names := ["java/lang/RuntimeException", "java/lang/Exception"]) C hst (by decide +kernel) (by decide +kernel) (by decide +kernel) (by decide +kernel) (by decide +kernel) (by decide +kernel) (by decide +kernel) (by decide +kernel) dX7_setRank_27 dX7_setRank_30 dX7_setRank_31 dX7_setRank_33 dX7_setRank_36 hxt (Nat.le_of_ble_eq_true rfl) (Nat.le_of_ble_eq_true rfl) ⟨Nat.le_of_ble_eq_true rfl, Nat.le_of_ble_eq_true rfl⟩ hlk (fun h' hh => hh.2) rfl ⟨Nat.le_of_ble_eq_true rfl, Nat.le_of_ble_eq_true rfl⟩
end

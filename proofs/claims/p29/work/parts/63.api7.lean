/-! the class: undo, granted -/
theorem anewN_in {F : Nat → Int → Int} (z : Int) {n : Nat} (h : ∀ e : Nat, e < n → -9999 ≤ F 2 e ∧ F 2 e ≤ 9999) : ∀ j : Nat, j ≤ n → -9999 ≤ anewN F z j ∧ anewN F z j ≤ 9999
  | 0, _ => by simp [anewN]
  | j + 1, hj => by
    have ih := anewN_in z h j (by omega)
    have := h j (by omega)
    rw [anewN]
    split <;> omega
theorem un_rg {S X : MSt} (hL : RelL S X) {j : Nat} (hj : (j : Int) ≤ S.2 24) : rgN ((unI S j).1 0) := fun z z0 z1 => by
  rw [un_cells hL j hj z z0 z1]
  exact anewN_in z (n := (X.2 25).toNat) (fun e he => (hL.2.2.1 e (by omega)).2.1) _ (by omega)
theorem WFp_un {S X : MSt} (hw : WFp S) (hL : RelL S X) {j : Nat} (hj : (j : Int) ≤ S.2 24) : WFp (unI S j) := WFp_of hw (fun k _ _ => unI_1 S k (by omega) j) ⟨unI_2 S 22 (by decide) j, unI_2 S 23 (by decide) j, unI_2 S 27 (by decide) j, unI_2 S 28 (by decide) j⟩ (un_rg hL hj)
theorem cwE_u25 (S : MSt) (v : Int) : cwE S (uG S 25 v) := ⟨rfl, fun _ _ _ => rfl, rfl, rfl, rfl, rfl, rfl, rfl, rfl⟩
theorem ydX7_undo : yX7_undo.cls = RX7 ∧ yX7_undo.cls ≠ "java/lang/invoke/MethodHandle" ∧ yX7_undo.cls ≠ "java/lang/invoke/VarHandle" ∧ (parseMethodDescriptor yX7_undo.desc).map (fun d => d.parameters.length) = some 0 := by decide +kernel
theorem ydX7_granted : yX7_granted.cls = RX7 ∧ yX7_granted.cls ≠ "java/lang/invoke/MethodHandle" ∧ yX7_granted.cls ≠ "java/lang/invoke/VarHandle" ∧ (parseMethodDescriptor yX7_granted.desc).map (fun d => d.parameters.length) = some 2 := by decide +kernel
section
variable {l : Launch} {D : va_G} {cB cC cI cO cJ cD : ClassId} {ee : Nat × Nat} {Tx9 : (Nat → Nat) → MSt → Hp → Prop} {P : Nat → Nat} {S X : MSt}
set_option maxHeartbeats 4000000 in
set_option maxRecDepth 100000 in
theorem kX7_undo {b : Int} (hIv : Iv S X b) (h9 : T9ok Tx9) (hz : 0 < S.2 25) : Ct l yX7_undo wsX7_undo ({ frames := 8, cells := 0, slots := 0, locals := 170 } : Room) D (tyL cB cC cI cO cJ cD) ee [.ref (P 1)] (CW cI cO ee Tx9 P S X) (Ji fun h z9 h' => z9 = S.2 24 - S.1 20 (S.2 25 - 1) ∧ (∃ X', CW cI cO ee Tx9 P (unI (uG S 25 (S.2 25 - 1)) (S.2 24 - S.1 20 (S.2 25 - 1)).toNat) X' h' ∧ (X'.1 7 = X.1 7 ∧ X'.1 8 = X.1 8 ∧ X'.1 9 = X.1 9 ∧ X'.1 10 = X.1 10) ∧ X'.2 25 = (S.2 29 + S.1 20 (S.2 25 - 1)) ∧ X'.2 26 = X.2 26 ∧ X'.2 27 = X.2 27 - 1 ∧ X'.1 12 = X.1 12) ∧ Fr T7 h h') (0) (0) := by
  refine Ct_of (cc := cX7_undo) (own := RX7) [some (.ref (P 1)), none, none, none] (by decide) rfl rfl (Nat.le_of_ble_eq_true rfl) (fun i9 v9 h9 => argL [.ref (P 1)] 3 rfl i9 v9 h9) ?_
  intro p e s m9 args below meth c9 h0 sz hI C hr hlk hinit
  have hin : ∀ w ∈ wsX70, w ∈ wsX7_undo := by decide +kernel
  have hwp := hIv.1.1
  obtain ⟨hL, hH, -⟩ := hIv.2.2.2
  have hHW := hIv.1.2.2.1
  have hL9 : RelL (uG S 25 (S.2 25 - 1)) X := hL.e rfl rfl rfl rfl rfl rfl rfl rfl rfl rfl rfl rfl rfl
  have hH1 := hH.1
  have hb9 : 0 ≤ X.2 25 ∧ X.2 25 ≤ 107520 := by
    have h8 := hI.2.2.2.1.2.2
    omega
  have h20 := hHW.2.2.2.2 (S.2 25 - 1) (by omega) (by have := hHW.1; omega)
  rw [show S.2 25 - 1 + 1 = S.2 25 by omega, hHW.2.2.2.1] at h20
  have h20b := HWo_lo (HW_o hHW) (S.2 25 - 1).toNat (by have := hHW.1; omega)
  rw [show (((S.2 25 - 1).toNat : Nat) : Int) = S.2 25 - 1 by omega] at h20b
  have hL1 := hL.1
  have hHb := hHW.2.1
  obtain ⟨N, hN⟩ : ∃ N, N = (S.2 24 - S.1 20 (S.2 25 - 1)).toNat := ⟨_, rfl⟩
  have hN2 : (N : Int) = S.2 24 - S.1 20 (S.2 25 - 1) := by omega
  rw [← hN]
  refine V_weak (I2 := fun x9 => CW cI cO ee Tx9 P S X x9 ∧ x9 = h0) (fun x9 hx9 => by subst hx9; exact ⟨hI, rfl⟩) ?_
  refine V_aload0 (pc' := 1) C dX7_undo_0 rfl ?_
  refine V_getf (pc' := 4) (T := TX7) (N := 13) (ci := 12) C hin rfl 5 (by decide) (by decide +kernel) (fun h hh => ⟨1, _, hh.1.1, rfl⟩) dX7_undo_1 rfl ?_
  refine V_callV (ci := 7) (n := 0) [] C (kX2_takeLatest_s (v := P 12) (t := 11) (g := X.1 12) (n := X.2 27) ⟨by omega, by omega⟩) gX7_undo_X2_takeLatest rfl ydX2_takeLatest ⟨Nat.le_of_ble_eq_true rfl, Nat.le_of_ble_eq_true rfl⟩ ⟨rfl, rfl⟩ rfl rfl (fun h hh => ⟨11, _, hh.1.2.2.2.2.1.1⟩) (fun h hh => hh.1.2.2.2.2.1) rfl (Nat.le_of_ble_eq_true rfl) dX7_undo_4 ⟨Nat.le_of_ble_eq_true rfl, Nat.le_of_ble_eq_true rfl⟩ (fun h v h' hh hj9 => ?_)
  obtain ⟨r9, rfl, hj8, hj1, hj2⟩ := hj9
  obtain ⟨X1, hX1⟩ : ∃ X1, X1 = XhF X (X.1 12) (X.2 27 - 1) := ⟨_, rfl⟩
  have x7 : X1.1 7 = X.1 7 := by rw [hX1]; rfl
  have x8 : X1.1 8 = X.1 8 := by rw [hX1]; rfl
  have x9e : X1.1 9 = X.1 9 := by rw [hX1]; rfl
  have x10 : X1.1 10 = X.1 10 := by rw [hX1]; rfl
  have x12 : X1.1 12 = X.1 12 := by rw [hX1]; rfl
  have x25 : X1.2 25 = X.2 25 := by rw [hX1]; rfl
  have x26 : X1.2 26 = X.2 26 := by rw [hX1]; rfl
  have x27 : X1.2 27 = X.2 27 - 1 := by rw [hX1]; rfl
  have hst : r9 = (S.2 29 + S.1 20 (S.2 25 - 1)) := by rw [hj8, hH.1, hH.2 (S.2 25 - 1) (by omega) (by omega)]
  rw [hst]
  refine V_weak (I2 := fun x9 => CW cI cO ee Tx9 P S X1 x9 ∧ Fr T7 h0 x9) (fun x9 hx9 => by rw [hx9, hX1]; exact ⟨hh.1.hist hwp h9 hj1 hj2, by rw [← hh.2]; exact hj2.mono (fun u hu => by unfold tC at hu; unfold T7; omega)⟩) ?_
  refine V_istore1 (pc' := 8) C dX7_undo_7 rfl (by decide) rfl ?_
  refine V_iload1 (pc' := 9) C dX7_undo_8 rfl ?_
  refine V_iconst (pc' := 10) C dX7_undo_9 rfl ?_
  refine V_icmpne (tgt := 23) C (by omega) dX7_undo_10 (by decide) rfl (fun c_10 => ?_) (fun c_10 => ?_)
  · refine V_aload0 (pc' := 24) C dX7_undo_23 rfl ?_
    refine V_getf (pc' := 27) (T := TX7) (N := 13) (ci := 12) C hin rfl 4 (by decide) (by decide +kernel) (fun h hh => ⟨1, _, hh.1.1, rfl⟩) dX7_undo_24 rfl ?_
    refine V_callV (ci := 5) (n := 0) [] C (kX0_size (v := fun k => P (7 + k)) (t := 6) (F := fun k => X1.1 (7 + k)) (n := X1.2 25) (len := (X1.2 26).toNat)) gX7_undo_X0_size rfl ydX0_size ⟨Nat.le_of_ble_eq_true rfl, Nat.le_of_ble_eq_true rfl⟩ ⟨rfl, rfl⟩ rfl rfl (fun h hh => ⟨6, _, hh.1.2.2.2.1.1⟩) (fun h hh => hh.1.2.2.2.1) rfl (Nat.le_of_ble_eq_true rfl) dX7_undo_27 ⟨Nat.le_of_ble_eq_true rfl, Nat.le_of_ble_eq_true rfl⟩ (fun h v h' hh hj9 => ?_)
    obtain ⟨r9, rfl, hj8, rfl⟩ := hj9
    rw [hj8, x25]
    refine V_weak (I2 := fun x9 => CW cI cO ee Tx9 P S X1 x9 ∧ Fr T7 h0 x9) (fun x9 hx9 => by rw [hx9]; exact hh) ?_
    refine V_istore2 (pc' := 31) C dX7_undo_30 rfl (by decide) rfl ?_
    refine V_iload2 (pc' := 32) C dX7_undo_31 rfl ?_
    refine V_iconst (pc' := 33) C dX7_undo_32 rfl ?_
    refine V_isub (pc' := 34) C dX7_undo_33 rfl ?_
    refine V_istore3 (pc' := 35) C dX7_undo_34 rfl (by decide) rfl ?_
    refine V_for0 (N := N) (fun j => fun x9 => CW cI cO ee Tx9 P (unI (uG S 25 (S.2 25 - 1)) j) X1 x9 ∧ Fr T7 h0 x9) (fun j => [some (.ref (P 1)), some (.int (iI (S.2 29 + S.1 20 (S.2 25 - 1)))), some (.int (iI (X.2 25))), some (.int (iI (X.2 25 - 1 - (j : Int))))]) (fun _ => True) trivial (fun h hh => ⟨hh.1.congr h9 (cwE_u25 S _), hh.2⟩) (by simp) (fun j hj hv hk => ?_) (fun hv => ?_)
    · have r9 := hL.2.1 (S.2 24 - 1 - j).toNat (by omega)
      have hei : (((S.2 24 - 1 - j).toNat : Nat) : Int) = S.2 24 - 1 - j := by omega
      rw [hei, show S.2 29 + (S.2 24 - 1 - (j : Int)) = X.2 25 - 1 - j by omega] at r9
      have e24 := unI_24 (uG S 25 (S.2 25 - 1)) j
      have e16 := unI_1 (uG S 25 (S.2 25 - 1)) 16 (by decide) j
      have e17 := unI_1 (uG S 25 (S.2 25 - 1)) 17 (by decide) j
      have hwj := WFp_un (S := (uG S 25 (S.2 25 - 1))) (X := X) (j := j) hwp hL9 (by show (j : Int) ≤ S.2 24; omega)
      have e24b : (unI (uG S 25 (S.2 25 - 1)) j).2 24 = S.2 24 - j := e24
      have r3 := hL.2.2.1 (X.2 25 - 1 - j).toNat (by omega)
      rw [show (((X.2 25 - 1 - j).toNat : Nat) : Int) = X.2 25 - 1 - j by omega] at r3
      refine V_iload3 (pc' := 36) C dX7_undo_35 rfl ?_
      refine V_iload1 (pc' := 37) C dX7_undo_36 rfl ?_
      refine V_icmplt (tgt := 69) C (by omega) dX7_undo_37 (by decide) rfl (fun c_37 => ?_) (fun c_37 => ?_)
      · exact absurd c_37 (by omega)
      · refine V_aload0 (pc' := 41) C dX7_undo_40 rfl ?_
        refine V_getf (pc' := 44) (T := TX7) (N := 13) (ci := 12) C hin rfl 0 (by decide) (by decide +kernel) (fun h hh => ⟨1, _, hh.1.1, rfl⟩) dX7_undo_41 rfl ?_
        refine V_aload0 (pc' := 45) C dX7_undo_44 rfl ?_
        refine V_getf (pc' := 48) (T := TX7) (N := 13) (ci := 12) C hin rfl 4 (by decide) (by decide +kernel) (fun h hh => ⟨1, _, hh.1.1, rfl⟩) dX7_undo_45 rfl ?_
        refine V_iload3 (pc' := 49) C dX7_undo_48 rfl ?_
        refine V_callV (ci := 5) (n := 1) [.int (iI (X.2 25 - 1 - (j : Int)))] C (kX0_placeAt (v := fun k => P (7 + k)) (t := 6) (F := fun k => X1.1 (7 + k)) (n := X1.2 25) (len := (X1.2 26).toNat) (z := (X.2 25 - 1 - (j : Int))) ⟨by omega, by omega⟩) gX7_undo_X0_placeAt rfl ydX0_placeAt ⟨Nat.le_of_ble_eq_true rfl, Nat.le_of_ble_eq_true rfl⟩ ⟨rfl, rfl⟩ rfl rfl (fun h hh => ⟨6, _, hh.1.2.2.2.1.1⟩) (fun h hh => hh.1.2.2.2.1) rfl (Nat.le_of_ble_eq_true rfl) dX7_undo_49 ⟨Nat.le_of_ble_eq_true rfl, Nat.le_of_ble_eq_true rfl⟩ (fun h v h' hh hj9 => ?_)
        obtain ⟨r9q, rfl, hj8, rfl⟩ := hj9
        have hj7 : r9q = (S.1 16 (S.2 24 - 1 - (j : Int))) := hj8.trans (show X1.1 7 (X.2 25 - 1 - (j : Int)) = _ by rw [x7]; exact r9.1)
        rw [hj7]
        refine V_weak (I2 := fun x9 => CW cI cO ee Tx9 P (unI (uG S 25 (S.2 25 - 1)) j) X1 x9 ∧ Fr T7 h0 x9) (fun x9 hx9 => by rw [hx9]; exact hh) ?_
        refine V_aload0 (pc' := 53) C dX7_undo_52 rfl ?_
        refine V_getf (pc' := 56) (T := TX7) (N := 13) (ci := 12) C hin rfl 4 (by decide) (by decide +kernel) (fun h hh => ⟨1, _, hh.1.1, rfl⟩) dX7_undo_53 rfl ?_
        refine V_iload3 (pc' := 57) C dX7_undo_56 rfl ?_
        refine V_callV (ci := 5) (n := 1) [.int (iI (X.2 25 - 1 - (j : Int)))] C (kX0_beforeAt (v := fun k => P (7 + k)) (t := 6) (F := fun k => X1.1 (7 + k)) (n := X1.2 25) (len := (X1.2 26).toNat) (z := (X.2 25 - 1 - (j : Int))) ⟨by omega, by omega⟩) gX7_undo_X0_beforeAt rfl ydX0_beforeAt ⟨Nat.le_of_ble_eq_true rfl, Nat.le_of_ble_eq_true rfl⟩ ⟨rfl, rfl⟩ rfl rfl (fun h hh => ⟨6, _, hh.1.2.2.2.1.1⟩) (fun h hh => hh.1.2.2.2.1) rfl (Nat.le_of_ble_eq_true rfl) dX7_undo_57 ⟨Nat.le_of_ble_eq_true rfl, Nat.le_of_ble_eq_true rfl⟩ (fun h v h' hh hj9 => ?_)
        obtain ⟨r9q, rfl, hj8, rfl⟩ := hj9
        have hj7 : r9q = (S.1 17 (S.2 24 - 1 - (j : Int))) := hj8.trans (show X1.1 8 (X.2 25 - 1 - (j : Int)) = _ by rw [x8]; exact r9.2.1)
        rw [hj7]
        refine V_weak (I2 := fun x9 => CW cI cO ee Tx9 P (unI (uG S 25 (S.2 25 - 1)) j) X1 x9 ∧ Fr T7 h0 x9) (fun x9 hx9 => by rw [hx9]; exact hh) ?_
        refine V_callV (ci := 6) (n := 2) [.int (iI (S.1 16 (S.2 24 - 1 - (j : Int)))), .int (iI (S.1 17 (S.2 24 - 1 - (j : Int))))] C (kX1_put (v := P 3) (g := (unI (uG S 25 (S.2 25 - 1)) j).1 0) (t := 2) (z := (S.1 16 (S.2 24 - 1 - (j : Int)))) (by rw [r9.1] at r3; exact r3.1) (S.1 17 (S.2 24 - 1 - (j : Int)))) gX7_undo_X1_put rfl ydX1_put ⟨Nat.le_of_ble_eq_true rfl, Nat.le_of_ble_eq_true rfl⟩ ⟨rfl, rfl⟩ rfl rfl (fun h hh => ⟨2, _, hh.1.2.1.1⟩) (fun h hh => hh.1.2.1) rfl (Nat.le_of_ble_eq_true rfl) dX7_undo_60 ⟨Nat.le_of_ble_eq_true rfl, Nat.le_of_ble_eq_true rfl⟩ (fun h v h' hh hj9 => ?_)
        obtain ⟨rfl, hj1, hj2⟩ := hj9
        refine V_weak (I2 := fun x9 => CW cI cO ee Tx9 P (unI (uG S 25 (S.2 25 - 1)) (j + 1)) X1 x9 ∧ Fr T7 h0 x9) (fun x9 hx9 => by rw [hx9]; exact ⟨CW.congr (hh.1.put hwj h9 hj1 hj2) h9 (by rw [unI, e24b, e16, e17, show S.2 24 - (j : Int) - 1 = S.2 24 - 1 - j by omega]; exact ⟨rfl, fun _ _ _ => rfl, rfl, rfl, rfl, rfl, rfl, rfl, rfl⟩), hh.2.trans (hj2.mono (fun u hu => by unfold tC at hu; unfold T7; omega))⟩) ?_
        refine V_iinc3 (pc' := 66) C dX7_undo_63 rfl (by decide) rfl ?_
        refine V_goto (tgt := 35) C dX7_undo_66 (by decide) ?_
        exact V_conv (fun h q => q) (by rw [show X.2 25 - 1 - (j : Int) + -1 = X.2 25 - 1 - ((j + 1 : Nat) : Int) by omega]) (hk trivial)
    · refine V_iload3 (pc' := 36) C dX7_undo_35 rfl ?_
      refine V_iload1 (pc' := 37) C dX7_undo_36 rfl ?_
      refine V_icmplt (tgt := 69) C (by omega) dX7_undo_37 (by decide) rfl (fun c_37 => ?_) (fun c_37 => ?_)
      · refine V_aload0 (pc' := 70) C dX7_undo_69 rfl ?_
        refine V_getf (pc' := 73) (T := TX7) (N := 13) (ci := 12) C hin rfl 4 (by decide) (by decide +kernel) (fun h hh => ⟨1, _, hh.1.1, rfl⟩) dX7_undo_70 rfl ?_
        refine V_iload1 (pc' := 74) C dX7_undo_73 rfl ?_
        refine V_callV (ci := 5) (n := 1) [.int (iI (S.2 29 + S.1 20 (S.2 25 - 1)))] C (kX0_cutTo (v := fun k => P (7 + k)) (t := 6) (F := fun k => X1.1 (7 + k)) (n := X1.2 25) (len := (X1.2 26).toNat) (z := (S.2 29 + S.1 20 (S.2 25 - 1))) ⟨by omega, by omega⟩) gX7_undo_X0_cutTo rfl ydX0_cutTo ⟨Nat.le_of_ble_eq_true rfl, Nat.le_of_ble_eq_true rfl⟩ ⟨rfl, rfl⟩ rfl rfl (fun h hh => ⟨6, _, hh.1.2.2.2.1.1⟩) (fun h hh => hh.1.2.2.2.1) rfl (Nat.le_of_ble_eq_true rfl) dX7_undo_74 ⟨Nat.le_of_ble_eq_true rfl, Nat.le_of_ble_eq_true rfl⟩ (fun h v h' hh hj9 => ?_)
        obtain ⟨rfl, hj1, hj2⟩ := hj9
        have hwN := WFp_un (S := (uG S 25 (S.2 25 - 1))) (X := X) (j := N) hwp hL9 (by show (N : Int) ≤ S.2 24; omega)
        refine V_weak (I2 := fun x9 => CW cI cO ee Tx9 P (unI (uG S 25 (S.2 25 - 1)) N) (XnF X1 (fun k => X1.1 (7 + k)) (S.2 29 + S.1 20 (S.2 25 - 1))) x9 ∧ Fr T7 h0 x9) (fun x9 hx9 => by rw [hx9]; exact ⟨hh.1.note hwN h9 hj1 hj2, hh.2.trans (hj2.mono (fun u hu => by unfold tU at hu; unfold T7; omega))⟩) ?_
        refine V_iload2 (pc' := 78) C dX7_undo_77 rfl ?_
        refine V_iload1 (pc' := 79) C dX7_undo_78 rfl ?_
        refine V_isub (pc' := 80) C dX7_undo_79 rfl ?_
        exact V_end C hr hlk (fun h' hh => ⟨_, rfl, by omega, ⟨(XnF X1 (fun k => X1.1 (7 + k)) (S.2 29 + S.1 20 (S.2 25 - 1))), hh.1, ⟨x7, x8, x9e, x10⟩, rfl, x26, x27, x12⟩, hh.2⟩) ⟨Nat.le_of_ble_eq_true rfl, Nat.le_of_ble_eq_true rfl⟩ dX7_undo_80
      · exact absurd c_37 (by omega)
  · exact absurd c_10 (by omega)
set_option maxHeartbeats 4000000 in
set_option maxRecDepth 100000 in
theorem xX7_undo (hz : X.2 27 = 0) (hst : l.stackTraces = false) : Tx l yX7_undo wsX7_undo ({ frames := 8, cells := 1, slots := 6, locals := 170 } : Room) D (tyL cB cC cI cO cJ cD) ee [.ref (P 1)] (CW cI cO ee Tx9 P S X) "java/lang/IllegalStateException" (fun h h' => h' = h) (1) (6) := by
  refine Tx_of (cc := cX7_undo) (own := RX7) [some (.ref (P 1)), none, none, none] (by decide) rfl rfl (Nat.le_of_ble_eq_true rfl) (fun i9 v9 h9 => argL [.ref (P 1)] 3 rfl i9 v9 h9) ?_
  intro p e s m9 args below meth c9 h0 sz hI C hlk hxt
  have hin : ∀ w ∈ wsX70, w ∈ wsX7_undo := by decide +kernel
  refine V_weak (I2 := fun x9 => CW cI cO ee Tx9 P S X x9 ∧ x9 = h0) (fun x9 hx9 => by subst hx9; exact ⟨hI, rfl⟩) ?_
  refine V_aload0 (pc' := 1) C dX7_undo_0 rfl ?_
  refine V_getf (pc' := 4) (T := TX7) (N := 13) (ci := 12) C hin rfl 5 (by decide) (by decide +kernel) (fun h hh => ⟨1, _, hh.1.1, rfl⟩) dX7_undo_1 rfl ?_
  refine V_callV (ci := 7) (n := 0) [] C (kX2_takeLatest_0 (v := P 12) (t := 11) (g := X.1 12) trivial) gX7_undo_X2_takeLatest rfl ydX2_takeLatest ⟨Nat.le_of_ble_eq_true rfl, Nat.le_of_ble_eq_true rfl⟩ ⟨rfl, rfl⟩ rfl rfl (fun h hh => ⟨11, _, hh.1.2.2.2.2.1.1⟩) (fun h hh => by rw [← hz]; exact hh.1.2.2.2.2.1) rfl (Nat.le_of_ble_eq_true rfl) dX7_undo_4 ⟨Nat.le_of_ble_eq_true rfl, Nat.le_of_ble_eq_true rfl⟩ (fun h v h' hh hj9 => ?_)
  obtain ⟨r9, rfl, hj8, rfl⟩ := hj9
  rw [hj8]
  refine V_weak (I2 := fun x9 => CW cI cO ee Tx9 P S X x9 ∧ x9 = h0) (fun x9 hx9 => by rw [hx9]; exact hh) ?_
  refine V_istore1 (pc' := 8) C dX7_undo_7 rfl (by decide) rfl ?_
  refine V_iload1 (pc' := 9) C dX7_undo_8 rfl ?_
  refine V_iconst (pc' := 10) C dX7_undo_9 rfl ?_
  refine V_icmpne (tgt := 23) C (by decide) dX7_undo_10 (by decide) rfl (fun c_10 => ?_) (fun c_10 => ?_)
  · exact absurd c_10 (by decide)
  · exact V_throwS (text := "no action can be undone") (names := ["java/lang/RuntimeException", "java/lang/Exception"]) C hst (by decide +kernel) (by decide +kernel) (by decide +kernel) (by decide +kernel) (by decide +kernel) (by decide +kernel) (by decide +kernel) (by decide +kernel) dX7_undo_13 dX7_undo_16 dX7_undo_17 dX7_undo_19 dX7_undo_22 hxt (Nat.le_of_ble_eq_true rfl) (Nat.le_of_ble_eq_true rfl) ⟨Nat.le_of_ble_eq_true rfl, Nat.le_of_ble_eq_true rfl⟩ hlk (fun h' hh => hh.2) rfl ⟨Nat.le_of_ble_eq_true rfl, Nat.le_of_ble_eq_true rfl⟩
set_option maxHeartbeats 4000000 in
set_option maxRecDepth 100000 in
theorem kX7_granted (hwp : WFp S) {c r : Int} (hr2 : rI c ∧ rI r) (hc2 : isCellB c r = true) : Ct l yX7_granted wsX7_granted ({ frames := 8, cells := 0, slots := 0, locals := 170 } : Room) D (tyL cB cC cI cO cJ cD) ee [.ref (P 1), .int (iI c), .int (iI r)] (CW cI cO ee Tx9 P S X) (Ji fun h z9 h' => z9 = gcN S (atI c r) (S.2 22).toNat ∧ h' = h) (0) (0) := by
  refine Ct_of (cc := cX7_granted) (own := RX7) [some (.ref (P 1)), some (.int (iI c)), some (.int (iI r)), none, none] (by decide) rfl rfl (Nat.le_of_ble_eq_true rfl) (fun i9 v9 h9 => argL [.ref (P 1), .int (iI c), .int (iI r)] 2 rfl i9 v9 h9) ?_
  intro p e s m9 args below meth c9 h0 sz hI C hr hlk hinit
  have hin : ∀ w ∈ wsX70, w ∈ wsX7_granted := by decide +kernel
  refine V_weak (I2 := fun x => CW cI cO ee Tx9 P S X x ∧ x = h0) (fun x hx => by subst hx; exact ⟨hI, rfl⟩) ?_
  obtain ⟨md1, ar1, hl1⟩ := hI.2.2.2.2.2.2.2.1
  obtain ⟨md2, ar2, hl2⟩ := hI.2.2.2.2.2.2.2.2.2.1
  have hmc := hI.2.2.2.2.2.2.2.2.1
  have hru := hI.2.2.2.2.2.2.2.2.2.2
  obtain ⟨hw1, hw2, hw3, hw4, hw5, hw6⟩ := id hwp
  have hx := atI_in (c := c) (r := r) hc2
  have hcr : c = atI c r % 6 ∧ r = atI c r / 6 := by
    simp only [isCellB, isInB, Bool.and_eq_true, decide_eq_true_eq] at hc2
    unfold atI
    omega
  refine V_iload1 (pc' := 1) C dX7_granted_0 rfl ?_
  refine V_iload2 (pc' := 2) C dX7_granted_1 rfl ?_
  refine V_callS (n := 2) [.int (iI c), .int (iI r)] C (kX7_needCell hr2 hc2) gX7_granted_X7_needCell rfl ydX7_needCell ⟨Nat.le_of_ble_eq_true rfl, Nat.le_of_ble_eq_true rfl⟩ ⟨rfl, rfl⟩ rfl (fun h hh => trivial) rfl (Nat.le_of_ble_eq_true rfl) dX7_granted_2 ⟨Nat.le_of_ble_eq_true rfl, Nat.le_of_ble_eq_true rfl⟩ (fun h v h' hh hj9 => ?_)
  obtain ⟨rfl, rfl⟩ := hj9
  refine V_weak (I2 := fun x9 => CW cI cO ee Tx9 P S X x9 ∧ x9 = h0) (fun x9 hx9 => by rw [hx9]; exact hh) ?_
  refine V_iconst (pc' := 6) C dX7_granted_5 rfl ?_
  refine V_istore3 (pc' := 7) C dX7_granted_6 rfl (by decide) rfl ?_
  refine V_iconst (pc' := 8) C dX7_granted_7 rfl ?_
  refine V_istore4 (pc' := 10) C dX7_granted_8 rfl (by decide) rfl ?_
  refine V_for0 (N := (S.2 22).toNat) (fun j => fun x9 => CW cI cO ee Tx9 P S X x9 ∧ x9 = h0) (fun j => [some (.ref (P 1)), some (.int (iI c)), some (.int (iI r)), some (.int (iI (gcN S (atI c r) j))), some (.int (iI j))]) (fun _ => True) trivial (fun h hh => hh) rfl (fun j hj hv hk => ?_) (fun hv => ?_)
  · obtain ⟨hma, -, -, ⟨md', ar', hgl⟩, hrg⟩ := hmc j (by omega)
    have hm9 := hw2 j (by omega) (by omega)
    refine V_iload4 (pc' := 12) C dX7_granted_10 rfl ?_
    refine V_aload0 (pc' := 13) C dX7_granted_12 rfl ?_
    refine V_getf (pc' := 16) (T := TX7) (N := 13) (ci := 12) C hin rfl 2 (by decide) (by decide +kernel) (fun h hh => ⟨1, _, hh.1.1, rfl⟩) dX7_granted_13 rfl ?_
    refine V_callV (ci := 4) (n := 0) [] C (kJx4a65c_size_8abf5 (t := 16) (md := md1) (ar := ar1) (sn := S.2 22)) gX7_granted_Jx4a65c_size_8abf5 rfl ydJx4a65c_size_8abf5 ⟨Nat.le_of_ble_eq_true rfl, Nat.le_of_ble_eq_true rfl⟩ ⟨rfl, rfl⟩ rfl rfl (fun h hh => by obtain ⟨_, rfl⟩ := hh; exact ⟨16, _, hl1.1⟩) (fun h hh => by rw [hh.2]; exact hl1) rfl (Nat.le_of_ble_eq_true rfl) dX7_granted_16 ⟨Nat.le_of_ble_eq_true rfl, Nat.le_of_ble_eq_true rfl⟩ (fun h v h' hh hj => ?_)
    obtain ⟨r9, rfl, hj8, rfl⟩ := hj
    rw [hj8]
    refine V_weak (I2 := fun x => CW cI cO ee Tx9 P S X x ∧ x = h0) (fun x hx => by rw [hx]; exact hh) ?_
    refine V_icmpge (tgt := 51) C (by omega) dX7_granted_19 (by decide) rfl (fun c_19 => ?_) (fun c_19 => ?_)
    · exact absurd c_19 (by omega)
    · refine V_aload0 (pc' := 23) C dX7_granted_22 rfl ?_
      refine V_getf (pc' := 26) (T := TX7) (N := 13) (ci := 12) C hin rfl 2 (by decide) (by decide +kernel) (fun h hh => ⟨1, _, hh.1.1, rfl⟩) dX7_granted_23 rfl ?_
      refine V_iload4 (pc' := 28) C dX7_granted_26 rfl ?_
      refine V_callV (ci := 4) (n := 1) [.int (iI (j : Int))] C (kL_get (t := 16) (md := md1) (ar := ar1) (sn := S.2 22) (f := fstP P 100 (S.2 22)) (i := (j : Int)) (by omega)) gX7_granted_Jx4a65c_get_915e3 rfl ydJx4a65c_get_915e3 ⟨Nat.le_of_ble_eq_true rfl, Nat.le_of_ble_eq_true rfl⟩ ⟨rfl, rfl⟩ rfl rfl (fun h hh => by obtain ⟨_, rfl⟩ := hh; exact ⟨16, _, hl1.1⟩) (fun h hh => by rw [hh.2]; exact hl1) rfl (Nat.le_of_ble_eq_true rfl) dX7_granted_28 ⟨Nat.le_of_ble_eq_true rfl, Nat.le_of_ble_eq_true rfl⟩ (fun h v h' hh hj9 => ?_)
      obtain ⟨rfl, rfl⟩ := hj9
      rw [fstP_at (by omega)]
      refine V_weak (I2 := fun x => CW cI cO ee Tx9 P S X x ∧ x = h0) (fun x hx => by rw [hx]; exact hh) ?_
      refine V_castC (pc' := 34) (ci := 8) C (by decide +kernel) rfl (fun h hh => by obtain ⟨_, rfl⟩ := hh; exact ⟨100 + j, _, hma⟩) dX7_granted_31 rfl ?_
      refine V_iload1 (pc' := 35) C dX7_granted_34 rfl ?_
      refine V_iload2 (pc' := 36) C dX7_granted_35 rfl ?_
      refine V_callV (ci := 8) (n := 2) [.int (iI c), .int (iI r)] C (kX3_mayChange (t := 100 + j) (ts := 130 + j) (sl := P (110 + j)) (gl := P (130 + j)) (z := (j : Int)) (md := md') (ar := ar') (sn := S.1 9 j) (f := fstP P (300 + 4 * j) (S.1 9 j)) (rb := fun i => P (300 + 4 * j + i)) (tr := fun i => 300 + 4 * j + i) (G := grG S j) (fun i hi => by have := hw3 (4 * (j : Int) + i) (by omega) (by omega); simp only [grG]; omega) hr2) gX7_granted_X3_mayChange rfl ydX3_mayChange ⟨Nat.le_of_ble_eq_true rfl, Nat.le_of_ble_eq_true rfl⟩ ⟨rfl, rfl⟩ rfl rfl (fun h hh => by obtain ⟨_, rfl⟩ := hh; exact ⟨100 + j, _, hma⟩) (fun h hh => by obtain ⟨_, rfl⟩ := hh; exact ⟨hma, hgl, fun i hi => ⟨fstP_at hi, hrg i hi⟩⟩) rfl (Nat.le_of_ble_eq_true rfl) dX7_granted_36 ⟨Nat.le_of_ble_eq_true rfl, Nat.le_of_ble_eq_true rfl⟩ (fun h v h' hh hj9 => ?_)
      obtain ⟨r9, rfl, hj8, rfl⟩ := hj9
      have hmy : myN (grG S j) c r (S.1 9 j).toNat = isGrantedB S j (atI c r) := by
        have h8 := myN_gr S j (atI c r) (S.1 9 j).toNat
        rw [← hcr.1, ← hcr.2] at h8
        rw [h8]
        rfl
      rw [hj8, hmy]
      refine V_weak (I2 := fun x9 => CW cI cO ee Tx9 P S X x9 ∧ x9 = h0) (fun x9 hx9 => by rw [hx9]; exact hh) ?_
      refine V_ifeqB (tgt := 45) C dX7_granted_39 (by decide) rfl (fun c_39 => ?_) (fun c_39 => ?_)
      · refine V_iinc4 (pc' := 48) C dX7_granted_45 rfl (by decide) rfl ?_
        refine V_goto (tgt := 10) C dX7_granted_48 (by decide) ?_
        exact V_conv (fun h q => q) (by first | (have h8 : isGrantedB S j (atI c r) = false := c_39; simp [gcN, h8]; done) | (have h8 : isGrantedB S j (atI c r) = true := c_39; simp [gcN, h8]; done)) (hk trivial)
      · refine V_iinc3 (pc' := 45) C dX7_granted_42 rfl (by decide) rfl ?_
        refine V_iinc4 (pc' := 48) C dX7_granted_45 rfl (by decide) rfl ?_
        refine V_goto (tgt := 10) C dX7_granted_48 (by decide) ?_
        exact V_conv (fun h q => q) (by first | (have h8 : isGrantedB S j (atI c r) = false := c_39; simp [gcN, h8]; done) | (have h8 : isGrantedB S j (atI c r) = true := c_39; simp [gcN, h8]; done)) (hk trivial)
  · refine V_iload4 (pc' := 12) C dX7_granted_10 rfl ?_
    refine V_aload0 (pc' := 13) C dX7_granted_12 rfl ?_
    refine V_getf (pc' := 16) (T := TX7) (N := 13) (ci := 12) C hin rfl 2 (by decide) (by decide +kernel) (fun h hh => ⟨1, _, hh.1.1, rfl⟩) dX7_granted_13 rfl ?_
    refine V_callV (ci := 4) (n := 0) [] C (kJx4a65c_size_8abf5 (t := 16) (md := md1) (ar := ar1) (sn := S.2 22)) gX7_granted_Jx4a65c_size_8abf5 rfl ydJx4a65c_size_8abf5 ⟨Nat.le_of_ble_eq_true rfl, Nat.le_of_ble_eq_true rfl⟩ ⟨rfl, rfl⟩ rfl rfl (fun h hh => by obtain ⟨_, rfl⟩ := hh; exact ⟨16, _, hl1.1⟩) (fun h hh => by rw [hh.2]; exact hl1) rfl (Nat.le_of_ble_eq_true rfl) dX7_granted_16 ⟨Nat.le_of_ble_eq_true rfl, Nat.le_of_ble_eq_true rfl⟩ (fun h v h' hh hj => ?_)
    obtain ⟨r9, rfl, hj8, rfl⟩ := hj
    rw [hj8]
    refine V_weak (I2 := fun x => CW cI cO ee Tx9 P S X x ∧ x = h0) (fun x hx => by rw [hx]; exact hh) ?_
    refine V_icmpge (tgt := 51) C (by omega) dX7_granted_19 (by decide) rfl (fun c_19 => ?_) (fun c_19 => ?_)
    · refine V_iload3 (pc' := 52) C dX7_granted_51 rfl ?_
      exact V_end C hr hlk (fun h' hh => ⟨_, rfl, rfl, hh.2⟩) ⟨Nat.le_refl _, Nat.le_refl _⟩ dX7_granted_52
    · exact absurd c_19 (by omega)
set_option maxHeartbeats 4000000 in
set_option maxRecDepth 100000 in
theorem xX7_granted {c r : Int} (hr2 : rI c ∧ rI r) (hc2 : isCellB c r = false) (hst : l.stackTraces = false) : Tx l yX7_granted wsX7_granted ({ frames := 8, cells := 1, slots := 6, locals := 170 } : Room) D (tyL cB cC cI cO cJ cD) ee [.ref (P 1), .int (iI c), .int (iI r)] (CW cI cO ee Tx9 P S X) "java/lang/IndexOutOfBoundsException" (fun h h' => h' = h) (1) (6) := by
  refine Tx_of (cc := cX7_granted) (own := RX7) [some (.ref (P 1)), some (.int (iI c)), some (.int (iI r)), none, none] (by decide) rfl rfl (Nat.le_of_ble_eq_true rfl) (fun i9 v9 h9 => argL [.ref (P 1), .int (iI c), .int (iI r)] 2 rfl i9 v9 h9) ?_
  intro p e s m9 args below meth c9 h0 sz hI C hlk hxt
  refine V_weak (I2 := fun x9 => CW cI cO ee Tx9 P S X x9 ∧ x9 = h0) (fun x9 hx9 => by subst hx9; exact ⟨hI, rfl⟩) ?_
  refine V_iload1 (pc' := 1) C dX7_granted_0 rfl ?_
  refine V_iload2 (pc' := 2) C dX7_granted_1 rfl ?_
  exact V_outS (n := 2) [.int (iI c), .int (iI r)] C (xX7_needCell hr2 hc2 hst) gX7_granted_X7_needCell rfl ydX7_needCell ⟨Nat.le_of_ble_eq_true rfl, Nat.le_of_ble_eq_true rfl⟩ ⟨rfl, rfl⟩ rfl (fun h hh => trivial) rfl (Nat.le_of_ble_eq_true rfl) dX7_granted_2 ⟨Nat.le_of_ble_eq_true rfl, Nat.le_of_ble_eq_true rfl⟩ hxt hlk (fun h h' hh hj => by rw [hj]; exact hh.2) ⟨Nat.le_of_ble_eq_true rfl, Nat.le_of_ble_eq_true rfl⟩
end

/-! the law: its body -/

theorem RC1 : room_1.cells = 600222 ∧ room_1.slots = 7295558 := ⟨rfl, rfl⟩
set_option maxHeartbeats 16000000 in
set_option maxRecDepth 100000 in
theorem law_body {p : Program} {l : Launch} {e : Env} {s : State} {m : MethodId} {args : Array Value} {below : List Frame} {meth : Method} {c : Code} {Q : State → Prop} {D : va_G} {A : Nat → Prop} {cB cC cI cO cJ cD : ClassId} {ee : Nat × Nat} (C : Cx p m c code 5 s args wsL_law RL D (tyL cB cC cI cO cJ cD) A ee) (hst : l.stackTraces = false) (hend : ∀ (I : Hp → Prop) (L : List (Option Value)), Vx p l e room_1 s m args below meth c 600222 7295558 Q D A 5 I 352 L [.int (iI 1)]) : Vx p l e room_1 s m args below meth c 0 0 Q D A 5 (fun h => h = fun _ => none) 0 [some (.ref ee.2), none, none, none, none] [] := by
  refine V_sipush (pc' := 3) C dL_law_0 rfl (by decide) ?_
  refine V_newarr (pc' := 5) (N := 540) (atype := .int) (ty := .int) (a0 := (540, .inl (iF fun _ => 0))) 901 C (by decide +kernel) rfl 2 rfl (fun cA => rfl) ⟨rfl, by decide⟩ (by rw [RC1.1]; omega) (by rw [RC1.2]; omega) dL_law_3 rfl (fun na => ?_)
  refine V_fix (fun g1 hg1 => ?_)
  obtain ⟨g0, hg0, hq0, hg1⟩ := hg1
  have hA1 : NA cI na (fun _ => 0) g1 := by rw [hg1]; exact hup_s
  refine V_astore1 (pc' := 6) C dL_law_5 rfl (by decide) rfl ?_
  refine V_ldc (pc' := 8) (n := 60000) (v := 60000) C (by decide +kernel) dL_law_6 rfl (by decide) ?_
  refine V_newarr (pc' := 10) (N := 60000) (atype := .int) (ty := .int) (a0 := (60000, .inl (iF fun _ => 0))) 902 C (by decide +kernel) rfl 2 rfl (fun cA => rfl) ⟨rfl, by decide⟩ (by rw [RC1.1]; omega) (by rw [RC1.2]; omega) dL_law_8 rfl (fun nb => ?_)
  refine V_fix (fun g2 hg2 => ?_)
  obtain ⟨g3, rfl, hq2, hg2⟩ := hg2
  have hN2 : NH cI na nb (fun _ => 0) (fun _ => 0) g2 := by
    refine ⟨?_, by rw [hg2]; exact hup_s⟩
    unfold NA at hA1 ⊢
    rw [hg2, hup_n (fun z => by rw [z, hq2] at hA1; cases hA1)]
    exact hA1
  refine V_weak (I2 := NH cI na nb (fun _ => 0) (fun _ => 0)) (fun x hx => by rw [hx]; exact hN2) ?_
  refine V_astore2 (pc' := 11) C dL_law_10 rfl (by decide) rfl ?_
  refine V_aload0 (pc' := 12) C dL_law_11 rfl ?_
  refine V_aload1 (pc' := 13) C dL_law_12 rfl ?_
  refine V_aload2 (pc' := 14) C dL_law_13 rfl ?_
  refine V_callS (n := 3) [.ref ee.2, .ref na, .ref nb] C (kL_begun hst) gL_law_L_begun rfl ydL_begun ⟨Nat.le_of_ble_eq_true rfl, Nat.le_of_ble_eq_true rfl⟩ ⟨rfl, rfl⟩ rfl (fun h hh => hh) rfl (Nat.le_of_ble_eq_true rfl) dL_law_14 ⟨by rw [RC1.1]; omega, by rw [RC1.2]; omega⟩ (fun h v h' hh hj9 => ?_)
  obtain ⟨P, S, X, f, g, rfl, hD, hW, hm⟩ := hj9
  obtain ⟨o, hPo⟩ : ∃ o, P 1 = o := ⟨_, rfl⟩
  rw [hPo]
  refine V_weak (I2 := WD cB cI cO ee na nb P S X f g) (fun x hx => by rw [hx]; exact hD) ?_
  refine V_astore3 (pc' := 18) C dL_law_17 rfl (by decide) rfl ?_
  refine V_aload3 (pc' := 19) C dL_law_18 rfl ?_
  refine V_ifnull (pc' := 22) C dL_law_19 rfl ?_
  refine V_aload3 (pc' := 23) C dL_law_22 rfl ?_
  refine V_aload1 (pc' := 24) C dL_law_23 rfl ?_
  have hM24 := kL_areCells (l := l) (D := D) (cB := cB) (cC := cC) (cI := cI) (cO := cO) (cJ := cJ) (cD := cD) (ee := ee) (na := na) (nb := nb) (P := P) hst hW
  rw [hPo] at hM24
  refine V_callS (n := 2) [.ref o, .ref na] C hM24 gL_law_L_areCells rfl ydL_areCells ⟨Nat.le_of_ble_eq_true rfl, Nat.le_of_ble_eq_true rfl⟩ ⟨rfl, rfl⟩ rfl (fun h hh => hh) rfl (Nat.le_of_ble_eq_true rfl) dL_law_24 ⟨by rw [RC1.1]; omega, by rw [RC1.2]; omega⟩ (fun h v h' hh hj9 => ?_)
  obtain ⟨rfl, rfl⟩ := hj9
  refine V_weak (I2 := WD cB cI cO ee na nb P S X f g) (fun x hx => by rw [hx]; exact hh) ?_
  refine V_ifne (tgt := 32) C (by decide) dL_law_27 (by decide) rfl (fun c_27 => ?_) (fun c_27 => ?_)
  · refine V_iconst (pc' := 33) C dL_law_32 rfl ?_
    refine V_istore4 (pc' := 35) C dL_law_33 rfl (by decide) rfl ?_
    refine V_forC (N := 30) (fun j => fun x => ∃ P S X f g, WD cB cI cO ee na nb P S X f g x ∧ P 1 = o ∧ WS (27 + j) S X f g ∧ 0 < S.2 22) (fun j => [some (.ref ee.2), some (.ref na), some (.ref nb), some (.ref o), some (.int (iI j))]) (fun _ => True) (fun j => 9700 + 2700 * j) (fun j => 2170000 + 78000 * j) trivial (fun x hx => ⟨_, _, _, _, _, hx, hPo, hW, hm⟩) rfl ⟨by omega, by omega⟩ (fun j hj hv hk => ?_) (fun hv => ?_)
    · refine V_fix (fun h9 hh9 => ?_)
      obtain ⟨P, S, X, f, g, hD, hPo, hW, hm⟩ := hh9
      refine V_weak (I2 := WD cB cI cO ee na nb P S X f g) (fun x hx => by rw [hx]; exact hD) ?_
      refine V_iload4 (pc' := 37) C dL_law_35 rfl ?_
      refine V_bipush (pc' := 39) C dL_law_37 rfl (by decide) ?_
      refine V_icmpge (tgt := 76) C ⟨by omega, by omega⟩ dL_law_39 (by decide) rfl (fun c_39 => ?_) (fun c_39 => ?_)
      · exact absurd c_39 (by omega)
      · refine V_aload3 (pc' := 43) C dL_law_42 rfl ?_
        refine V_aload1 (pc' := 44) C dL_law_43 rfl ?_
        refine V_aload2 (pc' := 45) C dL_law_44 rfl ?_
        refine V_aload0 (pc' := 46) C dL_law_45 rfl ?_
        refine V_bipush (pc' := 48) C dL_law_46 rfl (by decide) ?_
        refine V_bipush (pc' := 50) C dL_law_48 rfl (by decide) ?_
        refine V_iload4 (pc' := 52) C dL_law_50 rfl ?_
        refine V_imul (pc' := 53) C dL_law_52 rfl ?_
        refine V_iadd (pc' := 54) C dL_law_53 rfl ?_
        have hMd := kL_isDone (l := l) (D := D) (cB := cB) (cC := cC) (cI := cI) (cO := cO) (cJ := cJ) (cD := cD) (ee := ee) (na := na) (nb := nb) (P := P) (i := 80 + (7 * j)) (by omega) hst hW (by omega) hm
        rw [hPo] at hMd
        refine V_callS (n := 5) [.ref o, .ref na, .ref nb, .ref ee.2, .int (iI (80 + (7 * j)))] C hMd gL_law_L_isDone rfl ydL_isDone ⟨Nat.le_of_ble_eq_true rfl, Nat.le_of_ble_eq_true rfl⟩ ⟨rfl, rfl⟩ rfl (fun h hh => hh) rfl (Nat.le_of_ble_eq_true rfl) dL_law_54 ⟨by rw [RC1.1]; omega, by rw [RC1.2]; omega⟩ (fun h v h' hh hj9 => ?_)
        obtain ⟨rfl, P2, S2, X2, f2, g2, hD2, hp2, hW2, hs2⟩ := hj9
        have hPo2 : P2 1 = o := hp2.trans hPo
        refine V_weak (I2 := WD cB cI cO ee na nb P2 S2 X2 f2 g2) (fun x hx => by rw [hx]; exact hD2) ?_
        refine V_ifeq (tgt := 68) C (by decide) dL_law_57 (by decide) rfl (fun c_57 => ?_) (fun c_57 => ?_)
        · exact absurd c_57 (by decide)
        · refine V_aload3 (pc' := 61) C dL_law_60 rfl ?_
          refine V_aload1 (pc' := 62) C dL_law_61 rfl ?_
          have hM62 := kL_areCells (l := l) (D := D) (cB := cB) (cC := cC) (cI := cI) (cO := cO) (cJ := cJ) (cD := cD) (ee := ee) (na := na) (nb := nb) (P := P2) hst hW2
          rw [hPo2] at hM62
          refine V_callS (n := 2) [.ref o, .ref na] C hM62 gL_law_L_areCells rfl ydL_areCells ⟨Nat.le_of_ble_eq_true rfl, Nat.le_of_ble_eq_true rfl⟩ ⟨rfl, rfl⟩ rfl (fun h hh => hh) rfl (Nat.le_of_ble_eq_true rfl) dL_law_62 ⟨by rw [RC1.1]; omega, by rw [RC1.2]; omega⟩ (fun h v h' hh hj9 => ?_)
          obtain ⟨rfl, rfl⟩ := hj9
          refine V_weak (I2 := WD cB cI cO ee na nb P2 S2 X2 f2 g2) (fun x hx => by rw [hx]; exact hh) ?_
          refine V_ifne (tgt := 70) C (by decide) dL_law_65 (by decide) rfl (fun c_65 => ?_) (fun c_65 => ?_)
          · refine V_iinc4 (pc' := 73) C dL_law_70 rfl (by decide) rfl ?_
            refine V_goto (tgt := 35) C dL_law_73 (by decide) ?_
            refine V_widen (k := 9700 + 2700 * (j + 1)) (n := 2170000 + 78000 * (j + 1)) (by omega) (by omega) ?_
            refine V_locals (L2 := [some (.ref ee.2), some (.ref na), some (.ref nb), some (.ref o), some (.int (iI ((j + 1 : Nat) : Int)))]) (fun i v hv => ?_) (V_weak (fun x9 hx9 => ?_) (hk trivial))
            · rcases i with _ | _ | _ | _ | _ | i
              all_goals (first | exact hv | (simpa using hv; done) | (cases hv; done))
            · exact ⟨P2, S2, X2, f2, g2, hx9, hPo2, WS_m hW2 (by omega) (by omega), by rw [hs2]; exact hm⟩
          · exact absurd c_65 (by decide)
    · refine V_fix (fun h9 hh9 => ?_)
      obtain ⟨P, S, X, f, g, hD, hPo, hW, hm⟩ := hh9
      have hwp := hW.1.1.1.1
      have w5 := hwp.2.2.2.2.1
      obtain ⟨n50, n51, n52, n53, n54, n56, n57⟩ := id hW.2.1.2.2.2.2.1
      refine V_iload4 (pc' := 37) C dL_law_35 rfl ?_
      refine V_bipush (pc' := 39) C dL_law_37 rfl (by decide) ?_
      refine V_icmpge (tgt := 76) C ⟨by omega, by omega⟩ dL_law_39 (by decide) rfl (fun c_39 => ?_) (fun c_39 => ?_)
      · refine V_aload3 (pc' := 77) C dL_law_76 rfl ?_
        refine V_bipush (pc' := 79) C dL_law_77 rfl (by decide) ?_
        refine V_iconst (pc' := 80) C dL_law_79 rfl ?_
        refine V_iconst (pc' := 81) C dL_law_80 rfl ?_
        have hM81 := KQ_er (l := l) (D := D) (cB := cB) (cC := cC) (cI := cI) (cO := cO) (cJ := cJ) (cD := cD) (ee := ee) (P := P) (S := S) (X := X) (As := [.ref (P 1), .int (iI 6), .int (iI 0), .int (iI 0)]) (kW_set_1 (xX7_set_1 (P := P) (S := S) (X := X) (c := 6) (r := 0) (v := 0) ⟨by decide, by decide⟩ (by decide) hst) ⟨rfl, rfl⟩ (fun h hh => CW_1 hh)) (Nat.le_of_ble_eq_true rfl) (Nat.le_of_ble_eq_true rfl) (Nat.le_of_ble_eq_true rfl) (Nat.le_of_ble_eq_true rfl) ⟨Nat.le_of_ble_eq_true rfl, Nat.le_of_ble_eq_true rfl⟩
        rw [hPo] at hM81
        refine V_callSW (n := 4) [.ref o, .int (iI 6), .int (iI 0), .int (iI 0)] C hM81 gL_law_L_set rfl ydL_set ⟨Nat.le_of_ble_eq_true rfl, Nat.le_of_ble_eq_true rfl⟩ ⟨rfl, rfl⟩ rfl (fun h hh => by rw [hh]; exact hD.1) rfl (Nat.le_of_ble_eq_true rfl) dL_law_81 ⟨by rw [RC1.1]; omega, by rw [RC1.2]; omega⟩ (fun h v h' hh hj9 => ?_)
        obtain ⟨rfl, rfl⟩ := hj9
        refine V_weak (I2 := fun x => x = h9) (fun x hx => by rw [hx]; exact hh) ?_
        refine V_ldc (pc' := 86) (n := (-900001)) (v := (-900001)) C (by decide +kernel) dL_law_84 rfl (by decide) ?_
        refine V_sameNE (pc' := 89) (tgt := 203) C (rfl) dL_law_86 (by decide) rfl ?_
        refine V_aload3 (pc' := 90) C dL_law_89 rfl ?_
        refine V_iconst (pc' := 91) C dL_law_90 rfl ?_
        refine V_bipush (pc' := 93) C dL_law_91 rfl (by decide) ?_
        refine V_iconst (pc' := 94) C dL_law_93 rfl ?_
        have hM94 := KQ_er (l := l) (D := D) (cB := cB) (cC := cC) (cI := cI) (cO := cO) (cJ := cJ) (cD := cD) (ee := ee) (P := P) (S := S) (X := X) (As := [.ref (P 1), .int (iI 0), .int (iI 8), .int (iI 0)]) (kW_set_1 (xX7_set_1 (P := P) (S := S) (X := X) (c := 0) (r := 8) (v := 0) ⟨by decide, by decide⟩ (by decide) hst) ⟨rfl, rfl⟩ (fun h hh => CW_1 hh)) (Nat.le_of_ble_eq_true rfl) (Nat.le_of_ble_eq_true rfl) (Nat.le_of_ble_eq_true rfl) (Nat.le_of_ble_eq_true rfl) ⟨Nat.le_of_ble_eq_true rfl, Nat.le_of_ble_eq_true rfl⟩
        rw [hPo] at hM94
        refine V_callSW (n := 4) [.ref o, .int (iI 0), .int (iI 8), .int (iI 0)] C hM94 gL_law_L_set rfl ydL_set ⟨Nat.le_of_ble_eq_true rfl, Nat.le_of_ble_eq_true rfl⟩ ⟨rfl, rfl⟩ rfl (fun h hh => by rw [hh]; exact hD.1) rfl (Nat.le_of_ble_eq_true rfl) dL_law_94 ⟨by rw [RC1.1]; omega, by rw [RC1.2]; omega⟩ (fun h v h' hh hj9 => ?_)
        obtain ⟨rfl, rfl⟩ := hj9
        refine V_weak (I2 := fun x => x = h9) (fun x hx => by rw [hx]; exact hh) ?_
        refine V_ldc (pc' := 99) (n := (-900001)) (v := (-900001)) C (by decide +kernel) dL_law_97 rfl (by decide) ?_
        refine V_sameNE (pc' := 102) (tgt := 203) C (rfl) dL_law_99 (by decide) rfl ?_
        refine V_aload3 (pc' := 103) C dL_law_102 rfl ?_
        refine V_iconst (pc' := 104) C dL_law_103 rfl ?_
        refine V_iconst (pc' := 105) C dL_law_104 rfl ?_
        refine V_sipush (pc' := 108) C dL_law_105 rfl (by decide) ?_
        have hM108 := KQ_er (l := l) (D := D) (cB := cB) (cC := cC) (cI := cI) (cO := cO) (cJ := cJ) (cD := cD) (ee := ee) (P := P) (S := S) (X := X) (As := [.ref (P 1), .int (iI 0), .int (iI 0), .int (iI 10000)]) (kW_set_2 (xX7_set_2 (P := P) (S := S) (X := X) (c := 0) (r := 0) (v := 10000) ⟨by decide, by decide⟩ (by decide) (by decide) (by decide) hst) ⟨rfl, rfl⟩ (fun h hh => CW_1 hh)) (Nat.le_of_ble_eq_true rfl) (Nat.le_of_ble_eq_true rfl) (Nat.le_of_ble_eq_true rfl) (Nat.le_of_ble_eq_true rfl) ⟨Nat.le_of_ble_eq_true rfl, Nat.le_of_ble_eq_true rfl⟩
        rw [hPo] at hM108
        refine V_callSW (n := 4) [.ref o, .int (iI 0), .int (iI 0), .int (iI 10000)] C hM108 gL_law_L_set rfl ydL_set ⟨Nat.le_of_ble_eq_true rfl, Nat.le_of_ble_eq_true rfl⟩ ⟨rfl, rfl⟩ rfl (fun h hh => by rw [hh]; exact hD.1) rfl (Nat.le_of_ble_eq_true rfl) dL_law_108 ⟨by rw [RC1.1]; omega, by rw [RC1.2]; omega⟩ (fun h v h' hh hj9 => ?_)
        obtain ⟨rfl, rfl⟩ := hj9
        refine V_weak (I2 := fun x => x = h9) (fun x hx => by rw [hx]; exact hh) ?_
        refine V_ldc (pc' := 113) (n := (-900002)) (v := (-900002)) C (by decide +kernel) dL_law_111 rfl (by decide) ?_
        refine V_sameNE (pc' := 116) (tgt := 203) C (rfl) dL_law_113 (by decide) rfl ?_
        refine V_aload3 (pc' := 117) C dL_law_116 rfl ?_
        refine V_iconst (pc' := 118) C dL_law_117 rfl ?_
        refine V_iconst (pc' := 119) C dL_law_118 rfl ?_
        refine V_iconst (pc' := 120) C dL_law_119 rfl ?_
        have hM120 := KQ_er (l := l) (D := D) (cB := cB) (cC := cC) (cI := cI) (cO := cO) (cJ := cJ) (cD := cD) (ee := ee) (P := P) (S := S) (X := X) (As := [.ref (P 1), .int (iI (-1)), .int (iI 0), .int (iI 0)]) (kW_add_1 (xX7_add_1 (P := P) (S := S) (X := X) (c := -1) (r := 0) ⟨by decide, by decide⟩ (by decide) hst) ⟨rfl, rfl⟩ (fun h hh => CW_1 hh)) (Nat.le_of_ble_eq_true rfl) (Nat.le_of_ble_eq_true rfl) (Nat.le_of_ble_eq_true rfl) (Nat.le_of_ble_eq_true rfl) ⟨Nat.le_of_ble_eq_true rfl, Nat.le_of_ble_eq_true rfl⟩
        rw [hPo] at hM120
        refine V_callSW (n := 4) [.ref o, .int (iI (-1)), .int (iI 0), .int (iI 0)] C hM120 gL_law_L_add rfl ydL_add ⟨Nat.le_of_ble_eq_true rfl, Nat.le_of_ble_eq_true rfl⟩ ⟨rfl, rfl⟩ rfl (fun h hh => by rw [hh]; exact hD.1) rfl (Nat.le_of_ble_eq_true rfl) dL_law_120 ⟨by rw [RC1.1]; omega, by rw [RC1.2]; omega⟩ (fun h v h' hh hj9 => ?_)
        obtain ⟨rfl, rfl⟩ := hj9
        refine V_weak (I2 := fun x => x = h9) (fun x hx => by rw [hx]; exact hh) ?_
        refine V_ldc (pc' := 125) (n := (-900001)) (v := (-900001)) C (by decide +kernel) dL_law_123 rfl (by decide) ?_
        refine V_sameNE (pc' := 128) (tgt := 203) C (rfl) dL_law_125 (by decide) rfl ?_
        refine V_aload3 (pc' := 129) C dL_law_128 rfl ?_
        refine V_iconst (pc' := 130) C dL_law_129 rfl ?_
        refine V_iconst (pc' := 131) C dL_law_130 rfl ?_
        refine V_sipush (pc' := 134) C dL_law_131 rfl (by decide) ?_
        have hM134 := KQ_er (l := l) (D := D) (cB := cB) (cC := cC) (cI := cI) (cO := cO) (cJ := cJ) (cD := cD) (ee := ee) (P := P) (S := S) (X := X) (As := [.ref (P 1), .int (iI 0), .int (iI 0), .int (iI (-10000))]) (kW_add_2 (xX7_add_2 (P := P) (S := S) (X := X) (c := 0) (r := 0) ⟨by decide, by decide⟩ (by decide) (by decide) (by decide) hst) ⟨rfl, rfl⟩ (fun h hh => CW_1 hh)) (Nat.le_of_ble_eq_true rfl) (Nat.le_of_ble_eq_true rfl) (Nat.le_of_ble_eq_true rfl) (Nat.le_of_ble_eq_true rfl) ⟨Nat.le_of_ble_eq_true rfl, Nat.le_of_ble_eq_true rfl⟩
        rw [hPo] at hM134
        refine V_callSW (n := 4) [.ref o, .int (iI 0), .int (iI 0), .int (iI (-10000))] C hM134 gL_law_L_add rfl ydL_add ⟨Nat.le_of_ble_eq_true rfl, Nat.le_of_ble_eq_true rfl⟩ ⟨rfl, rfl⟩ rfl (fun h hh => by rw [hh]; exact hD.1) rfl (Nat.le_of_ble_eq_true rfl) dL_law_134 ⟨by rw [RC1.1]; omega, by rw [RC1.2]; omega⟩ (fun h v h' hh hj9 => ?_)
        obtain ⟨rfl, rfl⟩ := hj9
        refine V_weak (I2 := fun x => x = h9) (fun x hx => by rw [hx]; exact hh) ?_
        refine V_ldc (pc' := 139) (n := (-900002)) (v := (-900002)) C (by decide +kernel) dL_law_137 rfl (by decide) ?_
        refine V_sameNE (pc' := 142) (tgt := 203) C (rfl) dL_law_139 (by decide) rfl ?_
        refine V_aload3 (pc' := 143) C dL_law_142 rfl ?_
        refine V_iconst (pc' := 144) C dL_law_143 rfl ?_
        refine V_iconst (pc' := 145) C dL_law_144 rfl ?_
        have hM145 := KQ_er (l := l) (D := D) (cB := cB) (cC := cC) (cI := cI) (cO := cO) (cJ := cJ) (cD := cD) (ee := ee) (P := P) (S := S) (X := X) (As := [.ref (P 1), .int (iI 0), .int (iI (-1))]) (kW_copyBase_1 (xX7_copyBase_1 (P := P) (S := S) (X := X) (c := 0) (r := -1) ⟨by decide, by decide⟩ (by decide) hst) ⟨rfl, rfl⟩ (fun h hh => CW_1 hh)) (Nat.le_of_ble_eq_true rfl) (Nat.le_of_ble_eq_true rfl) (Nat.le_of_ble_eq_true rfl) (Nat.le_of_ble_eq_true rfl) ⟨Nat.le_of_ble_eq_true rfl, Nat.le_of_ble_eq_true rfl⟩
        rw [hPo] at hM145
        refine V_callSW (n := 3) [.ref o, .int (iI 0), .int (iI (-1))] C hM145 gL_law_L_copyBase rfl ydL_copyBase ⟨Nat.le_of_ble_eq_true rfl, Nat.le_of_ble_eq_true rfl⟩ ⟨rfl, rfl⟩ rfl (fun h hh => by rw [hh]; exact hD.1) rfl (Nat.le_of_ble_eq_true rfl) dL_law_145 ⟨by rw [RC1.1]; omega, by rw [RC1.2]; omega⟩ (fun h v h' hh hj9 => ?_)
        obtain ⟨rfl, rfl⟩ := hj9
        refine V_weak (I2 := fun x => x = h9) (fun x hx => by rw [hx]; exact hh) ?_
        refine V_ldc (pc' := 150) (n := (-900001)) (v := (-900001)) C (by decide +kernel) dL_law_148 rfl (by decide) ?_
        refine V_sameNE (pc' := 153) (tgt := 203) C (rfl) dL_law_150 (by decide) rfl ?_
        refine V_aload3 (pc' := 154) C dL_law_153 rfl ?_
        refine V_bipush (pc' := 156) C dL_law_154 rfl (by decide) ?_
        refine V_iconst (pc' := 157) C dL_law_156 rfl ?_
        have hM157 := KQ_er (l := l) (D := D) (cB := cB) (cC := cC) (cI := cI) (cO := cO) (cJ := cJ) (cD := cD) (ee := ee) (P := P) (S := S) (X := X) (As := [.ref (P 1), .int (iI 6), .int (iI 0)]) (kW_cell__1 (xX7_cell (P := P) (S := S) (X := X) (c := 6) (r := 0) ⟨by decide, by decide⟩ (by decide) hst) ⟨rfl, rfl⟩ (fun h hh => CW_1 hh)) (Nat.le_of_ble_eq_true rfl) (Nat.le_of_ble_eq_true rfl) (Nat.le_of_ble_eq_true rfl) (Nat.le_of_ble_eq_true rfl) ⟨Nat.le_of_ble_eq_true rfl, Nat.le_of_ble_eq_true rfl⟩
        rw [hPo] at hM157
        refine V_callSW (n := 3) [.ref o, .int (iI 6), .int (iI 0)] C hM157 gL_law_L_cell_ rfl ydL_cell_ ⟨Nat.le_of_ble_eq_true rfl, Nat.le_of_ble_eq_true rfl⟩ ⟨rfl, rfl⟩ rfl (fun h hh => by rw [hh]; exact hD.1) rfl (Nat.le_of_ble_eq_true rfl) dL_law_157 ⟨by rw [RC1.1]; omega, by rw [RC1.2]; omega⟩ (fun h v h' hh hj9 => ?_)
        obtain ⟨rfl, rfl⟩ := hj9
        refine V_weak (I2 := fun x => x = h9) (fun x hx => by rw [hx]; exact hh) ?_
        refine V_ldc (pc' := 162) (n := (-900001)) (v := (-900001)) C (by decide +kernel) dL_law_160 rfl (by decide) ?_
        refine V_sameNE (pc' := 165) (tgt := 203) C (rfl) dL_law_162 (by decide) rfl ?_
        refine V_aload3 (pc' := 166) C dL_law_165 rfl ?_
        refine V_iconst (pc' := 167) C dL_law_166 rfl ?_
        refine V_bipush (pc' := 169) C dL_law_167 rfl (by decide) ?_
        have hM169 := KQ_er (l := l) (D := D) (cB := cB) (cC := cC) (cI := cI) (cO := cO) (cJ := cJ) (cD := cD) (ee := ee) (P := P) (S := S) (X := X) (As := [.ref (P 1), .int (iI 0), .int (iI 8)]) (kW_cellByAudit_1 (xX7_cellByAudit (P := P) (S := S) (X := X) (c := 0) (r := 8) ⟨by decide, by decide⟩ (by decide) hst) ⟨rfl, rfl⟩ (fun h hh => CW_1 hh)) (Nat.le_of_ble_eq_true rfl) (Nat.le_of_ble_eq_true rfl) (Nat.le_of_ble_eq_true rfl) (Nat.le_of_ble_eq_true rfl) ⟨Nat.le_of_ble_eq_true rfl, Nat.le_of_ble_eq_true rfl⟩
        rw [hPo] at hM169
        refine V_callSW (n := 3) [.ref o, .int (iI 0), .int (iI 8)] C hM169 gL_law_L_cellByAudit rfl ydL_cellByAudit ⟨Nat.le_of_ble_eq_true rfl, Nat.le_of_ble_eq_true rfl⟩ ⟨rfl, rfl⟩ rfl (fun h hh => by rw [hh]; exact hD.1) rfl (Nat.le_of_ble_eq_true rfl) dL_law_169 ⟨by rw [RC1.1]; omega, by rw [RC1.2]; omega⟩ (fun h v h' hh hj9 => ?_)
        obtain ⟨rfl, rfl⟩ := hj9
        refine V_weak (I2 := fun x => x = h9) (fun x hx => by rw [hx]; exact hh) ?_
        refine V_ldc (pc' := 174) (n := (-900001)) (v := (-900001)) C (by decide +kernel) dL_law_172 rfl (by decide) ?_
        refine V_sameNE (pc' := 177) (tgt := 203) C (rfl) dL_law_174 (by decide) rfl ?_
        refine V_aload3 (pc' := 178) C dL_law_177 rfl ?_
        refine V_iconst (pc' := 179) C dL_law_178 rfl ?_
        refine V_iconst (pc' := 180) C dL_law_179 rfl ?_
        have hM180 := KQ_er (l := l) (D := D) (cB := cB) (cC := cC) (cI := cI) (cO := cO) (cJ := cJ) (cD := cD) (ee := ee) (P := P) (S := S) (X := X) (As := [.ref (P 1), .int (iI (-1)), .int (iI 0)]) (kW_granted_1 (xX7_granted (P := P) (S := S) (X := X) (c := -1) (r := 0) ⟨by decide, by decide⟩ (by decide) hst) ⟨rfl, rfl⟩ (fun h hh => CW_1 hh)) (Nat.le_of_ble_eq_true rfl) (Nat.le_of_ble_eq_true rfl) (Nat.le_of_ble_eq_true rfl) (Nat.le_of_ble_eq_true rfl) ⟨Nat.le_of_ble_eq_true rfl, Nat.le_of_ble_eq_true rfl⟩
        rw [hPo] at hM180
        refine V_callSW (n := 3) [.ref o, .int (iI (-1)), .int (iI 0)] C hM180 gL_law_L_granted rfl ydL_granted ⟨Nat.le_of_ble_eq_true rfl, Nat.le_of_ble_eq_true rfl⟩ ⟨rfl, rfl⟩ rfl (fun h hh => by rw [hh]; exact hD.1) rfl (Nat.le_of_ble_eq_true rfl) dL_law_180 ⟨by rw [RC1.1]; omega, by rw [RC1.2]; omega⟩ (fun h v h' hh hj9 => ?_)
        obtain ⟨rfl, rfl⟩ := hj9
        refine V_weak (I2 := fun x => x = h9) (fun x hx => by rw [hx]; exact hh) ?_
        refine V_ldc (pc' := 185) (n := (-900001)) (v := (-900001)) C (by decide +kernel) dL_law_183 rfl (by decide) ?_
        refine V_sameNE (pc' := 188) (tgt := 203) C (rfl) dL_law_185 (by decide) rfl ?_
        refine V_aload3 (pc' := 189) C dL_law_188 rfl ?_
        refine V_iconst (pc' := 190) C dL_law_189 rfl ?_
        refine V_iconst (pc' := 191) C dL_law_190 rfl ?_
        have hM191 := KQ_er (l := l) (D := D) (cB := cB) (cC := cC) (cI := cI) (cO := cO) (cJ := cJ) (cD := cD) (ee := ee) (P := P) (S := S) (X := X) (As := [.ref (P 1), .int (iI 0), .int (iI (-1))]) (kW_rule_1 (xX7_rule (P := P) (S := S) (X := X) (c := 0) (r := -1) ⟨by decide, by decide⟩ (by decide) hst) ⟨rfl, rfl⟩ (fun h hh => CW_1 hh)) (Nat.le_of_ble_eq_true rfl) (Nat.le_of_ble_eq_true rfl) (Nat.le_of_ble_eq_true rfl) (Nat.le_of_ble_eq_true rfl) ⟨Nat.le_of_ble_eq_true rfl, Nat.le_of_ble_eq_true rfl⟩
        rw [hPo] at hM191
        refine V_callSW (n := 3) [.ref o, .int (iI 0), .int (iI (-1))] C hM191 gL_law_L_rule rfl ydL_rule ⟨Nat.le_of_ble_eq_true rfl, Nat.le_of_ble_eq_true rfl⟩ ⟨rfl, rfl⟩ rfl (fun h hh => by rw [hh]; exact hD.1) rfl (Nat.le_of_ble_eq_true rfl) dL_law_191 ⟨by rw [RC1.1]; omega, by rw [RC1.2]; omega⟩ (fun h v h' hh hj9 => ?_)
        obtain ⟨rfl, rfl⟩ := hj9
        refine V_weak (I2 := fun x => x = h9) (fun x hx => by rw [hx]; exact hh) ?_
        refine V_ldc (pc' := 196) (n := (-900001)) (v := (-900001)) C (by decide +kernel) dL_law_194 rfl (by decide) ?_
        refine V_sameNE (pc' := 199) (tgt := 203) C (rfl) dL_law_196 (by decide) rfl ?_
        refine V_iconst (pc' := 200) C dL_law_199 rfl ?_
        refine V_goto (tgt := 204) C dL_law_200 (by decide) ?_
        refine V_istore4 (pc' := 206) C dL_law_204 rfl (by decide) rfl ?_
        refine V_iload4 (pc' := 208) C dL_law_206 rfl ?_
        refine V_ifeq (tgt := 351) C (by decide) dL_law_208 (by decide) rfl (fun c_208 => ?_) (fun c_208 => ?_)
        · exact absurd c_208 (by decide)
        · refine V_aload3 (pc' := 212) C dL_law_211 rfl ?_
          refine V_aload1 (pc' := 213) C dL_law_212 rfl ?_
          refine V_bipush (pc' := 215) C dL_law_213 rfl (by decide) ?_
          refine V_ialdE (pc' := 216) (n := 540) (f := f) (v := S.2 22) C 2 rfl (fun h hh => ⟨901, by rw [hh]; exact hD.2.1⟩) ⟨by omega, by omega, by omega⟩ (n50) dL_law_215 rfl ?_
          refine V_iconst (pc' := 217) C dL_law_216 rfl ?_
          refine V_iconst (pc' := 218) C dL_law_217 rfl ?_
          have hM218 := KQ_er (l := l) (D := D) (cB := cB) (cC := cC) (cI := cI) (cO := cO) (cJ := cJ) (cD := cD) (ee := ee) (P := P) (S := S) (X := X) (As := [.ref (P 1), .int (iI (S.2 22)), .int (iI 0), .int (iI 0)]) (kW_run_1 (xX7_run_m (P := P) (S := S) (X := X) (z := S.2 22) (c := 0) (r := 0) hwp (by omega) (by omega) hst) ⟨rfl, rfl⟩ (fun h hh => CW_1 hh)) (Nat.le_of_ble_eq_true rfl) (Nat.le_of_ble_eq_true rfl) (Nat.le_of_ble_eq_true rfl) (Nat.le_of_ble_eq_true rfl) ⟨Nat.le_of_ble_eq_true rfl, Nat.le_of_ble_eq_true rfl⟩
          rw [hPo] at hM218
          refine V_callSW (n := 4) [.ref o, .int (iI (S.2 22)), .int (iI 0), .int (iI 0)] C hM218 gL_law_L_run rfl ydL_run ⟨Nat.le_of_ble_eq_true rfl, Nat.le_of_ble_eq_true rfl⟩ ⟨rfl, rfl⟩ rfl (fun h hh => by rw [hh]; exact hD.1) rfl (Nat.le_of_ble_eq_true rfl) dL_law_218 ⟨by rw [RC1.1]; omega, by rw [RC1.2]; omega⟩ (fun h v h' hh hj9 => ?_)
          obtain ⟨rfl, rfl⟩ := hj9
          refine V_weak (I2 := fun x => x = h9) (fun x hx => by rw [hx]; exact hh) ?_
          refine V_ldc (pc' := 223) (n := (-900001)) (v := (-900001)) C (by decide +kernel) dL_law_221 rfl (by decide) ?_
          refine V_sameNE (pc' := 226) (tgt := 351) C (rfl) dL_law_223 (by decide) rfl ?_
          refine V_aload3 (pc' := 227) C dL_law_226 rfl ?_
          refine V_iconst (pc' := 228) C dL_law_227 rfl ?_
          refine V_bipush (pc' := 230) C dL_law_228 rfl (by decide) ?_
          refine V_iconst (pc' := 231) C dL_law_230 rfl ?_
          have hM231 := KQ_er (l := l) (D := D) (cB := cB) (cC := cC) (cI := cI) (cO := cO) (cJ := cJ) (cD := cD) (ee := ee) (P := P) (S := S) (X := X) (As := [.ref (P 1), .int (iI 0), .int (iI 6), .int (iI 0)]) (kW_run_1 (xX7_run_c (P := P) (S := S) (X := X) (z := 0) (c := 6) (r := 0) hwp ⟨by decide, hm⟩ ⟨by decide, by decide⟩ (by decide) hst) ⟨rfl, rfl⟩ (fun h hh => CW_1 hh)) (Nat.le_of_ble_eq_true rfl) (Nat.le_of_ble_eq_true rfl) (Nat.le_of_ble_eq_true rfl) (Nat.le_of_ble_eq_true rfl) ⟨Nat.le_of_ble_eq_true rfl, Nat.le_of_ble_eq_true rfl⟩
          rw [hPo] at hM231
          refine V_callSW (n := 4) [.ref o, .int (iI 0), .int (iI 6), .int (iI 0)] C hM231 gL_law_L_run rfl ydL_run ⟨Nat.le_of_ble_eq_true rfl, Nat.le_of_ble_eq_true rfl⟩ ⟨rfl, rfl⟩ rfl (fun h hh => by rw [hh]; exact hD.1) rfl (Nat.le_of_ble_eq_true rfl) dL_law_231 ⟨by rw [RC1.1]; omega, by rw [RC1.2]; omega⟩ (fun h v h' hh hj9 => ?_)
          obtain ⟨rfl, rfl⟩ := hj9
          refine V_weak (I2 := fun x => x = h9) (fun x hx => by rw [hx]; exact hh) ?_
          refine V_ldc (pc' := 236) (n := (-900001)) (v := (-900001)) C (by decide +kernel) dL_law_234 rfl (by decide) ?_
          refine V_sameNE (pc' := 239) (tgt := 351) C (rfl) dL_law_236 (by decide) rfl ?_
          refine V_aload3 (pc' := 240) C dL_law_239 rfl ?_
          refine V_iconst (pc' := 241) C dL_law_240 rfl ?_
          refine V_iconst (pc' := 242) C dL_law_241 rfl ?_
          refine V_bipush (pc' := 244) C dL_law_242 rfl (by decide) ?_
          have hM244 := KQ_er (l := l) (D := D) (cB := cB) (cC := cC) (cI := cI) (cO := cO) (cJ := cJ) (cD := cD) (ee := ee) (P := P) (S := S) (X := X) (As := [.ref (P 1), .int (iI 0), .int (iI 0), .int (iI 8)]) (kW_reason_1 (xX7_reason_c (P := P) (S := S) (X := X) (z := 0) (c := 0) (r := 8) hwp ⟨by decide, hm⟩ ⟨by decide, by decide⟩ (by decide) hst) ⟨rfl, rfl⟩ (fun h hh => CW_1 hh)) (Nat.le_of_ble_eq_true rfl) (Nat.le_of_ble_eq_true rfl) (Nat.le_of_ble_eq_true rfl) (Nat.le_of_ble_eq_true rfl) ⟨Nat.le_of_ble_eq_true rfl, Nat.le_of_ble_eq_true rfl⟩
          rw [hPo] at hM244
          refine V_callSW (n := 4) [.ref o, .int (iI 0), .int (iI 0), .int (iI 8)] C hM244 gL_law_L_reason rfl ydL_reason ⟨Nat.le_of_ble_eq_true rfl, Nat.le_of_ble_eq_true rfl⟩ ⟨rfl, rfl⟩ rfl (fun h hh => by rw [hh]; exact hD.1) rfl (Nat.le_of_ble_eq_true rfl) dL_law_244 ⟨by rw [RC1.1]; omega, by rw [RC1.2]; omega⟩ (fun h v h' hh hj9 => ?_)
          obtain ⟨rfl, rfl⟩ := hj9
          refine V_weak (I2 := fun x => x = h9) (fun x hx => by rw [hx]; exact hh) ?_
          refine V_ldc (pc' := 249) (n := (-900001)) (v := (-900001)) C (by decide +kernel) dL_law_247 rfl (by decide) ?_
          refine V_sameNE (pc' := 252) (tgt := 351) C (rfl) dL_law_249 (by decide) rfl ?_
          refine V_aload3 (pc' := 253) C dL_law_252 rfl ?_
          refine V_iconst (pc' := 254) C dL_law_253 rfl ?_
          refine V_iconst (pc' := 255) C dL_law_254 rfl ?_
          refine V_iconst (pc' := 256) C dL_law_255 rfl ?_
          have hM256 := KQ_er (l := l) (D := D) (cB := cB) (cC := cC) (cI := cI) (cO := cO) (cJ := cJ) (cD := cD) (ee := ee) (P := P) (S := S) (X := X) (As := [.ref (P 1), .int (iI (-1)), .int (iI 0), .int (iI 0)]) (kW_reason_1 (xX7_reason_m (P := P) (S := S) (X := X) (z := -1) (c := 0) (r := 0) hwp (by omega) (by decide) hst) ⟨rfl, rfl⟩ (fun h hh => CW_1 hh)) (Nat.le_of_ble_eq_true rfl) (Nat.le_of_ble_eq_true rfl) (Nat.le_of_ble_eq_true rfl) (Nat.le_of_ble_eq_true rfl) ⟨Nat.le_of_ble_eq_true rfl, Nat.le_of_ble_eq_true rfl⟩
          rw [hPo] at hM256
          refine V_callSW (n := 4) [.ref o, .int (iI (-1)), .int (iI 0), .int (iI 0)] C hM256 gL_law_L_reason rfl ydL_reason ⟨Nat.le_of_ble_eq_true rfl, Nat.le_of_ble_eq_true rfl⟩ ⟨rfl, rfl⟩ rfl (fun h hh => by rw [hh]; exact hD.1) rfl (Nat.le_of_ble_eq_true rfl) dL_law_256 ⟨by rw [RC1.1]; omega, by rw [RC1.2]; omega⟩ (fun h v h' hh hj9 => ?_)
          obtain ⟨rfl, rfl⟩ := hj9
          refine V_weak (I2 := fun x => x = h9) (fun x hx => by rw [hx]; exact hh) ?_
          refine V_ldc (pc' := 261) (n := (-900001)) (v := (-900001)) C (by decide +kernel) dL_law_259 rfl (by decide) ?_
          refine V_sameNE (pc' := 264) (tgt := 351) C (rfl) dL_law_261 (by decide) rfl ?_
          refine V_aload3 (pc' := 265) C dL_law_264 rfl ?_
          refine V_iconst (pc' := 266) C dL_law_265 rfl ?_
          refine V_iconst (pc' := 267) C dL_law_266 rfl ?_
          refine V_iconst (pc' := 268) C dL_law_267 rfl ?_
          refine V_iconst (pc' := 269) C dL_law_268 rfl ?_
          refine V_aload1 (pc' := 270) C dL_law_269 rfl ?_
          refine V_bipush (pc' := 272) C dL_law_270 rfl (by decide) ?_
          refine V_ialdE (pc' := 273) (n := 540) (f := f) (v := S.2 22) C 2 rfl (fun h hh => ⟨901, by rw [hh]; exact hD.2.1⟩) ⟨by omega, by omega, by omega⟩ (n50) dL_law_272 rfl ?_
          refine V_iconst (pc' := 274) C dL_law_273 rfl ?_
          have hM274 := KQ_er (l := l) (D := D) (cB := cB) (cC := cC) (cI := cI) (cO := cO) (cJ := cJ) (cD := cD) (ee := ee) (P := P) (S := S) (X := X) (As := [.ref (P 1), .int (iI 0), .int (iI 0), .int (iI 0), .int (iI 0), .int (iI (S.2 22)), .int (iI 0)]) (kW_addRule_1 (xX7_addRule_m (P := P) (S := S) (X := X) (z := S.2 22) (k := 0) (c := 0) (r := 0) (c2 := 0) (r2 := 0) hwp ⟨by decide, by decide⟩ ⟨by decide, by decide⟩ (by decide) (by decide) (by omega) (by omega) hst) ⟨rfl, rfl⟩ (fun h hh => CW_1 hh)) (Nat.le_of_ble_eq_true rfl) (Nat.le_of_ble_eq_true rfl) (Nat.le_of_ble_eq_true rfl) (Nat.le_of_ble_eq_true rfl) ⟨Nat.le_of_ble_eq_true rfl, Nat.le_of_ble_eq_true rfl⟩
          rw [hPo] at hM274
          refine V_callSW (n := 7) [.ref o, .int (iI 0), .int (iI 0), .int (iI 0), .int (iI 0), .int (iI (S.2 22)), .int (iI 0)] C hM274 gL_law_L_addRule rfl ydL_addRule ⟨Nat.le_of_ble_eq_true rfl, Nat.le_of_ble_eq_true rfl⟩ ⟨rfl, rfl⟩ rfl (fun h hh => by rw [hh]; exact hD.1) rfl (Nat.le_of_ble_eq_true rfl) dL_law_274 ⟨by rw [RC1.1]; omega, by rw [RC1.2]; omega⟩ (fun h v h' hh hj9 => ?_)
          obtain ⟨rfl, rfl⟩ := hj9
          refine V_weak (I2 := fun x => x = h9) (fun x hx => by rw [hx]; exact hh) ?_
          refine V_ldc (pc' := 279) (n := (-900001)) (v := (-900001)) C (by decide +kernel) dL_law_277 rfl (by decide) ?_
          refine V_sameNE (pc' := 282) (tgt := 351) C (rfl) dL_law_279 (by decide) rfl ?_
          refine V_aload3 (pc' := 283) C dL_law_282 rfl ?_
          refine V_iconst (pc' := 284) C dL_law_283 rfl ?_
          refine V_iconst (pc' := 285) C dL_law_284 rfl ?_
          refine V_bipush (pc' := 287) C dL_law_285 rfl (by decide) ?_
          refine V_iconst (pc' := 288) C dL_law_287 rfl ?_
          refine V_iconst (pc' := 289) C dL_law_288 rfl ?_
          refine V_iconst (pc' := 290) C dL_law_289 rfl ?_
          have hM290 := KQ_er (l := l) (D := D) (cB := cB) (cC := cC) (cI := cI) (cO := cO) (cJ := cJ) (cD := cD) (ee := ee) (P := P) (S := S) (X := X) (As := [.ref (P 1), .int (iI 0), .int (iI 0), .int (iI 6), .int (iI 0), .int (iI 0), .int (iI 0)]) (kW_addRule_1 (xX7_addRule_d (P := P) (S := S) (X := X) ⟨by decide, by decide⟩ ⟨by decide, by decide⟩ (by decide) (by decide) hst) ⟨rfl, rfl⟩ (fun h hh => CW_1 hh)) (Nat.le_of_ble_eq_true rfl) (Nat.le_of_ble_eq_true rfl) (Nat.le_of_ble_eq_true rfl) (Nat.le_of_ble_eq_true rfl) ⟨Nat.le_of_ble_eq_true rfl, Nat.le_of_ble_eq_true rfl⟩
          rw [hPo] at hM290
          refine V_callSW (n := 7) [.ref o, .int (iI 0), .int (iI 0), .int (iI 6), .int (iI 0), .int (iI 0), .int (iI 0)] C hM290 gL_law_L_addRule rfl ydL_addRule ⟨Nat.le_of_ble_eq_true rfl, Nat.le_of_ble_eq_true rfl⟩ ⟨rfl, rfl⟩ rfl (fun h hh => by rw [hh]; exact hD.1) rfl (Nat.le_of_ble_eq_true rfl) dL_law_290 ⟨by rw [RC1.1]; omega, by rw [RC1.2]; omega⟩ (fun h v h' hh hj9 => ?_)
          obtain ⟨rfl, rfl⟩ := hj9
          refine V_weak (I2 := fun x => x = h9) (fun x hx => by rw [hx]; exact hh) ?_
          refine V_ldc (pc' := 295) (n := (-900001)) (v := (-900001)) C (by decide +kernel) dL_law_293 rfl (by decide) ?_
          refine V_sameNE (pc' := 298) (tgt := 351) C (rfl) dL_law_295 (by decide) rfl ?_
          refine V_aload3 (pc' := 299) C dL_law_298 rfl ?_
          refine V_iconst (pc' := 300) C dL_law_299 rfl ?_
          refine V_iconst (pc' := 301) C dL_law_300 rfl ?_
          refine V_iconst (pc' := 302) C dL_law_301 rfl ?_
          refine V_iconst (pc' := 303) C dL_law_302 rfl ?_
          refine V_iconst (pc' := 304) C dL_law_303 rfl ?_
          refine V_bipush (pc' := 306) C dL_law_304 rfl (by decide) ?_
          have hM306 := KQ_er (l := l) (D := D) (cB := cB) (cC := cC) (cI := cI) (cO := cO) (cJ := cJ) (cD := cD) (ee := ee) (P := P) (S := S) (X := X) (As := [.ref (P 1), .int (iI 0), .int (iI 0), .int (iI 0), .int (iI 0), .int (iI 0), .int (iI 10)]) (kW_addRule_2 (xX7_addRule_k (P := P) (S := S) (X := X) (z := 0) (c := 0) (r := 0) hwp ⟨by decide, hm⟩ ⟨by decide, by decide⟩ ⟨by decide, by decide⟩ (by decide) (by decide) (by decide) (by decide) (by decide) hst) ⟨rfl, rfl⟩ (fun h hh => CW_1 hh)) (Nat.le_of_ble_eq_true rfl) (Nat.le_of_ble_eq_true rfl) (Nat.le_of_ble_eq_true rfl) (Nat.le_of_ble_eq_true rfl) ⟨Nat.le_of_ble_eq_true rfl, Nat.le_of_ble_eq_true rfl⟩
          rw [hPo] at hM306
          refine V_callSW (n := 7) [.ref o, .int (iI 0), .int (iI 0), .int (iI 0), .int (iI 0), .int (iI 0), .int (iI 10)] C hM306 gL_law_L_addRule rfl ydL_addRule ⟨Nat.le_of_ble_eq_true rfl, Nat.le_of_ble_eq_true rfl⟩ ⟨rfl, rfl⟩ rfl (fun h hh => by rw [hh]; exact hD.1) rfl (Nat.le_of_ble_eq_true rfl) dL_law_306 ⟨by rw [RC1.1]; omega, by rw [RC1.2]; omega⟩ (fun h v h' hh hj9 => ?_)
          obtain ⟨rfl, rfl⟩ := hj9
          refine V_weak (I2 := fun x => x = h9) (fun x hx => by rw [hx]; exact hh) ?_
          refine V_ldc (pc' := 311) (n := (-900002)) (v := (-900002)) C (by decide +kernel) dL_law_309 rfl (by decide) ?_
          refine V_sameNE (pc' := 314) (tgt := 351) C (rfl) dL_law_311 (by decide) rfl ?_
          refine V_aload3 (pc' := 315) C dL_law_314 rfl ?_
          refine V_aload1 (pc' := 316) C dL_law_315 rfl ?_
          refine V_bipush (pc' := 318) C dL_law_316 rfl (by decide) ?_
          refine V_ialdE (pc' := 319) (n := 540) (f := f) (v := S.2 23) C 2 rfl (fun h hh => ⟨901, by rw [hh]; exact hD.2.1⟩) ⟨by omega, by omega, by omega⟩ (n51) dL_law_318 rfl ?_
          refine V_iconst (pc' := 320) C dL_law_319 rfl ?_
          have hM320 := KQ_er (l := l) (D := D) (cB := cB) (cC := cC) (cI := cI) (cO := cO) (cJ := cJ) (cD := cD) (ee := ee) (P := P) (S := S) (X := X) (As := [.ref (P 1), .int (iI (S.2 23)), .int (iI 0)]) (kW_setRank_1 (xX7_setRank_1 (P := P) (S := S) (X := X) (z := S.2 23) hwp (by omega) (by omega) hst) ⟨rfl, rfl⟩ (fun h hh => CW_1 hh)) (Nat.le_of_ble_eq_true rfl) (Nat.le_of_ble_eq_true rfl) (Nat.le_of_ble_eq_true rfl) (Nat.le_of_ble_eq_true rfl) ⟨Nat.le_of_ble_eq_true rfl, Nat.le_of_ble_eq_true rfl⟩
          rw [hPo] at hM320
          refine V_callSW (n := 3) [.ref o, .int (iI (S.2 23)), .int (iI 0)] C hM320 gL_law_L_setRank rfl ydL_setRank ⟨Nat.le_of_ble_eq_true rfl, Nat.le_of_ble_eq_true rfl⟩ ⟨rfl, rfl⟩ rfl (fun h hh => by rw [hh]; exact hD.1) rfl (Nat.le_of_ble_eq_true rfl) dL_law_320 ⟨by rw [RC1.1]; omega, by rw [RC1.2]; omega⟩ (fun h v h' hh hj9 => ?_)
          obtain ⟨rfl, rfl⟩ := hj9
          refine V_weak (I2 := fun x => x = h9) (fun x hx => by rw [hx]; exact hh) ?_
          refine V_ldc (pc' := 325) (n := (-900001)) (v := (-900001)) C (by decide +kernel) dL_law_323 rfl (by decide) ?_
          refine V_sameNE (pc' := 328) (tgt := 351) C (rfl) dL_law_325 (by decide) rfl ?_
          refine V_aload1 (pc' := 329) C dL_law_328 rfl ?_
          refine V_bipush (pc' := 331) C dL_law_329 rfl (by decide) ?_
          refine V_ialdE (pc' := 332) (n := 540) (f := f) (v := S.2 23) C 2 rfl (fun h hh => ⟨901, by rw [hh]; exact hD.2.1⟩) ⟨by omega, by omega, by omega⟩ (n51) dL_law_331 rfl ?_
          refine V_ifeq (tgt := 347) C (by omega) dL_law_332 (by decide) rfl (fun c_332 => ?_) (fun c_332 => ?_)
          · refine V_iconst (pc' := 348) C dL_law_347 rfl ?_
            refine V_goto (tgt := 352) C dL_law_348 (by decide) ?_
            exact V_widen (by omega) (by omega) (hend _ _)
          · refine V_aload3 (pc' := 336) C dL_law_335 rfl ?_
            refine V_iconst (pc' := 337) C dL_law_336 rfl ?_
            refine V_bipush (pc' := 339) C dL_law_337 rfl (by decide) ?_
            have hM339 := KQ_er (l := l) (D := D) (cB := cB) (cC := cC) (cI := cI) (cO := cO) (cJ := cJ) (cD := cD) (ee := ee) (P := P) (S := S) (X := X) (As := [.ref (P 1), .int (iI 0), .int (iI 10)]) (kW_setRank_2 (xX7_setRank_2 (P := P) (S := S) (X := X) hwp (TxH_ok cB) (TxH_p cB) (q := 0) (by omega) (by decide) (by decide) hst) ⟨rfl, rfl⟩ (fun h hh => CW_1 hh)) (Nat.le_of_ble_eq_true rfl) (Nat.le_of_ble_eq_true rfl) (Nat.le_of_ble_eq_true rfl) (Nat.le_of_ble_eq_true rfl) ⟨Nat.le_of_ble_eq_true rfl, Nat.le_of_ble_eq_true rfl⟩
            rw [hPo] at hM339
            refine V_callSW (n := 3) [.ref o, .int (iI 0), .int (iI 10)] C hM339 gL_law_L_setRank rfl ydL_setRank ⟨Nat.le_of_ble_eq_true rfl, Nat.le_of_ble_eq_true rfl⟩ ⟨rfl, rfl⟩ rfl (fun h hh => by rw [hh]; exact hD.1) rfl (Nat.le_of_ble_eq_true rfl) dL_law_339 ⟨by rw [RC1.1]; omega, by rw [RC1.2]; omega⟩ (fun h v h' hh hj9 => ?_)
            obtain ⟨rfl, rfl⟩ := hj9
            refine V_weak (I2 := fun x => x = h9) (fun x hx => by rw [hx]; exact hh) ?_
            refine V_ldc (pc' := 344) (n := (-900002)) (v := (-900002)) C (by decide +kernel) dL_law_342 rfl (by decide) ?_
            refine V_sameNE (pc' := 347) (tgt := 351) C (rfl) dL_law_344 (by decide) rfl ?_
            refine V_iconst (pc' := 348) C dL_law_347 rfl ?_
            refine V_goto (tgt := 352) C dL_law_348 (by decide) ?_
            exact V_widen (by omega) (by omega) (hend _ _)
      · exact absurd c_39 (by omega)
  · exact absurd c_27 (by decide)

/-! the law: how a script begins -/
theorem INV_0 : INV S0 X0 (210 * ((0 : Nat) : Int)) := by
  have e : ∀ k, k ≠ 2 → ∀ z, S0.1 k z = 0 := fun k hk z => S0_1 hk z
  have n : ∀ k, k ≠ 27 → S0.2 k = 0 := fun k hk => by rw [S0_2, if_neg hk]
  have n27 : S0.2 27 = -1 := by rw [S0_2]; rfl
  have e2 : ∀ z, 0 ≤ z → z < 48 → S0.1 2 z = -2 := fun z z0 z1 => st2N_s 48 z z0 z1
  refine ⟨⟨⟨⟨fun z _ _ => ?_, fun m _ _ => ?_, fun g _ _ => ?_, fun r _ _ => ?_, ?_, fun z _ _ => ?_⟩, ⟨?_, fun k k0 k1 => ?_⟩, ⟨?_, ?_, ?_, ?_, fun k k0 k1 => ?_⟩, fun q => ?_, ⟨fun z z0 z1 => ?_, ?_, ?_, ?_⟩, ?_, ?_, fun z _ _ => ?_⟩, KD_0, RM_0, ⟨⟨?_, ?_, ?_⟩, fun j hj => ?_, fun j hj => ?_, fun z _ _ => ?_, fun z z0 z1 => ?_, fun w w0 w1 => ?_⟩, ⟨?_, fun k k0 k1 => ?_⟩, 0, by decide, rfl⟩, UM_0⟩
  · rw [e 6 (by decide), e 7 (by decide), e 8 (by decide), e 5 (by decide)]; decide
  · rw [e 4 (by decide), e 9 (by decide)]; decide
  · rw [e 10 (by decide), e 11 (by decide)]; decide
  · rw [e 12 (by decide), e 13 (by decide), e 14 (by decide), e 15 (by decide)]; decide
  · rw [n 22 (by decide), n 23 (by decide), n27, n 28 (by decide)]; decide
  · rw [e 0 (by decide)]; decide
  · rw [n 24 (by decide)]; decide
  · rw [n 24 (by decide)] at k1; omega
  · rw [n 25 (by decide)]; decide
  · rw [n 25 (by decide)]; decide
  · rw [e 20 (by decide)]
  · rw [e 20 (by decide), n 24 (by decide)]
  · rw [n 25 (by decide)] at k1; omega
  · rw [n27] at q; exact absurd q (by decide)
  · rw [e2 z z0 z1]; decide
  · rw [n 29 (by decide)]; decide
  · rw [n 29 (by decide), n 24 (by decide)]; decide
  · decide
  · rw [n 30 (by decide)]; decide
  · rw [n 30 (by decide)]; decide
  · rw [e 21 (by decide)]; decide
  · rw [n 29 (by decide), n 24 (by decide)]; rfl
  · rw [n 29 (by decide)]; decide
  · rw [n 24 (by decide)]; decide
  · rw [n 24 (by decide)] at hj; omega
  · exact absurd (show (j : Int) < 0 from hj) (by omega)
  · rw [e 0 (by decide)]; rfl
  · rw [e2 z z0 z1, n 29 (by decide)]; rfl
  · rw [e 3 (by decide), n 29 (by decide)]; rfl
  · rw [n 25 (by decide)]; rfl
  · rw [n 25 (by decide)] at k1; omega
theorem NR_0 : NR (fun _ => 0) (fun _ => 0) S0 := by
  have e : ∀ k, k ≠ 2 → ∀ z, S0.1 k z = 0 := fun k hk z => S0_1 hk z
  have n : ∀ k, k ≠ 27 → S0.2 k = 0 := fun k hk => by rw [S0_2, if_neg hk]
  have n27 : S0.2 27 = -1 := by rw [S0_2]; rfl
  refine ⟨⟨fun z _ => by show rI 0; decide, fun z => by show rI 0; decide⟩, fun x _ _ => (e 0 (by decide) x).symm, fun m _ _ => ⟨(e 4 (by decide) m).symm, (e 9 (by decide) m).symm, fun k k0 k1 => ?_, fun j j0 j1 => ?_⟩, fun q q0 q1 => ?_, ⟨(n 22 (by decide)).symm, (n 23 (by decide)).symm, by rw [n27]; rfl, by rw [n 28 (by decide)]; rfl, (n 26 (by decide)).symm, by rw [n 29 (by decide), n 24 (by decide)]; rfl, (n 25 (by decide)).symm⟩, ⟨by rw [n 25 (by decide)]; decide, fun j j0 j1 => ?_⟩, fun k k0 k1 => ?_⟩
  · rw [e 4 (by decide)] at k1; omega
  · rw [e 9 (by decide)] at j1; omega
  · rw [n 23 (by decide)] at q1; omega
  · rw [n 25 (by decide)] at j1; omega
  · rw [n 24 (by decide)] at k1; omega
theorem WS_0 : WS 0 S0 X0 (fun _ => 0) (fun _ => 0) := ⟨INV_0, NR_0, by decide, by decide, by rw [S0_2]; rfl, by decide⟩
theorem WS_m {k k' : Nat} {S X : MSt} {f g : Int → Int} (h : WS k S X f g) (h1 : k ≤ k') (h2 : k' ≤ 58) : WS k' S X f g := ⟨INV_b h.1 (by omega) (by omega), h.2.1, by have := h.2.2.1; omega, h2, h.2.2.2.2⟩
theorem ydL_begun : yL_begun.cls ≠ "java/lang/invoke/MethodHandle" ∧ yL_begun.cls ≠ "java/lang/invoke/VarHandle" ∧ (parseMethodDescriptor yL_begun.desc).map (fun d => d.parameters.length) = some 3 := by decide +kernel
section
variable {l : Launch} {D : va_G} {cB cC cI cO cJ cD : ClassId} {ee : Nat × Nat} {na nb : Nat}
set_option maxHeartbeats 16000000 in
set_option maxRecDepth 100000 in
theorem kL_begun (hst : l.stackTraces = false) : Ct l yL_begun wsL_begun ({ frames := 22, cells := 7200, slots := 2100000, locals := 1000 } : Room) D (tyL cB cC cI cO cJ cD) ee [.ref ee.2, .ref na, .ref nb] (NH cI na nb (fun _ => 0) (fun _ => 0)) (fun h v9 h' => ∃ P S X f g, v9 = some (.ref (P 1)) ∧ WD cB cI cO ee na nb P S X f g h' ∧ WS 27 S X f g ∧ 0 < S.2 22) 7200 2100000 := by
  refine Ct_of (cc := cL_begun) (own := RL) [some (.ref ee.2), some (.ref na), some (.ref nb), none, none, none, none, none] (by decide) rfl rfl (Nat.le_of_ble_eq_true rfl) (fun i9 v9 h9 => argL [.ref ee.2, .ref na, .ref nb] 5 rfl i9 v9 h9) ?_
  intro p e s m9 args below meth c9 h0 sz hI C hr hlk hinit
  refine V_new (pc' := 3) (T := TX7) (N := 13) (ty0 := tyX7) (ci := 12) (fs := [.null, .null, .null, .null, .null, .null, .null, .null, .int 0, .int 0, .int 0, .int 0, .int 0]) 1 C (by decide +kernel) tyX7_ok (by decide +kernel) (by decide +kernel) (by decide +kernel) rfl (by decide) (Nat.le_of_ble_eq_true rfl) (Nat.le_of_ble_eq_true rfl) dL_begun_0 rfl (fun o => ?_)
  refine V_fix (fun g1 hg1 => ?_)
  obtain ⟨g0, hg0, hq0, hg1⟩ := hg1
  rw [hg0] at hq0 hg1
  have hn1 : g1 o = some (1, .inr (12, [.null, .null, .null, .null, .null, .null, .null, .null, .int 0, .int 0, .int 0, .int 0, .int 0])) := by rw [hg1]; exact hup_s
  have hf1 : Fr (fun _ => False) h0 g1 := by rw [hg1]; exact Fr.new Fr.refl hq0
  refine V_dup (pc' := 4) C rfl dL_begun_3 rfl ?_
  refine V_callI (n := 0) [] C (kX7_init (la := o)) gL_begun_X7_init (by decide +kernel) (by decide +kernel) (by decide +kernel) rfl ydX7_init ⟨Nat.le_of_ble_eq_true rfl, Nat.le_of_ble_eq_true rfl⟩ ⟨rfl, rfl⟩ rfl (fun h hh => by rw [hh]; exact hn1) rfl (Nat.le_of_ble_eq_true rfl) dL_begun_4 ⟨Nat.le_of_ble_eq_true rfl, Nat.le_of_ble_eq_true rfl⟩ (fun h v h1 hh hj9 => ?_)
  obtain ⟨rfl, ⟨P0, hP1, hc1⟩, hF1⟩ := hj9
  rw [hh] at hF1
  have hN1 : NH cI na nb (fun _ => 0) (fun _ => 0) h1 := (hI.fr hf1 (fun z => z) (fun z => z)).fr hF1 (by unfold T7; omega) (by unfold T7; omega)
  refine V_weak (I2 := WD cB cI cO ee na nb P0 S0 X0 (fun _ => 0) (fun _ => 0)) (fun x hx => by rw [hx]; exact ⟨hc1, hN1⟩) ?_
  refine V_astore3 (pc' := 8) C dL_begun_7 rfl (by decide) rfl ?_
  refine V_iconst (pc' := 9) C dL_begun_8 rfl ?_
  refine V_istore4 (pc' := 11) C dL_begun_9 rfl (by decide) rfl ?_
  refine V_iconst (pc' := 12) C dL_begun_11 rfl ?_
  refine V_aload0 (pc' := 13) C dL_begun_12 rfl ?_
  refine V_iconst (pc' := 14) C dL_begun_13 rfl ?_
  refine V_iconst (pc' := 15) C dL_begun_14 rfl ?_
  refine V_callS (n := 3) [.ref ee.2, .int (iI 0), .int (iI 4)] C (kL_in (by omega) (by omega)) gL_begun_L_in rfl ydL_in ⟨Nat.le_of_ble_eq_true rfl, Nat.le_of_ble_eq_true rfl⟩ ⟨rfl, rfl⟩ rfl (fun h hh => trivial) rfl (Nat.le_of_ble_eq_true rfl) dL_begun_15 ⟨by dsimp only; omega, by dsimp only; omega⟩ (fun h v h' hh hj9 => ?_)
  obtain ⟨⟨z15, hz15, rfl⟩, rfl⟩ := hj9
  refine V_weak (I2 := WD cB cI cO ee na nb P0 S0 X0 (fun _ => 0) (fun _ => 0)) (fun x hx => by rw [hx]; exact hh) ?_
  refine V_iadd (pc' := 19) C dL_begun_18 rfl ?_
  refine V_istore5 (pc' := 21) C dL_begun_19 rfl (by decide) rfl ?_
  refine V_forC (N := (1 + z15).toNat) (fun j => fun x => ∃ P S X f g, WD cB cI cO ee na nb P S X f g x ∧ P 1 = o ∧ WS (6 * j) S X f g ∧ S.2 22 = (j : Int)) (fun j => [some (.ref ee.2), some (.ref na), some (.ref nb), some (.ref o), some (.int (iI 1)), some (.int (iI (1 + z15 - (j : Int)))), none, none]) (fun _ => True) (fun j => 20 + 1452 * j) (fun j => 1300 + 438400 * j) trivial (fun x hx => ⟨_, _, _, _, _, hx, hP1, WS_0, by rw [S0_2]; rfl⟩) (by simp) ⟨Nat.le_of_ble_eq_true rfl, Nat.le_of_ble_eq_true rfl⟩ (fun j hj hv hk => ?_) (fun hv => ?_)
  · refine V_fix (fun h9 hh9 => ?_)
    obtain ⟨P, S, X, f, g, hD, hPo, hW, hm⟩ := hh9
    refine V_weak (I2 := WD cB cI cO ee na nb P S X f g) (fun x hx => by rw [hx]; exact hD) ?_
    refine V_iload5 (pc' := 23) C dL_begun_21 rfl ?_
    refine V_ifle (tgt := 266) C (by omega) dL_begun_23 (by decide) rfl (fun c_23 => ?_) (fun c_23 => ?_)
    · exact absurd c_23 (by omega)
    · obtain ⟨hIv, hnr, h55, hk9, h31, hlx⟩ := id hW
      have h0s : uG S 31 0 = S := by rw [← h31]; exact uG_id S 31
      have hwp := hIv.1.1.1
      have w5 := hwp.2.2.2.2.1
      have n50 := hnr.2.2.2.2.1.1
      have hT : addMacroX S = (S.2 22, uG S 22 (S.2 22 + 1)) := by
        rw [show addMacroX S = _ from if_neg (by omega), h0s]
      have hans : ansL (addMacroX S) = S.2 22 := by rw [hT]; exact ansL_0 h31
      obtain ⟨ms9, len9, h8, h9, hM⟩ := KL_addMacro (D := D) (cB := cB) (cC := cC) (cI := cI) (cO := cO) (cJ := cJ) (cD := cD) (ee := ee) (P := P) hIv hst
      have hlb := len_b hIv (by omega) hlx h9
      rw [hPo] at hM
      refine V_aload1 (pc' := 27) C dL_begun_26 rfl ?_
      refine V_bipush (pc' := 29) C dL_begun_27 rfl (by decide) ?_
      refine V_dup2 (pc' := 30) C rfl rfl dL_begun_29 rfl ?_
      refine V_iald (pc' := 31) (n := 540) (f := f) C 2 rfl (fun h hh => ⟨901, hh.2.1⟩) ⟨by omega, by omega, by omega⟩ dL_begun_30 rfl ?_
      refine V_iconst (pc' := 32) C dL_begun_31 rfl ?_
      refine V_iadd (pc' := 33) C dL_begun_32 rfl ?_
      refine V_iast (pc' := 34) (n := 540) (f := f) (I2 := WD cB cI cO ee na nb P S X (upZ f 50 ((f 50) + 1)) g) C 2 rfl (fun h hh => ⟨901, hh.2.1, hh.a hIv⟩) ⟨by omega, by omega, by omega⟩ dL_begun_33 rfl ?_
      refine V_iload4 (pc' := 36) C dL_begun_34 rfl ?_
      refine V_aload3 (pc' := 37) C dL_begun_36 rfl ?_
      refine V_callSW (n := 1) [.ref o] C hM gL_begun_L_addMacro rfl ydL_addMacro ⟨Nat.le_of_ble_eq_true rfl, Nat.le_of_ble_eq_true rfl⟩ ⟨rfl, rfl⟩ rfl (fun h hh => hh.1) rfl (Nat.le_of_ble_eq_true rfl) dL_begun_37 ⟨by dsimp only; omega, by dsimp only; omega⟩ (fun h v h' hh hj9 => ?_)
      obtain ⟨rfl, ⟨P2, X2, hc2, hp2, hi2, hx2⟩, hF2⟩ := hj9
      refine V_weak (I2 := WD cB cI cO ee na nb P2 ((addMacroX S).2) X2 (upZ f 50 ((f 50) + 1)) g) (fun x hx => by rw [hx]; exact hh.k hF2 hc2) ?_
      have hPo2 : P2 1 = o := hp2.trans hPo
      have hm2 : (uG S 22 (S.2 22 + 1)).2 22 = (j : Int) + 1 := by show S.2 22 + 1 = _; rw [hm]
      have hW2 : WS (6 * j) (uG S 22 (S.2 22 + 1)) X2 (upZ f 50 (f 50 + 1)) g := ⟨by rw [hT] at hi2; exact hi2, hnr.s22 hwp, by rw [upZ_n (by decide)]; exact h55, hk9, h31, by omega⟩
      rw [hT] at hc2 hi2
      refine V_weak (I2 := WD cB cI cO ee na nb P2 (uG S 22 (S.2 22 + 1)) X2 (upZ f 50 (f 50 + 1)) g) (fun x hx => by rw [hT] at hx; exact hx) ?_
      refine V_aload1 (pc' := 41) C dL_begun_40 rfl ?_
      refine V_bipush (pc' := 43) C dL_begun_41 rfl (by decide) ?_
      refine V_ialdE (pc' := 44) (n := 540) (f := upZ f 50 ((f 50) + 1)) (v := ((j : Int) + 1)) C 2 rfl (fun h hh => ⟨901, hh.2.1⟩) ⟨by omega, by omega, by omega⟩ (by rw [upZ_s, n50, hm]) dL_begun_43 rfl ?_
      refine V_iconst (pc' := 45) C dL_begun_44 rfl ?_
      refine V_isubE (pc' := 46) (v := (j : Int)) C (by omega) dL_begun_45 rfl ?_
      refine V_sameNE (pc' := 49) (tgt := 128) C (hans.trans hm) dL_begun_46 (by decide) rfl ?_
      refine V_aload3 (pc' := 50) C dL_begun_49 rfl ?_
      refine V_aload1 (pc' := 51) C dL_begun_50 rfl ?_
      refine V_aload1 (pc' := 52) C dL_begun_51 rfl ?_
      refine V_bipush (pc' := 54) C dL_begun_52 rfl (by decide) ?_
      refine V_ialdE (pc' := 55) (n := 540) (f := upZ f 50 ((f 50) + 1)) (v := ((j : Int) + 1)) C 2 rfl (fun h hh => ⟨901, hh.2.1⟩) ⟨by omega, by omega, by omega⟩ ((hW2.2.1.2.2.2.2.1.1).trans hm2) dL_begun_54 rfl ?_
      refine V_iconst (pc' := 56) C dL_begun_55 rfl ?_
      refine V_isubE (pc' := 57) (v := (j : Int)) C (by omega) dL_begun_56 rfl ?_
      refine V_iconst (pc' := 58) C dL_begun_57 rfl ?_
      refine V_iconst (pc' := 59) C dL_begun_58 rfl ?_
      refine V_iconst (pc' := 60) C dL_begun_59 rfl ?_
      refine V_aload0 (pc' := 61) C dL_begun_60 rfl ?_
      refine V_iconst (pc' := 62) C dL_begun_61 rfl ?_
      refine V_iload5 (pc' := 64) C dL_begun_62 rfl ?_
      refine V_imul (pc' := 65) C dL_begun_64 rfl ?_
      refine V_iconst (pc' := 66) C dL_begun_65 rfl ?_
      refine V_callS (n := 3) [.ref ee.2, .int (iI (2 * (1 + z15 - (j : Int)))), .int (iI 5)] C (kL_in (by omega) (by omega)) gL_begun_L_in rfl ydL_in ⟨Nat.le_of_ble_eq_true rfl, Nat.le_of_ble_eq_true rfl⟩ ⟨rfl, rfl⟩ rfl (fun h hh => trivial) rfl (Nat.le_of_ble_eq_true rfl) dL_begun_66 ⟨by dsimp only; omega, by dsimp only; omega⟩ (fun h v h' hh hj9 => ?_)
      obtain ⟨⟨z66, hz66, rfl⟩, rfl⟩ := hj9
      refine V_weak (I2 := WD cB cI cO ee na nb P2 (uG S 22 (S.2 22 + 1)) X2 (upZ f 50 ((f 50) + 1)) g) (fun x hx => by rw [hx]; exact hh) ?_
      refine V_iadd (pc' := 70) C dL_begun_69 rfl ?_
      refine V_iconst (pc' := 71) C dL_begun_70 rfl ?_
      refine V_aload0 (pc' := 72) C dL_begun_71 rfl ?_
      refine V_iconst (pc' := 73) C dL_begun_72 rfl ?_
      refine V_iload5 (pc' := 75) C dL_begun_73 rfl ?_
      refine V_imul (pc' := 76) C dL_begun_75 rfl ?_
      refine V_iconst (pc' := 77) C dL_begun_76 rfl ?_
      refine V_iadd (pc' := 78) C dL_begun_77 rfl ?_
      refine V_bipush (pc' := 80) C dL_begun_78 rfl (by decide) ?_
      refine V_callS (n := 3) [.ref ee.2, .int (iI ((2 * (1 + z15 - (j : Int))) + 1)), .int (iI 6)] C (kL_in (by omega) (by omega)) gL_begun_L_in rfl ydL_in ⟨Nat.le_of_ble_eq_true rfl, Nat.le_of_ble_eq_true rfl⟩ ⟨rfl, rfl⟩ rfl (fun h hh => trivial) rfl (Nat.le_of_ble_eq_true rfl) dL_begun_80 ⟨by dsimp only; omega, by dsimp only; omega⟩ (fun h v h' hh hj9 => ?_)
      obtain ⟨⟨z80, hz80, rfl⟩, rfl⟩ := hj9
      refine V_weak (I2 := WD cB cI cO ee na nb P2 (uG S 22 (S.2 22 + 1)) X2 (upZ f 50 ((f 50) + 1)) g) (fun x hx => by rw [hx]; exact hh) ?_
      refine V_iadd (pc' := 84) C dL_begun_83 rfl ?_
      have hM84 := kO_isRange (l := l) (D := D) (cB := cB) (cC := cC) (cI := cI) (cO := cO) (cJ := cJ) (cD := cD) (ee := ee) (na := na) (nb := nb) (P := P2) (S := (uG S 22 (S.2 22 + 1))) (X := X2) (f := (upZ f 50 ((f 50) + 1))) (g := g) (k := (6 * j)) (q := ((j : Int))) (c := (0)) (r := (0)) (c2 := (1 + z66)) (r2 := (2 + z80)) (by omega) (by omega) (by omega) (by omega) (by omega) hst hW2 (by omega)
      unfold OKf at hM84
      rw [hPo2] at hM84
      refine V_callS (n := 7) [.ref o, .ref na, .int (iI (j : Int)), .int (iI 0), .int (iI 0), .int (iI (1 + z66)), .int (iI (2 + z80))] C hM84 gL_begun_L_isRange rfl ydL_isRange ⟨Nat.le_of_ble_eq_true rfl, Nat.le_of_ble_eq_true rfl⟩ ⟨rfl, rfl⟩ rfl (fun h hh => hh) rfl (Nat.le_of_ble_eq_true rfl) dL_begun_84 ⟨by dsimp only; omega, by dsimp only; omega⟩ (fun h v h' hh hj9 => ?_)
      obtain ⟨rfl, P84, S84, X84, f84, g84, hD84, hp84, hW84, hs84⟩ := hj9
      have hPo84 : P84 1 = o := hp84.trans hPo2
      have hm84 := hs84.trans hm2
      refine V_weak (I2 := WD cB cI cO ee na nb P84 S84 X84 f84 g84) (fun x hx => by rw [hx]; exact hD84) ?_
      refine V_ifeq (tgt := 128) C (by decide) dL_begun_87 (by decide) rfl (fun c_87 => ?_) (fun c_87 => ?_)
      · exact absurd c_87 (by decide)
      · refine V_aload3 (pc' := 91) C dL_begun_90 rfl ?_
        refine V_aload1 (pc' := 92) C dL_begun_91 rfl ?_
        refine V_aload1 (pc' := 93) C dL_begun_92 rfl ?_
        refine V_bipush (pc' := 95) C dL_begun_93 rfl (by decide) ?_
        refine V_ialdE (pc' := 96) (n := 540) (f := f84) (v := ((j : Int) + 1)) C 2 rfl (fun h hh => ⟨901, hh.2.1⟩) ⟨by omega, by omega, by omega⟩ ((hW84.2.1.2.2.2.2.1.1).trans hm84) dL_begun_95 rfl ?_
        refine V_iconst (pc' := 97) C dL_begun_96 rfl ?_
        refine V_isubE (pc' := 98) (v := (j : Int)) C (by omega) dL_begun_97 rfl ?_
        refine V_aload0 (pc' := 99) C dL_begun_98 rfl ?_
        refine V_bipush (pc' := 101) C dL_begun_99 rfl (by decide) ?_
        refine V_iload5 (pc' := 103) C dL_begun_101 rfl ?_
        refine V_iadd (pc' := 104) C dL_begun_103 rfl ?_
        refine V_iconst (pc' := 105) C dL_begun_104 rfl ?_
        refine V_callS (n := 3) [.ref ee.2, .int (iI (10 + (1 + z15 - (j : Int)))), .int (iI 3)] C (kL_in (by omega) (by omega)) gL_begun_L_in rfl ydL_in ⟨Nat.le_of_ble_eq_true rfl, Nat.le_of_ble_eq_true rfl⟩ ⟨rfl, rfl⟩ rfl (fun h hh => trivial) rfl (Nat.le_of_ble_eq_true rfl) dL_begun_105 ⟨by dsimp only; omega, by dsimp only; omega⟩ (fun h v h' hh hj9 => ?_)
        obtain ⟨⟨z105, hz105, rfl⟩, rfl⟩ := hj9
        refine V_weak (I2 := WD cB cI cO ee na nb P84 S84 X84 f84 g84) (fun x hx => by rw [hx]; exact hh) ?_
        refine V_aload0 (pc' := 109) C dL_begun_108 rfl ?_
        refine V_bipush (pc' := 111) C dL_begun_109 rfl (by decide) ?_
        refine V_iload5 (pc' := 113) C dL_begun_111 rfl ?_
        refine V_iadd (pc' := 114) C dL_begun_113 rfl ?_
        refine V_iconst (pc' := 115) C dL_begun_114 rfl ?_
        refine V_callS (n := 3) [.ref ee.2, .int (iI (14 + (1 + z15 - (j : Int)))), .int (iI 3)] C (kL_in (by omega) (by omega)) gL_begun_L_in rfl ydL_in ⟨Nat.le_of_ble_eq_true rfl, Nat.le_of_ble_eq_true rfl⟩ ⟨rfl, rfl⟩ rfl (fun h hh => trivial) rfl (Nat.le_of_ble_eq_true rfl) dL_begun_115 ⟨by dsimp only; omega, by dsimp only; omega⟩ (fun h v h' hh hj9 => ?_)
        obtain ⟨⟨z115, hz115, rfl⟩, rfl⟩ := hj9
        refine V_weak (I2 := WD cB cI cO ee na nb P84 S84 X84 f84 g84) (fun x hx => by rw [hx]; exact hh) ?_
        have hM118 := kO_isRecorded (l := l) (D := D) (cB := cB) (cC := cC) (cI := cI) (cO := cO) (cJ := cJ) (cD := cD) (ee := ee) (na := na) (nb := nb) (P := P84) (S := S84) (X := X84) (f := f84) (g := g84) (k := ((6 * j) + 1)) (q := ((j : Int))) (c := (z105)) (r := (z115)) (by omega) (by omega) (by omega) hst hW84 (by omega)
        unfold OKf at hM118
        rw [hPo84] at hM118
        refine V_callS (n := 5) [.ref o, .ref na, .int (iI (j : Int)), .int (iI z105), .int (iI z115)] C hM118 gL_begun_L_isRecorded rfl ydL_isRecorded ⟨Nat.le_of_ble_eq_true rfl, Nat.le_of_ble_eq_true rfl⟩ ⟨rfl, rfl⟩ rfl (fun h hh => hh) rfl (Nat.le_of_ble_eq_true rfl) dL_begun_118 ⟨by dsimp only; omega, by dsimp only; omega⟩ (fun h v h' hh hj9 => ?_)
        obtain ⟨rfl, P118, S118, X118, f118, g118, hD118, hp118, hW118, hs118⟩ := hj9
        have hPo118 : P118 1 = o := hp118.trans hPo84
        have hm118 := hs118.trans hm84
        refine V_weak (I2 := WD cB cI cO ee na nb P118 S118 X118 f118 g118) (fun x hx => by rw [hx]; exact hD118) ?_
        refine V_ifeq (tgt := 128) C (by decide) dL_begun_121 (by decide) rfl (fun c_121 => ?_) (fun c_121 => ?_)
        · exact absurd c_121 (by decide)
        · refine V_iconst (pc' := 125) C dL_begun_124 rfl ?_
          refine V_goto (tgt := 129) C dL_begun_125 (by decide) ?_
          refine V_iand11 (pc' := 130) C dL_begun_129 rfl ?_
          refine V_istore4 (pc' := 132) C dL_begun_130 rfl (by decide) rfl ?_
          refine V_iconst (pc' := 133) C dL_begun_132 rfl ?_
          refine V_istore6 (pc' := 135) C dL_begun_133 rfl (by decide) rfl ?_
          refine V_forC (N := 3) (fun i => fun x => ∃ P S X f g, WD cB cI cO ee na nb P S X f g x ∧ P 1 = o ∧ WS (6 * j + 2 + i) S X f g ∧ S.2 22 = (j : Int) + 1) (fun i => [some (.ref ee.2), some (.ref na), some (.ref nb), some (.ref o), some (.int (iI 1)), some (.int (iI (1 + z15 - (j : Int)))), some (.int (iI i)), none]) (fun _ => True) (fun i => 20 + 1452 * j + 492 + 240 * i) (fun i => 1300 + 438400 * j + 182000 + 64100 * i) trivial (fun x hx => ⟨_, _, _, _, _, hx, hPo118, WS_m hW118 (by omega) (by omega), hm118⟩) rfl ⟨by omega, by omega⟩ (fun i hj hv hk => ?_) (fun hv => ?_)
          · have hk9i := hk
            refine V_fix (fun h8 hh8 => ?_)
            obtain ⟨Pi, Si, Xi, fi, gi, hDi, hPoi, hWi, hmi⟩ := hh8
            refine V_weak (I2 := WD cB cI cO ee na nb Pi Si Xi fi gi) (fun x hx => by rw [hx]; exact hDi) ?_
            refine V_iload6 (pc' := 137) C dL_begun_135 rfl ?_
            refine V_iconst (pc' := 138) C dL_begun_137 rfl ?_
            refine V_icmpge (tgt := 250) C ⟨by omega, by omega⟩ dL_begun_138 (by decide) rfl (fun c_138 => ?_) (fun c_138 => ?_)
            · exact absurd c_138 (by omega)
            · refine V_aload0 (pc' := 142) C dL_begun_141 rfl ?_
              refine V_bipush (pc' := 144) C dL_begun_142 rfl (by decide) ?_
              refine V_bipush (pc' := 146) C dL_begun_144 rfl (by decide) ?_
              refine V_iload5 (pc' := 148) C dL_begun_146 rfl ?_
              refine V_imul (pc' := 149) C dL_begun_148 rfl ?_
              refine V_iadd (pc' := 150) C dL_begun_149 rfl ?_
              refine V_iload6 (pc' := 152) C dL_begun_150 rfl ?_
              refine V_iadd (pc' := 153) C dL_begun_152 rfl ?_
              refine V_iconst (pc' := 154) C dL_begun_153 rfl ?_
              refine V_callS (n := 3) [.ref ee.2, .int (iI ((20 + (9 * (1 + z15 - (j : Int)))) + i)), .int (iI 4)] C (kL_in (by omega) (by omega)) gL_begun_L_in rfl ydL_in ⟨Nat.le_of_ble_eq_true rfl, Nat.le_of_ble_eq_true rfl⟩ ⟨rfl, rfl⟩ rfl (fun h hh => trivial) rfl (Nat.le_of_ble_eq_true rfl) dL_begun_154 ⟨by dsimp only; omega, by dsimp only; omega⟩ (fun h v h' hh hj9 => ?_)
              obtain ⟨⟨z154, hz154, rfl⟩, rfl⟩ := hj9
              refine V_weak (I2 := WD cB cI cO ee na nb Pi Si Xi fi gi) (fun x hx => by rw [hx]; exact hh) ?_
              refine V_istore7 (pc' := 159) C dL_begun_157 rfl (by decide) rfl ?_
              refine V_iload4 (pc' := 161) C dL_begun_159 rfl ?_
              refine V_aload3 (pc' := 162) C dL_begun_161 rfl ?_
              refine V_aload1 (pc' := 163) C dL_begun_162 rfl ?_
              refine V_aload2 (pc' := 164) C dL_begun_163 rfl ?_
              refine V_iload7 (pc' := 166) C dL_begun_164 rfl ?_
              refine V_ifne (tgt := 174) C (by omega) dL_begun_166 (by decide) rfl (fun c_166 => ?_) (fun c_166 => ?_)
              · refine V_iload7 (pc' := 176) C dL_begun_174 rfl ?_
                refine V_iconst (pc' := 177) C dL_begun_176 rfl ?_
                refine V_icmpne (tgt := 185) C ⟨by omega, by decide⟩ dL_begun_177 (by decide) rfl (fun c_177 => ?_) (fun c_177 => ?_)
                · refine V_bipush (pc' := 187) C dL_begun_185 rfl (by decide) ?_
                  refine V_aload0 (pc' := 188) C dL_begun_187 rfl ?_
                  refine V_bipush (pc' := 190) C dL_begun_188 rfl (by decide) ?_
                  refine V_bipush (pc' := 192) C dL_begun_190 rfl (by decide) ?_
                  refine V_iload5 (pc' := 194) C dL_begun_192 rfl ?_
                  refine V_imul (pc' := 195) C dL_begun_194 rfl ?_
                  refine V_iadd (pc' := 196) C dL_begun_195 rfl ?_
                  refine V_iload6 (pc' := 198) C dL_begun_196 rfl ?_
                  refine V_iadd (pc' := 199) C dL_begun_198 rfl ?_
                  refine V_iconst (pc' := 200) C dL_begun_199 rfl ?_
                  refine V_callS (n := 3) [.ref ee.2, .int (iI ((23 + (9 * (1 + z15 - (j : Int)))) + i)), .int (iI 3)] C (kL_in (by omega) (by omega)) gL_begun_L_in rfl ydL_in ⟨Nat.le_of_ble_eq_true rfl, Nat.le_of_ble_eq_true rfl⟩ ⟨rfl, rfl⟩ rfl (fun h hh => trivial) rfl (Nat.le_of_ble_eq_true rfl) dL_begun_200 ⟨by dsimp only; omega, by dsimp only; omega⟩ (fun h v h' hh hj9 => ?_)
                  obtain ⟨⟨z200, hz200, rfl⟩, rfl⟩ := hj9
                  refine V_weak (I2 := WD cB cI cO ee na nb Pi Si Xi fi gi) (fun x hx => by rw [hx]; exact hh) ?_
                  refine V_aload0 (pc' := 204) C dL_begun_203 rfl ?_
                  refine V_bipush (pc' := 206) C dL_begun_204 rfl (by decide) ?_
                  refine V_bipush (pc' := 208) C dL_begun_206 rfl (by decide) ?_
                  refine V_iload5 (pc' := 210) C dL_begun_208 rfl ?_
                  refine V_imul (pc' := 211) C dL_begun_210 rfl ?_
                  refine V_iadd (pc' := 212) C dL_begun_211 rfl ?_
                  refine V_iload6 (pc' := 214) C dL_begun_212 rfl ?_
                  refine V_iadd (pc' := 215) C dL_begun_214 rfl ?_
                  refine V_iconst (pc' := 216) C dL_begun_215 rfl ?_
                  refine V_callS (n := 3) [.ref ee.2, .int (iI ((26 + (9 * (1 + z15 - (j : Int)))) + i)), .int (iI 3)] C (kL_in (by omega) (by omega)) gL_begun_L_in rfl ydL_in ⟨Nat.le_of_ble_eq_true rfl, Nat.le_of_ble_eq_true rfl⟩ ⟨rfl, rfl⟩ rfl (fun h hh => trivial) rfl (Nat.le_of_ble_eq_true rfl) dL_begun_216 ⟨by dsimp only; omega, by dsimp only; omega⟩ (fun h v h' hh hj9 => ?_)
                  obtain ⟨⟨z216, hz216, rfl⟩, rfl⟩ := hj9
                  refine V_weak (I2 := WD cB cI cO ee na nb Pi Si Xi fi gi) (fun x hx => by rw [hx]; exact hh) ?_
                  refine V_aload0 (pc' := 220) C dL_begun_219 rfl ?_
                  refine V_bipush (pc' := 222) C dL_begun_220 rfl (by decide) ?_
                  refine V_bipush (pc' := 224) C dL_begun_222 rfl (by decide) ?_
                  refine V_iload5 (pc' := 226) C dL_begun_224 rfl ?_
                  refine V_imul (pc' := 227) C dL_begun_226 rfl ?_
                  refine V_iadd (pc' := 228) C dL_begun_227 rfl ?_
                  refine V_iload6 (pc' := 230) C dL_begun_228 rfl ?_
                  refine V_iadd (pc' := 231) C dL_begun_230 rfl ?_
                  refine V_bipush (pc' := 233) C dL_begun_231 rfl (by decide) ?_
                  refine V_callS (n := 3) [.ref ee.2, .int (iI ((20 + (9 * (1 + z15 - (j : Int)))) + i)), .int (iI 7)] C (kL_in (by omega) (by omega)) gL_begun_L_in rfl ydL_in ⟨Nat.le_of_ble_eq_true rfl, Nat.le_of_ble_eq_true rfl⟩ ⟨rfl, rfl⟩ rfl (fun h hh => trivial) rfl (Nat.le_of_ble_eq_true rfl) dL_begun_233 ⟨by dsimp only; omega, by dsimp only; omega⟩ (fun h v h' hh hj9 => ?_)
                  obtain ⟨⟨z233, hz233, rfl⟩, rfl⟩ := hj9
                  refine V_weak (I2 := WD cB cI cO ee na nb Pi Si Xi fi gi) (fun x hx => by rw [hx]; exact hh) ?_
                  refine V_iconst (pc' := 237) C dL_begun_236 rfl ?_
                  refine V_isub (pc' := 238) C dL_begun_237 rfl ?_
                  have hM238 := kO_isSet (l := l) (D := D) (cB := cB) (cC := cC) (cI := cI) (cO := cO) (cJ := cJ) (cD := cD) (ee := ee) (na := na) (nb := nb) (P := Pi) (S := Si) (X := Xi) (f := fi) (g := gi) (k := (6 * j + 2 + i)) (a := (97)) (c := (z200)) (r := (z216)) (n := (z233 - 3)) (by omega) (by omega) (by omega) (by omega) hst hWi (by omega)
                  unfold OKf at hM238
                  rw [hPoi] at hM238
                  refine V_callS (n := 7) [.ref o, .ref na, .ref nb, .int (iI 97), .int (iI z200), .int (iI z216), .int (iI (z233 - 3))] C hM238 gL_begun_L_isSet rfl ydL_isSet ⟨Nat.le_of_ble_eq_true rfl, Nat.le_of_ble_eq_true rfl⟩ ⟨rfl, rfl⟩ rfl (fun h hh => hh) rfl (Nat.le_of_ble_eq_true rfl) dL_begun_238 ⟨by dsimp only; omega, by dsimp only; omega⟩ (fun h v h' hh hj9 => ?_)
                  obtain ⟨rfl, P238, S238, X238, f238, g238, hD238, hp238, hW238, hs238⟩ := hj9
                  have hPo238 : P238 1 = o := hp238.trans hPoi
                  have hm238 := hs238.trans hmi
                  refine V_weak (I2 := WD cB cI cO ee na nb P238 S238 X238 f238 g238) (fun x hx => by rw [hx]; exact hD238) ?_
                  refine V_iand11 (pc' := 242) C dL_begun_241 rfl ?_
                  refine V_istore4 (pc' := 244) C dL_begun_242 rfl (by decide) rfl ?_
                  refine V_iinc6 (pc' := 247) C dL_begun_244 rfl (by decide) rfl ?_
                  refine V_goto (tgt := 135) C dL_begun_247 (by decide) ?_
                  refine V_widen (k := 20 + 1452 * j + 492 + 240 * (i + 1)) (n := 1300 + 438400 * j + 182000 + 64100 * (i + 1)) (by omega) (by omega) ?_
                  refine V_locals (L2 := [some (.ref ee.2), some (.ref na), some (.ref nb), some (.ref o), some (.int (iI 1)), some (.int (iI (1 + z15 - (j : Int)))), some (.int (iI ((i + 1 : Nat) : Int))), none]) (fun i v hv => ?_) (V_weak (fun x9 hx9 => ?_) (hk9i trivial))
                  · rcases i with _ | _ | _ | _ | _ | _ | _ | _ | i
                    all_goals (first | exact hv | (simpa using hv; done) | (cases hv; done))
                  · exact ⟨P238, S238, X238, f238, g238, hx9, hPo238, WS_m hW238 (by omega) (by omega), hm238⟩
                · refine V_bipush (pc' := 182) C dL_begun_180 rfl (by decide) ?_
                  refine V_goto (tgt := 187) C dL_begun_182 (by decide) ?_
                  refine V_aload0 (pc' := 188) C dL_begun_187 rfl ?_
                  refine V_bipush (pc' := 190) C dL_begun_188 rfl (by decide) ?_
                  refine V_bipush (pc' := 192) C dL_begun_190 rfl (by decide) ?_
                  refine V_iload5 (pc' := 194) C dL_begun_192 rfl ?_
                  refine V_imul (pc' := 195) C dL_begun_194 rfl ?_
                  refine V_iadd (pc' := 196) C dL_begun_195 rfl ?_
                  refine V_iload6 (pc' := 198) C dL_begun_196 rfl ?_
                  refine V_iadd (pc' := 199) C dL_begun_198 rfl ?_
                  refine V_iconst (pc' := 200) C dL_begun_199 rfl ?_
                  refine V_callS (n := 3) [.ref ee.2, .int (iI ((23 + (9 * (1 + z15 - (j : Int)))) + i)), .int (iI 3)] C (kL_in (by omega) (by omega)) gL_begun_L_in rfl ydL_in ⟨Nat.le_of_ble_eq_true rfl, Nat.le_of_ble_eq_true rfl⟩ ⟨rfl, rfl⟩ rfl (fun h hh => trivial) rfl (Nat.le_of_ble_eq_true rfl) dL_begun_200 ⟨by dsimp only; omega, by dsimp only; omega⟩ (fun h v h' hh hj9 => ?_)
                  obtain ⟨⟨z200, hz200, rfl⟩, rfl⟩ := hj9
                  refine V_weak (I2 := WD cB cI cO ee na nb Pi Si Xi fi gi) (fun x hx => by rw [hx]; exact hh) ?_
                  refine V_aload0 (pc' := 204) C dL_begun_203 rfl ?_
                  refine V_bipush (pc' := 206) C dL_begun_204 rfl (by decide) ?_
                  refine V_bipush (pc' := 208) C dL_begun_206 rfl (by decide) ?_
                  refine V_iload5 (pc' := 210) C dL_begun_208 rfl ?_
                  refine V_imul (pc' := 211) C dL_begun_210 rfl ?_
                  refine V_iadd (pc' := 212) C dL_begun_211 rfl ?_
                  refine V_iload6 (pc' := 214) C dL_begun_212 rfl ?_
                  refine V_iadd (pc' := 215) C dL_begun_214 rfl ?_
                  refine V_iconst (pc' := 216) C dL_begun_215 rfl ?_
                  refine V_callS (n := 3) [.ref ee.2, .int (iI ((26 + (9 * (1 + z15 - (j : Int)))) + i)), .int (iI 3)] C (kL_in (by omega) (by omega)) gL_begun_L_in rfl ydL_in ⟨Nat.le_of_ble_eq_true rfl, Nat.le_of_ble_eq_true rfl⟩ ⟨rfl, rfl⟩ rfl (fun h hh => trivial) rfl (Nat.le_of_ble_eq_true rfl) dL_begun_216 ⟨by dsimp only; omega, by dsimp only; omega⟩ (fun h v h' hh hj9 => ?_)
                  obtain ⟨⟨z216, hz216, rfl⟩, rfl⟩ := hj9
                  refine V_weak (I2 := WD cB cI cO ee na nb Pi Si Xi fi gi) (fun x hx => by rw [hx]; exact hh) ?_
                  refine V_aload0 (pc' := 220) C dL_begun_219 rfl ?_
                  refine V_bipush (pc' := 222) C dL_begun_220 rfl (by decide) ?_
                  refine V_bipush (pc' := 224) C dL_begun_222 rfl (by decide) ?_
                  refine V_iload5 (pc' := 226) C dL_begun_224 rfl ?_
                  refine V_imul (pc' := 227) C dL_begun_226 rfl ?_
                  refine V_iadd (pc' := 228) C dL_begun_227 rfl ?_
                  refine V_iload6 (pc' := 230) C dL_begun_228 rfl ?_
                  refine V_iadd (pc' := 231) C dL_begun_230 rfl ?_
                  refine V_bipush (pc' := 233) C dL_begun_231 rfl (by decide) ?_
                  refine V_callS (n := 3) [.ref ee.2, .int (iI ((20 + (9 * (1 + z15 - (j : Int)))) + i)), .int (iI 7)] C (kL_in (by omega) (by omega)) gL_begun_L_in rfl ydL_in ⟨Nat.le_of_ble_eq_true rfl, Nat.le_of_ble_eq_true rfl⟩ ⟨rfl, rfl⟩ rfl (fun h hh => trivial) rfl (Nat.le_of_ble_eq_true rfl) dL_begun_233 ⟨by dsimp only; omega, by dsimp only; omega⟩ (fun h v h' hh hj9 => ?_)
                  obtain ⟨⟨z233, hz233, rfl⟩, rfl⟩ := hj9
                  refine V_weak (I2 := WD cB cI cO ee na nb Pi Si Xi fi gi) (fun x hx => by rw [hx]; exact hh) ?_
                  refine V_iconst (pc' := 237) C dL_begun_236 rfl ?_
                  refine V_isub (pc' := 238) C dL_begun_237 rfl ?_
                  have hM238 := kO_isSet (l := l) (D := D) (cB := cB) (cC := cC) (cI := cI) (cO := cO) (cJ := cJ) (cD := cD) (ee := ee) (na := na) (nb := nb) (P := Pi) (S := Si) (X := Xi) (f := fi) (g := gi) (k := (6 * j + 2 + i)) (a := (99)) (c := (z200)) (r := (z216)) (n := (z233 - 3)) (by omega) (by omega) (by omega) (by omega) hst hWi (by omega)
                  unfold OKf at hM238
                  rw [hPoi] at hM238
                  refine V_callS (n := 7) [.ref o, .ref na, .ref nb, .int (iI 99), .int (iI z200), .int (iI z216), .int (iI (z233 - 3))] C hM238 gL_begun_L_isSet rfl ydL_isSet ⟨Nat.le_of_ble_eq_true rfl, Nat.le_of_ble_eq_true rfl⟩ ⟨rfl, rfl⟩ rfl (fun h hh => hh) rfl (Nat.le_of_ble_eq_true rfl) dL_begun_238 ⟨by dsimp only; omega, by dsimp only; omega⟩ (fun h v h' hh hj9 => ?_)
                  obtain ⟨rfl, P238, S238, X238, f238, g238, hD238, hp238, hW238, hs238⟩ := hj9
                  have hPo238 : P238 1 = o := hp238.trans hPoi
                  have hm238 := hs238.trans hmi
                  refine V_weak (I2 := WD cB cI cO ee na nb P238 S238 X238 f238 g238) (fun x hx => by rw [hx]; exact hD238) ?_
                  refine V_iand11 (pc' := 242) C dL_begun_241 rfl ?_
                  refine V_istore4 (pc' := 244) C dL_begun_242 rfl (by decide) rfl ?_
                  refine V_iinc6 (pc' := 247) C dL_begun_244 rfl (by decide) rfl ?_
                  refine V_goto (tgt := 135) C dL_begun_247 (by decide) ?_
                  refine V_widen (k := 20 + 1452 * j + 492 + 240 * (i + 1)) (n := 1300 + 438400 * j + 182000 + 64100 * (i + 1)) (by omega) (by omega) ?_
                  refine V_locals (L2 := [some (.ref ee.2), some (.ref na), some (.ref nb), some (.ref o), some (.int (iI 1)), some (.int (iI (1 + z15 - (j : Int)))), some (.int (iI ((i + 1 : Nat) : Int))), none]) (fun i v hv => ?_) (V_weak (fun x9 hx9 => ?_) (hk9i trivial))
                  · rcases i with _ | _ | _ | _ | _ | _ | _ | _ | i
                    all_goals (first | exact hv | (simpa using hv; done) | (cases hv; done))
                  · exact ⟨P238, S238, X238, f238, g238, hx9, hPo238, WS_m hW238 (by omega) (by omega), hm238⟩
              · refine V_bipush (pc' := 171) C dL_begun_169 rfl (by decide) ?_
                refine V_goto (tgt := 187) C dL_begun_171 (by decide) ?_
                refine V_aload0 (pc' := 188) C dL_begun_187 rfl ?_
                refine V_bipush (pc' := 190) C dL_begun_188 rfl (by decide) ?_
                refine V_bipush (pc' := 192) C dL_begun_190 rfl (by decide) ?_
                refine V_iload5 (pc' := 194) C dL_begun_192 rfl ?_
                refine V_imul (pc' := 195) C dL_begun_194 rfl ?_
                refine V_iadd (pc' := 196) C dL_begun_195 rfl ?_
                refine V_iload6 (pc' := 198) C dL_begun_196 rfl ?_
                refine V_iadd (pc' := 199) C dL_begun_198 rfl ?_
                refine V_iconst (pc' := 200) C dL_begun_199 rfl ?_
                refine V_callS (n := 3) [.ref ee.2, .int (iI ((23 + (9 * (1 + z15 - (j : Int)))) + i)), .int (iI 3)] C (kL_in (by omega) (by omega)) gL_begun_L_in rfl ydL_in ⟨Nat.le_of_ble_eq_true rfl, Nat.le_of_ble_eq_true rfl⟩ ⟨rfl, rfl⟩ rfl (fun h hh => trivial) rfl (Nat.le_of_ble_eq_true rfl) dL_begun_200 ⟨by dsimp only; omega, by dsimp only; omega⟩ (fun h v h' hh hj9 => ?_)
                obtain ⟨⟨z200, hz200, rfl⟩, rfl⟩ := hj9
                refine V_weak (I2 := WD cB cI cO ee na nb Pi Si Xi fi gi) (fun x hx => by rw [hx]; exact hh) ?_
                refine V_aload0 (pc' := 204) C dL_begun_203 rfl ?_
                refine V_bipush (pc' := 206) C dL_begun_204 rfl (by decide) ?_
                refine V_bipush (pc' := 208) C dL_begun_206 rfl (by decide) ?_
                refine V_iload5 (pc' := 210) C dL_begun_208 rfl ?_
                refine V_imul (pc' := 211) C dL_begun_210 rfl ?_
                refine V_iadd (pc' := 212) C dL_begun_211 rfl ?_
                refine V_iload6 (pc' := 214) C dL_begun_212 rfl ?_
                refine V_iadd (pc' := 215) C dL_begun_214 rfl ?_
                refine V_iconst (pc' := 216) C dL_begun_215 rfl ?_
                refine V_callS (n := 3) [.ref ee.2, .int (iI ((26 + (9 * (1 + z15 - (j : Int)))) + i)), .int (iI 3)] C (kL_in (by omega) (by omega)) gL_begun_L_in rfl ydL_in ⟨Nat.le_of_ble_eq_true rfl, Nat.le_of_ble_eq_true rfl⟩ ⟨rfl, rfl⟩ rfl (fun h hh => trivial) rfl (Nat.le_of_ble_eq_true rfl) dL_begun_216 ⟨by dsimp only; omega, by dsimp only; omega⟩ (fun h v h' hh hj9 => ?_)
                obtain ⟨⟨z216, hz216, rfl⟩, rfl⟩ := hj9
                refine V_weak (I2 := WD cB cI cO ee na nb Pi Si Xi fi gi) (fun x hx => by rw [hx]; exact hh) ?_
                refine V_aload0 (pc' := 220) C dL_begun_219 rfl ?_
                refine V_bipush (pc' := 222) C dL_begun_220 rfl (by decide) ?_
                refine V_bipush (pc' := 224) C dL_begun_222 rfl (by decide) ?_
                refine V_iload5 (pc' := 226) C dL_begun_224 rfl ?_
                refine V_imul (pc' := 227) C dL_begun_226 rfl ?_
                refine V_iadd (pc' := 228) C dL_begun_227 rfl ?_
                refine V_iload6 (pc' := 230) C dL_begun_228 rfl ?_
                refine V_iadd (pc' := 231) C dL_begun_230 rfl ?_
                refine V_bipush (pc' := 233) C dL_begun_231 rfl (by decide) ?_
                refine V_callS (n := 3) [.ref ee.2, .int (iI ((20 + (9 * (1 + z15 - (j : Int)))) + i)), .int (iI 7)] C (kL_in (by omega) (by omega)) gL_begun_L_in rfl ydL_in ⟨Nat.le_of_ble_eq_true rfl, Nat.le_of_ble_eq_true rfl⟩ ⟨rfl, rfl⟩ rfl (fun h hh => trivial) rfl (Nat.le_of_ble_eq_true rfl) dL_begun_233 ⟨by dsimp only; omega, by dsimp only; omega⟩ (fun h v h' hh hj9 => ?_)
                obtain ⟨⟨z233, hz233, rfl⟩, rfl⟩ := hj9
                refine V_weak (I2 := WD cB cI cO ee na nb Pi Si Xi fi gi) (fun x hx => by rw [hx]; exact hh) ?_
                refine V_iconst (pc' := 237) C dL_begun_236 rfl ?_
                refine V_isub (pc' := 238) C dL_begun_237 rfl ?_
                have hM238 := kO_isSet (l := l) (D := D) (cB := cB) (cC := cC) (cI := cI) (cO := cO) (cJ := cJ) (cD := cD) (ee := ee) (na := na) (nb := nb) (P := Pi) (S := Si) (X := Xi) (f := fi) (g := gi) (k := (6 * j + 2 + i)) (a := (115)) (c := (z200)) (r := (z216)) (n := (z233 - 3)) (by omega) (by omega) (by omega) (by omega) hst hWi (by omega)
                unfold OKf at hM238
                rw [hPoi] at hM238
                refine V_callS (n := 7) [.ref o, .ref na, .ref nb, .int (iI 115), .int (iI z200), .int (iI z216), .int (iI (z233 - 3))] C hM238 gL_begun_L_isSet rfl ydL_isSet ⟨Nat.le_of_ble_eq_true rfl, Nat.le_of_ble_eq_true rfl⟩ ⟨rfl, rfl⟩ rfl (fun h hh => hh) rfl (Nat.le_of_ble_eq_true rfl) dL_begun_238 ⟨by dsimp only; omega, by dsimp only; omega⟩ (fun h v h' hh hj9 => ?_)
                obtain ⟨rfl, P238, S238, X238, f238, g238, hD238, hp238, hW238, hs238⟩ := hj9
                have hPo238 : P238 1 = o := hp238.trans hPoi
                have hm238 := hs238.trans hmi
                refine V_weak (I2 := WD cB cI cO ee na nb P238 S238 X238 f238 g238) (fun x hx => by rw [hx]; exact hD238) ?_
                refine V_iand11 (pc' := 242) C dL_begun_241 rfl ?_
                refine V_istore4 (pc' := 244) C dL_begun_242 rfl (by decide) rfl ?_
                refine V_iinc6 (pc' := 247) C dL_begun_244 rfl (by decide) rfl ?_
                refine V_goto (tgt := 135) C dL_begun_247 (by decide) ?_
                refine V_widen (k := 20 + 1452 * j + 492 + 240 * (i + 1)) (n := 1300 + 438400 * j + 182000 + 64100 * (i + 1)) (by omega) (by omega) ?_
                refine V_locals (L2 := [some (.ref ee.2), some (.ref na), some (.ref nb), some (.ref o), some (.int (iI 1)), some (.int (iI (1 + z15 - (j : Int)))), some (.int (iI ((i + 1 : Nat) : Int))), none]) (fun i v hv => ?_) (V_weak (fun x9 hx9 => ?_) (hk9i trivial))
                · rcases i with _ | _ | _ | _ | _ | _ | _ | _ | i
                  all_goals (first | exact hv | (simpa using hv; done) | (cases hv; done))
                · exact ⟨P238, S238, X238, f238, g238, hx9, hPo238, WS_m hW238 (by omega) (by omega), hm238⟩
          · refine V_fix (fun h8 hh8 => ?_)
            obtain ⟨Pi, Si, Xi, fi, gi, hDi, hPoi, hWi, hmi⟩ := hh8
            refine V_weak (I2 := WD cB cI cO ee na nb Pi Si Xi fi gi) (fun x hx => by rw [hx]; exact hDi) ?_
            refine V_iload6 (pc' := 137) C dL_begun_135 rfl ?_
            refine V_iconst (pc' := 138) C dL_begun_137 rfl ?_
            refine V_icmpge (tgt := 250) C ⟨by omega, by omega⟩ dL_begun_138 (by decide) rfl (fun c_138 => ?_) (fun c_138 => ?_)
            · refine V_iload4 (pc' := 252) C dL_begun_250 rfl ?_
              refine V_aload3 (pc' := 253) C dL_begun_252 rfl ?_
              refine V_aload1 (pc' := 254) C dL_begun_253 rfl ?_
              have hM254 := kO_isStopped (l := l) (D := D) (cB := cB) (cC := cC) (cI := cI) (cO := cO) (cJ := cJ) (cD := cD) (ee := ee) (na := na) (nb := nb) (P := Pi) (S := Si) (X := Xi) (f := fi) (g := gi) (k := (6 * j + 2 + 3))   hst hWi (by omega)
              unfold OKf at hM254
              rw [hPoi] at hM254
              refine V_callS (n := 2) [.ref o, .ref na] C hM254 gL_begun_L_isStopped rfl ydL_isStopped ⟨Nat.le_of_ble_eq_true rfl, Nat.le_of_ble_eq_true rfl⟩ ⟨rfl, rfl⟩ rfl (fun h hh => hh) rfl (Nat.le_of_ble_eq_true rfl) dL_begun_254 ⟨by dsimp only; omega, by dsimp only; omega⟩ (fun h v h' hh hj9 => ?_)
              obtain ⟨rfl, P254, S254, X254, f254, g254, hD254, hp254, hW254, hs254⟩ := hj9
              have hPo254 : P254 1 = o := hp254.trans hPoi
              have hm254 := hs254.trans hmi
              refine V_weak (I2 := WD cB cI cO ee na nb P254 S254 X254 f254 g254) (fun x hx => by rw [hx]; exact hD254) ?_
              refine V_iand11 (pc' := 258) C dL_begun_257 rfl ?_
              refine V_istore4 (pc' := 260) C dL_begun_258 rfl (by decide) rfl ?_
              refine V_iinc5 (pc' := 263) C dL_begun_260 rfl (by decide) rfl ?_
              refine V_goto (tgt := 21) C dL_begun_263 (by decide) ?_
              refine V_widen (k := 20 + 1452 * (j + 1)) (n := 1300 + 438400 * (j + 1)) (by omega) (by omega) ?_
              refine V_locals (L2 := [some (.ref ee.2), some (.ref na), some (.ref nb), some (.ref o), some (.int (iI 1)), some (.int (iI (1 + z15 - ((j + 1 : Nat) : Int)))), none, none]) (fun i v hv => ?_) (V_weak (fun x9 hx9 => ?_) (hk trivial))
              · rcases i with _ | _ | _ | _ | _ | _ | _ | _ | i
                all_goals (first | exact hv | (rw [show (1 : Int) + z15 - ((j + 1 : Nat) : Int) = 1 + z15 - (j : Int) + (-1) by omega] at hv; exact hv) | (simpa using hv; done) | (cases hv; done))
              · exact ⟨P254, S254, X254, f254, g254, hx9, hPo254, WS_m hW254 (by omega) (by omega), by rw [hm254]; rfl⟩
            · exact absurd c_138 (by omega)
  · refine V_fix (fun h9 hh9 => ?_)
    obtain ⟨P, S, X, f, g, hD, hPo, hW, hm⟩ := hh9
    refine V_weak (I2 := WD cB cI cO ee na nb P S X f g) (fun x hx => by rw [hx]; exact hD) ?_
    refine V_iload5 (pc' := 23) C dL_begun_21 rfl ?_
    refine V_ifle (tgt := 266) C (by omega) dL_begun_23 (by decide) rfl (fun c_23 => ?_) (fun c_23 => ?_)
    · refine V_iconst (pc' := 267) C dL_begun_266 rfl ?_
      refine V_aload0 (pc' := 268) C dL_begun_267 rfl ?_
      refine V_iconst (pc' := 269) C dL_begun_268 rfl ?_
      refine V_iconst (pc' := 270) C dL_begun_269 rfl ?_
      refine V_callS (n := 3) [.ref ee.2, .int (iI 1), .int (iI 3)] C (kL_in (by omega) (by omega)) gL_begun_L_in rfl ydL_in ⟨Nat.le_of_ble_eq_true rfl, Nat.le_of_ble_eq_true rfl⟩ ⟨rfl, rfl⟩ rfl (fun h hh => trivial) rfl (Nat.le_of_ble_eq_true rfl) dL_begun_270 ⟨by dsimp only; omega, by dsimp only; omega⟩ (fun h v h' hh hj9 => ?_)
      obtain ⟨⟨z270, hz270, rfl⟩, rfl⟩ := hj9
      refine V_weak (I2 := WD cB cI cO ee na nb P S X f g) (fun x hx => by rw [hx]; exact hh) ?_
      refine V_iadd (pc' := 274) C dL_begun_273 rfl ?_
      refine V_istore5 (pc' := 276) C dL_begun_274 rfl (by decide) rfl ?_
      refine V_forC (N := (1 + z270).toNat) (fun t => fun x => ∃ P S X f g, WD cB cI cO ee na nb P S X f g x ∧ P 1 = o ∧ WS (24 + t) S X f g ∧ 0 < S.2 22) (fun t => [some (.ref ee.2), some (.ref na), some (.ref nb), some (.ref o), some (.int (iI 1)), some (.int (iI (1 + z270 - (t : Int)))), none, none]) (fun _ => True) (fun t => 5900 + 240 * t) (fun t => 1760000 + 64100 * t) trivial (fun x hx => ⟨_, _, _, _, _, hx, hPo, WS_m hW (by omega) (by omega), by omega⟩) (by simp) ⟨by omega, by omega⟩ (fun t hj hv hk => ?_) (fun hv => ?_)
      · refine V_fix (fun h9 hh9 => ?_)
        obtain ⟨P, S, X, f, g, hD, hPo, hW, hm⟩ := hh9
        refine V_weak (I2 := WD cB cI cO ee na nb P S X f g) (fun x hx => by rw [hx]; exact hD) ?_
        have w5 := hW.1.1.1.1.2.2.2.2.1
        refine V_iload5 (pc' := 278) C dL_begun_276 rfl ?_
        refine V_ifle (tgt := 345) C (by omega) dL_begun_278 (by decide) rfl (fun c_278 => ?_) (fun c_278 => ?_)
        · exact absurd c_278 (by omega)
        · refine V_iload4 (pc' := 283) C dL_begun_281 rfl ?_
          refine V_aload3 (pc' := 284) C dL_begun_283 rfl ?_
          refine V_aload1 (pc' := 285) C dL_begun_284 rfl ?_
          refine V_aload0 (pc' := 286) C dL_begun_285 rfl ?_
          refine V_bipush (pc' := 288) C dL_begun_286 rfl (by decide) ?_
          refine V_iload5 (pc' := 290) C dL_begun_288 rfl ?_
          refine V_iadd (pc' := 291) C dL_begun_290 rfl ?_
          refine V_aload1 (pc' := 292) C dL_begun_291 rfl ?_
          refine V_bipush (pc' := 294) C dL_begun_292 rfl (by decide) ?_
          refine V_ialdE (pc' := 295) (n := 540) (f := f) (v := S.2 22) C 2 rfl (fun h hh => ⟨901, hh.2.1⟩) ⟨by omega, by omega, by omega⟩ (hW.2.1.2.2.2.2.1.1) dL_begun_294 rfl ?_
          refine V_callS (n := 3) [.ref ee.2, .int (iI (60 + (1 + z270 - (t : Int)))), .int (iI (S.2 22))] C (kL_in (by omega) (by omega)) gL_begun_L_in rfl ydL_in ⟨Nat.le_of_ble_eq_true rfl, Nat.le_of_ble_eq_true rfl⟩ ⟨rfl, rfl⟩ rfl (fun h hh => trivial) rfl (Nat.le_of_ble_eq_true rfl) dL_begun_295 ⟨by dsimp only; omega, by dsimp only; omega⟩ (fun h v h' hh hj9 => ?_)
          obtain ⟨⟨z295, hz295, rfl⟩, rfl⟩ := hj9
          refine V_weak (I2 := WD cB cI cO ee na nb P S X f g) (fun x hx => by rw [hx]; exact hh) ?_
          refine V_aload0 (pc' := 299) C dL_begun_298 rfl ?_
          refine V_bipush (pc' := 301) C dL_begun_299 rfl (by decide) ?_
          refine V_iload5 (pc' := 303) C dL_begun_301 rfl ?_
          refine V_iadd (pc' := 304) C dL_begun_303 rfl ?_
          refine V_bipush (pc' := 306) C dL_begun_304 rfl (by decide) ?_
          refine V_callS (n := 3) [.ref ee.2, .int (iI (64 + (1 + z270 - (t : Int)))), .int (iI 10)] C (kL_in (by omega) (by omega)) gL_begun_L_in rfl ydL_in ⟨Nat.le_of_ble_eq_true rfl, Nat.le_of_ble_eq_true rfl⟩ ⟨rfl, rfl⟩ rfl (fun h hh => trivial) rfl (Nat.le_of_ble_eq_true rfl) dL_begun_306 ⟨by dsimp only; omega, by dsimp only; omega⟩ (fun h v h' hh hj9 => ?_)
          obtain ⟨⟨z306, hz306, rfl⟩, rfl⟩ := hj9
          refine V_weak (I2 := WD cB cI cO ee na nb P S X f g) (fun x hx => by rw [hx]; exact hh) ?_
          refine V_iconst (pc' := 310) C dL_begun_309 rfl ?_
          refine V_iconst (pc' := 311) C dL_begun_310 rfl ?_
          refine V_aload0 (pc' := 312) C dL_begun_311 rfl ?_
          refine V_bipush (pc' := 314) C dL_begun_312 rfl (by decide) ?_
          refine V_iload5 (pc' := 316) C dL_begun_314 rfl ?_
          refine V_iadd (pc' := 317) C dL_begun_316 rfl ?_
          refine V_bipush (pc' := 319) C dL_begun_317 rfl (by decide) ?_
          refine V_callS (n := 3) [.ref ee.2, .int (iI (68 + (1 + z270 - (t : Int)))), .int (iI 6)] C (kL_in (by omega) (by omega)) gL_begun_L_in rfl ydL_in ⟨Nat.le_of_ble_eq_true rfl, Nat.le_of_ble_eq_true rfl⟩ ⟨rfl, rfl⟩ rfl (fun h hh => trivial) rfl (Nat.le_of_ble_eq_true rfl) dL_begun_319 ⟨by dsimp only; omega, by dsimp only; omega⟩ (fun h v h' hh hj9 => ?_)
          obtain ⟨⟨z319, hz319, rfl⟩, rfl⟩ := hj9
          refine V_weak (I2 := WD cB cI cO ee na nb P S X f g) (fun x hx => by rw [hx]; exact hh) ?_
          refine V_aload0 (pc' := 323) C dL_begun_322 rfl ?_
          refine V_bipush (pc' := 325) C dL_begun_323 rfl (by decide) ?_
          refine V_iload5 (pc' := 327) C dL_begun_325 rfl ?_
          refine V_iadd (pc' := 328) C dL_begun_327 rfl ?_
          refine V_bipush (pc' := 330) C dL_begun_328 rfl (by decide) ?_
          refine V_callS (n := 3) [.ref ee.2, .int (iI (72 + (1 + z270 - (t : Int)))), .int (iI 8)] C (kL_in (by omega) (by omega)) gL_begun_L_in rfl ydL_in ⟨Nat.le_of_ble_eq_true rfl, Nat.le_of_ble_eq_true rfl⟩ ⟨rfl, rfl⟩ rfl (fun h hh => trivial) rfl (Nat.le_of_ble_eq_true rfl) dL_begun_330 ⟨by dsimp only; omega, by dsimp only; omega⟩ (fun h v h' hh hj9 => ?_)
          obtain ⟨⟨z330, hz330, rfl⟩, rfl⟩ := hj9
          refine V_weak (I2 := WD cB cI cO ee na nb P S X f g) (fun x hx => by rw [hx]; exact hh) ?_
          have hM333 := kO_isRule (l := l) (D := D) (cB := cB) (cC := cC) (cI := cI) (cO := cO) (cJ := cJ) (cD := cD) (ee := ee) (na := na) (nb := nb) (P := P) (S := S) (X := X) (f := f) (g := g) (k := (24 + t)) (q := (z295)) (t := (z306)) (c := (0)) (r := (0)) (c2 := (z319)) (r2 := (z330)) (by omega) (by omega) (by omega) (by omega) (by omega) (by omega) hst hW (by omega)
          unfold OKf at hM333
          rw [hPo] at hM333
          refine V_callS (n := 8) [.ref o, .ref na, .int (iI z295), .int (iI z306), .int (iI 0), .int (iI 0), .int (iI z319), .int (iI z330)] C hM333 gL_begun_L_isRule rfl ydL_isRule ⟨Nat.le_of_ble_eq_true rfl, Nat.le_of_ble_eq_true rfl⟩ ⟨rfl, rfl⟩ rfl (fun h hh => hh) rfl (Nat.le_of_ble_eq_true rfl) dL_begun_333 ⟨by dsimp only; omega, by dsimp only; omega⟩ (fun h v h' hh hj9 => ?_)
          obtain ⟨rfl, P333, S333, X333, f333, g333, hD333, hp333, hW333, hs333⟩ := hj9
          have hPo333 : P333 1 = o := hp333.trans hPo
          refine V_weak (I2 := WD cB cI cO ee na nb P333 S333 X333 f333 g333) (fun x hx => by rw [hx]; exact hD333) ?_
          refine V_iand11 (pc' := 337) C dL_begun_336 rfl ?_
          refine V_istore4 (pc' := 339) C dL_begun_337 rfl (by decide) rfl ?_
          refine V_iinc5 (pc' := 342) C dL_begun_339 rfl (by decide) rfl ?_
          refine V_goto (tgt := 276) C dL_begun_342 (by decide) ?_
          refine V_widen (k := 5900 + 240 * (t + 1)) (n := 1760000 + 64100 * (t + 1)) (by omega) (by omega) ?_
          refine V_locals (L2 := [some (.ref ee.2), some (.ref na), some (.ref nb), some (.ref o), some (.int (iI 1)), some (.int (iI (1 + z270 - ((t + 1 : Nat) : Int)))), none, none]) (fun i v hv => ?_) (V_weak (fun x9 hx9 => ?_) (hk trivial))
          · rcases i with _ | _ | _ | _ | _ | _ | _ | _ | i
            all_goals (first | exact hv | (rw [show (1 : Int) + z270 - ((t + 1 : Nat) : Int) = 1 + z270 - (t : Int) + (-1) by omega] at hv; exact hv) | (simpa using hv; done) | (cases hv; done))
          · exact ⟨P333, S333, X333, f333, g333, hx9, hPo333, WS_m hW333 (by omega) (by omega), by rw [hs333]; exact hm⟩
      · refine V_fix (fun h9 hh9 => ?_)
        obtain ⟨P, S, X, f, g, hD, hPo, hW, hm⟩ := hh9
        refine V_weak (I2 := WD cB cI cO ee na nb P S X f g) (fun x hx => by rw [hx]; exact hD) ?_
        refine V_iload5 (pc' := 278) C dL_begun_276 rfl ?_
        refine V_ifle (tgt := 345) C (by omega) dL_begun_278 (by decide) rfl (fun c_278 => ?_) (fun c_278 => ?_)
        · refine V_iload4 (pc' := 347) C dL_begun_345 rfl ?_
          refine V_ifeq (tgt := 354) C (by decide) dL_begun_347 (by decide) rfl (fun c_347 => ?_) (fun c_347 => ?_)
          · exact absurd c_347 (by decide)
          · refine V_aload3 (pc' := 351) C dL_begun_350 rfl ?_
            refine V_goto (tgt := 355) C dL_begun_351 (by decide) ?_
            exact V_enda (v := some o) C hr (Or.inl ⟨_, rfl⟩) hlk (fun h' hh => ⟨P, S, X, f, g, by rw [hPo]; rfl, hh, WS_m hW (by omega) (by omega), hm⟩) ⟨by omega, by omega⟩ dL_begun_355
        · exact absurd c_278 (by omega)
    · exact absurd c_23 (by omega)
end

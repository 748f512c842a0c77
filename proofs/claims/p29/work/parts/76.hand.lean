/-! the law's queue, and its changes by hand -/
section
variable {p : Program} {l : Launch} {e : Env} {R : Room} {s : State} {m : MethodId} {args : Array Value} {below : List Frame} {meth : Method} {c : Code} {cells slots : Nat} {Q : State → Prop} {D : va_G} {tys : List (ClassId × FieldType)} {A : Nat → Prop} {nL : Nat} {cc : ByteArray} {Ts : List Cond} {own : String} {ee : Nat × Nat}
variable {I : Hp → Prop} {pc pc' : Nat} {L : List (Option Value)} {st : List Value}
theorem V_isubE {x y v : Int} (C : Cx p m c cc nL s args Ts own D tys A ee) (hv : x - y = v) (d : decode cc pc = .ok (.isub, 1)) (e0 : pc + 1 = pc') (k : Vx p l e R s m args below meth c cells slots Q D A nL I pc' L (.int (iI v) :: st)) : Vx p l e R s m args below meth c cells slots Q D A nL I pc L (.int (iI y) :: .int (iI x) :: st) := by
  subst hv
  exact V_isub C d e0 k
theorem V_idivE {x y v : Int} (C : Cx p m c cc nL s args Ts own D tys A ee) (hr : 0 ≤ x ∧ x ≤ 2147483647 ∧ 0 < y ∧ y ≤ 2147483647) (hv : x / y = v) (d : decode cc pc = .ok (.idiv, 1)) (e0 : pc + 1 = pc') (k : Vx p l e R s m args below meth c cells slots Q D A nL I pc' L (.int (iI v) :: st)) : Vx p l e R s m args below meth c cells slots Q D A nL I pc L (.int (iI y) :: .int (iI x) :: st) := by
  subst hv
  exact V_idiv C hr d e0 k
theorem V_iremE {x y v : Int} (C : Cx p m c cc nL s args Ts own D tys A ee) (hr : 0 ≤ x ∧ x ≤ 2147483647 ∧ 0 < y ∧ y ≤ 2147483647) (hv : x % y = v) (d : decode cc pc = .ok (.irem, 1)) (e0 : pc + 1 = pc') (k : Vx p l e R s m args below meth c cells slots Q D A nL I pc' L (.int (iI v) :: st)) : Vx p l e R s m args below meth c cells slots Q D A nL I pc L (.int (iI y) :: .int (iI x) :: st) := by
  subst hv
  exact V_irem C hr d e0 k
end
theorem ans_hand (S : MSt) (a x v n : Int) : (byHandS S a x v n).1 = (chX (handS S a x v n) (S.2 24)).2 24 - S.2 24 := endsS_fst _ _ _
theorem ends_no {C : MSt} {fr : Int} (h : C.2 24 ≤ fr) : (endsS C fr (C.2 24 - fr)).2 = C := by
  unfold endsS
  rw [if_pos (by omega)]
theorem ydL_acted : yL_acted.cls ≠ "java/lang/invoke/MethodHandle" ∧ yL_acted.cls ≠ "java/lang/invoke/VarHandle" ∧ (parseMethodDescriptor yL_acted.desc).map (fun d => d.parameters.length) = some 3 := by decide +kernel
theorem ydL_byHand : yL_byHand.cls ≠ "java/lang/invoke/MethodHandle" ∧ yL_byHand.cls ≠ "java/lang/invoke/VarHandle" ∧ (parseMethodDescriptor yL_byHand.desc).map (fun d => d.parameters.length) = some 7 := by decide +kernel
section
variable {l : Launch} {D : va_G} {cB cC cI cO cJ cD : ClassId} {ee : Nat × Nat} {na nb nv : Nat} {f g : Int → Int} {S : MSt} {fr : Int}
set_option maxHeartbeats 4000000 in
set_option maxRecDepth 100000 in
theorem kL_acted {fi : Int} (hfi : fi = S.2 29 + fr) (hnr : NR f g S) (haw : AW S fr) (hho : HWo S fr) (hs9 : 0 ≤ S.2 29 ∧ S.2 29 + S.2 24 + 210 < 15000) (h80 : f 55 < 80) : Ct l yL_acted wsL_acted ({ frames := 3, cells := 210, slots := 10080, locals := 77 } : Room) D (tyL cB cC cI cO cJ cD) ee [.ref na, .ref nb, .int (iI fi)] (NH cI na nb f g) (fun h v9 h' => v9 = some (.int (iI ((chX S fr).2 24 - fr))) ∧ (∃ f' g', NH cI na nb f' g' h' ∧ NR f' g' (endsS (chX S fr) fr ((chX S fr).2 24 - fr)).2 ∧ f 55 ≤ f' 55 ∧ f' 55 ≤ f 55 + 1) ∧ Fr tN h h') (210) (10080) := by
  refine Ct_of (cc := cL_acted) (own := RL) [some (.ref na), some (.ref nb), some (.int (iI fi)), none, none, none, none, none, none, none] (by decide) rfl rfl (Nat.le_of_ble_eq_true rfl) (fun i9 v9 h9 => argL [.ref na, .ref nb, .int (iI fi)] 7 rfl i9 v9 h9) ?_
  intro p e s m9 args below meth c9 h0 sz hI C hr hlk hinit
  subst hfi
  obtain ⟨a1, a2, a3⟩ := chL_sp haw.1 haw.2.1 haw.2.2.1 haw.2.2.2.2.2.1 haw.2.2.2.2.1
  have aw3 := haw.2.2.1
  have aw4 := haw.2.2.2.1
  have aw5 := haw.2.2.2.2.1
  have aw6 := haw.2.2.2.2.2.1
  refine V_iconst (pc' := 1) C dL_acted_0 rfl ?_
  refine V_istore3 (pc' := 2) C dL_acted_1 rfl (by decide) rfl ?_
  refine V_iload2 (pc' := 3) C dL_acted_2 rfl ?_
  refine V_istore4 (pc' := 5) C dL_acted_3 rfl (by decide) rfl ?_
  refine V_forC (N := chL S fr) (fun j => fun x => ∃ f' g', NH cI na nb f' g' x ∧ NR f' g' (chI S fr j).1 ∧ f' 55 = f 55 ∧ Fr tN h0 x) (fun j => [some (.ref na), some (.ref nb), some (.int (iI (S.2 29 + fr))), some (.int (iI ((chI S fr j).2))), some (.int (iI (S.2 29 + fr + (j : Int)))), none, none, none, none, none]) (fun _ => True) (fun j => j) (fun j => 48 * j) trivial (fun x hx => by rw [hx]; exact ⟨f, g, hI, hnr, rfl, Fr.refl⟩) (by simp [chI]) ⟨Nat.zero_le _, Nat.zero_le _⟩ (fun j hj hv hk => ?_) (fun hv => ?_)
  · refine V_fix (fun h9 hh9 => ?_)
    obtain ⟨f', g', hN9, hR9, h55, hF9⟩ := hh9
    obtain ⟨hA, hB⟩ := id hN9
    have w9 := chI_wf haw.1 haw.2.1 haw.2.2.1 haw.2.2.2.2.2.1 j (fun i hi => a1 i (by omega))
    have hk9 := a1 j hj
    have ech : chI S fr (j + 1) = chS (chI S fr j).1 (chI S fr j).2 (fr + j) := rfl
    unfold chW at w9
    generalize hX : (chI S fr j).1 = X at *
    generalize hn : (chI S fr j).2 = run at *
    obtain ⟨w1, w2, w3, w4, w5, w6, w7, w8⟩ := w9
    have x29 : X.2 29 = S.2 29 := w8 29 (by decide) (by decide)
    have lk := w2.2 (fr + j) (by omega) hk9
    obtain ⟨n50, n51, n52, n53, n54, n56, n57⟩ := hR9.2.2.2.2.1
    obtain ⟨l1, l2, l3, l4⟩ := hR9.2.2.2.2.2.2 (fr + j) (by omega) hk9
    have ez : 4 * (X.2 29 + (fr + (j : Int))) = 4 * (S.2 29 + fr + j) := by omega
    rw [ez] at l1 l4
    generalize hx : X.1 16 (fr + j) = x at *
    generalize hdp : X.1 19 (fr + j) = dp at *
    have r1 := ruledI_in (S := X) (x := x) ⟨w1.2.2.2.2.1.2.2.1, w1.2.2.2.2.1.2.2.2.1⟩
    have r2 := ruN_in X x (X.2 23).toNat
    have r3 : ruledI X x < X.2 23 := by
      have := w1.2.2.2.2.1
      unfold ruledI
      omega
    refine V_iload4 (pc' := 7) C dL_acted_5 rfl ?_
    refine V_aload0 (pc' := 8) C dL_acted_7 rfl ?_
    refine V_bipush (pc' := 10) C dL_acted_8 rfl (by decide) ?_
    refine V_ialdE (pc' := 11) (n := 540) (f := f') (v := (X.2 29 + X.2 24)) C 2 rfl (fun h hh => ⟨901, by rw [hh]; exact hA⟩) ⟨by omega, by omega, by omega⟩ (n56) dL_acted_10 rfl ?_
    refine V_icmpge (tgt := 174) C ⟨by omega, by omega⟩ dL_acted_11 (by decide) rfl (fun c_11 => ?_) (fun c_11 => ?_)
    · exact absurd c_11 (by omega)
    · refine V_aload1 (pc' := 15) C dL_acted_14 rfl ?_
      refine V_iconst (pc' := 16) C dL_acted_15 rfl ?_
      refine V_iload4 (pc' := 18) C dL_acted_16 rfl ?_
      refine V_imul (pc' := 19) C dL_acted_18 rfl ?_
      refine V_ialdE (pc' := 20) (n := 60000) (f := g') (v := (8 * (x % 6) + x / 6)) C 2 rfl (fun h hh => ⟨902, by rw [hh]; exact hB⟩) ⟨by omega, by omega, by omega⟩ (l1) dL_acted_19 rfl ?_
      refine V_bipush (pc' := 22) C dL_acted_20 rfl (by decide) ?_
      refine V_idivE (pc' := 23) (v := x % 6) C ⟨by omega, by omega, by decide, by decide⟩ (by omega) dL_acted_22 rfl ?_
      refine V_istore5 (pc' := 25) C dL_acted_23 rfl (by decide) rfl ?_
      refine V_aload1 (pc' := 26) C dL_acted_25 rfl ?_
      refine V_iconst (pc' := 27) C dL_acted_26 rfl ?_
      refine V_iload4 (pc' := 29) C dL_acted_27 rfl ?_
      refine V_imul (pc' := 30) C dL_acted_29 rfl ?_
      refine V_ialdE (pc' := 31) (n := 60000) (f := g') (v := (8 * (x % 6) + x / 6)) C 2 rfl (fun h hh => ⟨902, by rw [hh]; exact hB⟩) ⟨by omega, by omega, by omega⟩ (l1) dL_acted_30 rfl ?_
      refine V_bipush (pc' := 33) C dL_acted_31 rfl (by decide) ?_
      refine V_iremE (pc' := 34) (v := x / 6) C ⟨by omega, by omega, by decide, by decide⟩ (by omega) dL_acted_33 rfl ?_
      refine V_istore6 (pc' := 36) C dL_acted_34 rfl (by decide) rfl ?_
      refine V_aload0 (pc' := 37) C dL_acted_36 rfl ?_
      refine V_iload5 (pc' := 39) C dL_acted_37 rfl ?_
      refine V_iload6 (pc' := 41) C dL_acted_39 rfl ?_
      refine V_callS (n := 3) [.ref na, .int (iI (x % 6)), .int (iI (x / 6))] C (kL_rule_ (S := X) (c := x % 6) (r := x / 6) (f := f') hR9.1.1 hR9.2.2.2.1 n51 w1 (by omega) (by omega)) gL_acted_L_rule_ rfl ydL_rule_ ⟨Nat.le_of_ble_eq_true rfl, Nat.le_of_ble_eq_true rfl⟩ ⟨rfl, rfl⟩ rfl (fun h hh => by rw [hh]; exact hA) rfl (Nat.le_of_ble_eq_true rfl) dL_acted_41 ⟨by dsimp only; omega, by dsimp only; omega⟩ (fun h v h' hh hj9 => ?_)
      obtain ⟨r9, rfl, rfl, rfl⟩ := hj9
      rw [show 6 * (x / 6) + x % 6 = x by omega]
      refine V_weak (I2 := fun z => z = h9) (fun z hz => by rw [hz]; exact hh) ?_
      refine V_istore7 (pc' := 46) C dL_acted_44 rfl (by decide) rfl ?_
      refine V_iload7 (pc' := 48) C dL_acted_46 rfl ?_
      refine V_ifge (tgt := 55) C (by omega) dL_acted_48 (by decide) rfl (fun c_48 => ?_) (fun c_48 => ?_)
      · refine V_aload0 (pc' := 56) C dL_acted_55 rfl ?_
        refine V_sipush (pc' := 59) C dL_acted_56 rfl (by decide) ?_
        refine V_bipush (pc' := 61) C dL_acted_59 rfl (by decide) ?_
        refine V_iload7 (pc' := 63) C dL_acted_61 rfl ?_
        refine V_imul (pc' := 64) C dL_acted_63 rfl ?_
        refine V_iadd (pc' := 65) C dL_acted_64 rfl ?_
        refine V_ialdE (pc' := 66) (n := 540) (f := f') (v := X.1 14 (ruledI X x)) C 2 rfl (fun h hh => ⟨901, by rw [hh]; exact hA⟩) ⟨by omega, by omega, by omega⟩ (by rw [show (424 : Int) + 6 * ruledI X x = 420 + 6 * ruledI X x + 4 by omega]; exact (hR9.2.2.2.1 _ (by omega) r3).2.2.2.2.1) dL_acted_65 rfl ?_
        refine V_istore8 (pc' := 68) C dL_acted_66 rfl (by decide) rfl ?_
        refine V_iload7 (pc' := 70) C dL_acted_68 rfl ?_
        refine V_iflt (tgt := 168) C (by omega) dL_acted_70 (by decide) rfl (fun c_70 => ?_) (fun c_70 => ?_)
        · exact absurd c_70 (by omega)
        · refine V_aload1 (pc' := 74) C dL_acted_73 rfl ?_
          refine V_iconst (pc' := 75) C dL_acted_74 rfl ?_
          refine V_iload4 (pc' := 77) C dL_acted_75 rfl ?_
          refine V_imul (pc' := 78) C dL_acted_77 rfl ?_
          refine V_iconst (pc' := 79) C dL_acted_78 rfl ?_
          refine V_iadd (pc' := 80) C dL_acted_79 rfl ?_
          refine V_ialdE (pc' := 81) (n := 60000) (f := g') (v := dp) C 2 rfl (fun h hh => ⟨902, by rw [hh]; exact hB⟩) ⟨by omega, by omega, by omega⟩ (l4) dL_acted_80 rfl ?_
          refine V_iconst (pc' := 82) C dL_acted_81 rfl ?_
          refine V_icmpge (tgt := 168) C (by omega) dL_acted_82 (by decide) rfl (fun c_82 => ?_) (fun c_82 => ?_)
          · refine V_iinc4 (pc' := 171) C dL_acted_168 rfl (by decide) rfl ?_
            refine V_goto (tgt := 5) C dL_acted_171 (by decide) ?_
            have enx : chI S fr (j + 1) = (X, run) := by
              rw [ech]
              refine chS_no (fun z => ?_)
              rw [hx, hdp] at z
              omega
            refine V_widen (k := j + 1) (n := 48 * (j + 1)) (by omega) (by omega) ?_
            refine V_locals (L2 := [some (.ref na), some (.ref nb), some (.int (iI (S.2 29 + fr))), some (.int (iI ((chI S fr (j + 1)).2))), some (.int (iI (S.2 29 + fr + ((j + 1 : Nat) : Int)))), none, none, none, none, none]) (fun i v hv => ?_) (V_weak (fun x9 hx9 => ?_) (hk trivial))
            · rcases i with _ | _ | _ | _ | _ | _ | _ | _ | _ | _ | i
              all_goals (first | exact hv | (rw [enx] at hv; exact hv) | (rw [enx, show ∀ A : MSt, ((A, run + 0) : MSt × Int).2 = run from fun A => Int.add_zero run] at hv; exact hv) | (rw [show S.2 29 + fr + ((j + 1 : Nat) : Int) = S.2 29 + fr + (j : Int) + 1 by omega] at hv; exact hv) | (simpa using hv; done) | (cases hv; done))
            · rw [hx9]
              exact ⟨f', g', hN9, by rw [enx]; exact hR9, h55, hF9⟩
          · refine V_iload8 (pc' := 87) C dL_acted_85 rfl ?_
            refine V_aload0 (pc' := 88) C dL_acted_87 rfl ?_
            refine V_bipush (pc' := 90) C dL_acted_88 rfl (by decide) ?_
            refine V_ialdE (pc' := 91) (n := 540) (f := f') (v := (X.2 27 + 1)) C 2 rfl (fun h hh => ⟨901, by rw [hh]; exact hA⟩) ⟨by omega, by omega, by omega⟩ (n52) dL_acted_90 rfl ?_
            refine V_iconst (pc' := 92) C dL_acted_91 rfl ?_
            refine V_isub (pc' := 93) C dL_acted_92 rfl ?_
            refine V_icmpeq (tgt := 168) C ⟨by have := w1.2.2.2.1 (ruledI X x) (by omega) r1.2; omega, by have := w1.2.2.2.2.1; omega⟩ dL_acted_93 (by decide) rfl (fun c_93 => ?_) (fun c_93 => ?_)
            · refine V_iinc4 (pc' := 171) C dL_acted_168 rfl (by decide) rfl ?_
              refine V_goto (tgt := 5) C dL_acted_171 (by decide) ?_
              have enx : chI S fr (j + 1) = (X, run) := by
                rw [ech]
                refine chS_no (fun z => ?_)
                rw [hx, hdp] at z
                omega
              refine V_widen (k := j + 1) (n := 48 * (j + 1)) (by omega) (by omega) ?_
              refine V_locals (L2 := [some (.ref na), some (.ref nb), some (.int (iI (S.2 29 + fr))), some (.int (iI ((chI S fr (j + 1)).2))), some (.int (iI (S.2 29 + fr + ((j + 1 : Nat) : Int)))), none, none, none, none, none]) (fun i v hv => ?_) (V_weak (fun x9 hx9 => ?_) (hk trivial))
              · rcases i with _ | _ | _ | _ | _ | _ | _ | _ | _ | _ | i
                all_goals (first | exact hv | (rw [enx] at hv; exact hv) | (rw [enx, show ∀ A : MSt, ((A, run + 0) : MSt × Int).2 = run from fun A => Int.add_zero run] at hv; exact hv) | (rw [show S.2 29 + fr + ((j + 1 : Nat) : Int) = S.2 29 + fr + (j : Int) + 1 by omega] at hv; exact hv) | (simpa using hv; done) | (cases hv; done))
              · rw [hx9]
                exact ⟨f', g', hN9, by rw [enx]; exact hR9, h55, hF9⟩
            · refine V_iload3 (pc' := 97) C dL_acted_96 rfl ?_
              refine V_bipush (pc' := 99) C dL_acted_97 rfl (by decide) ?_
              refine V_icmpge (tgt := 168) C (by omega) dL_acted_99 (by decide) rfl (fun c_99 => ?_) (fun c_99 => ?_)
              · refine V_iinc4 (pc' := 171) C dL_acted_168 rfl (by decide) rfl ?_
                refine V_goto (tgt := 5) C dL_acted_171 (by decide) ?_
                have enx : chI S fr (j + 1) = (X, run) := by
                  rw [ech]
                  refine chS_no (fun z => ?_)
                  rw [hx, hdp] at z
                  omega
                refine V_widen (k := j + 1) (n := 48 * (j + 1)) (by omega) (by omega) ?_
                refine V_locals (L2 := [some (.ref na), some (.ref nb), some (.int (iI (S.2 29 + fr))), some (.int (iI ((chI S fr (j + 1)).2))), some (.int (iI (S.2 29 + fr + ((j + 1 : Nat) : Int)))), none, none, none, none, none]) (fun i v hv => ?_) (V_weak (fun x9 hx9 => ?_) (hk trivial))
                · rcases i with _ | _ | _ | _ | _ | _ | _ | _ | _ | _ | i
                  all_goals (first | exact hv | (rw [enx] at hv; exact hv) | (rw [enx, show ∀ A : MSt, ((A, run + 0) : MSt × Int).2 = run from fun A => Int.add_zero run] at hv; exact hv) | (rw [show S.2 29 + fr + ((j + 1 : Nat) : Int) = S.2 29 + fr + (j : Int) + 1 by omega] at hv; exact hv) | (simpa using hv; done) | (cases hv; done))
                · rw [hx9]
                  exact ⟨f', g', hN9, by rw [enx]; exact hR9, h55, hF9⟩
              · refine V_aload0 (pc' := 103) C dL_acted_102 rfl ?_
                refine V_bipush (pc' := 105) C dL_acted_103 rfl (by decide) ?_
                have rm := w1.2.2.2.1 (ruledI X x) (by omega) r1.2
                generalize hmu : X.1 14 (ruledI X x) = mu at *
                refine V_newarr (pc' := 107) (N := 48) (atype := .int) (ty := .int) (a0 := (48, .inl (iF fun _ => 0))) 903 C (by decide +kernel) rfl 2 rfl (fun cA => rfl) ⟨rfl, by decide⟩ (by dsimp only; omega) (by dsimp only; omega) dL_acted_105 rfl (fun q => ?_)
                refine V_fix (fun g1 hg1 => ?_)
                obtain ⟨g0, rfl, hq0, rfl⟩ := hg1
                have hqa : na ≠ q := fun z => by unfold NA at hA; rw [← z] at hq0; rw [hq0] at hA; cases hA
                have hqb : nb ≠ q := fun z => by rw [← z] at hq0; rw [hq0] at hB; cases hB
                have hA1 : NA cI na f' (hup g0 q (903, .inl (cI, (48, .inl (iF fun _ => 0))))) := by unfold NA; rw [hup_n hqa]; exact hA
                have hV1 : NVv cI q (fun _ => 0) (hup g0 q (903, .inl (cI, (48, .inl (iF fun _ => 0))))) := hup_s
                have hF1 : Fr tN g0 (hup g0 q (903, .inl (cI, (48, .inl (iF fun _ => 0))))) := fun a t e ha ht => by
                  rw [hup_n (fun z => by rw [z, hq0] at ha; cases ha)]
                  exact ha
                have hB1 : (hup g0 q (903, .inl (cI, (48, .inl (iF fun _ => 0))))) nb = some (902, .inl (cI, 60000, .inl (iF g'))) := by rw [hup_n hqb]; exact hB
                refine V_iload8 (pc' := 109) C dL_acted_107 rfl ?_
                refine V_iload5 (pc' := 111) C dL_acted_109 rfl ?_
                refine V_iload6 (pc' := 113) C dL_acted_111 rfl ?_
                refine V_callS (n := 5) [.ref na, .ref q, .int (iI mu), .int (iI (x % 6)), .int (iI (x / 6))] C (kL_reason_ (S := X) (q := mu) (c := x % 6) (r := x / 6) (f := f') (w0 := fun _ => 0) hR9.1.1 hR9.2.1 hR9.2.2.1 w1 (by omega) (by omega) (by omega)) gL_acted_L_reason_ rfl ydL_reason_ ⟨Nat.le_of_ble_eq_true rfl, Nat.le_of_ble_eq_true rfl⟩ ⟨rfl, rfl⟩ rfl (fun h hh => by rw [hh]; exact ⟨hA1, hV1⟩) rfl (Nat.le_of_ble_eq_true rfl) dL_acted_113 ⟨by dsimp only; omega, by dsimp only; omega⟩ (fun h v h' hh hj9 => ?_)
                obtain ⟨rfl, hF8⟩ := hj9
                rw [hh] at hF8
                rw [show 6 * (x / 6) + x % 6 = x by omega]
                have hA8 := hF8 _ _ _ hA1 (by decide)
                have hB8 := hF8 _ _ _ hB1 (by decide)
                have hF7 : Fr tN h0 h' := (hF9.trans hF1).trans (hF8.mono (fun u hu => by unfold tN; omega))
                have ry := whyS_ans X mu x
                refine V_weak (I2 := NI cI h0 na nb f' g') (fun z hz => by rw [hz]; exact ⟨⟨hA8, hB8⟩, hF7⟩) ?_
                refine V_bipush (pc' := 118) C dL_acted_116 rfl (by decide) ?_
                refine V_icmpne (tgt := 125) C ⟨by omega, by decide⟩ dL_acted_118 (by decide) rfl (fun c_118 => ?_) (fun c_118 => ?_)
                · refine V_iconst (pc' := 126) C dL_acted_125 rfl ?_
                  refine V_istore9 (pc' := 128) C dL_acted_126 rfl (by decide) rfl ?_
                  refine V_iload9 (pc' := 130) C dL_acted_128 rfl ?_
                  refine V_ifeq (tgt := 160) C (by omega) dL_acted_130 (by decide) rfl (fun c_130 => ?_) (fun c_130 => ?_)
                  · have hno : ¬ (whyS X mu x).1 = 45 := by exact c_118
                    have hcs : 0 ≤ ruledI X x ∧ dp < 3 ∧ mu ≠ X.2 27 ∧ run < 20 := ⟨by omega, by omega, by omega, by omega⟩
                    have enx : chI S fr (j + 1) = (uG (whyS X mu x).2 26 ((whyS X mu x).2.2 26 + 1), run + 0) := by
                      rw [ech]
                      have := chS_skip (X := X) (run := run) (k := fr + j) (by rw [hx, hdp, hmu]; exact hcs) (by rw [hx, hmu]; exact hno)
                      rw [hx, hmu] at this
                      exact this
                    have hR2 : NR (upZ f' 54 (f' 54 + 1)) g' (uG (whyS X mu x).2 26 ((whyS X mu x).2.2 26 + 1)) := (hR9.e1 (E1_why X mu x)).skip (WFp_of w1 (fun k k0 k1 => whyS_1 X mu x k (by omega)) ⟨by rw [whyS_2], by rw [whyS_2], by rw [whyS_2], by rw [whyS_2]⟩ (by rw [whyS_1 X mu x 0 (by decide)]; exact w1.2.2.2.2.2))
                    refine V_aload0 (pc' := 161) C dL_acted_160 rfl ?_
                    refine V_bipush (pc' := 163) C dL_acted_161 rfl (by decide) ?_
                    refine V_dup2 (pc' := 164) C rfl rfl dL_acted_163 rfl ?_
                    refine V_iald (pc' := 165) (n := 540) (f := f') C 2 rfl (fun h hh => ⟨901, hh.1.1⟩) ⟨by omega, by omega, by omega⟩ dL_acted_164 rfl ?_
                    refine V_iconst (pc' := 166) C dL_acted_165 rfl ?_
                    refine V_iadd (pc' := 167) C dL_acted_166 rfl ?_
                    refine V_iast (pc' := 168) (n := 540) (f := f') (I2 := NI cI h0 na nb (upZ f' 54 ((f' 54) + 1)) (g')) C 2 rfl (fun h hh => ⟨901, hh.1.1, hh.a⟩) ⟨by omega, by omega, by omega⟩ dL_acted_167 rfl ?_
                    refine V_iinc4 (pc' := 171) C dL_acted_168 rfl (by decide) rfl ?_
                    refine V_goto (tgt := 5) C dL_acted_171 (by decide) ?_
                    refine V_widen (k := j + 1) (n := 48 * (j + 1)) (by omega) (by omega) ?_
                    refine V_locals (L2 := [some (.ref na), some (.ref nb), some (.int (iI (S.2 29 + fr))), some (.int (iI ((chI S fr (j + 1)).2))), some (.int (iI (S.2 29 + fr + ((j + 1 : Nat) : Int)))), none, none, none, none, none]) (fun i v hv => ?_) (V_weak (fun x9 hx9 => ?_) (hk trivial))
                    · rcases i with _ | _ | _ | _ | _ | _ | _ | _ | _ | _ | i
                      all_goals (first | exact hv | (rw [enx] at hv; exact hv) | (rw [enx, show ∀ A : MSt, ((A, run + 0) : MSt × Int).2 = run from fun A => Int.add_zero run] at hv; exact hv) | (rw [show S.2 29 + fr + ((j + 1 : Nat) : Int) = S.2 29 + fr + (j : Int) + 1 by omega] at hv; exact hv) | (simpa using hv; done) | (cases hv; done))
                    · exact ⟨_, g', hx9.1, by rw [enx]; exact hR2, by rw [upZ_n (by decide)]; exact h55, hx9.2⟩
                  · exact absurd c_130 (by decide)
                · refine V_iconst (pc' := 122) C dL_acted_121 rfl ?_
                  refine V_goto (tgt := 126) C dL_acted_122 (by decide) ?_
                  refine V_istore9 (pc' := 128) C dL_acted_126 rfl (by decide) rfl ?_
                  refine V_iload9 (pc' := 130) C dL_acted_128 rfl ?_
                  refine V_ifeq (tgt := 160) C (by omega) dL_acted_130 (by decide) rfl (fun c_130 => ?_) (fun c_130 => ?_)
                  · exact absurd c_130 (by decide)
                  · have hok : (whyS X mu x).1 = 45 := by first | exact c_118 | exact Classical.not_not.mp c_118
                    have hcs : 0 ≤ ruledI X x ∧ dp < 3 ∧ mu ≠ X.2 27 ∧ run < 20 := ⟨by omega, by omega, by omega, by omega⟩
                    have enx : chI S fr (j + 1) = (runS (uG (whyS X mu x).2 26 ((whyS X mu x).2.2 26 + 0)) mu x (dp + 1), run + 1) := by
                      rw [ech]
                      have := chS_yes (X := X) (run := run) (k := fr + j) (by rw [hx, hdp, hmu]; exact hcs) (by rw [hx, hmu]; exact hok)
                      rw [hx, hdp, hmu] at this
                      exact this
                    generalize hY : uG (whyS X mu x).2 26 ((whyS X mu x).2.2 26 + 0) = Y at *
                    have y1 : ∀ k, k ≠ 1 → Y.1 k = X.1 k := fun k h => by rw [← hY, uG_1, whyS_1 X mu x k h]
                    have y2 : ∀ k, k ≠ 26 → Y.2 k = X.2 k := fun k h => by rw [← hY, uG_n _ h, whyS_2]
                    have y26 : Y.2 26 = X.2 26 := by rw [← hY, uG_s, whyS_2, Int.add_zero]
                    have hpe : PEq Y X := ⟨fun k h1 h2 => y1 k (by omega), y1 0 (by decide)⟩
                    have hl8 : 0 ≤ Y.2 24 ∧ Y.2 24 ≤ 2090 := by rw [y2 24 (by decide)]; omega
                    obtain ⟨q1, q2, q3⟩ := run_ok (dp + 1) w1 hpe (by omega) (by omega) hl8 hok
                    have hRY : NR f' g' Y := hR9.cg (fun k a _ _ _ => y1 k a) (fun k _ _ => by
                      by_cases z : k = 26
                      · rw [z]; exact y26
                      · exact y2 k z)
                    have hwY : WFp Y := WFp_of w1 (fun k k0 k1 => y1 k (by omega)) ⟨y2 22 (by decide), y2 23 (by decide), y2 27 (by decide), y2 28 (by decide)⟩ (by rw [y1 0 (by decide)]; exact w1.2.2.2.2.2)
                    have hoY : ∀ i : Nat, (i : Int) < Y.1 4 mu → isOutB Y mu i x = false := fun i hi => by
                      have := (whyS_ok hok i (by rw [y1 4 (by decide)] at hi; exact hi)).1
                      unfold isOutB at this ⊢
                      rw [y1 6 (by decide), y1 7 (by decide)]
                      exact this
                    have exx : 6 * (x / 6) + x % 6 = x := by omega
                    refine V_iinc3 (pc' := 136) C dL_acted_133 rfl (by decide) rfl ?_
                    refine V_aload0 (pc' := 137) C dL_acted_136 rfl ?_
                    refine V_aload1 (pc' := 138) C dL_acted_137 rfl ?_
                    refine V_iload8 (pc' := 140) C dL_acted_138 rfl ?_
                    refine V_iload5 (pc' := 142) C dL_acted_140 rfl ?_
                    refine V_iload6 (pc' := 144) C dL_acted_142 rfl ?_
                    refine V_aload1 (pc' := 145) C dL_acted_144 rfl ?_
                    refine V_iconst (pc' := 146) C dL_acted_145 rfl ?_
                    refine V_iload4 (pc' := 148) C dL_acted_146 rfl ?_
                    refine V_imul (pc' := 149) C dL_acted_148 rfl ?_
                    refine V_iconst (pc' := 150) C dL_acted_149 rfl ?_
                    refine V_iadd (pc' := 151) C dL_acted_150 rfl ?_
                    refine V_ialdE (pc' := 152) (n := 60000) (f := g') (v := dp) C 2 rfl (fun h hh => ⟨902, hh.1.2⟩) ⟨by omega, by omega, by omega⟩ (l4) dL_acted_151 rfl ?_
                    refine V_iconst (pc' := 153) C dL_acted_152 rfl ?_
                    refine V_iadd (pc' := 154) C dL_acted_153 rfl ?_
                    refine V_callS (n := 6) [.ref na, .ref nb, .int (iI mu), .int (iI (x % 6)), .int (iI (x / 6)), .int (iI (dp + 1))] C (kL_run_ (S := Y) (q := mu) (c := x % 6) (r := x / 6) (dp := dp + 1) (f := f') (g := g') hRY hwY (by omega) (by omega) (by omega) ⟨by omega, by omega⟩ (by rw [exx]; exact q1) (by rw [exx]; exact hoY) (by rw [exx]; exact q3) (by rw [y2 29 (by decide), y2 24 (by decide)]; omega)) gL_acted_L_run_ rfl ydL_run_ ⟨Nat.le_of_ble_eq_true rfl, Nat.le_of_ble_eq_true rfl⟩ ⟨rfl, rfl⟩ rfl (fun h hh => hh.1) rfl (Nat.le_of_ble_eq_true rfl) dL_acted_154 ⟨by dsimp only; omega, by dsimp only; omega⟩ (fun h v h' hh hj9 => ?_)
                    obtain ⟨rfl, ⟨f2, g2, hN2, hR2, h52⟩, hF2⟩ := hj9
                    rw [exx] at hR2
                    refine V_weak (I2 := NI cI h0 na nb f2 g2) (fun z hz => by rw [hz]; exact ⟨hN2, hh.2.trans hF2⟩) ?_
                    refine V_goto (tgt := 168) C dL_acted_157 (by decide) ?_
                    refine V_iinc4 (pc' := 171) C dL_acted_168 rfl (by decide) rfl ?_
                    refine V_goto (tgt := 5) C dL_acted_171 (by decide) ?_
                    refine V_widen (k := j + 1) (n := 48 * (j + 1)) (by omega) (by omega) ?_
                    refine V_locals (L2 := [some (.ref na), some (.ref nb), some (.int (iI (S.2 29 + fr))), some (.int (iI ((chI S fr (j + 1)).2))), some (.int (iI (S.2 29 + fr + ((j + 1 : Nat) : Int)))), none, none, none, none, none]) (fun i v hv => ?_) (V_weak (fun x9 hx9 => ?_) (hk trivial))
                    · rcases i with _ | _ | _ | _ | _ | _ | _ | _ | _ | _ | i
                      all_goals (first | exact hv | (rw [enx] at hv; exact hv) | (rw [enx, show ∀ A : MSt, ((A, run + 0) : MSt × Int).2 = run from fun A => Int.add_zero run] at hv; exact hv) | (rw [show S.2 29 + fr + ((j + 1 : Nat) : Int) = S.2 29 + fr + (j : Int) + 1 by omega] at hv; exact hv) | (simpa using hv; done) | (cases hv; done))
                    · exact ⟨f2, g2, hx9.1, by rw [enx]; exact hR2, h52.trans h55, hx9.2⟩
      · refine V_iconst (pc' := 52) C dL_acted_51 rfl ?_
        refine V_goto (tgt := 66) C dL_acted_52 (by decide) ?_
        refine V_istore8 (pc' := 68) C dL_acted_66 rfl (by decide) rfl ?_
        refine V_iload7 (pc' := 70) C dL_acted_68 rfl ?_
        refine V_iflt (tgt := 168) C (by omega) dL_acted_70 (by decide) rfl (fun c_70 => ?_) (fun c_70 => ?_)
        · refine V_iinc4 (pc' := 171) C dL_acted_168 rfl (by decide) rfl ?_
          refine V_goto (tgt := 5) C dL_acted_171 (by decide) ?_
          have enx : chI S fr (j + 1) = (X, run) := by
            rw [ech]
            refine chS_no (fun z => ?_)
            rw [hx, hdp] at z
            omega
          refine V_widen (k := j + 1) (n := 48 * (j + 1)) (by omega) (by omega) ?_
          refine V_locals (L2 := [some (.ref na), some (.ref nb), some (.int (iI (S.2 29 + fr))), some (.int (iI ((chI S fr (j + 1)).2))), some (.int (iI (S.2 29 + fr + ((j + 1 : Nat) : Int)))), none, none, none, none, none]) (fun i v hv => ?_) (V_weak (fun x9 hx9 => ?_) (hk trivial))
          · rcases i with _ | _ | _ | _ | _ | _ | _ | _ | _ | _ | i
            all_goals (first | exact hv | (rw [enx] at hv; exact hv) | (rw [enx, show ∀ A : MSt, ((A, run + 0) : MSt × Int).2 = run from fun A => Int.add_zero run] at hv; exact hv) | (rw [show S.2 29 + fr + ((j + 1 : Nat) : Int) = S.2 29 + fr + (j : Int) + 1 by omega] at hv; exact hv) | (simpa using hv; done) | (cases hv; done))
          · rw [hx9]
            exact ⟨f', g', hN9, by rw [enx]; exact hR9, h55, hF9⟩
        · exact absurd c_70 (by omega)
  · refine V_fix (fun h9 hh9 => ?_)
    obtain ⟨f', g', hN9, hR9, h55, hF9⟩ := hh9
    obtain ⟨hA, hB⟩ := id hN9
    rw [show (chI S fr (chL S fr)).1 = chX S fr from rfl] at hR9 a2
    obtain ⟨c1, c2, c3, c4, c5, c6⟩ := AW_chX haw
    have x29 : (chX S fr).2 29 = S.2 29 := c5 29 (by decide) (by decide)
    have hh9 : HWo (chX S fr) fr := HWo_hand hho (c5 25 (by decide) (by decide)) c6
    have i9 := hR9.2.2.2.2.2.1.1
    have i8 := hh9.1
    obtain ⟨n50, n51, n52, n53, n54, n56, n57⟩ := hR9.2.2.2.2.1
    have l57 := hh9.2.1
    refine V_weak (I2 := NI cI h0 na nb f' g') (fun z hz => by rw [hz]; exact ⟨hN9, hF9⟩) ?_
    refine V_iload4 (pc' := 7) C dL_acted_5 rfl ?_
    refine V_aload0 (pc' := 8) C dL_acted_7 rfl ?_
    refine V_bipush (pc' := 10) C dL_acted_8 rfl (by decide) ?_
    refine V_ialdE (pc' := 11) (n := 540) (f := f') (v := (chX S fr).2 29 + (chX S fr).2 24) C 2 rfl (fun h hh => ⟨901, hh.1.1⟩) ⟨by omega, by omega, by omega⟩ (n56) dL_acted_10 rfl ?_
    refine V_icmpge (tgt := 174) C ⟨by omega, by omega⟩ dL_acted_11 (by decide) rfl (fun c_11 => ?_) (fun c_11 => ?_)
    · refine V_aload0 (pc' := 175) C dL_acted_174 rfl ?_
      refine V_bipush (pc' := 177) C dL_acted_175 rfl (by decide) ?_
      refine V_ialdE (pc' := 178) (n := 540) (f := f') (v := (chX S fr).2 29 + (chX S fr).2 24) C 2 rfl (fun h hh => ⟨901, hh.1.1⟩) ⟨by omega, by omega, by omega⟩ (n56) dL_acted_177 rfl ?_
      refine V_iload2 (pc' := 179) C dL_acted_178 rfl ?_
      refine V_icmple (tgt := 225) C ⟨by omega, by omega⟩ dL_acted_179 (by decide) rfl (fun c_179 => ?_) (fun c_179 => ?_)
      · refine V_aload0 (pc' := 226) C dL_acted_225 rfl ?_
        refine V_bipush (pc' := 228) C dL_acted_226 rfl (by decide) ?_
        refine V_ialdE (pc' := 229) (n := 540) (f := f') (v := (chX S fr).2 29 + (chX S fr).2 24) C 2 rfl (fun h hh => ⟨901, hh.1.1⟩) ⟨by omega, by omega, by omega⟩ (n56) dL_acted_228 rfl ?_
        refine V_iload2 (pc' := 230) C dL_acted_229 rfl ?_
        refine V_isub (pc' := 231) C dL_acted_230 rfl ?_
        refine V_eq (st2 := [.int (iI ((chX S fr).2 24 - fr))]) (by rw [show (chX S fr).2 29 + (chX S fr).2 24 - (S.2 29 + fr) = (chX S fr).2 24 - fr by omega]) ?_
        exact V_end C hr hlk (fun h' hh => ⟨rfl, ⟨f', g', hh.1, by rw [ends_no (by omega)]; exact hR9, by omega, by omega⟩, hh.2⟩) ⟨by omega, by omega⟩ dL_acted_231
      · refine V_aload0 (pc' := 183) C dL_acted_182 rfl ?_
        refine V_sipush (pc' := 186) C dL_acted_183 rfl (by decide) ?_
        refine V_aload0 (pc' := 187) C dL_acted_186 rfl ?_
        refine V_bipush (pc' := 189) C dL_acted_187 rfl (by decide) ?_
        refine V_ialdE (pc' := 190) (n := 540) (f := f') (v := f' 55) C 2 rfl (fun h hh => ⟨901, hh.1.1⟩) ⟨by omega, by omega, by omega⟩ (rfl) dL_acted_189 rfl ?_
        refine V_iadd (pc' := 191) C dL_acted_190 rfl ?_
        refine V_iload2 (pc' := 192) C dL_acted_191 rfl ?_
        refine V_iast (pc' := 193) (n := 540) (f := f') (I2 := NI cI h0 na nb (upZ f' (460 + (f' 55)) (S.2 29 + fr)) (g')) C 2 rfl (fun h hh => ⟨901, hh.1.1, hh.a⟩) ⟨by omega, by omega, by omega⟩ dL_acted_192 rfl ?_
        refine V_aload0 (pc' := 194) C dL_acted_193 rfl ?_
        refine V_bipush (pc' := 196) C dL_acted_194 rfl (by decide) ?_
        refine V_dup2 (pc' := 197) C rfl rfl dL_acted_196 rfl ?_
        refine V_ialdE (pc' := 198) (n := 540) (f := upZ f' (460 + (f' 55)) (S.2 29 + fr)) (v := f' 55) C 2 rfl (fun h hh => ⟨901, hh.1.1⟩) ⟨by omega, by omega, by omega⟩ (upZ_n (by omega)) dL_acted_197 rfl ?_
        refine V_iconst (pc' := 199) C dL_acted_198 rfl ?_
        refine V_iadd (pc' := 200) C dL_acted_199 rfl ?_
        refine V_iast (pc' := 201) (n := 540) (f := upZ f' (460 + (f' 55)) (S.2 29 + fr)) (I2 := NI cI h0 na nb (upZ (upZ f' (460 + (f' 55)) (S.2 29 + fr)) 55 ((f' 55) + 1)) (g')) C 2 rfl (fun h hh => ⟨901, hh.1.1, hh.a⟩) ⟨by omega, by omega, by omega⟩ dL_acted_200 rfl ?_
        refine V_aload0 (pc' := 202) C dL_acted_201 rfl ?_
        refine V_bipush (pc' := 204) C dL_acted_202 rfl (by decide) ?_
        refine V_aload0 (pc' := 205) C dL_acted_204 rfl ?_
        refine V_bipush (pc' := 207) C dL_acted_205 rfl (by decide) ?_
        refine V_ialdE (pc' := 208) (n := 540) (f := upZ (upZ f' (460 + (f' 55)) (S.2 29 + fr)) 55 ((f' 55) + 1)) (v := f' 57) C 2 rfl (fun h hh => ⟨901, hh.1.1⟩) ⟨by omega, by omega, by omega⟩ (by rw [upZ_n (by omega), upZ_n (by omega)]) dL_acted_207 rfl ?_
        refine V_bipush (pc' := 210) C dL_acted_208 rfl (by decide) ?_
        refine V_icmpge (tgt := 222) C (by omega) dL_acted_210 (by decide) rfl (fun c_210 => ?_) (fun c_210 => ?_)
        · refine V_bipush (pc' := 224) C dL_acted_222 rfl (by decide) ?_
          refine V_iast (pc' := 225) (n := 540) (f := upZ (upZ f' (460 + (f' 55)) (S.2 29 + fr)) 55 ((f' 55) + 1)) (I2 := NI cI h0 na nb (upZ (upZ (upZ f' (460 + (f' 55)) (S.2 29 + fr)) 55 ((f' 55) + 1)) 57 8) (g')) C 2 rfl (fun h hh => ⟨901, hh.1.1, hh.a⟩) ⟨by omega, by omega, by omega⟩ dL_acted_224 rfl ?_
          refine V_aload0 (pc' := 226) C dL_acted_225 rfl ?_
          refine V_bipush (pc' := 228) C dL_acted_226 rfl (by decide) ?_
          refine V_ialdE (pc' := 229) (n := 540) (f := upZ (upZ (upZ f' (460 + (f' 55)) (S.2 29 + fr)) 55 ((f' 55) + 1)) 57 8) (v := (chX S fr).2 29 + (chX S fr).2 24) C 2 rfl (fun h hh => ⟨901, hh.1.1⟩) ⟨by omega, by omega, by omega⟩ (by rw [upZ_n (by omega), upZ_n (by omega), upZ_n (by omega)]; exact n56) dL_acted_228 rfl ?_
          refine V_iload2 (pc' := 230) C dL_acted_229 rfl ?_
          refine V_isub (pc' := 231) C dL_acted_230 rfl ?_
          refine V_eq (st2 := [.int (iI ((chX S fr).2 24 - fr))]) (by rw [show (chX S fr).2 29 + (chX S fr).2 24 - (S.2 29 + fr) = (chX S fr).2 24 - fr by omega]) ?_
          have hend : NR (upZ (upZ (upZ f' (460 + f' 55) (S.2 29 + fr)) 55 (f' 55 + 1)) 57 (if f' 57 < 8 then f' 57 + 1 else 8)) g' (endsS (chX S fr) fr ((chX S fr).2 24 - fr)).2 := by rw [← x29]; exact hR9.ends c1 hh9 (by omega) (by omega) (by omega)
          rw [if_neg (by omega)] at hend
          exact V_end C hr hlk (fun h' hh => ⟨rfl, ⟨_, _, hh.1, hend, by rw [upZ_n (by omega), upZ_s]; omega, by rw [upZ_n (by omega), upZ_s]; omega⟩, hh.2⟩) ⟨by omega, by omega⟩ dL_acted_231
        · refine V_aload0 (pc' := 214) C dL_acted_213 rfl ?_
          refine V_bipush (pc' := 216) C dL_acted_214 rfl (by decide) ?_
          refine V_ialdE (pc' := 217) (n := 540) (f := upZ (upZ f' (460 + (f' 55)) (S.2 29 + fr)) 55 ((f' 55) + 1)) (v := f' 57) C 2 rfl (fun h hh => ⟨901, hh.1.1⟩) ⟨by omega, by omega, by omega⟩ (by rw [upZ_n (by omega), upZ_n (by omega)]) dL_acted_216 rfl ?_
          refine V_iconst (pc' := 218) C dL_acted_217 rfl ?_
          refine V_iadd (pc' := 219) C dL_acted_218 rfl ?_
          refine V_goto (tgt := 224) C dL_acted_219 (by decide) ?_
          refine V_iast (pc' := 225) (n := 540) (f := upZ (upZ f' (460 + (f' 55)) (S.2 29 + fr)) 55 ((f' 55) + 1)) (I2 := NI cI h0 na nb (upZ (upZ (upZ f' (460 + (f' 55)) (S.2 29 + fr)) 55 ((f' 55) + 1)) 57 ((f' 57) + 1)) (g')) C 2 rfl (fun h hh => ⟨901, hh.1.1, hh.a⟩) ⟨by omega, by omega, by omega⟩ dL_acted_224 rfl ?_
          refine V_aload0 (pc' := 226) C dL_acted_225 rfl ?_
          refine V_bipush (pc' := 228) C dL_acted_226 rfl (by decide) ?_
          refine V_ialdE (pc' := 229) (n := 540) (f := upZ (upZ (upZ f' (460 + (f' 55)) (S.2 29 + fr)) 55 ((f' 55) + 1)) 57 ((f' 57) + 1)) (v := (chX S fr).2 29 + (chX S fr).2 24) C 2 rfl (fun h hh => ⟨901, hh.1.1⟩) ⟨by omega, by omega, by omega⟩ (by rw [upZ_n (by omega), upZ_n (by omega), upZ_n (by omega)]; exact n56) dL_acted_228 rfl ?_
          refine V_iload2 (pc' := 230) C dL_acted_229 rfl ?_
          refine V_isub (pc' := 231) C dL_acted_230 rfl ?_
          refine V_eq (st2 := [.int (iI ((chX S fr).2 24 - fr))]) (by rw [show (chX S fr).2 29 + (chX S fr).2 24 - (S.2 29 + fr) = (chX S fr).2 24 - fr by omega]) ?_
          have hend : NR (upZ (upZ (upZ f' (460 + f' 55) (S.2 29 + fr)) 55 (f' 55 + 1)) 57 (if f' 57 < 8 then f' 57 + 1 else 8)) g' (endsS (chX S fr) fr ((chX S fr).2 24 - fr)).2 := by rw [← x29]; exact hR9.ends c1 hh9 (by omega) (by omega) (by omega)
          rw [if_pos (by omega)] at hend
          exact V_end C hr hlk (fun h' hh => ⟨rfl, ⟨_, _, hh.1, hend, by rw [upZ_n (by omega), upZ_s]; omega, by rw [upZ_n (by omega), upZ_s]; omega⟩, hh.2⟩) ⟨by omega, by omega⟩ dL_acted_231
    · exact absurd c_11 (by omega)
set_option maxHeartbeats 4000000 in
set_option maxRecDepth 100000 in
theorem kL_byHand {a c r v n b : Int} (hnr : NR f g S) (hmw : MW S b) (hb : b + 230 < 15000) (h80 : f 55 < 80) (ha : 0 ≤ a ∧ a ≤ 200) (hc9 : 0 ≤ c ∧ c < 6) (hr9 : 0 ≤ r ∧ r < 8) (hv : isValueB v = true) (hn : -9999 ≤ n ∧ n ≤ 9999) : Ct l yL_byHand wsL_byHand ({ frames := 4, cells := 210, slots := 10080, locals := 106 } : Room) D (tyL cB cC cI cO cJ cD) ee [.ref na, .ref nb, .int (iI a), .int (iI c), .int (iI r), .int (iI v), .int (iI n)] (NH cI na nb f g) (fun h v9 h' => v9 = some (.int (iI (byHandS S a (6 * r + c) v n).1)) ∧ (∃ f' g', NH cI na nb f' g' h' ∧ NR f' g' (byHandS S a (6 * r + c) v n).2 ∧ f 55 ≤ f' 55 ∧ f' 55 ≤ f 55 + 1) ∧ Fr tN h h') (210) (10080) := by
  refine Ct_of (cc := cL_byHand) (own := RL) [some (.ref na), some (.ref nb), some (.int (iI a)), some (.int (iI c)), some (.int (iI r)), some (.int (iI v)), some (.int (iI n)), none, none, none] (by decide) rfl rfl (Nat.le_of_ble_eq_true rfl) (fun i9 v9 h9 => argL [.ref na, .ref nb, .int (iI a), .int (iI c), .int (iI r), .int (iI v), .int (iI n)] 3 rfl i9 v9 h9) ?_
  intro p e s m9 args below meth c9 h0 sz hI C hr hlk hinit
  obtain ⟨hwp, hwl, hhw, hrw, hsw, htw⟩ := id hmw
  obtain ⟨n50, n51, n52, n53, n54, n56, n57⟩ := hnr.2.2.2.2.1
  have w5 := hwp.2.2.2.2.1
  have hsw2 := hsw.2
  have hl0 := hwl.1
  have hv8 := isValue_of.mp hv
  refine V_weak (I2 := NI cI h0 na nb f g) (fun x hx => by rw [hx]; exact ⟨hI, Fr.refl⟩) ?_
  refine V_aload0 (pc' := 1) C dL_byHand_0 rfl ?_
  refine V_bipush (pc' := 3) C dL_byHand_1 rfl (by decide) ?_
  refine V_ialdE (pc' := 4) (n := 540) (f := f) (v := (S.2 27 + 1)) C 2 rfl (fun h hh => ⟨901, hh.1.1⟩) ⟨by omega, by omega, by omega⟩ (n52) dL_byHand_3 rfl ?_
  refine V_iconst (pc' := 5) C dL_byHand_4 rfl ?_
  refine V_isubE (pc' := 6) (v := S.2 27) C (by omega) dL_byHand_5 rfl ?_
  refine V_istore7 (pc' := 8) C dL_byHand_6 rfl (by decide) rfl ?_
  refine V_iload7 (pc' := 10) C dL_byHand_8 rfl ?_
  refine V_iflt (tgt := 87) C (by omega) dL_byHand_10 (by decide) rfl (fun c_10 => ?_) (fun c_10 => ?_)
  · have hnr1 : NR f g (recS S a (6 * r + c) n) := by rw [show recS S a (6 * r + c) n = S from if_pos (by omega)]; exact hnr
    have hw1 : WFp (recS S a (6 * r + c) n) := recS_wf hwp hrw ha ⟨by omega, by omega⟩ hn
    have r2 := recS_2 S a (6 * r + c) n
    refine V_aload0 (pc' := 88) C dL_byHand_87 rfl ?_
    refine V_bipush (pc' := 90) C dL_byHand_88 rfl (by decide) ?_
    refine V_ialdE (pc' := 91) (n := 540) (f := f) (v := (S.2 29 + S.2 24)) C 2 rfl (fun h hh => ⟨901, hh.1.1⟩) ⟨by omega, by omega, by omega⟩ (n56) dL_byHand_90 rfl ?_
    refine V_istore8 (pc' := 93) C dL_byHand_91 rfl (by decide) rfl ?_
    refine V_aload0 (pc' := 94) C dL_byHand_93 rfl ?_
    refine V_aload1 (pc' := 95) C dL_byHand_94 rfl ?_
    refine V_bipush (pc' := 97) C dL_byHand_95 rfl (by decide) ?_
    refine V_iload3 (pc' := 98) C dL_byHand_97 rfl ?_
    refine V_imul (pc' := 99) C dL_byHand_98 rfl ?_
    refine V_iload4 (pc' := 101) C dL_byHand_99 rfl ?_
    refine V_iadd (pc' := 102) C dL_byHand_101 rfl ?_
    refine V_iload5 (pc' := 104) C dL_byHand_102 rfl ?_
    refine V_iconst (pc' := 105) C dL_byHand_104 rfl ?_
    refine V_iconst (pc' := 106) C dL_byHand_105 rfl ?_
    refine V_callS (n := 6) [.ref na, .ref nb, .int (iI ((8 * c) + r)), .int (iI v), .int (iI (-1)), .int (iI 0)] C (kL_change (S := recS S a (6 * r + c) n) (x := (6 * r + c)) (v := v) (w := -1) (dp := 0) (f := f) (g := g) (by omega) hnr1 hw1 (by rw [r2]; omega) ⟨by omega, by omega⟩ (by omega) (by decide) (by decide)) gL_byHand_L_change rfl ydL_change ⟨Nat.le_of_ble_eq_true rfl, Nat.le_of_ble_eq_true rfl⟩ ⟨rfl, rfl⟩ rfl (fun h hh => hh.1) rfl (Nat.le_of_ble_eq_true rfl) dL_byHand_106 ⟨by dsimp only; omega, by dsimp only; omega⟩ (fun h v h' hh hj9 => ?_)
    obtain ⟨rfl, ⟨f2, g2, hN2, hR2, h552⟩, hF2⟩ := hj9
    replace hR2 : NR f2 g2 (handS S a (6 * r + c) v n) := hR2
    have h5f : f 55 = f 55 := rfl
    refine V_weak (I2 := NI cI h0 na nb f2 g2) (fun z hz => by rw [hz]; exact ⟨hN2, hh.2.trans hF2⟩) ?_
    have haw : AW (handS S a (6 * r + c) v n) (S.2 24) := hand_wf hmw ha ⟨by omega, by omega⟩ hn hv
    have hs29 : (handS S a (6 * r + c) v n).2 29 = S.2 29 := hand_2 S a (6 * r + c) v n 29 (by decide)
    have hho : HWo (handS S a (6 * r + c) v n) (S.2 24) := HWo_hand (HW_o hhw) (hand_2 S a (6 * r + c) v n 25 (by decide)) (hand_1 S a (6 * r + c) v n 20 (by decide))
    refine V_aload0 (pc' := 110) C dL_byHand_109 rfl ?_
    refine V_aload1 (pc' := 111) C dL_byHand_110 rfl ?_
    refine V_iload8 (pc' := 113) C dL_byHand_111 rfl ?_
    refine V_callS (n := 3) [.ref na, .ref nb, .int (iI (S.2 29 + S.2 24))] C (kL_acted (S := handS S a (6 * r + c) v n) (fr := S.2 24) (f := f2) (g := g2) (by rw [hs29]) hR2 haw hho (by rw [hs29]; have := haw.2.2.2.2.1; omega) (by omega)) gL_byHand_L_acted rfl ydL_acted ⟨Nat.le_of_ble_eq_true rfl, Nat.le_of_ble_eq_true rfl⟩ ⟨rfl, rfl⟩ rfl (fun h hh => hh.1) rfl (Nat.le_of_ble_eq_true rfl) dL_byHand_113 ⟨by dsimp only; omega, by dsimp only; omega⟩ (fun h v h' hh hj9 => ?_)
    obtain ⟨rfl, ⟨f3, g3, hN3, hR3, h5a, h5b⟩, hF3⟩ := hj9
    refine V_weak (I2 := NI cI h0 na nb f3 g3) (fun z hz => by rw [hz]; exact ⟨hN3, hh.2.trans hF3⟩) ?_
    obtain ⟨c1, c2, c3, c4, c5, c6⟩ := AW_chX haw
    have d27 : (endsS (chX (handS S a (6 * r + c) v n) (S.2 24)) (S.2 24) ((chX (handS S a (6 * r + c) v n) (S.2 24)).2 24 - S.2 24)).2.2 27 = S.2 27 := ((endsS_2 _ _ _ 27 (by decide)).trans (c5 27 (by decide) (by decide))).trans (hand_2 S a (6 * r + c) v n 27 (by decide))
    have wD : WFp (endsS (chX (handS S a (6 * r + c) v n) (S.2 24)) (S.2 24) ((chX (handS S a (6 * r + c) v n) (S.2 24)).2 24 - S.2 24)).2 := WFp_of c1 (fun k k0 k1 => endsS_1 _ _ _ k (by omega)) ⟨endsS_2 _ _ _ 22 (by decide), endsS_2 _ _ _ 23 (by decide), endsS_2 _ _ _ 27 (by decide), endsS_2 _ _ _ 28 (by decide)⟩ (by rw [endsS_1 _ _ _ 0 (by decide)]; exact c1.2.2.2.2.2)
    have m52 : f3 52 = S.2 27 + 1 := by rw [hR3.2.2.2.2.1.2.2.1, d27]
    refine V_istore9 (pc' := 118) C dL_byHand_116 rfl (by decide) rfl ?_
    refine V_aload0 (pc' := 119) C dL_byHand_118 rfl ?_
    refine V_bipush (pc' := 121) C dL_byHand_119 rfl (by decide) ?_
    refine V_iload7 (pc' := 123) C dL_byHand_121 rfl ?_
    refine V_iflt (tgt := 142) C (by omega) dL_byHand_123 (by decide) rfl (fun c_123 => ?_) (fun c_123 => ?_)
    · have hfin : NR (upZ f3 52 (S.2 27 + 1)) g3 (byHandS S a (6 * r + c) v n).2 := by
        show NR _ _ (afterS (endsS (chX (handS S a (6 * r + c) v n) (S.2 24)) (S.2 24) ((chX (handS S a (6 * r + c) v n) (S.2 24)).2 24 - S.2 24)).2)
        unfold afterS
        rw [d27, if_neg (fun z => by first | (exact c_135 z.2) | (have := z.1; omega))]
        exact hR3.s27 wD (by omega) (by have := hwp.2.2.2.2.1; omega)
      refine V_aload0 (pc' := 143) C dL_byHand_142 rfl ?_
      refine V_bipush (pc' := 145) C dL_byHand_143 rfl (by decide) ?_
      refine V_ialdE (pc' := 146) (n := 540) (f := f3) (v := (S.2 27 + 1)) C 2 rfl (fun h hh => ⟨901, hh.1.1⟩) ⟨by omega, by omega, by omega⟩ (m52) dL_byHand_145 rfl ?_
      refine V_iast (pc' := 147) (n := 540) (f := f3) (I2 := NI cI h0 na nb (upZ f3 52 (S.2 27 + 1)) (g3)) C 2 rfl (fun h hh => ⟨901, hh.1.1, hh.a⟩) ⟨by omega, by omega, by omega⟩ dL_byHand_146 rfl ?_
      refine V_iload9 (pc' := 149) C dL_byHand_147 rfl ?_
      have hans : (byHandS S a (6 * r + c) v n).1 = (chX (handS S a (6 * r + c) v n) (S.2 24)).2 24 - S.2 24 := ans_hand _ _ _ _ _
      rw [← hans]
      exact V_end C hr hlk (fun h' hh => ⟨rfl, ⟨_, _, hh.1, hfin, by rw [upZ_n (by decide)]; omega, by rw [upZ_n (by decide)]; omega⟩, hh.2⟩) ⟨by omega, by omega⟩ dL_byHand_149
    · refine V_aload0 (pc' := 127) C dL_byHand_126 rfl ?_
      refine V_iload7 (pc' := 129) C dL_byHand_127 rfl ?_
      refine V_callS (n := 1) [.int (iI (S.2 27))] C (kL_macroAt (q := (S.2 27))) gL_byHand_L_macroAt rfl ydL_macroAt ⟨Nat.le_of_ble_eq_true rfl, Nat.le_of_ble_eq_true rfl⟩ ⟨rfl, rfl⟩ rfl (fun h hh => trivial) rfl (Nat.le_of_ble_eq_true rfl) dL_byHand_129 ⟨Nat.le_of_ble_eq_true rfl, Nat.le_of_ble_eq_true rfl⟩ (fun h v h' hh hj9 => ?_)
      obtain ⟨r9, rfl, rfl, rfl⟩ := hj9
      refine V_weak (I2 := NI cI h0 na nb (f3) (g3)) (fun x hx => by rw [hx]; exact hh) ?_
      refine V_ialdE (pc' := 133) (n := 540) (f := f3) (v := (endsS (chX (handS S a (6 * r + c) v n) (S.2 24)) (S.2 24) ((chX (handS S a (6 * r + c) v n) (S.2 24)).2 24 - S.2 24)).2.1 4 (S.2 27)) C 2 rfl (fun h hh => ⟨901, hh.1.1⟩) ⟨by omega, by omega, by omega⟩ ((hR3.2.2.1 (S.2 27) (by omega) (by omega)).1) dL_byHand_132 rfl ?_
      refine V_bipush (pc' := 135) C dL_byHand_133 rfl (by decide) ?_
      refine V_icmpne (tgt := 142) C ⟨by have := wD.2.1 (S.2 27) (by omega) (by omega); omega, by decide⟩ dL_byHand_135 (by decide) rfl (fun c_135 => ?_) (fun c_135 => ?_)
      · have hfin : NR (upZ f3 52 (S.2 27 + 1)) g3 (byHandS S a (6 * r + c) v n).2 := by
          show NR _ _ (afterS (endsS (chX (handS S a (6 * r + c) v n) (S.2 24)) (S.2 24) ((chX (handS S a (6 * r + c) v n) (S.2 24)).2 24 - S.2 24)).2)
          unfold afterS
          rw [d27, if_neg (fun z => by first | (exact c_135 z.2) | (have := z.1; omega))]
          exact hR3.s27 wD (by omega) (by have := hwp.2.2.2.2.1; omega)
        refine V_aload0 (pc' := 143) C dL_byHand_142 rfl ?_
        refine V_bipush (pc' := 145) C dL_byHand_143 rfl (by decide) ?_
        refine V_ialdE (pc' := 146) (n := 540) (f := f3) (v := (S.2 27 + 1)) C 2 rfl (fun h hh => ⟨901, hh.1.1⟩) ⟨by omega, by omega, by omega⟩ (m52) dL_byHand_145 rfl ?_
        refine V_iast (pc' := 147) (n := 540) (f := f3) (I2 := NI cI h0 na nb (upZ f3 52 (S.2 27 + 1)) (g3)) C 2 rfl (fun h hh => ⟨901, hh.1.1, hh.a⟩) ⟨by omega, by omega, by omega⟩ dL_byHand_146 rfl ?_
        refine V_iload9 (pc' := 149) C dL_byHand_147 rfl ?_
        have hans : (byHandS S a (6 * r + c) v n).1 = (chX (handS S a (6 * r + c) v n) (S.2 24)).2 24 - S.2 24 := ans_hand _ _ _ _ _
        rw [← hans]
        exact V_end C hr hlk (fun h' hh => ⟨rfl, ⟨_, _, hh.1, hfin, by rw [upZ_n (by decide)]; omega, by rw [upZ_n (by decide)]; omega⟩, hh.2⟩) ⟨by omega, by omega⟩ dL_byHand_149
      · have hfin : NR (upZ f3 52 (0)) g3 (byHandS S a (6 * r + c) v n).2 := by
          show NR _ _ (afterS (endsS (chX (handS S a (6 * r + c) v n) (S.2 24)) (S.2 24) ((chX (handS S a (6 * r + c) v n) (S.2 24)).2 24 - S.2 24)).2)
          unfold afterS
          rw [d27, if_pos ⟨by omega, by first | exact c_135 | exact Classical.not_not.mp c_135⟩]
          exact hR3.s27 wD (by omega) (by have := hwp.2.2.2.2.1; omega)
        refine V_iconst (pc' := 139) C dL_byHand_138 rfl ?_
        refine V_goto (tgt := 146) C dL_byHand_139 (by decide) ?_
        refine V_iast (pc' := 147) (n := 540) (f := f3) (I2 := NI cI h0 na nb (upZ f3 52 0) (g3)) C 2 rfl (fun h hh => ⟨901, hh.1.1, hh.a⟩) ⟨by omega, by omega, by omega⟩ dL_byHand_146 rfl ?_
        refine V_iload9 (pc' := 149) C dL_byHand_147 rfl ?_
        have hans : (byHandS S a (6 * r + c) v n).1 = (chX (handS S a (6 * r + c) v n) (S.2 24)).2 24 - S.2 24 := ans_hand _ _ _ _ _
        rw [← hans]
        exact V_end C hr hlk (fun h' hh => ⟨rfl, ⟨_, _, hh.1, hfin, by rw [upZ_n (by decide)]; omega, by rw [upZ_n (by decide)]; omega⟩, hh.2⟩) ⟨by omega, by omega⟩ dL_byHand_149
  · have h4x : S.1 4 (S.2 27) < 10 := (hrw (by omega)).2
    have hrec := hnr.rec_ (a := a) (x := (6 * r + c)) (n := n) hwp (by omega) h4x ⟨by omega, by omega⟩ (by omega) (by omega)
    have w27 := hwp.2.1 (S.2 27) (by omega) (by omega)
    have h1m := (hnr.2.2.1 (S.2 27) (by omega) (by omega)).1
    refine V_iload7 (pc' := 15) C dL_byHand_13 rfl ?_
    refine V_callS (n := 1) [.int (iI (S.2 27))] C (kL_macroAt (q := (S.2 27))) gL_byHand_L_macroAt rfl ydL_macroAt ⟨Nat.le_of_ble_eq_true rfl, Nat.le_of_ble_eq_true rfl⟩ ⟨rfl, rfl⟩ rfl (fun h hh => trivial) rfl (Nat.le_of_ble_eq_true rfl) dL_byHand_15 ⟨Nat.le_of_ble_eq_true rfl, Nat.le_of_ble_eq_true rfl⟩ (fun h v h' hh hj9 => ?_)
    obtain ⟨r9, rfl, rfl, rfl⟩ := hj9
    refine V_weak (I2 := NI cI h0 na nb (f) (g)) (fun x hx => by rw [hx]; exact hh) ?_
    refine V_iconst (pc' := 19) C dL_byHand_18 rfl ?_
    refine V_iadd (pc' := 20) C dL_byHand_19 rfl ?_
    refine V_iconst (pc' := 21) C dL_byHand_20 rfl ?_
    refine V_aload0 (pc' := 22) C dL_byHand_21 rfl ?_
    refine V_iload7 (pc' := 24) C dL_byHand_22 rfl ?_
    refine V_callS (n := 1) [.int (iI (S.2 27))] C (kL_macroAt (q := (S.2 27))) gL_byHand_L_macroAt rfl ydL_macroAt ⟨Nat.le_of_ble_eq_true rfl, Nat.le_of_ble_eq_true rfl⟩ ⟨rfl, rfl⟩ rfl (fun h hh => trivial) rfl (Nat.le_of_ble_eq_true rfl) dL_byHand_24 ⟨Nat.le_of_ble_eq_true rfl, Nat.le_of_ble_eq_true rfl⟩ (fun h v h' hh hj9 => ?_)
    obtain ⟨r9, rfl, rfl, rfl⟩ := hj9
    refine V_weak (I2 := NI cI h0 na nb (f) (g)) (fun x hx => by rw [hx]; exact hh) ?_
    refine V_ialdE (pc' := 28) (n := 540) (f := f) (v := S.1 4 (S.2 27)) C 2 rfl (fun h hh => ⟨901, hh.1.1⟩) ⟨by omega, by omega, by omega⟩ (h1m) dL_byHand_27 rfl ?_
    refine V_imul (pc' := 29) C dL_byHand_28 rfl ?_
    refine V_iadd (pc' := 30) C dL_byHand_29 rfl ?_
    refine V_istore8 (pc' := 32) C dL_byHand_30 rfl (by decide) rfl ?_
    refine V_aload0 (pc' := 33) C dL_byHand_32 rfl ?_
    refine V_iload8 (pc' := 35) C dL_byHand_33 rfl ?_
    refine V_iload2 (pc' := 36) C dL_byHand_35 rfl ?_
    refine V_iast (pc' := 37) (n := 540) (f := f) (I2 := NI cI h0 na nb (upZ f (((60 + 60 * (S.2 27)) + 2) + (4 * (S.1 4 (S.2 27)))) a) (g)) C 2 rfl (fun h hh => ⟨901, hh.1.1, hh.a⟩) ⟨by omega, by omega, by omega⟩ dL_byHand_36 rfl ?_
    refine V_aload0 (pc' := 38) C dL_byHand_37 rfl ?_
    refine V_iload8 (pc' := 40) C dL_byHand_38 rfl ?_
    refine V_iconst (pc' := 41) C dL_byHand_40 rfl ?_
    refine V_iadd (pc' := 42) C dL_byHand_41 rfl ?_
    refine V_iload3 (pc' := 43) C dL_byHand_42 rfl ?_
    refine V_aload0 (pc' := 44) C dL_byHand_43 rfl ?_
    refine V_bipush (pc' := 46) C dL_byHand_44 rfl (by decide) ?_
    refine V_ialdE (pc' := 47) (n := 540) (f := upZ f (((60 + 60 * (S.2 27)) + 2) + (4 * (S.1 4 (S.2 27)))) a) (v := (8 * (S.2 28 % 6) + S.2 28 / 6)) C 2 rfl (fun h hh => ⟨901, hh.1.1⟩) ⟨by omega, by omega, by omega⟩ (by rw [upZ_n (by omega)]; exact n53) dL_byHand_46 rfl ?_
    refine V_bipush (pc' := 49) C dL_byHand_47 rfl (by decide) ?_
    refine V_idivE (pc' := 50) (v := S.2 28 % 6) C ⟨by omega, by omega, by decide, by decide⟩ (by omega) dL_byHand_49 rfl ?_
    refine V_isubE (pc' := 51) (v := (6 * r + c) % 6 - S.2 28 % 6) C (by omega) dL_byHand_50 rfl ?_
    refine V_iast (pc' := 52) (n := 540) (f := upZ f (((60 + 60 * (S.2 27)) + 2) + (4 * (S.1 4 (S.2 27)))) a) (I2 := NI cI h0 na nb (upZ (upZ f (((60 + 60 * (S.2 27)) + 2) + (4 * (S.1 4 (S.2 27)))) a) ((((60 + 60 * (S.2 27)) + 2) + (4 * (S.1 4 (S.2 27)))) + 1) ((6 * r + c) % 6 - S.2 28 % 6)) (g)) C 2 rfl (fun h hh => ⟨901, hh.1.1, hh.a⟩) ⟨by omega, by omega, by omega⟩ dL_byHand_51 rfl ?_
    refine V_aload0 (pc' := 53) C dL_byHand_52 rfl ?_
    refine V_iload8 (pc' := 55) C dL_byHand_53 rfl ?_
    refine V_iconst (pc' := 56) C dL_byHand_55 rfl ?_
    refine V_iadd (pc' := 57) C dL_byHand_56 rfl ?_
    refine V_iload4 (pc' := 59) C dL_byHand_57 rfl ?_
    refine V_aload0 (pc' := 60) C dL_byHand_59 rfl ?_
    refine V_bipush (pc' := 62) C dL_byHand_60 rfl (by decide) ?_
    refine V_ialdE (pc' := 63) (n := 540) (f := upZ (upZ f (((60 + 60 * (S.2 27)) + 2) + (4 * (S.1 4 (S.2 27)))) a) ((((60 + 60 * (S.2 27)) + 2) + (4 * (S.1 4 (S.2 27)))) + 1) ((6 * r + c) % 6 - S.2 28 % 6)) (v := (8 * (S.2 28 % 6) + S.2 28 / 6)) C 2 rfl (fun h hh => ⟨901, hh.1.1⟩) ⟨by omega, by omega, by omega⟩ (by rw [upZ_n (by omega), upZ_n (by omega)]; exact n53) dL_byHand_62 rfl ?_
    refine V_bipush (pc' := 65) C dL_byHand_63 rfl (by decide) ?_
    refine V_iremE (pc' := 66) (v := S.2 28 / 6) C ⟨by omega, by omega, by decide, by decide⟩ (by omega) dL_byHand_65 rfl ?_
    refine V_isubE (pc' := 67) (v := (6 * r + c) / 6 - S.2 28 / 6) C (by omega) dL_byHand_66 rfl ?_
    refine V_iast (pc' := 68) (n := 540) (f := upZ (upZ f (((60 + 60 * (S.2 27)) + 2) + (4 * (S.1 4 (S.2 27)))) a) ((((60 + 60 * (S.2 27)) + 2) + (4 * (S.1 4 (S.2 27)))) + 1) ((6 * r + c) % 6 - S.2 28 % 6)) (I2 := NI cI h0 na nb (upZ (upZ (upZ f (((60 + 60 * (S.2 27)) + 2) + (4 * (S.1 4 (S.2 27)))) a) ((((60 + 60 * (S.2 27)) + 2) + (4 * (S.1 4 (S.2 27)))) + 1) ((6 * r + c) % 6 - S.2 28 % 6)) ((((60 + 60 * (S.2 27)) + 2) + (4 * (S.1 4 (S.2 27)))) + 2) ((6 * r + c) / 6 - S.2 28 / 6)) (g)) C 2 rfl (fun h hh => ⟨901, hh.1.1, hh.a⟩) ⟨by omega, by omega, by omega⟩ dL_byHand_67 rfl ?_
    refine V_aload0 (pc' := 69) C dL_byHand_68 rfl ?_
    refine V_iload8 (pc' := 71) C dL_byHand_69 rfl ?_
    refine V_iconst (pc' := 72) C dL_byHand_71 rfl ?_
    refine V_iadd (pc' := 73) C dL_byHand_72 rfl ?_
    refine V_iload6 (pc' := 75) C dL_byHand_73 rfl ?_
    refine V_iast (pc' := 76) (n := 540) (f := upZ (upZ (upZ f (((60 + 60 * (S.2 27)) + 2) + (4 * (S.1 4 (S.2 27)))) a) ((((60 + 60 * (S.2 27)) + 2) + (4 * (S.1 4 (S.2 27)))) + 1) ((6 * r + c) % 6 - S.2 28 % 6)) ((((60 + 60 * (S.2 27)) + 2) + (4 * (S.1 4 (S.2 27)))) + 2) ((6 * r + c) / 6 - S.2 28 / 6)) (I2 := NI cI h0 na nb (upZ (upZ (upZ (upZ f (((60 + 60 * (S.2 27)) + 2) + (4 * (S.1 4 (S.2 27)))) a) ((((60 + 60 * (S.2 27)) + 2) + (4 * (S.1 4 (S.2 27)))) + 1) ((6 * r + c) % 6 - S.2 28 % 6)) ((((60 + 60 * (S.2 27)) + 2) + (4 * (S.1 4 (S.2 27)))) + 2) ((6 * r + c) / 6 - S.2 28 / 6)) ((((60 + 60 * (S.2 27)) + 2) + (4 * (S.1 4 (S.2 27)))) + 3) n) (g)) C 2 rfl (fun h hh => ⟨901, hh.1.1, hh.a⟩) ⟨by omega, by omega, by omega⟩ dL_byHand_75 rfl ?_
    refine V_aload0 (pc' := 77) C dL_byHand_76 rfl ?_
    refine V_iload7 (pc' := 79) C dL_byHand_77 rfl ?_
    refine V_callS (n := 1) [.int (iI (S.2 27))] C (kL_macroAt (q := (S.2 27))) gL_byHand_L_macroAt rfl ydL_macroAt ⟨Nat.le_of_ble_eq_true rfl, Nat.le_of_ble_eq_true rfl⟩ ⟨rfl, rfl⟩ rfl (fun h hh => trivial) rfl (Nat.le_of_ble_eq_true rfl) dL_byHand_79 ⟨Nat.le_of_ble_eq_true rfl, Nat.le_of_ble_eq_true rfl⟩ (fun h v h' hh hj9 => ?_)
    obtain ⟨r9, rfl, rfl, rfl⟩ := hj9
    refine V_weak (I2 := NI cI h0 na nb (upZ (upZ (upZ (upZ f (((60 + 60 * (S.2 27)) + 2) + (4 * (S.1 4 (S.2 27)))) a) ((((60 + 60 * (S.2 27)) + 2) + (4 * (S.1 4 (S.2 27)))) + 1) ((6 * r + c) % 6 - S.2 28 % 6)) ((((60 + 60 * (S.2 27)) + 2) + (4 * (S.1 4 (S.2 27)))) + 2) ((6 * r + c) / 6 - S.2 28 / 6)) ((((60 + 60 * (S.2 27)) + 2) + (4 * (S.1 4 (S.2 27)))) + 3) n) (g)) (fun x hx => by rw [hx]; exact hh) ?_
    refine V_dup2 (pc' := 83) C rfl rfl dL_byHand_82 rfl ?_
    refine V_ialdE (pc' := 84) (n := 540) (f := upZ (upZ (upZ (upZ f (((60 + 60 * (S.2 27)) + 2) + (4 * (S.1 4 (S.2 27)))) a) ((((60 + 60 * (S.2 27)) + 2) + (4 * (S.1 4 (S.2 27)))) + 1) ((6 * r + c) % 6 - S.2 28 % 6)) ((((60 + 60 * (S.2 27)) + 2) + (4 * (S.1 4 (S.2 27)))) + 2) ((6 * r + c) / 6 - S.2 28 / 6)) ((((60 + 60 * (S.2 27)) + 2) + (4 * (S.1 4 (S.2 27)))) + 3) n) (v := S.1 4 (S.2 27)) C 2 rfl (fun h hh => ⟨901, hh.1.1⟩) ⟨by omega, by omega, by omega⟩ (by rw [upZ_n (by omega), upZ_n (by omega), upZ_n (by omega), upZ_n (by omega)]; exact h1m) dL_byHand_83 rfl ?_
    refine V_iconst (pc' := 85) C dL_byHand_84 rfl ?_
    refine V_iadd (pc' := 86) C dL_byHand_85 rfl ?_
    refine V_iast (pc' := 87) (n := 540) (f := upZ (upZ (upZ (upZ f (((60 + 60 * (S.2 27)) + 2) + (4 * (S.1 4 (S.2 27)))) a) ((((60 + 60 * (S.2 27)) + 2) + (4 * (S.1 4 (S.2 27)))) + 1) ((6 * r + c) % 6 - S.2 28 % 6)) ((((60 + 60 * (S.2 27)) + 2) + (4 * (S.1 4 (S.2 27)))) + 2) ((6 * r + c) / 6 - S.2 28 / 6)) ((((60 + 60 * (S.2 27)) + 2) + (4 * (S.1 4 (S.2 27)))) + 3) n) (I2 := NI cI h0 na nb (upZ (upZ (upZ (upZ (upZ f (((60 + 60 * (S.2 27)) + 2) + (4 * (S.1 4 (S.2 27)))) a) ((((60 + 60 * (S.2 27)) + 2) + (4 * (S.1 4 (S.2 27)))) + 1) ((6 * r + c) % 6 - S.2 28 % 6)) ((((60 + 60 * (S.2 27)) + 2) + (4 * (S.1 4 (S.2 27)))) + 2) ((6 * r + c) / 6 - S.2 28 / 6)) ((((60 + 60 * (S.2 27)) + 2) + (4 * (S.1 4 (S.2 27)))) + 3) n) (60 + 60 * (S.2 27)) ((S.1 4 (S.2 27)) + 1)) (g)) C 2 rfl (fun h hh => ⟨901, hh.1.1, hh.a⟩) ⟨by omega, by omega, by omega⟩ dL_byHand_86 rfl ?_
    have hnr1 : NR (upZ (upZ (upZ (upZ (upZ f (((60 + 60 * (S.2 27)) + 2) + (4 * (S.1 4 (S.2 27)))) a) ((((60 + 60 * (S.2 27)) + 2) + (4 * (S.1 4 (S.2 27)))) + 1) ((6 * r + c) % 6 - S.2 28 % 6)) ((((60 + 60 * (S.2 27)) + 2) + (4 * (S.1 4 (S.2 27)))) + 2) ((6 * r + c) / 6 - S.2 28 / 6)) ((((60 + 60 * (S.2 27)) + 2) + (4 * (S.1 4 (S.2 27)))) + 3) n) (60 + 60 * (S.2 27)) ((S.1 4 (S.2 27)) + 1)) g (recS S a (6 * r + c) n) := by first | exact hrec | (have := hrec; rw [show (6 * r + c) % 6 = c by omega, show (6 * r + c) / 6 = r by omega] at this; exact this)
    have hw1 : WFp (recS S a (6 * r + c) n) := recS_wf hwp hrw ha ⟨by omega, by omega⟩ hn
    have r2 := recS_2 S a (6 * r + c) n
    refine V_aload0 (pc' := 88) C dL_byHand_87 rfl ?_
    refine V_bipush (pc' := 90) C dL_byHand_88 rfl (by decide) ?_
    refine V_ialdE (pc' := 91) (n := 540) (f := upZ (upZ (upZ (upZ (upZ f (((60 + 60 * (S.2 27)) + 2) + (4 * (S.1 4 (S.2 27)))) a) ((((60 + 60 * (S.2 27)) + 2) + (4 * (S.1 4 (S.2 27)))) + 1) ((6 * r + c) % 6 - S.2 28 % 6)) ((((60 + 60 * (S.2 27)) + 2) + (4 * (S.1 4 (S.2 27)))) + 2) ((6 * r + c) / 6 - S.2 28 / 6)) ((((60 + 60 * (S.2 27)) + 2) + (4 * (S.1 4 (S.2 27)))) + 3) n) (60 + 60 * (S.2 27)) ((S.1 4 (S.2 27)) + 1)) (v := (S.2 29 + S.2 24)) C 2 rfl (fun h hh => ⟨901, hh.1.1⟩) ⟨by omega, by omega, by omega⟩ (by rw [upZ_n (by omega), upZ_n (by omega), upZ_n (by omega), upZ_n (by omega), upZ_n (by omega)]; exact n56) dL_byHand_90 rfl ?_
    refine V_istore8 (pc' := 93) C dL_byHand_91 rfl (by decide) rfl ?_
    refine V_aload0 (pc' := 94) C dL_byHand_93 rfl ?_
    refine V_aload1 (pc' := 95) C dL_byHand_94 rfl ?_
    refine V_bipush (pc' := 97) C dL_byHand_95 rfl (by decide) ?_
    refine V_iload3 (pc' := 98) C dL_byHand_97 rfl ?_
    refine V_imul (pc' := 99) C dL_byHand_98 rfl ?_
    refine V_iload4 (pc' := 101) C dL_byHand_99 rfl ?_
    refine V_iadd (pc' := 102) C dL_byHand_101 rfl ?_
    refine V_iload5 (pc' := 104) C dL_byHand_102 rfl ?_
    refine V_iconst (pc' := 105) C dL_byHand_104 rfl ?_
    refine V_iconst (pc' := 106) C dL_byHand_105 rfl ?_
    refine V_callS (n := 6) [.ref na, .ref nb, .int (iI ((8 * c) + r)), .int (iI v), .int (iI (-1)), .int (iI 0)] C (kL_change (S := recS S a (6 * r + c) n) (x := (6 * r + c)) (v := v) (w := -1) (dp := 0) (f := (upZ (upZ (upZ (upZ (upZ f (((60 + 60 * (S.2 27)) + 2) + (4 * (S.1 4 (S.2 27)))) a) ((((60 + 60 * (S.2 27)) + 2) + (4 * (S.1 4 (S.2 27)))) + 1) ((6 * r + c) % 6 - S.2 28 % 6)) ((((60 + 60 * (S.2 27)) + 2) + (4 * (S.1 4 (S.2 27)))) + 2) ((6 * r + c) / 6 - S.2 28 / 6)) ((((60 + 60 * (S.2 27)) + 2) + (4 * (S.1 4 (S.2 27)))) + 3) n) (60 + 60 * (S.2 27)) ((S.1 4 (S.2 27)) + 1))) (g := g) (by omega) hnr1 hw1 (by rw [r2]; omega) ⟨by omega, by omega⟩ (by omega) (by decide) (by decide)) gL_byHand_L_change rfl ydL_change ⟨Nat.le_of_ble_eq_true rfl, Nat.le_of_ble_eq_true rfl⟩ ⟨rfl, rfl⟩ rfl (fun h hh => hh.1) rfl (Nat.le_of_ble_eq_true rfl) dL_byHand_106 ⟨by dsimp only; omega, by dsimp only; omega⟩ (fun h v h' hh hj9 => ?_)
    obtain ⟨rfl, ⟨f2, g2, hN2, hR2, h552⟩, hF2⟩ := hj9
    replace hR2 : NR f2 g2 (handS S a (6 * r + c) v n) := hR2
    have h5f : (upZ (upZ (upZ (upZ (upZ f (((60 + 60 * (S.2 27)) + 2) + (4 * (S.1 4 (S.2 27)))) a) ((((60 + 60 * (S.2 27)) + 2) + (4 * (S.1 4 (S.2 27)))) + 1) ((6 * r + c) % 6 - S.2 28 % 6)) ((((60 + 60 * (S.2 27)) + 2) + (4 * (S.1 4 (S.2 27)))) + 2) ((6 * r + c) / 6 - S.2 28 / 6)) ((((60 + 60 * (S.2 27)) + 2) + (4 * (S.1 4 (S.2 27)))) + 3) n) (60 + 60 * (S.2 27)) ((S.1 4 (S.2 27)) + 1)) 55 = f 55 := by rw [upZ_n (by omega), upZ_n (by omega), upZ_n (by omega), upZ_n (by omega), upZ_n (by omega)]
    refine V_weak (I2 := NI cI h0 na nb f2 g2) (fun z hz => by rw [hz]; exact ⟨hN2, hh.2.trans hF2⟩) ?_
    have haw : AW (handS S a (6 * r + c) v n) (S.2 24) := hand_wf hmw ha ⟨by omega, by omega⟩ hn hv
    have hs29 : (handS S a (6 * r + c) v n).2 29 = S.2 29 := hand_2 S a (6 * r + c) v n 29 (by decide)
    have hho : HWo (handS S a (6 * r + c) v n) (S.2 24) := HWo_hand (HW_o hhw) (hand_2 S a (6 * r + c) v n 25 (by decide)) (hand_1 S a (6 * r + c) v n 20 (by decide))
    refine V_aload0 (pc' := 110) C dL_byHand_109 rfl ?_
    refine V_aload1 (pc' := 111) C dL_byHand_110 rfl ?_
    refine V_iload8 (pc' := 113) C dL_byHand_111 rfl ?_
    refine V_callS (n := 3) [.ref na, .ref nb, .int (iI (S.2 29 + S.2 24))] C (kL_acted (S := handS S a (6 * r + c) v n) (fr := S.2 24) (f := f2) (g := g2) (by rw [hs29]) hR2 haw hho (by rw [hs29]; have := haw.2.2.2.2.1; omega) (by omega)) gL_byHand_L_acted rfl ydL_acted ⟨Nat.le_of_ble_eq_true rfl, Nat.le_of_ble_eq_true rfl⟩ ⟨rfl, rfl⟩ rfl (fun h hh => hh.1) rfl (Nat.le_of_ble_eq_true rfl) dL_byHand_113 ⟨by dsimp only; omega, by dsimp only; omega⟩ (fun h v h' hh hj9 => ?_)
    obtain ⟨rfl, ⟨f3, g3, hN3, hR3, h5a, h5b⟩, hF3⟩ := hj9
    refine V_weak (I2 := NI cI h0 na nb f3 g3) (fun z hz => by rw [hz]; exact ⟨hN3, hh.2.trans hF3⟩) ?_
    obtain ⟨c1, c2, c3, c4, c5, c6⟩ := AW_chX haw
    have d27 : (endsS (chX (handS S a (6 * r + c) v n) (S.2 24)) (S.2 24) ((chX (handS S a (6 * r + c) v n) (S.2 24)).2 24 - S.2 24)).2.2 27 = S.2 27 := ((endsS_2 _ _ _ 27 (by decide)).trans (c5 27 (by decide) (by decide))).trans (hand_2 S a (6 * r + c) v n 27 (by decide))
    have wD : WFp (endsS (chX (handS S a (6 * r + c) v n) (S.2 24)) (S.2 24) ((chX (handS S a (6 * r + c) v n) (S.2 24)).2 24 - S.2 24)).2 := WFp_of c1 (fun k k0 k1 => endsS_1 _ _ _ k (by omega)) ⟨endsS_2 _ _ _ 22 (by decide), endsS_2 _ _ _ 23 (by decide), endsS_2 _ _ _ 27 (by decide), endsS_2 _ _ _ 28 (by decide)⟩ (by rw [endsS_1 _ _ _ 0 (by decide)]; exact c1.2.2.2.2.2)
    have m52 : f3 52 = S.2 27 + 1 := by rw [hR3.2.2.2.2.1.2.2.1, d27]
    refine V_istore9 (pc' := 118) C dL_byHand_116 rfl (by decide) rfl ?_
    refine V_aload0 (pc' := 119) C dL_byHand_118 rfl ?_
    refine V_bipush (pc' := 121) C dL_byHand_119 rfl (by decide) ?_
    refine V_iload7 (pc' := 123) C dL_byHand_121 rfl ?_
    refine V_iflt (tgt := 142) C (by omega) dL_byHand_123 (by decide) rfl (fun c_123 => ?_) (fun c_123 => ?_)
    · have hfin : NR (upZ f3 52 (S.2 27 + 1)) g3 (byHandS S a (6 * r + c) v n).2 := by
        show NR _ _ (afterS (endsS (chX (handS S a (6 * r + c) v n) (S.2 24)) (S.2 24) ((chX (handS S a (6 * r + c) v n) (S.2 24)).2 24 - S.2 24)).2)
        unfold afterS
        rw [d27, if_neg (fun z => by first | (exact c_135 z.2) | (have := z.1; omega))]
        exact hR3.s27 wD (by omega) (by have := hwp.2.2.2.2.1; omega)
      refine V_aload0 (pc' := 143) C dL_byHand_142 rfl ?_
      refine V_bipush (pc' := 145) C dL_byHand_143 rfl (by decide) ?_
      refine V_ialdE (pc' := 146) (n := 540) (f := f3) (v := (S.2 27 + 1)) C 2 rfl (fun h hh => ⟨901, hh.1.1⟩) ⟨by omega, by omega, by omega⟩ (m52) dL_byHand_145 rfl ?_
      refine V_iast (pc' := 147) (n := 540) (f := f3) (I2 := NI cI h0 na nb (upZ f3 52 (S.2 27 + 1)) (g3)) C 2 rfl (fun h hh => ⟨901, hh.1.1, hh.a⟩) ⟨by omega, by omega, by omega⟩ dL_byHand_146 rfl ?_
      refine V_iload9 (pc' := 149) C dL_byHand_147 rfl ?_
      have hans : (byHandS S a (6 * r + c) v n).1 = (chX (handS S a (6 * r + c) v n) (S.2 24)).2 24 - S.2 24 := ans_hand _ _ _ _ _
      rw [← hans]
      exact V_end C hr hlk (fun h' hh => ⟨rfl, ⟨_, _, hh.1, hfin, by rw [upZ_n (by decide)]; omega, by rw [upZ_n (by decide)]; omega⟩, hh.2⟩) ⟨by omega, by omega⟩ dL_byHand_149
    · refine V_aload0 (pc' := 127) C dL_byHand_126 rfl ?_
      refine V_iload7 (pc' := 129) C dL_byHand_127 rfl ?_
      refine V_callS (n := 1) [.int (iI (S.2 27))] C (kL_macroAt (q := (S.2 27))) gL_byHand_L_macroAt rfl ydL_macroAt ⟨Nat.le_of_ble_eq_true rfl, Nat.le_of_ble_eq_true rfl⟩ ⟨rfl, rfl⟩ rfl (fun h hh => trivial) rfl (Nat.le_of_ble_eq_true rfl) dL_byHand_129 ⟨Nat.le_of_ble_eq_true rfl, Nat.le_of_ble_eq_true rfl⟩ (fun h v h' hh hj9 => ?_)
      obtain ⟨r9, rfl, rfl, rfl⟩ := hj9
      refine V_weak (I2 := NI cI h0 na nb (f3) (g3)) (fun x hx => by rw [hx]; exact hh) ?_
      refine V_ialdE (pc' := 133) (n := 540) (f := f3) (v := (endsS (chX (handS S a (6 * r + c) v n) (S.2 24)) (S.2 24) ((chX (handS S a (6 * r + c) v n) (S.2 24)).2 24 - S.2 24)).2.1 4 (S.2 27)) C 2 rfl (fun h hh => ⟨901, hh.1.1⟩) ⟨by omega, by omega, by omega⟩ ((hR3.2.2.1 (S.2 27) (by omega) (by omega)).1) dL_byHand_132 rfl ?_
      refine V_bipush (pc' := 135) C dL_byHand_133 rfl (by decide) ?_
      refine V_icmpne (tgt := 142) C ⟨by have := wD.2.1 (S.2 27) (by omega) (by omega); omega, by decide⟩ dL_byHand_135 (by decide) rfl (fun c_135 => ?_) (fun c_135 => ?_)
      · have hfin : NR (upZ f3 52 (S.2 27 + 1)) g3 (byHandS S a (6 * r + c) v n).2 := by
          show NR _ _ (afterS (endsS (chX (handS S a (6 * r + c) v n) (S.2 24)) (S.2 24) ((chX (handS S a (6 * r + c) v n) (S.2 24)).2 24 - S.2 24)).2)
          unfold afterS
          rw [d27, if_neg (fun z => by first | (exact c_135 z.2) | (have := z.1; omega))]
          exact hR3.s27 wD (by omega) (by have := hwp.2.2.2.2.1; omega)
        refine V_aload0 (pc' := 143) C dL_byHand_142 rfl ?_
        refine V_bipush (pc' := 145) C dL_byHand_143 rfl (by decide) ?_
        refine V_ialdE (pc' := 146) (n := 540) (f := f3) (v := (S.2 27 + 1)) C 2 rfl (fun h hh => ⟨901, hh.1.1⟩) ⟨by omega, by omega, by omega⟩ (m52) dL_byHand_145 rfl ?_
        refine V_iast (pc' := 147) (n := 540) (f := f3) (I2 := NI cI h0 na nb (upZ f3 52 (S.2 27 + 1)) (g3)) C 2 rfl (fun h hh => ⟨901, hh.1.1, hh.a⟩) ⟨by omega, by omega, by omega⟩ dL_byHand_146 rfl ?_
        refine V_iload9 (pc' := 149) C dL_byHand_147 rfl ?_
        have hans : (byHandS S a (6 * r + c) v n).1 = (chX (handS S a (6 * r + c) v n) (S.2 24)).2 24 - S.2 24 := ans_hand _ _ _ _ _
        rw [← hans]
        exact V_end C hr hlk (fun h' hh => ⟨rfl, ⟨_, _, hh.1, hfin, by rw [upZ_n (by decide)]; omega, by rw [upZ_n (by decide)]; omega⟩, hh.2⟩) ⟨by omega, by omega⟩ dL_byHand_149
      · have hfin : NR (upZ f3 52 (0)) g3 (byHandS S a (6 * r + c) v n).2 := by
          show NR _ _ (afterS (endsS (chX (handS S a (6 * r + c) v n) (S.2 24)) (S.2 24) ((chX (handS S a (6 * r + c) v n) (S.2 24)).2 24 - S.2 24)).2)
          unfold afterS
          rw [d27, if_pos ⟨by omega, by first | exact c_135 | exact Classical.not_not.mp c_135⟩]
          exact hR3.s27 wD (by omega) (by have := hwp.2.2.2.2.1; omega)
        refine V_iconst (pc' := 139) C dL_byHand_138 rfl ?_
        refine V_goto (tgt := 146) C dL_byHand_139 (by decide) ?_
        refine V_iast (pc' := 147) (n := 540) (f := f3) (I2 := NI cI h0 na nb (upZ f3 52 0) (g3)) C 2 rfl (fun h hh => ⟨901, hh.1.1, hh.a⟩) ⟨by omega, by omega, by omega⟩ dL_byHand_146 rfl ?_
        refine V_iload9 (pc' := 149) C dL_byHand_147 rfl ?_
        have hans : (byHandS S a (6 * r + c) v n).1 = (chX (handS S a (6 * r + c) v n) (S.2 24)).2 24 - S.2 24 := ans_hand _ _ _ _ _
        rw [← hans]
        exact V_end C hr hlk (fun h' hh => ⟨rfl, ⟨_, _, hh.1, hfin, by rw [upZ_n (by decide)]; omega, by rw [upZ_n (by decide)]; omega⟩, hh.2⟩) ⟨by omega, by omega⟩ dL_byHand_149
end

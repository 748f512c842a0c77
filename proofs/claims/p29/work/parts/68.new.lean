/-! the class: a new sheet -/
theorem st2N_1 {k : Nat} (hk : k ≠ 2) : ∀ j, (st2N j).1 k = fun _ => 0
  | 0 => rfl
  | j + 1 => by rw [st2N, uA_n _ hk, st2N_1 hk j]
theorem st2N_2 : ∀ j, (st2N j).2 = fun k => if k = 27 then -1 else 0
  | 0 => rfl
  | j + 1 => by rw [st2N, uA_2, st2N_2 j]
theorem st2N_s : ∀ j : Nat, ∀ z : Int, 0 ≤ z → z < j → (st2N j).1 2 z = -2
  | 0, z, z0, z1 => by omega
  | j + 1, z, z0, z1 => by
    rw [st2N, uA_s]
    by_cases q : z = j
    · rw [q, upZ_s]
    · rw [upZ_n q]
      exact st2N_s j z z0 (by omega)
theorem S0_1 {k : Nat} (hk : k ≠ 2) (z : Int) : S0.1 k z = 0 := by rw [S0, st2N_1 hk]
theorem S0_2 (k : Nat) : S0.2 k = if k = 27 then -1 else 0 := by rw [S0, st2N_2]
/-- what the class alone has when it is new -/
def X0 : MSt := (fun _ _ => 0, fun k => if k = 26 then 210 else 0)
def PI (la q2 q3 q4 q5 q16 q18 q6 q11 q12 q14 q15 q13 : Nat) (v : Nat → Nat) : Nat → Nat
  | 1 => la | 2 => q2 | 3 => q3 | 4 => q4 | 5 => q5 | 6 => q6 | 7 => v 0 | 8 => v 1 | 9 => v 2 | 10 => v 3 | 11 => q11 | 12 => q12 | 13 => q13 | 14 => q14 | 15 => q15 | 16 => q16 | 18 => q18 | _ => 0
theorem CW_new {cI cO cB : ClassId} {ee : Nat × Nat} {la q2 q3 q4 q5 q16 q18 q6 q11 q12 q14 q15 q13 : Nat} {v : Nat → Nat} {h : Hp} {ml : Int} {g : Int → Int}
    (a1 : h la = some (1, .inr (12, [.ref q2, .ref q4, .ref q16, .ref q18, .ref q6, .ref q11, .ref q14, .ref q13, iV 0, iV (-1), iV 0, iV 0, iV 0])))
    (a2 : CeH cI q2 q3 2 (fun _ => 0) h) (a3 : CeH cI q4 q5 4 (fun _ => 0) h) (a4 : AuH cI q6 v 6 (fun _ _ => 0) 0 210 h) (a5 : HiH cI q11 q12 11 (fun _ => 0) 0 h) (a6 : h q13 = some (13, .inl (cI, 210, .inl (iF fun _ => 0))))
    (a7 : SbH cB q14 q15 14 ml 0 g h) (a8 : LH cO ee q16 16 0 none 0 (fun _ => none) h) (a9 : LH cO ee q18 18 0 none 0 (fun _ => none) h) : CW cI cO ee (TxH cB) (PI la q2 q3 q4 q5 q16 q18 q6 q11 q12 q14 q15 q13 v) S0 X0 h := by
  have z0 : S0.1 0 = fun _ => 0 := funext fun z => S0_1 (by decide) z
  have fz : ∀ b, fstP (PI la q2 q3 q4 q5 q16 q18 q6 q11 q12 q14 q15 q13 v) b 0 = fun _ => none := fun b => funext fun i => if_neg (by omega)
  refine ⟨a1, by rw [z0]; exact a2, a3, ⟨a4.1, fun k hk => ?_, a4.2.2⟩, a5, a6, ⟨ml, g, a7, fun z z0 z1 => ?_, fun z z0 z1 => ?_⟩, ⟨0, none, ?_⟩, fun m hm => ?_, ⟨0, none, ?_⟩, fun r hr => ?_⟩
  · exact match k, hk with
    | 0, _ => a4.2.1 0 (by decide)
    | 1, _ => a4.2.1 1 (by decide)
    | 2, _ => a4.2.1 2 (by decide)
    | 3, _ => a4.2.1 3 (by decide)
  · rw [S0_2] at z1
    exact absurd z1 (by simp; omega)
  · rw [S0_2] at z1
    exact absurd z1 (by simp; omega)
  · rw [S0_2]
    show LH cO ee q16 16 0 none 0 (fstP _ 100 0) h
    rw [fz]
    exact a8
  · rw [S0_2] at hm
    exact absurd hm (by simp)
  · rw [S0_2]
    show LH cO ee q18 18 0 none 0 (fstP _ 400 0) h
    rw [fz]
    exact a9
  · rw [S0_2] at hr
    exact absurd hr (by simp)
theorem UM_0 : UM S0 := fun m _ _ => ⟨S0_1 (by decide) m, S0_1 (by decide) m⟩
theorem KD_0 : KD S0 := fun m k _ _ k0 k1 => by
  rw [S0_1 (by decide)] at k1
  omega
theorem RM_0 : RM S0 := fun r r0 r1 => by
  rw [S0_2] at r1
  exact absurd r1 (by simp; omega)
def TN1 : Nat → Prop := fun u => u = 1 ∨ tC 2 u
def TN2 : Nat → Prop := fun u => u = 1 ∨ tC 4 u
def TN3 : Nat → Prop := fun u => u = 1 ∨ tL 16 u
def TN4 : Nat → Prop := fun u => u = 1 ∨ tL 18 u
def TN5 : Nat → Prop := fun u => u = 1 ∨ tU 6 u
def TN6 : Nat → Prop := fun u => u = 1 ∨ tC 11 u
def TN7 : Nat → Prop := fun u => u = 1 ∨ tC 14 u
theorem ydX7_init : yX7_init.name = "<init>" ∧ yX7_init.cls ≠ "java/lang/invoke/MethodHandle" ∧ yX7_init.cls ≠ "java/lang/invoke/VarHandle" ∧ (parseMethodDescriptor yX7_init.desc).map (fun d => d.parameters.length) = some 0 := by decide +kernel
section
variable {l : Launch} {D : va_G} {cB cC cI cO cJ cD : ClassId} {ee : Nat × Nat}
set_option maxHeartbeats 4000000 in
set_option maxRecDepth 100000 in
theorem kX7_init {la : Nat} : Ct l yX7_init wsX7_init ({ frames := 5, cells := 16, slots := 1189, locals := 110 } : Room) D (tyL cB cC cI cO cJ cD) ee [.ref la] (fun x => x la = some (1, .inr (12, [.null, .null, .null, .null, .null, .null, .null, .null, .int 0, .int 0, .int 0, .int 0, .int 0]))) (fun h v9 h' => v9 = none ∧ (∃ P, P 1 = la ∧ CW cI cO ee (TxH cB) P S0 X0 h') ∧ Fr T7 h h') (16) (1189) := by
  refine Ct_of (cc := cX7_init) (own := RX7) [some (.ref la)] (by decide) rfl rfl (Nat.le_of_ble_eq_true rfl) (fun i9 v9 h9 => argL [.ref la] 0 rfl i9 v9 h9) ?_
  intro p e s m9 args below meth c9 h0 sz hI C hr hlk hinit
  have hin : ∀ w ∈ wsX70, w ∈ wsX7_init := by decide +kernel
  have hs0' := hI
  refine V_aload0 (pc' := 1) C dX7_init_0 rfl ?_
  refine V_objInit (pc' := 4) C (by decide +kernel) (by decide +kernel) (by decide +kernel) ⟨Nat.le_of_ble_eq_true rfl, Nat.le_of_ble_eq_true rfl⟩ dX7_init_1 rfl ?_
  refine V_aload0 (pc' := 5) C dX7_init_4 rfl ?_
  refine V_new (pc' := 8) (T := TX1) (N := 1) (ty0 := tyX1) (ci := 6) (fs := [.null]) 2 C (by decide +kernel) tyX1_ok (by decide +kernel) (by decide +kernel) (by decide +kernel) rfl (by decide) (Nat.le_of_ble_eq_true rfl) (Nat.le_of_ble_eq_true rfl) dX7_init_5 rfl (fun q1 => ?_)
  refine V_fix (fun e1 he1 => ?_)
  obtain ⟨g9, hg9, hq9, he1⟩ := he1
  rw [hg9] at hq9 he1
  have hn1 : e1 q1 = some (2, .inr (6, [.null])) := by rw [he1]; exact hup_s
  have hx1 : Fr (fun _ => False) h0 e1 := by rw [he1]; exact Fr.new Fr.refl hq9
  refine V_dup (pc' := 9) C rfl dX7_init_8 rfl ?_
  refine V_callI (n := 0) [] C (kX1_init (t := 2)) gX7_init_X1_init (by decide +kernel) (by decide +kernel) (by decide +kernel) rfl ydX1_init ⟨Nat.le_of_ble_eq_true rfl, Nat.le_of_ble_eq_true rfl⟩ ⟨rfl, rfl⟩ rfl (fun h hh => by rw [hh]; exact hn1) rfl (Nat.le_of_ble_eq_true rfl) dX7_init_9 ⟨Nat.le_of_ble_eq_true rfl, Nat.le_of_ble_eq_true rfl⟩ (fun h v h' hh hj9 => ?_)
  obtain ⟨rfl, ⟨v1, hj1⟩, hj2⟩ := hj9
  rw [hh] at hj2
  refine V_fix (fun c1 hc1 => ?_)
  subst hc1
  have hy1 : Fr TN1 h0 c1 := (hx1.mono (fun _ z => z.elim)).trans (hj2.mono (fun u z => (Or.inr z : TN1 u)))
  have hs1 : c1 la = some (1, .inr (12, [.null, .null, .null, .null, .null, .null, .null, .null, .int 0, .int 0, .int 0, .int 0, .int 0])) := (hj2.mono (fun u z => z)) _ _ _ (hx1 _ _ _ hs0' (fun z => z)) (by first | (unfold tC; omega) | (unfold tL; omega) | (unfold tU; omega))
  refine V_putF (pc' := 15) (T := TX7) (N := 13) (ci := 12) (I2 := fun x => x = hup c1 la (1, .inr (12, [.ref q1, .null, .null, .null, .null, .null, .null, .null, .int 0, .int 0, .int 0, .int 0, .int 0]))) C hin tyX7_ok nmX7 rfl 0 (by decide) (by decide +kernel) rfl (hinit rfl) rfl rfl rfl (fun h hh => by subst hh; exact ⟨1, _, hs1, Nat.le_of_ble_eq_true rfl, rfl⟩) dX7_init_12 rfl ?_
  refine V_fix (fun g1 hg1 => ?_)
  have hs1' : g1 la = some (1, .inr (12, [.ref q1, .null, .null, .null, .null, .null, .null, .null, .int 0, .int 0, .int 0, .int 0, .int 0])) := by rw [hg1]; exact hup_s
  have hz1 : Fr (fun u => u = 1) c1 g1 := by rw [hg1]; exact Fr.refl.up hs1 rfl
  have hf1 : Fr TN1 h0 g1 := hy1.trans (hz1.mono (fun u z => Or.inl z))
  have p2_1 := hj1.fr hz1 (by decide) (by decide)
  refine V_aload0 (pc' := 16) C dX7_init_15 rfl ?_
  refine V_new (pc' := 19) (T := TX1) (N := 1) (ty0 := tyX1) (ci := 6) (fs := [.null]) 4 C (by decide +kernel) tyX1_ok (by decide +kernel) (by decide +kernel) (by decide +kernel) rfl (by decide) (Nat.le_of_ble_eq_true rfl) (Nat.le_of_ble_eq_true rfl) dX7_init_16 rfl (fun q2 => ?_)
  refine V_fix (fun e2 he2 => ?_)
  obtain ⟨g9, hg9, hq9, he2⟩ := he2
  rw [hg9] at hq9 he2
  have hn2 : e2 q2 = some (4, .inr (6, [.null])) := by rw [he2]; exact hup_s
  have hx2 : Fr (fun _ => False) g1 e2 := by rw [he2]; exact Fr.new Fr.refl hq9
  refine V_dup (pc' := 20) C rfl dX7_init_19 rfl ?_
  refine V_callI (n := 0) [] C (kX1_init (t := 4)) gX7_init_X1_init (by decide +kernel) (by decide +kernel) (by decide +kernel) rfl ydX1_init ⟨Nat.le_of_ble_eq_true rfl, Nat.le_of_ble_eq_true rfl⟩ ⟨rfl, rfl⟩ rfl (fun h hh => by rw [hh]; exact hn2) rfl (Nat.le_of_ble_eq_true rfl) dX7_init_20 ⟨Nat.le_of_ble_eq_true rfl, Nat.le_of_ble_eq_true rfl⟩ (fun h v h' hh hj9 => ?_)
  obtain ⟨rfl, ⟨v2, hj1⟩, hj2⟩ := hj9
  rw [hh] at hj2
  refine V_fix (fun c2 hc2 => ?_)
  subst hc2
  have hy2 : Fr TN2 g1 c2 := (hx2.mono (fun _ z => z.elim)).trans (hj2.mono (fun u z => (Or.inr z : TN2 u)))
  have hs2 : c2 la = some (1, .inr (12, [.ref q1, .null, .null, .null, .null, .null, .null, .null, .int 0, .int 0, .int 0, .int 0, .int 0])) := (hj2.mono (fun u z => z)) _ _ _ (hx2 _ _ _ hs1' (fun z => z)) (by first | (unfold tC; omega) | (unfold tL; omega) | (unfold tU; omega))
  refine V_putF (pc' := 26) (T := TX7) (N := 13) (ci := 12) (I2 := fun x => x = hup c2 la (1, .inr (12, [.ref q1, .ref q2, .null, .null, .null, .null, .null, .null, .int 0, .int 0, .int 0, .int 0, .int 0]))) C hin tyX7_ok nmX7 rfl 1 (by decide) (by decide +kernel) rfl (hinit rfl) rfl rfl rfl (fun h hh => by subst hh; exact ⟨1, _, hs2, Nat.le_of_ble_eq_true rfl, rfl⟩) dX7_init_23 rfl ?_
  refine V_fix (fun g2 hg2 => ?_)
  have hs2' : g2 la = some (1, .inr (12, [.ref q1, .ref q2, .null, .null, .null, .null, .null, .null, .int 0, .int 0, .int 0, .int 0, .int 0])) := by rw [hg2]; exact hup_s
  have hz2 : Fr (fun u => u = 1) c2 g2 := by rw [hg2]; exact Fr.refl.up hs2 rfl
  have hf2 : Fr TN2 g1 g2 := hy2.trans (hz2.mono (fun u z => Or.inl z))
  have p2_2 := p2_1.fr hf2 (by unfold TN2 tC; omega) (by unfold TN2 tC; omega)
  have p4_2 := hj1.fr hz2 (by decide) (by decide)
  refine V_aload0 (pc' := 27) C dX7_init_26 rfl ?_
  refine V_new (pc' := 30) (T := TJx4a65c) (N := 3) (ty0 := tyJx4a65c) (ci := 4) (fs := [.int 0, .null, .int 0]) 16 C (by decide +kernel) tyJx4a65c_ok (by decide +kernel) (by decide +kernel) (by decide +kernel) rfl (by decide) (Nat.le_of_ble_eq_true rfl) (Nat.le_of_ble_eq_true rfl) dX7_init_27 rfl (fun q3 => ?_)
  refine V_fix (fun e3 he3 => ?_)
  obtain ⟨g9, hg9, hq9, he3⟩ := he3
  rw [hg9] at hq9 he3
  have hn3 : e3 q3 = some (16, .inr (4, [.int 0, .null, .int 0])) := by rw [he3]; exact hup_s
  have hx3 : Fr (fun _ => False) g2 e3 := by rw [he3]; exact Fr.new Fr.refl hq9
  refine V_dup (pc' := 31) C rfl dX7_init_30 rfl ?_
  refine V_callI (n := 0) [] C (kJx4a65c_init_da8c8 (t := 16)) gX7_init_Jx4a65c_init_da8c8 (by decide +kernel) (by decide +kernel) (by decide +kernel) rfl ydJx4a65c_init_da8c8 ⟨Nat.le_of_ble_eq_true rfl, Nat.le_of_ble_eq_true rfl⟩ ⟨rfl, rfl⟩ rfl (fun h hh => by rw [hh]; exact hn3) rfl (Nat.le_of_ble_eq_true rfl) dX7_init_31 ⟨Nat.le_of_ble_eq_true rfl, Nat.le_of_ble_eq_true rfl⟩ (fun h v h' hh hj9 => ?_)
  obtain ⟨rfl, hj1, hj2⟩ := hj9
  rw [hh] at hj2
  refine V_fix (fun c3 hc3 => ?_)
  subst hc3
  have hy3 : Fr TN3 g2 c3 := (hx3.mono (fun _ z => z.elim)).trans (hj2.mono (fun u z => (Or.inr z : TN3 u)))
  have hs3 : c3 la = some (1, .inr (12, [.ref q1, .ref q2, .null, .null, .null, .null, .null, .null, .int 0, .int 0, .int 0, .int 0, .int 0])) := (hj2.mono (fun u z => z)) _ _ _ (hx3 _ _ _ hs2' (fun z => z)) (by first | (unfold tC; omega) | (unfold tL; omega) | (unfold tU; omega))
  refine V_putF (pc' := 37) (T := TX7) (N := 13) (ci := 12) (I2 := fun x => x = hup c3 la (1, .inr (12, [.ref q1, .ref q2, .ref q3, .null, .null, .null, .null, .null, .int 0, .int 0, .int 0, .int 0, .int 0]))) C hin tyX7_ok nmX7 rfl 2 (by decide) (by decide +kernel) rfl (hinit rfl) rfl rfl rfl (fun h hh => by subst hh; exact ⟨1, _, hs3, Nat.le_of_ble_eq_true rfl, rfl⟩) dX7_init_34 rfl ?_
  refine V_fix (fun g3 hg3 => ?_)
  have hs3' : g3 la = some (1, .inr (12, [.ref q1, .ref q2, .ref q3, .null, .null, .null, .null, .null, .int 0, .int 0, .int 0, .int 0, .int 0])) := by rw [hg3]; exact hup_s
  have hz3 : Fr (fun u => u = 1) c3 g3 := by rw [hg3]; exact Fr.refl.up hs3 rfl
  have hf3 : Fr TN3 g2 g3 := hy3.trans (hz3.mono (fun u z => Or.inl z))
  have p2_3 := p2_2.fr hf3 (by unfold TN3 tL; omega) (by unfold TN3 tL; omega)
  have p4_3 := p4_2.fr hf3 (by unfold TN3 tL; omega) (by unfold TN3 tL; omega)
  have p16_3 := hj1.fr hz3 (by decide) (by decide)
  refine V_aload0 (pc' := 38) C dX7_init_37 rfl ?_
  refine V_new (pc' := 41) (T := TJx4a65c) (N := 3) (ty0 := tyJx4a65c) (ci := 4) (fs := [.int 0, .null, .int 0]) 18 C (by decide +kernel) tyJx4a65c_ok (by decide +kernel) (by decide +kernel) (by decide +kernel) rfl (by decide) (Nat.le_of_ble_eq_true rfl) (Nat.le_of_ble_eq_true rfl) dX7_init_38 rfl (fun q4 => ?_)
  refine V_fix (fun e4 he4 => ?_)
  obtain ⟨g9, hg9, hq9, he4⟩ := he4
  rw [hg9] at hq9 he4
  have hn4 : e4 q4 = some (18, .inr (4, [.int 0, .null, .int 0])) := by rw [he4]; exact hup_s
  have hx4 : Fr (fun _ => False) g3 e4 := by rw [he4]; exact Fr.new Fr.refl hq9
  refine V_dup (pc' := 42) C rfl dX7_init_41 rfl ?_
  refine V_callI (n := 0) [] C (kJx4a65c_init_da8c8 (t := 18)) gX7_init_Jx4a65c_init_da8c8 (by decide +kernel) (by decide +kernel) (by decide +kernel) rfl ydJx4a65c_init_da8c8 ⟨Nat.le_of_ble_eq_true rfl, Nat.le_of_ble_eq_true rfl⟩ ⟨rfl, rfl⟩ rfl (fun h hh => by rw [hh]; exact hn4) rfl (Nat.le_of_ble_eq_true rfl) dX7_init_42 ⟨Nat.le_of_ble_eq_true rfl, Nat.le_of_ble_eq_true rfl⟩ (fun h v h' hh hj9 => ?_)
  obtain ⟨rfl, hj1, hj2⟩ := hj9
  rw [hh] at hj2
  refine V_fix (fun c4 hc4 => ?_)
  subst hc4
  have hy4 : Fr TN4 g3 c4 := (hx4.mono (fun _ z => z.elim)).trans (hj2.mono (fun u z => (Or.inr z : TN4 u)))
  have hs4 : c4 la = some (1, .inr (12, [.ref q1, .ref q2, .ref q3, .null, .null, .null, .null, .null, .int 0, .int 0, .int 0, .int 0, .int 0])) := (hj2.mono (fun u z => z)) _ _ _ (hx4 _ _ _ hs3' (fun z => z)) (by first | (unfold tC; omega) | (unfold tL; omega) | (unfold tU; omega))
  refine V_putF (pc' := 48) (T := TX7) (N := 13) (ci := 12) (I2 := fun x => x = hup c4 la (1, .inr (12, [.ref q1, .ref q2, .ref q3, .ref q4, .null, .null, .null, .null, .int 0, .int 0, .int 0, .int 0, .int 0]))) C hin tyX7_ok nmX7 rfl 3 (by decide) (by decide +kernel) rfl (hinit rfl) rfl rfl rfl (fun h hh => by subst hh; exact ⟨1, _, hs4, Nat.le_of_ble_eq_true rfl, rfl⟩) dX7_init_45 rfl ?_
  refine V_fix (fun g4 hg4 => ?_)
  have hs4' : g4 la = some (1, .inr (12, [.ref q1, .ref q2, .ref q3, .ref q4, .null, .null, .null, .null, .int 0, .int 0, .int 0, .int 0, .int 0])) := by rw [hg4]; exact hup_s
  have hz4 : Fr (fun u => u = 1) c4 g4 := by rw [hg4]; exact Fr.refl.up hs4 rfl
  have hf4 : Fr TN4 g3 g4 := hy4.trans (hz4.mono (fun u z => Or.inl z))
  have p2_4 := p2_3.fr hf4 (by unfold TN4 tL; omega) (by unfold TN4 tL; omega)
  have p4_4 := p4_3.fr hf4 (by unfold TN4 tL; omega) (by unfold TN4 tL; omega)
  have p16_4 := p16_3.fr hf4 (by unfold TN4 tL; omega) (by unfold TN4 tL; omega)
  have p18_4 := hj1.fr hz4 (by decide) (by decide)
  refine V_aload0 (pc' := 49) C dX7_init_48 rfl ?_
  refine V_new (pc' := 52) (T := TX0) (N := 5) (ty0 := tyX0) (ci := 5) (fs := [.null, .null, .null, .null, .int 0]) 6 C (by decide +kernel) tyX0_ok (by decide +kernel) (by decide +kernel) (by decide +kernel) rfl (by decide) (Nat.le_of_ble_eq_true rfl) (Nat.le_of_ble_eq_true rfl) dX7_init_49 rfl (fun q5 => ?_)
  refine V_fix (fun e5 he5 => ?_)
  obtain ⟨g9, hg9, hq9, he5⟩ := he5
  rw [hg9] at hq9 he5
  have hn5 : e5 q5 = some (6, .inr (5, [.null, .null, .null, .null, .int 0])) := by rw [he5]; exact hup_s
  have hx5 : Fr (fun _ => False) g4 e5 := by rw [he5]; exact Fr.new Fr.refl hq9
  refine V_dup (pc' := 53) C rfl dX7_init_52 rfl ?_
  refine V_callI (n := 0) [] C (kX0_init (t := 6)) gX7_init_X0_init (by decide +kernel) (by decide +kernel) (by decide +kernel) rfl ydX0_init ⟨Nat.le_of_ble_eq_true rfl, Nat.le_of_ble_eq_true rfl⟩ ⟨rfl, rfl⟩ rfl (fun h hh => by rw [hh]; exact ⟨hn5, fun j hj => absurd hj (Nat.not_lt_zero j)⟩) rfl (Nat.le_of_ble_eq_true rfl) dX7_init_53 ⟨Nat.le_of_ble_eq_true rfl, Nat.le_of_ble_eq_true rfl⟩ (fun h v h' hh hj9 => ?_)
  obtain ⟨rfl, ⟨v5, hj1⟩, hj2⟩ := hj9
  rw [hh] at hj2
  refine V_fix (fun c5 hc5 => ?_)
  subst hc5
  have hy5 : Fr TN5 g4 c5 := (hx5.mono (fun _ z => z.elim)).trans (hj2.mono (fun u z => (Or.inr z : TN5 u)))
  have hs5 : c5 la = some (1, .inr (12, [.ref q1, .ref q2, .ref q3, .ref q4, .null, .null, .null, .null, .int 0, .int 0, .int 0, .int 0, .int 0])) := (hj2.mono (fun u z => z)) _ _ _ (hx5 _ _ _ hs4' (fun z => z)) (by first | (unfold tC; omega) | (unfold tL; omega) | (unfold tU; omega))
  refine V_putF (pc' := 59) (T := TX7) (N := 13) (ci := 12) (I2 := fun x => x = hup c5 la (1, .inr (12, [.ref q1, .ref q2, .ref q3, .ref q4, .ref q5, .null, .null, .null, .int 0, .int 0, .int 0, .int 0, .int 0]))) C hin tyX7_ok nmX7 rfl 4 (by decide) (by decide +kernel) rfl (hinit rfl) rfl rfl rfl (fun h hh => by subst hh; exact ⟨1, _, hs5, Nat.le_of_ble_eq_true rfl, rfl⟩) dX7_init_56 rfl ?_
  refine V_fix (fun g5 hg5 => ?_)
  have hs5' : g5 la = some (1, .inr (12, [.ref q1, .ref q2, .ref q3, .ref q4, .ref q5, .null, .null, .null, .int 0, .int 0, .int 0, .int 0, .int 0])) := by rw [hg5]; exact hup_s
  have hz5 : Fr (fun u => u = 1) c5 g5 := by rw [hg5]; exact Fr.refl.up hs5 rfl
  have hf5 : Fr TN5 g4 g5 := hy5.trans (hz5.mono (fun u z => Or.inl z))
  have p2_5 := p2_4.fr hf5 (by unfold TN5 tU; omega) (by unfold TN5 tU; omega)
  have p4_5 := p4_4.fr hf5 (by unfold TN5 tU; omega) (by unfold TN5 tU; omega)
  have p16_5 := p16_4.fr hf5 (by unfold TN5 tU; omega) (by unfold TN5 tU; omega)
  have p18_5 := p18_4.fr hf5 (by unfold TN5 tU; omega) (by unfold TN5 tU; omega)
  have p6_5 := hj1.fr hz5 (fun u a b => by omega)
  refine V_aload0 (pc' := 60) C dX7_init_59 rfl ?_
  refine V_new (pc' := 63) (T := TX2) (N := 2) (ty0 := tyX2) (ci := 7) (fs := [.null, .int 0]) 11 C (by decide +kernel) tyX2_ok (by decide +kernel) (by decide +kernel) (by decide +kernel) rfl (by decide) (Nat.le_of_ble_eq_true rfl) (Nat.le_of_ble_eq_true rfl) dX7_init_60 rfl (fun q6 => ?_)
  refine V_fix (fun e6 he6 => ?_)
  obtain ⟨g9, hg9, hq9, he6⟩ := he6
  rw [hg9] at hq9 he6
  have hn6 : e6 q6 = some (11, .inr (7, [.null, .int 0])) := by rw [he6]; exact hup_s
  have hx6 : Fr (fun _ => False) g5 e6 := by rw [he6]; exact Fr.new Fr.refl hq9
  refine V_dup (pc' := 64) C rfl dX7_init_63 rfl ?_
  refine V_callI (n := 0) [] C (kX2_init (t := 11)) gX7_init_X2_init (by decide +kernel) (by decide +kernel) (by decide +kernel) rfl ydX2_init ⟨Nat.le_of_ble_eq_true rfl, Nat.le_of_ble_eq_true rfl⟩ ⟨rfl, rfl⟩ rfl (fun h hh => by rw [hh]; exact hn6) rfl (Nat.le_of_ble_eq_true rfl) dX7_init_64 ⟨Nat.le_of_ble_eq_true rfl, Nat.le_of_ble_eq_true rfl⟩ (fun h v h' hh hj9 => ?_)
  obtain ⟨rfl, ⟨v6, hj1⟩, hj2⟩ := hj9
  rw [hh] at hj2
  refine V_fix (fun c6 hc6 => ?_)
  subst hc6
  have hy6 : Fr TN6 g5 c6 := (hx6.mono (fun _ z => z.elim)).trans (hj2.mono (fun u z => (Or.inr z : TN6 u)))
  have hs6 : c6 la = some (1, .inr (12, [.ref q1, .ref q2, .ref q3, .ref q4, .ref q5, .null, .null, .null, .int 0, .int 0, .int 0, .int 0, .int 0])) := (hj2.mono (fun u z => z)) _ _ _ (hx6 _ _ _ hs5' (fun z => z)) (by first | (unfold tC; omega) | (unfold tL; omega) | (unfold tU; omega))
  refine V_putF (pc' := 70) (T := TX7) (N := 13) (ci := 12) (I2 := fun x => x = hup c6 la (1, .inr (12, [.ref q1, .ref q2, .ref q3, .ref q4, .ref q5, .ref q6, .null, .null, .int 0, .int 0, .int 0, .int 0, .int 0]))) C hin tyX7_ok nmX7 rfl 5 (by decide) (by decide +kernel) rfl (hinit rfl) rfl rfl rfl (fun h hh => by subst hh; exact ⟨1, _, hs6, Nat.le_of_ble_eq_true rfl, rfl⟩) dX7_init_67 rfl ?_
  refine V_fix (fun g6 hg6 => ?_)
  have hs6' : g6 la = some (1, .inr (12, [.ref q1, .ref q2, .ref q3, .ref q4, .ref q5, .ref q6, .null, .null, .int 0, .int 0, .int 0, .int 0, .int 0])) := by rw [hg6]; exact hup_s
  have hz6 : Fr (fun u => u = 1) c6 g6 := by rw [hg6]; exact Fr.refl.up hs6 rfl
  have hf6 : Fr TN6 g5 g6 := hy6.trans (hz6.mono (fun u z => Or.inl z))
  have p2_6 := p2_5.fr hf6 (by unfold TN6 tC; omega) (by unfold TN6 tC; omega)
  have p4_6 := p4_5.fr hf6 (by unfold TN6 tC; omega) (by unfold TN6 tC; omega)
  have p16_6 := p16_5.fr hf6 (by unfold TN6 tC; omega) (by unfold TN6 tC; omega)
  have p18_6 := p18_5.fr hf6 (by unfold TN6 tC; omega) (by unfold TN6 tC; omega)
  have p6_6 := p6_5.fr hf6 (fun u a b => by unfold TN6 tC; omega)
  have p11_6 := hj1.fr hz6 (by decide) (by decide)
  refine V_aload0 (pc' := 71) C dX7_init_70 rfl ?_
  refine V_new (pc' := 74) (T := TJ4) (N := 4) (ty0 := tyJ4) (ci := 1) (fs := [.null, .int 0, .int 0, .int 0]) 14 C (by decide +kernel) tyJ4_ok (by decide +kernel) (by decide +kernel) (by decide +kernel) rfl (by decide) (Nat.le_of_ble_eq_true rfl) (Nat.le_of_ble_eq_true rfl) dX7_init_71 rfl (fun q7 => ?_)
  refine V_fix (fun e7 he7 => ?_)
  obtain ⟨g9, hg9, hq9, he7⟩ := he7
  rw [hg9] at hq9 he7
  have hn7 : e7 q7 = some (14, .inr (1, [.null, .int 0, .int 0, .int 0])) := by rw [he7]; exact hup_s
  have hx7 : Fr (fun _ => False) g6 e7 := by rw [he7]; exact Fr.new Fr.refl hq9
  refine V_dup (pc' := 75) C rfl dX7_init_74 rfl ?_
  refine V_callI (n := 0) [] C (kJ4_init_da8c8 (t := 14)) gX7_init_J4_init_da8c8 (by decide +kernel) (by decide +kernel) (by decide +kernel) rfl ydJ4_init_da8c8 ⟨Nat.le_of_ble_eq_true rfl, Nat.le_of_ble_eq_true rfl⟩ ⟨rfl, rfl⟩ rfl (fun h hh => by rw [hh]; exact hn7) rfl (Nat.le_of_ble_eq_true rfl) dX7_init_75 ⟨Nat.le_of_ble_eq_true rfl, Nat.le_of_ble_eq_true rfl⟩ (fun h v h' hh hj9 => ?_)
  obtain ⟨rfl, ⟨v7, hj1⟩, hj2⟩ := hj9
  rw [hh] at hj2
  refine V_fix (fun c7 hc7 => ?_)
  subst hc7
  have hy7 : Fr TN7 g6 c7 := (hx7.mono (fun _ z => z.elim)).trans (hj2.mono (fun u z => (Or.inr z : TN7 u)))
  have hs7 : c7 la = some (1, .inr (12, [.ref q1, .ref q2, .ref q3, .ref q4, .ref q5, .ref q6, .null, .null, .int 0, .int 0, .int 0, .int 0, .int 0])) := (hj2.mono (fun u z => z)) _ _ _ (hx7 _ _ _ hs6' (fun z => z)) (by first | (unfold tC; omega) | (unfold tL; omega) | (unfold tU; omega))
  refine V_putF (pc' := 81) (T := TX7) (N := 13) (ci := 12) (I2 := fun x => x = hup c7 la (1, .inr (12, [.ref q1, .ref q2, .ref q3, .ref q4, .ref q5, .ref q6, .ref q7, .null, .int 0, .int 0, .int 0, .int 0, .int 0]))) C hin tyX7_ok nmX7 rfl 6 (by decide) (by decide +kernel) rfl (hinit rfl) rfl rfl rfl (fun h hh => by subst hh; exact ⟨1, _, hs7, Nat.le_of_ble_eq_true rfl, rfl⟩) dX7_init_78 rfl ?_
  refine V_fix (fun g7 hg7 => ?_)
  have hs7' : g7 la = some (1, .inr (12, [.ref q1, .ref q2, .ref q3, .ref q4, .ref q5, .ref q6, .ref q7, .null, .int 0, .int 0, .int 0, .int 0, .int 0])) := by rw [hg7]; exact hup_s
  have hz7 : Fr (fun u => u = 1) c7 g7 := by rw [hg7]; exact Fr.refl.up hs7 rfl
  have hf7 : Fr TN7 g6 g7 := hy7.trans (hz7.mono (fun u z => Or.inl z))
  have p2_7 := p2_6.fr hf7 (by unfold TN7 tC; omega) (by unfold TN7 tC; omega)
  have p4_7 := p4_6.fr hf7 (by unfold TN7 tC; omega) (by unfold TN7 tC; omega)
  have p16_7 := p16_6.fr hf7 (by unfold TN7 tC; omega) (by unfold TN7 tC; omega)
  have p18_7 := p18_6.fr hf7 (by unfold TN7 tC; omega) (by unfold TN7 tC; omega)
  have p6_7 := p6_6.fr hf7 (fun u a b => by unfold TN7 tC; omega)
  have p11_7 := p11_6.fr hf7 (by unfold TN7 tC; omega) (by unfold TN7 tC; omega)
  have p14_7 := hj1.fr hz7 (by decide) (by decide)
  refine V_aload0 (pc' := 82) C dX7_init_81 rfl ?_
  refine V_sipush (pc' := 85) C dX7_init_82 rfl (by decide) ?_
  refine V_newarr (pc' := 87) (N := 210) (atype := .int) (ty := .int) (a0 := (210, .inl (iF fun _ => 0))) 13 C (by decide +kernel) rfl 2 rfl (fun cA => rfl) ⟨rfl, by decide⟩ (Nat.le_of_ble_eq_true rfl) (Nat.le_of_ble_eq_true rfl) dX7_init_85 rfl (fun q8 => ?_)
  refine V_fix (fun e8 he8 => ?_)
  obtain ⟨g9, hg9, hq9, he8⟩ := he8
  rw [hg9] at hq9 he8
  have hn8 : e8 q8 = some (13, .inl (cI, 210, .inl (iF fun _ => 0))) := by rw [he8]; exact hup_s
  have hx8 : Fr (fun _ => False) g7 e8 := by rw [he8]; exact Fr.new Fr.refl hq9
  have hs8 := hx8 _ _ _ hs7' (fun z => z)
  refine V_putF (pc' := 90) (T := TX7) (N := 13) (ci := 12) (I2 := fun x => x = hup e8 la (1, .inr (12, [.ref q1, .ref q2, .ref q3, .ref q4, .ref q5, .ref q6, .ref q7, .ref q8, .int 0, .int 0, .int 0, .int 0, .int 0]))) C hin tyX7_ok nmX7 rfl 7 (by decide) (by decide +kernel) rfl (hinit rfl) rfl rfl rfl (fun h hh => by subst hh; exact ⟨1, _, hs8, Nat.le_of_ble_eq_true rfl, rfl⟩) dX7_init_87 rfl ?_
  refine V_fix (fun g8 hg8 => ?_)
  have hs8' : g8 la = some (1, .inr (12, [.ref q1, .ref q2, .ref q3, .ref q4, .ref q5, .ref q6, .ref q7, .ref q8, .int 0, .int 0, .int 0, .int 0, .int 0])) := by rw [hg8]; exact hup_s
  have hz8 : Fr (fun u => u = 1) e8 g8 := by rw [hg8]; exact Fr.refl.up hs8 rfl
  have hf8 : Fr (fun u => u = 1) g7 g8 := (hx8.mono (fun _ z => z.elim)).trans hz8
  have p13_8 := hz8 _ _ _ hn8 (by decide)
  have p2_8 := p2_7.fr hf8 (by decide) (by decide)
  have p4_8 := p4_7.fr hf8 (by decide) (by decide)
  have p16_8 := p16_7.fr hf8 (by decide) (by decide)
  have p18_8 := p18_7.fr hf8 (by decide) (by decide)
  have p6_8 := p6_7.fr hf8 (fun u a b => by omega)
  have p11_8 := p11_7.fr hf8 (by decide) (by decide)
  have p14_8 := p14_7.fr hf8 (by decide) (by decide)
  refine V_aload0 (pc' := 91) C dX7_init_90 rfl ?_
  refine V_iconst (pc' := 92) C dX7_init_91 rfl ?_
  refine V_putf (pc' := 95) (T := TX7) (N := 13) (ci := 12) (I2 := fun x => x = hup g8 la (1, .inr (12, [.ref q1, .ref q2, .ref q3, .ref q4, .ref q5, .ref q6, .ref q7, .ref q8, .int 0, .int (iI (-1)), .int 0, .int 0, .int 0]))) C hin tyX7_ok nmX7 rfl 9 (by decide) (by decide +kernel) rfl rfl rfl (fun h hh => by subst hh; exact ⟨1, _, hs8', Nat.le_of_ble_eq_true rfl, rfl⟩) dX7_init_92 rfl ?_
  refine V_fix (fun g9 hg9' => ?_)
  have hs9' : g9 la = some (1, .inr (12, [.ref q1, .ref q2, .ref q3, .ref q4, .ref q5, .ref q6, .ref q7, .ref q8, .int 0, .int (iI (-1)), .int 0, .int 0, .int 0])) := by rw [hg9']; exact hup_s
  have hf9 : Fr (fun u => u = 1) g8 g9 := by rw [hg9']; exact Fr.refl.up hs8' rfl
  have p2_9 := p2_8.fr hf9 (by decide) (by decide)
  have p4_9 := p4_8.fr hf9 (by decide) (by decide)
  have p16_9 := p16_8.fr hf9 (by decide) (by decide)
  have p18_9 := p18_8.fr hf9 (by decide) (by decide)
  have p6_9 := p6_8.fr hf9 (fun u a b => by omega)
  have p11_9 := p11_8.fr hf9 (by decide) (by decide)
  have p14_9 := p14_8.fr hf9 (by decide) (by decide)
  have p13_9 := hf9 _ _ _ p13_8 (by decide)
  exact V_endv C hr hlk (fun h' hh => by subst hh; exact ⟨rfl, ⟨_, rfl, CW_new hs9' p2_9 p4_9 p6_9 p11_9 p13_9 p14_9 p16_9 p18_9⟩, (((((((((hf1.mono (fun u z => by unfold TN1 tC at z; unfold T7; omega)).trans (hf2.mono (fun u z => by unfold TN2 tC at z; unfold T7; omega))).trans (hf3.mono (fun u z => by unfold TN3 tL at z; unfold T7; omega))).trans (hf4.mono (fun u z => by unfold TN4 tL at z; unfold T7; omega))).trans (hf5.mono (fun u z => by unfold TN5 tU at z; unfold T7; omega))).trans (hf6.mono (fun u z => by unfold TN6 tC at z; unfold T7; omega))).trans (hf7.mono (fun u z => by unfold TN7 tC at z; unfold T7; omega))).trans (hf8.mono (fun u z => by unfold T7; omega))).trans (hf9.mono (fun u z => by unfold T7; omega)))⟩) ⟨Nat.le_of_ble_eq_true rfl, Nat.le_of_ble_eq_true rfl⟩ dX7_init_95
end

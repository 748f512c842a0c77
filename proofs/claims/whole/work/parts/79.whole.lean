/-! THE CLAIM OUT OF ONE WALK OF THE LAW'S BODY. Your part is whole_start (and what it stands on); all else here is the same for every law, but numbers. -/
def R_law : String := "MacroSheetLaw"
def lw_P (b : Addr) (xs : List Int32) (args : Array Value) (s : State) : Prop := args = #[.ref b] ∧ s.IntsAt b xs ∧ xs.length ≤ 3584 ∧ (Jvm.Cond.and given_1 narrow_1).before args s = true
/-- what a walk over the start with the record d0 says of its end, said of the start itself -/
theorem lw_closed {s t : State} {o : Outcome} {d0 : Drawn} {L : List Loc} {k n : Nat} (hd0 : s.drawn.sameBut d0 lw_cs) (hv : ∃ v, o = .returned v) (hW : (s.setDrawn d0).WarmedH t.vm) (hs : (s.setDrawn d0).sameButNew ({ t with vm := s.vm } : State) L k n) : State.butDraws s t lw_cs (fun t1 => Framed s o t1 L k n) := by
  have h2 : t.drawn = d0 := congrArg State.drawn hs.1
  refine ⟨⟨hv, hW, State.sameButNew.setDrawn hs s.drawn⟩, ?_, by decide⟩
  rw [h2]
  exact hd0
def lw_Q (_ : Array Value) (s : State) (o : Outcome) (t : State) : Prop := o = .returned (some (.int 1)) ∧ State.butDraws s t lw_cs (fun t1 => Framed s o t1 [] 603072 7215210)
def lw_Z (below : List Frame) (a : Array Value) (s : State) : State → Prop := fun t => ∃ o, t.status = .running ∧ Ended t below o ∧ lw_Q a s o t
/-- the law's own end, with 1 on the stack, nothing written that was there before, its room as the claim has it; d0: the record of draws at this point (at the entry s.drawn: begin with 'refine W.base ?_' and 'have hd0 := Drawn.sameBut.refl s.drawn lw_cs') -/
theorem lw_ret {p : Program} {l : Launch} {e : Env} {s : State} {m : MethodId} {below : List Frame} {meth : Method} {c : Code} {b : Nat} {d0 : Drawn} (hd0 : s.drawn.sameBut d0 lw_cs) (hx : p.tables.exec = Jvm.exec) (hb : c.code = code) (hr : meth.sig.returnType = ret) (hlocks : meth.locks = false) {pc : Nat} {H : Heap} {ls : Array Slot} (hdg : decode code pc = .ok (.ireturn, 1)) : W p l e room_1 (s.setDrawn d0) m #[Value.ref b] below meth c H [] 603072 7215210 (lw_Z below #[Value.ref b] s) (F0 m pc ls [.int 1]) := by
  intro T hT X
  obtain ⟨fs, hret, hrun, hended, hW, hframe⟩ := X.leave (v := some (.int 1)) (hlocks := hlocks) (fun h => by rw [hr] at h; cases h)
  have hmeth' : T.vm.method? m = some meth := X.method'
  refine ⟨T.setFrames fs, ?_, .returned (some (.int 1)), hrun, hended, rfl, lw_closed hd0 ⟨_, rfl⟩ hW hframe⟩
  jvm_step X.here [X.here.top, hx, hb, hdg, hmeth', hr, ret, narrow_b1]
  (try refine ⟨rfl, ?_⟩); (try refine ⟨rfl, ?_⟩)
  first | (intro acts; rw [hret _ acts rfl rfl rfl]) | rw [hret _ _ rfl rfl rfl]
  exact Steps.refl _
/-- what holds at the law's entry: the machine, the code, the tables' words (any of lw_tbl by 'hts w (by decide +kernel)'), the script of L ints xs at the cell b, what the Statement gives of the start (any of its parts by flat_of_before) -/
def lw_At (p : Program) (s : State) (m : MethodId) (meth : Method) (c : Code) (b L : Nat) (xs : Nat → Int32) : Prop :=
  p.tables.exec = Jvm.exec ∧ c.code = code ∧ meth.sig.returnType = ret ∧ c.maxLocals = 9 ∧ s.vm.findClass R_law = some m.cls ∧ (∀ w ∈ lw_tbl, w.before #[Value.ref b] s = true) ∧ va_X b L xs s s.heap ∧ b < s.heap.size ∧ meth.locks = false ∧ (Jvm.Cond.and given_1 narrow_1).before #[Value.ref b] s = true
/-! the law, from its entry -/
theorem INV_0 : INV S0 X0 (210 * ((0 : Nat) : Int)) := by
  have e : ∀ k, k ≠ 2 → ∀ z, S0.1 k z = 0 := fun k hk z => S0_1 hk z
  have n : ∀ k, k ≠ 27 → S0.2 k = 0 := fun k hk => by rw [S0_2, if_neg hk]
  have n27 : S0.2 27 = -1 := by rw [S0_2]; rfl
  have e2 : ∀ z, 0 ≤ z → z < 48 → S0.1 2 z = -2 := fun z z0 z1 => st2N_s 48 z z0 z1
  refine ⟨⟨⟨⟨fun z _ _ => ?_, fun m _ _ => ?_, fun g _ _ => ?_, fun r _ _ => ?_, ?_, fun z _ _ => ?_⟩, ⟨?_, fun k k0 k1 => ?_⟩, ⟨?_, ?_, ?_, ?_, fun k k0 k1 => ?_⟩, fun q => ?_, ⟨fun z z0 z1 => ?_, ?_, ?_, ?_⟩, ?_, ?_, fun z _ _ => ?_⟩, KD_0, RM_0, ⟨⟨?_, ?_, ?_⟩, fun j hj => ?_, fun j hj => ?_, fun z _ _ => ?_, fun z z0 z1 => ?_, fun w w0 w1 => ?_⟩, ⟨?_, fun k k0 k1 => ?_⟩, 0, by decide, rfl⟩, UM_0⟩
  · rw [e 6 (by decide), e 7 (by decide), e 8 (by decide), e 5 (by decide)]; decide
  · rw [e 4 (by decide), e 9 (by decide)]; decide
  · rw [e 10 (by decide), e 11 (by decide)]; decide
  · rw [e 12 (by decide), e 13 (by decide), e 14 (by decide), e 15 (by decide)]; decide
  · rw [n 22 (by decide), n 23 (by decide), n27, n 28 (by decide)]; decide
  · rw [e 0 (by decide)]; decide
  · rw [n 24 (by decide)]; decide
  · rw [n 24 (by decide)] at k1; omega
  · rw [n 25 (by decide)]; decide
  · rw [n 25 (by decide)]; decide
  · rw [e 20 (by decide)]
  · rw [e 20 (by decide), n 24 (by decide)]
  · rw [n 25 (by decide)] at k1; omega
  · rw [n27] at q; exact absurd q (by decide)
  · rw [e2 z z0 z1]; decide
  · rw [n 29 (by decide)]; decide
  · rw [n 29 (by decide), n 24 (by decide)]; decide
  · decide
  · rw [n 30 (by decide)]; decide
  · rw [n 30 (by decide)]; decide
  · rw [e 21 (by decide)]; decide
  · rw [n 29 (by decide), n 24 (by decide)]; rfl
  · rw [n 29 (by decide)]; decide
  · rw [n 24 (by decide)]; decide
  · rw [n 24 (by decide)] at hj; omega
  · exact absurd (show (j : Int) < 0 from hj) (by omega)
  · rw [e 0 (by decide)]; rfl
  · rw [e2 z z0 z1, n 29 (by decide)]; rfl
  · rw [e 3 (by decide), n 29 (by decide)]; rfl
  · rw [n 25 (by decide)]; rfl
  · rw [n 25 (by decide)] at k1; omega
theorem ydX8_init : yX8_init.name = "<init>" ∧ yX8_init.cls ≠ "java/lang/invoke/MethodHandle" ∧ yX8_init.cls ≠ "java/lang/invoke/VarHandle" ∧ (parseMethodDescriptor yX8_init.desc).map (fun d => d.parameters.length) = some 0 := by decide +kernel
set_option maxHeartbeats 4000000 in
set_option maxRecDepth 100000 in
theorem whole_start {p : Program} {e : Env} {s : State} {m : MethodId} {below : List Frame} {meth : Method} {c : Code} (l : Launch) (hflags : l.flags = flags0) {b L : Nat} {xs : Nat → Int32} (hL : L ≤ 3584) (C0 : lw_At p s m meth c b L xs) : W p l e room_1 s m #[Value.ref b] below meth c s.heap [] 0 0 (lw_Z below #[Value.ref b] s) (entryFrame m ([Value.ref b] : List Value).toArray 9) := by
  obtain ⟨hx, hb, hr, hml, hown, hts, hX, hbl, hlocks, hgv⟩ := id C0
  have hst : l.stackTraces = false := by
    unfold Launch.stackTraces
    rw [hflags]
    decide +kernel
  have ht2 := lw_tb2_hts hts
  have htL : ∀ w ∈ wsL_law, w.before #[Value.ref b] s = true := fun w h => ht2 w (wsL_law_in w h)
  have hbA : ¬ (fun q : Nat => s.heap.size ≤ q) b := Nat.not_le.mpr hbl
  obtain ⟨c0, i0, k0⟩ := u_known (C := RJ0) (T := TJ0) (N := 4) (n := 4) ht2 inJ0 (hts (.instantiable RJ0 4) (by decide +kernel))
  obtain ⟨c1, i1, k1⟩ := u_known (C := RJ4) (T := TJ4) (N := 4) (n := 4) ht2 inJ4 (hts (.instantiable RJ4 4) (by decide +kernel))
  obtain ⟨c2, i2, k2⟩ := u_known (C := RJx00060) (T := TJx00060) (N := 6) (n := 6) ht2 inJx00060 (hts (.instantiable RJx00060 6) (by decide +kernel))
  obtain ⟨c3, i3, k3⟩ := u_known (C := RJx7c733) (T := TJx7c733) (N := 6) (n := 6) ht2 inJx7c733 (hts (.instantiable RJx7c733 6) (by decide +kernel))
  obtain ⟨c4, i4, k4⟩ := u_known (C := RJx4a65c) (T := TJx4a65c) (N := 3) (n := 3) ht2 inJx4a65c (hts (.instantiable RJx4a65c 3) (by decide +kernel))
  obtain ⟨c5, i5, k5⟩ := u_known (C := RX0) (T := TX0) (N := 5) (n := 5) ht2 inX0 (hts (.instantiable RX0 5) (by decide +kernel))
  obtain ⟨c6, i6, k6⟩ := u_known (C := RX1) (T := TX1) (N := 1) (n := 1) ht2 inX1 (hts (.instantiable RX1 1) (by decide +kernel))
  obtain ⟨c7, i7, k7⟩ := u_known (C := RX2) (T := TX2) (N := 2) (n := 2) ht2 inX2 (hts (.instantiable RX2 2) (by decide +kernel))
  obtain ⟨c8, i8, k8⟩ := u_known (C := RX3) (T := TX3) (N := 3) (n := 3) ht2 inX3 (hts (.instantiable RX3 3) (by decide +kernel))
  obtain ⟨c9, i9, k9⟩ := u_known (C := RX4) (T := TX4) (N := 4) (n := 4) ht2 inX4 (hts (.instantiable RX4 4) (by decide +kernel))
  obtain ⟨c10, i10, k10⟩ := u_known (C := RX5) (T := TX5) (N := 3) (n := 3) ht2 inX5 (hts (.instantiable RX5 3) (by decide +kernel))
  obtain ⟨c11, i11, k11⟩ := u_known (C := RX6) (T := TX6) (N := 4) (n := 4) ht2 inX6 (hts (.instantiable RX6 4) (by decide +kernel))
  obtain ⟨c12, i12, k12⟩ := u_known (C := RX7) (T := TX7) (N := 13) (n := 13) ht2 inX7 (hts (.instantiable RX7 13) (by decide +kernel))
  obtain ⟨c13, i13, k13⟩ := u_known (C := RX8) (T := TX8) (N := 32) (n := 32) ht2 inX8 (hts (.instantiable RX8 32) (by decide +kernel))
  obtain ⟨dC, dI, hKc⟩ : ∃ (dC : Nat → ClassId) (dI : Nat → Nat → Nat), ∀ (k : Nat) (q : vw_C), vwCl[k]? = some q → u_Kn s q.1 q.2.1 q.2.2 (dC k) (dI k) := by
    refine ⟨fun k => if k = 0 then c0 else if k = 1 then c1 else if k = 2 then c2 else if k = 3 then c3 else if k = 4 then c4 else if k = 5 then c5 else if k = 6 then c6 else if k = 7 then c7 else if k = 8 then c8 else if k = 9 then c9 else if k = 10 then c10 else if k = 11 then c11 else if k = 12 then c12 else c13, fun k => if k = 0 then i0 else if k = 1 then i1 else if k = 2 then i2 else if k = 3 then i3 else if k = 4 then i4 else if k = 5 then i5 else if k = 6 then i6 else if k = 7 then i7 else if k = 8 then i8 else if k = 9 then i9 else if k = 10 then i10 else if k = 11 then i11 else if k = 12 then i12 else i13, ?_⟩
    intro k q hq
    match k, hq with
    | 0, hq => cases hq; exact k0
    | 1, hq => cases hq; exact k1
    | 2, hq => cases hq; exact k2
    | 3, hq => cases hq; exact k3
    | 4, hq => cases hq; exact k4
    | 5, hq => cases hq; exact k5
    | 6, hq => cases hq; exact k6
    | 7, hq => cases hq; exact k7
    | 8, hq => cases hq; exact k8
    | 9, hq => cases hq; exact k9
    | 10, hq => cases hq; exact k10
    | 11, hq => cases hq; exact k11
    | 12, hq => cases hq; exact k12
    | 13, hq => cases hq; exact k13
    | k + 14, hq => simp [vwCl] at hq
  obtain ⟨cB, aB⟩ := arr_of (ty := .byte) (hts (.arrayClass .byte) (by decide +kernel)) (fun C h => by cases h)
  obtain ⟨cC, aC⟩ := arr_of (ty := .char) (hts (.arrayClass .char) (by decide +kernel)) (fun C h => by cases h)
  obtain ⟨cI, aI⟩ := arr_of (ty := .int) (hts (.arrayClass .int) (by decide +kernel)) (fun C h => by cases h)
  obtain ⟨cJ, aJ⟩ := arr_of (ty := .long) (hts (.arrayClass .long) (by decide +kernel)) (fun C h => by cases h)
  obtain ⟨cD, aD⟩ := arr_of (ty := .double) (hts (.arrayClass .double) (by decide +kernel)) (fun C h => by cases h)
  obtain ⟨cO, aO⟩ := arr_ofO (C := "java/lang/Object") (hts (.arrayOver (.object "java/lang/Object")) (by decide +kernel))
  have hK : va_K (dC, dI) vwCl (tyL cB cC cI cO cJ cD) s := ⟨hKc, fun k q h => by
    match k, h with
    | 0, h => cases h; exact aB
    | 1, h => cases h; exact aC
    | 2, h => cases h; exact aI
    | 3, h => cases h; exact aO
    | 4, h => cases h; exact aJ
    | 5, h => cases h; exact aD
    | k + 6, h => simp at h⟩
  obtain ⟨ee, hEV⟩ := EV_0 (A := fun q : Nat => s.heap.size ≤ q) hts hgv (fun a h => Nat.not_le.mpr h)
  have C : Cx p m c code 9 s #[Value.ref b] wsL_law RL (dC, dI) (tyL cB cC cI cO cJ cD) (fun q : Nat => s.heap.size ≤ q) ee := ⟨⟨hx, hb, hml, hown, htL⟩, hK, fun q h => h, hEV⟩
  have hX' : va_X b L (iF (fun z : Int => (xs z.toNat).toInt)) s s.heap := by
    have e9 : (iF fun z : Int => (xs z.toNat).toInt) = xs := funext fun j => by
      show iI ((xs ((j : Int)).toNat).toInt) = xs j
      rw [Int.toNat_natCast, iI_of]
    rw [e9]
    exact hX
  have hend : ∀ (I : Hp → Prop) (L9 : List (Option Value)), Vx p l e room_1 s m #[Value.ref b] below meth c 603072 7215210 (lw_Z below #[Value.ref b] s) (dC, dI) (fun q : Nat => s.heap.size ≤ q) 9 I 1849 L9 [] := by
    intro I L9
    refine V_iconst (pc' := 1850) C dL_law_1849 rfl ?_
    intro h H locs ls _ _ hS _
    rw [show iI 1 = 1 from by decide]
    exact W.forget (locs := []) (L := locs) hS.2.2 (W.base (lw_ret (Drawn.sameBut.refl s.drawn lw_cs) hx hb hr hlocks dL_law_1850))
  have hl := lv_entry ([.ref b]) (n := 9) (Nat.le_of_ble_eq_true rfl)
  rw [lg_entry_eq]
  generalize (lg_sl ([.ref b]) ++ List.replicate (9 - (lg_sl ([.ref b])).length) Slot.unset).toArray = ls at hl ⊢
  have K : Vx p l e room_1 s m #[Value.ref b] below meth c 0 0 (lw_Z below #[Value.ref b] s) (dC, dI) (fun q : Nat => s.heap.size ≤ q) 9 (fun h => h = fun _ => none) 0 [some (.ref b), none, none, none, none, none, none, none, none] [] := by
    refine V_new (pc' := 3) (T := TX7) (N := 13) (ty0 := tyX7) (ci := 12) (fs := [.null, .null, .null, .null, .null, .null, .null, .null, .int 0, .int 0, .int 0, .int 0, .int 0]) 1 C inlX7 tyX7_ok (by decide +kernel) (by decide +kernel) (by decide +kernel) rfl (by decide) (Nat.le_of_ble_eq_true rfl) (Nat.le_of_ble_eq_true rfl) dL_law_0 rfl (fun x => ?_)
    refine V_fix (fun g1 hg1 => ?_)
    obtain ⟨g0, hg0, hq0, hg1⟩ := hg1
    have hn1 : g1 x = some (1, .inr (12, [.null, .null, .null, .null, .null, .null, .null, .null, .int 0, .int 0, .int 0, .int 0, .int 0])) := by rw [hg1]; exact hup_s
    refine V_dup (pc' := 4) C rfl dL_law_3 rfl ?_
    refine V_callI (n := 0) [] C (kX7_init (la := x)) gL_law_X7_init (by decide +kernel) (by decide +kernel) (by decide +kernel) rfl ydX7_init ⟨Nat.le_of_ble_eq_true rfl, Nat.le_of_ble_eq_true rfl⟩ ⟨rfl, rfl⟩ rfl (fun h hh => by rw [hh]; exact hn1) rfl (Nat.le_of_ble_eq_true rfl) dL_law_4 ⟨Nat.le_of_ble_eq_true rfl, Nat.le_of_ble_eq_true rfl⟩ (fun h v h1 hh hj9 => ?_)
    obtain ⟨rfl, ⟨P, hP1, hc1⟩, hF1⟩ := hj9
    refine V_astore1 (pc' := 8) C dL_law_7 rfl (by decide) rfl ?_
    refine V_new (pc' := 11) (T := TX8) (N := 32) (ty0 := tyX8) (ci := 13) (fs := mFc (fun _ => 0) 0) 1000 C inlX8 tyX8_ok (by decide +kernel) (by decide +kernel) (by decide +kernel) rfl (by decide) (Nat.le_of_ble_eq_true rfl) (Nat.le_of_ble_eq_true rfl) dL_law_8 rfl (fun mo => ?_)
    refine V_fix (fun g2 hg2 => ?_)
    obtain ⟨g3, hg3, hq2, hg2⟩ := hg2
    rw [hg3] at hq2 hg2
    have hn2 : g2 mo = some (1000, .inr (13, mFc (fun _ => 0) 0)) := by rw [hg2]; exact hup_s
    have hf2 : Fr (fun _ => False) h1 g2 := by rw [hg2]; exact Fr.new Fr.refl hq2
    refine V_dup (pc' := 12) C rfl dL_law_11 rfl ?_
    refine V_callI (n := 0) [] C (kX8_init (mo := mo) (fun _ => 0)) gL_law_X8_init (by decide +kernel) (by decide +kernel) (by decide +kernel) rfl ydX8_init ⟨Nat.le_of_ble_eq_true rfl, Nat.le_of_ble_eq_true rfl⟩ ⟨rfl, rfl⟩ rfl (fun h hh => by rw [hh]; exact ⟨hn2, fun j hj => absurd hj (Nat.not_lt_zero j)⟩) rfl (Nat.le_of_ble_eq_true rfl) dL_law_12 ⟨Nat.le_of_ble_eq_true rfl, Nat.le_of_ble_eq_true rfl⟩ (fun h v h3 hh hj9 => ?_)
    obtain ⟨rfl, ⟨Pm, hm3⟩, hF3⟩ := hj9
    rw [hh] at hF3
    have hF4 : Fr tM h1 h3 := (hf2.mono (fun _ z => z.elim)).trans hF3
    have hc3 : CW cI cO ee (TxH cB) P S0 X0 h3 := hc1.kp INV_0.1.1.1 INV_0.1.2.2.1 (TxH_ok cB) hF4 (fun u hu => by have := usT_lo INV_0.1.1.1 hu; unfold tM; omega) (fun u hu => by unfold tM; omega)
    refine V_astore2 (pc' := 16) C dL_law_15 rfl (by decide) rfl ?_
    refine V_iconst (pc' := 17) C dL_law_16 rfl ?_
    refine V_newarr (pc' := 19) (N := 1) (atype := .long) (ty := .long) (a0 := (1, .inr (.inl fun _ => 0))) 901 C (by decide +kernel) rfl 4 rfl (fun cA => rfl) ⟨rfl, by decide⟩ (Nat.le_of_ble_eq_true rfl) (Nat.le_of_ble_eq_true rfl) dL_law_17 rfl (fun ou => ?_)
    refine V_fix (fun g4 hg4 => ?_)
    obtain ⟨g5, hg5, hq4, hg4⟩ := hg4
    rw [hg5] at hq4 hg4
    have hn4 : g4 ou = some (901, .inl (cJ, 1, .inr (.inl fun _ => 0))) := by rw [hg4]; exact hup_s
    have hf4 : Fr (fun _ => False) h3 g4 := by rw [hg4]; exact Fr.new Fr.refl hq4
    refine V_astore3 (pc' := 20) C dL_law_19 rfl (by decide) rfl ?_
    refine V_iconst (pc' := 21) C dL_law_20 rfl ?_
    refine V_newarr (pc' := 23) (N := 1) (atype := .double) (ty := .double) (a0 := (1, .inr (.inr (.inr (.inl fun _ => 0))))) 902 C (by decide +kernel) rfl 5 rfl (fun cA => rfl) ⟨rfl, by decide⟩ (Nat.le_of_ble_eq_true rfl) (Nat.le_of_ble_eq_true rfl) dL_law_21 rfl (fun od => ?_)
    refine V_fix (fun g6 hg6 => ?_)
    obtain ⟨g7, hg7, hq6, hg6⟩ := hg6
    rw [hg7] at hq6 hg6
    have hn6 : g6 od = some (902, .inl (cD, 1, .inr (.inr (.inr (.inl fun _ => 0))))) := by rw [hg6]; exact hup_s
    have hf6 : Fr (fun _ => False) g4 g6 := by rw [hg6]; exact Fr.new Fr.refl hq6
    have hf7 : Fr (fun _ => False) h3 g6 := hf4.trans hf6
    refine V_astore4 (pc' := 25) C dL_law_23 rfl (by decide) rfl ?_
    refine V_iconst (pc' := 26) C dL_law_25 rfl ?_
    refine V_istore5 (pc' := 28) C dL_law_26 rfl (by decide) rfl ?_
    have hc6 : CW cI cO ee (TxH cB) P S0 X0 g6 := hc3.kp INV_0.1.1.1 INV_0.1.2.2.1 (TxH_ok cB) hf7 (fun u _ z => z) (fun u _ z => z)
    refine V_weak (I2 := LJ cB cC cI cO ee mo Pm P S0 X0 S0 (ON cJ cD ou od)) (fun z hz => by rw [hz]; exact ⟨hc6, hm3.fr hf7 (fun u _ _ z => z), ⟨_, hf6 _ _ _ hn4 (fun z => z)⟩, ⟨_, hn6⟩⟩) ?_
    exact law_loop C hX' hbl hbA hst (fun z => rI_of _) hL hend 512 0 P S0 X0 _ _ (by decide) (by decide) INV_0 hP1 (Nat.le_of_ble_eq_true rfl) (Nat.le_of_ble_eq_true rfl)
  exact K (fun _ => none) s.heap [] ls rfl ⟨[], fun k q h => by simp at h, ⟨fun i j p q h => by simp at h, fun k q h => by simp at h⟩, fun a t e h => by cases h⟩ va_S.rf ⟨lv_args 0 [.ref b], hl, fun i v h => argL [.ref b] 8 rfl i v h⟩
set_option maxHeartbeats 4000000 in
theorem lw_walk (l : Launch) (hflags : l.flags = flags0) (b : Addr) (xs : List Int32) : MetFree l x (headSpec (Jvm.Cond.code x code maxLocals ret :: tables_1) room_1) (lw_P b xs) (fun _ _ _ _ _ => True) lw_Q := by
  refine MetFree.of_bodyS (code := code) (maxLocals := maxLocals) (ret := ret) (by decide) ?_ ?_
  · intro args s m h hn
    obtain ⟨meth, c, h1, h2, h3, h4, h5, h6, -, -⟩ := Cond.code_spec hn (atoms_spec (ws := Jvm.Cond.code x code maxLocals ret :: tables_1) h _ List.mem_cons_self)
    exact ⟨meth, c, h1, h2, h3, h4, h5, h6⟩
  · intro p e s m args below meth c s₁ B hml0 hP _
    obtain ⟨rfl, hx, hbd, hgv⟩ := hP
    obtain ⟨scr, harrAt, hlist, hof, hsmall⟩ := hx
    obtain ⟨hcb, hkn, -, -⟩ := State.arrayAt?_spec harrAt
    have hown : s.vm.findClass R_law = some m.cls := findClass_of_methodNamed B.named
    have hts0 : ∀ c ∈ (Jvm.Cond.code x code maxLocals ret :: tables_1), c.before #[Value.ref b] s = true := atoms_spec (ws := Jvm.Cond.code x code maxLocals ret :: tables_1) B.pre
    have hts : ∀ w ∈ lw_tbl, w.before #[Value.ref b] s = true := k2_hts_sels lw_privs (fun w hw => hts0 w (List.mem_cons_of_mem _ hw)) lw_privs_ok
    have hml : c.maxLocals = 9 := B.maxLocals_eq (hts0 _ List.mem_cons_self)
    have X₀ : Stand p l e room_1 s m #[Value.ref b] below meth c s₁ [] 0 0 := Stand.of_body B
    have hh0 : s₁.heap = s.heap := by rw [B.state]; rfl
    have hsz : scr.slots.size = xs.length := by rw [← Array.length_toList, hlist, List.length_map]
    have hval : ∀ j : Nat, j < xs.length → scr.slots[j]? = some (.int (xs.getD j 0)) := fun j hj => by
      rw [← Array.getElem?_toList, hlist]
      simp [hj]
    have hbl : b < s.heap.size := (Array.getElem?_eq_some_iff.mp hcb).1
    have hX : va_X b xs.length (fun j => xs.getD j 0) s s.heap := ⟨scr, hcb, hof, hkn, hsz, hval⟩
    have K : W p l e room_1 s m #[Value.ref b] below meth c s₁.heap [] 0 0 (lw_Z below #[Value.ref b] s) (entryFrame m ([Value.ref b] : List Value).toArray 9) := by
      rw [hh0]
      exact whole_start l hflags hbd ⟨B.exec, B.bytes, B.returns, hml, hown, hts, hX, hbl, B.notSynchronized, hgv⟩
    obtain ⟨t, a1, o, b1, b2, b3⟩ := K s₁ rfl X₀
    exact ⟨t, o, a1, b1, b2, b3⟩
theorem lw_pre_spec {args : Array Value} {s : State} (h : (Jvm.Cond.and given_1 narrow_1).before args s = true) (hr : rest_1_c.before args s = true) : ∃ (b : Addr) (xs : List Int32), lw_P b xs args s := by
  have hs := flat_of_before _ h
  have hq := flat_of_before _ hr
  have hc : (Cond.count 1).before args s = true := hs _ (by decide +kernel)
  have harr : (Cond.arrayOf (.arg 0) .int).before args s = true := hs _ (by decide +kernel)
  have hle : (Cond.le (.length (.arg 0)) (.int 3584)).before args s = true := hs _ (by decide +kernel)
  have hlen : (Cond.isInt (.length (.arg 0))).before args s = true := hq _ (by decide +kernel)
  have hall : (Cond.all (.arg 0) (.isInt (.elem (.arg 0) (.index 0)))).before args s = true := hq _ (by decide +kernel)
  obtain ⟨b, xs, hb, hx⟩ := State.ints_of_pre rfl harr hlen hall
  have hsm : xs.length < 2 ^ 31 := hx.choose_spec.2.2.2
  have hev : (Term.length (.arg 0)).eval args s none [] s = some (.int xs.length.toInt32) := hx.length_eval hb
  have hv := Cond.le_ints hev (show (Term.int 3584).eval args s none [] s = some (.int 3584) from rfl)
  have hd : xs.length.toInt32 ≤ 3584 := by
    simpa [Cond.before, Cond.holds, hv] using hle
  have hN : xs.length ≤ 3584 := (Int32.ofNat_le_ofNat hsm (by decide)).mp (show Int32.ofNat xs.length ≤ Int32.ofNat 3584 from hd)
  exact ⟨b, xs, Cond.one_arg hc (show args[0]? = some (.ref b) from hb), hx, hN, h⟩
theorem lw_comes (l : Launch) (hflags : l.flags = flags0) : Comes l x (Jvm.Cond.code x code maxLocals ret :: tables_1) room_1 (fun tb e args s => Calls_1 tb e args s ∧ rest_1 tb e args s ∧ Pre_1 tb e args s)
    (fun _ _ args s o t => lw_Q args s o t) := by
  intro p e ha hc hk s m args below hf hfit hheap happ hpre
  obtain ⟨b, xs, hP⟩ := lw_pre_spec hpre.2.2 hpre.2.1
  obtain ⟨k, o, h1, h2, h3, hQ⟩ := lw_walk l hflags b xs p e ha hc hk s m args below hf ((Spec.applies_iff_loose hf).mp happ).1 hP trivial
  exact ⟨k, o, h1, h2, h3, hQ⟩
theorem lw_frame {s t : State} {o : Outcome} {args : Array Value} (h : State.butDraws s t lw_cs (fun t1 => Framed s o t1 [] 603072 7215210)) :
    State.butDraws s t [Jvm.Choice.named "NaN.bits"] (fun t1 => Framed s o t1 (fieldLocs frame_1_writes args s ++ arrayLocs frame_1_arrays args s ++ staticLocs frame_1_statics s) 603072 7215210) := h
theorem lw_limb (L : Cond) (hL : ∀ (args : Array Value) (s t : State), L.after args s (.returned (some (.int 1))) t = true) :
    ArmFor flags0 classFile x code maxLocals ret World_1 tables_1 room_1 Calls_1 rest_1 Pre_1
      (fun tb e a s o t => postC L tb e a s o t ∧ State.butDraws s t [Jvm.Choice.named "NaN.bits"] (fun t1 => Framed s o t1 (fieldLocs frame_1_writes a s ++ arrayLocs frame_1_arrays a s ++ staticLocs frame_1_statics s) 603072 7215210)) := by
  intro l hflags _ _ p e ha hc hk s m args below hf hfit hheap happ hpre
  obtain ⟨k, o, h1, h2, h3, rfl, hF⟩ := lw_comes l hflags p e ha hc hk s m args below hf hfit hheap happ hpre
  exact ⟨k, _, h1, h2, h3, hL args s _, lw_frame hF⟩
theorem i_vc : Claimed_1_1 ∧ Claimed_1_2 := ⟨lw_limb limb_1_1 (fun args s t => by simp [limb_1_1, Cond.after, Cond.holds, Cond.value]), lw_limb limb_1_2 (fun args s t => Cond.after_iff.mpr (by
  first | (rw [show limb_1_2 = Cond.eq .result (.int 1) from rfl, Cond.eq_ints (x := 1) (y := 1) rfl rfl]; simp; done) | (simp [limb_1_2, Cond.value, Term.eval]; done)))⟩

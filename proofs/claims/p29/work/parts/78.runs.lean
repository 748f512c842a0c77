/-! the law's runs by hand, and all its deeds by kind -/
section
variable {l : Launch} {D : va_G} {cB cC cI cO cJ cD : ClassId} {ee : Nat × Nat} {P : Nat → Nat} {S X : MSt} {b b' : Int}
theorem KN_ok {y : MethodName} {ws : List Cond} {As : List Value} {rm : Room} {mc ms : Nat} {T : Int × MSt} {V : Int} {W : Hp → Hp → Prop} (ms9 len' : Nat) (hM : Ct l y ws rm D (tyL cB cC cI cO cJ cD) ee (.ref (P 1) :: As) (CW cI cO ee (TxH cB) P S X) (Ji (fun h z9 h' => z9 = V ∧ W h h')) mc ms) (hV : V = T.1) (hT : T.2.2 31 = 0) (hf : rm.frames ≤ 20) (hl : rm.locals ≤ 500) (hc : rm.cells ≤ 12) (hs : rm.slots ≤ ms9) (hm : mc ≤ 12 ∧ ms ≤ ms9)
    (hW : ∀ h h1, CW cI cO ee (TxH cB) P S X h → W h h1 → Fr T7 h h1 ∧ ∃ P' X', CW cI cO ee (TxH cB) P' T.2 X' h1 ∧ P' 1 = P 1 ∧ INV T.2 X' b' ∧ X'.2 26 = (len' : Int)) : Ct l y ws ({ frames := 20, cells := 12, slots := ms9, locals := 500 } : Room) D (tyL cB cC cI cO cJ cD) ee (.ref (P 1) :: As) (CW cI cO ee (TxH cB) P S X) (LWo cB cI cO ee P b' T len') 12 ms9 := by
  refine Ct_room (Ct_mono hM (fun h hh => hh) (fun h v h' hh hj => ?_)) hf hl hc hs hm
  obtain ⟨z, rfl, rfl, hw⟩ := hj
  obtain ⟨hF, P', X', hc2, hp2, hi2, hx2⟩ := hW h h' hh hw
  exact ⟨by unfold ansL; rw [if_pos hT, hV], ⟨P', X', hc2, hp2, hi2, hx2⟩, hF⟩
theorem KN_er {y : MethodName} {ws : List Cond} {As : List Value} {rm : Room} {mc ms : Nat} {T : Int × MSt} {k v9 : Int} {JX : Hp → Hp → Prop} (hIv : INV S X b) (hb : b ≤ b' ∧ b' ≤ 107520) (hM : Ct l y ws rm D (tyL cB cC cI cO cJ cD) ee (.ref (P 1) :: As) (CW cI cO ee (TxH cB) P S X) (fun h v h' => v = some (.int (iI v9)) ∧ JX h h') mc ms) (hk : k ≠ 0 ∧ v9 = -900000 - k) (hT : T.2.2 31 = k) (e1 : ∀ j, j ≠ 1 → T.2.1 j = S.1 j) (e2 : ∀ j, j ≠ 31 → T.2.2 j = S.2 j) (hf : rm.frames ≤ 20) (hl : rm.locals ≤ 500) (hc : rm.cells ≤ 12) (hs : rm.slots ≤ 40) (hm : mc ≤ 12 ∧ ms ≤ 40) (hJ : ∀ h h', CW cI cO ee (TxH cB) P S X h → JX h h' → (∃ f, CW cI cO ee (TxH cB) P S (Xtr X f) h') ∧ Fr (tC 4) h h') : Ct l y ws ({ frames := 20, cells := 12, slots := 40, locals := 500 } : Room) D (tyL cB cC cI cO cJ cD) ee (.ref (P 1) :: As) (CW cI cO ee (TxH cB) P S X) (LWo cB cI cO ee P b' T (X.2 26).toNat) 12 40 := by
  have hn := INV_len hIv
  refine Ct_room (Ct_mono hM (fun h hh => hh) (fun h v h' hh hj => ?_)) hf hl hc hs hm
  obtain ⟨rfl, hj⟩ := hj
  obtain ⟨⟨f, hc2⟩, hF⟩ := hJ h h' hh hj
  exact ⟨by unfold ansL; rw [if_neg (by rw [hT]; exact hk.1), hT, hk.2], ⟨P, Xtr X f, CW_E1 e1 e2 hc2, rfl, INV_b (INV_cg e1 e2 (INV_xtr f hIv)) hb.1 hb.2, hn.2.2⟩, hF.mono (fun u hu => by unfold tC at hu; unfold T7; omega)⟩
theorem KN_0 {y : MethodName} {ws : List Cond} {As : List Value} {rm : Room} {J : Hp → Option Value → Hp → Prop} {mc ms : Nat} (H : Ct l y ws rm D (tyL cB cC cI cO cJ cD) ee (.ref (P 1) :: As) (CW cI cO ee (TxH cB) P (uG S 31 0) X) J mc ms) : Ct l y ws rm D (tyL cB cC cI cO cJ cD) ee (.ref (P 1) :: As) (CW cI cO ee (TxH cB) P S X) J mc ms := Ct_mono H (fun h hh => CW_u 0 hh) (fun h v h' _ hj => hj)
theorem KN_run_i (hI : INV S X b) (hb : b + 210 ≤ 107520) (hst : l.stackTraces = false) {m c r : Int} (hm2 : 0 ≤ m ∧ m < S.2 22) (r_c : rI c) (r_r : rI r) (hc : isCellB c r = true) (hr : m = S.2 27) : Ct l yL_run wsL_run ({ frames := 20, cells := 12, slots := 40, locals := 500 } : Room) D (tyL cB cC cI cO cJ cD) ee [.ref (P 1), .int (iI m), .int (iI c), .int (iI r)] (CW cI cO ee (TxH cB) P S X) (LWo cB cI cO ee P (b + 210) (runX S m c r) (X.2 26).toNat) 12 40 := by
  have hwp := hI.1.1.1
  have hm : isMacB S m = true := isMac_t.mpr hm2
  have hno : ¬ (isMacB S m = false ∨ isCellB c r = false) := by rw [hm, hc]; decide
  rw [show runX S m c r = _ from (if_neg hno).trans (if_pos hr)]
  exact KN_er hI ⟨by omega, hb⟩ (kW_run_2 (xX7_run_i hwp hm2 ⟨r_c, r_r⟩ hc hr hst) ⟨rfl, rfl⟩ (fun h hh => CW_1 hh)) (by decide) (uG_s _ _ _) (u31_1 _) (u31_2 _) (Nat.le_of_ble_eq_true rfl) (Nat.le_of_ble_eq_true rfl) (Nat.le_of_ble_eq_true rfl) (Nat.le_of_ble_eq_true rfl) ⟨Nat.le_of_ble_eq_true rfl, Nat.le_of_ble_eq_true rfl⟩ (fun h h1 H e => JX_e H e)
theorem KN_run_u (hI : INV S X b) (hb : b + 210 ≤ 107520) (hst : l.stackTraces = false) {m c r : Int} (hm2 : 0 ≤ m ∧ m < S.2 22) (r_c : rI c) (r_r : rI r) (hc : isCellB c r = true) (hr : ¬ m = S.2 27) (hy : (whyS (uG S 31 0) m (atI c r)).1 ≠ 45) : Ct l yL_run wsL_run ({ frames := 20, cells := 12, slots := 40, locals := 500 } : Room) D (tyL cB cC cI cO cJ cD) ee [.ref (P 1), .int (iI m), .int (iI c), .int (iI r)] (CW cI cO ee (TxH cB) P S X) (LWo cB cI cO ee P (b + 210) (runX S m c r) (X.2 26).toNat) 12 40 := by
  have hwp := hI.1.1.1
  have hm : isMacB S m = true := isMac_t.mpr hm2
  have hno : ¬ (isMacB S m = false ∨ isCellB c r = false) := by rw [hm, hc]; decide
  rw [show runX S m c r = _ from (if_neg hno).trans ((if_neg hr).trans (if_pos hy))]
  exact KN_0 (KN_er (S := uG S 31 0) (INV_u31 0 hI) ⟨by omega, hb⟩ (kW_run_3 (xX7_run_u (S := uG S 31 0) hwp hI.1.2.1 (TxH_ok cB) hm2 ⟨r_c, r_r⟩ hc hr hy hst) ⟨rfl, rfl⟩ (fun h hh => CW_1 hh)) (by decide) (uG_s _ _ _) (fun j hj => whyS_1 _ _ _ j hj) (fun j hj => by show (if j = 31 then _ else _) = _; rw [if_neg hj, whyS_2]) (Nat.le_of_ble_eq_true rfl) (Nat.le_of_ble_eq_true rfl) (Nat.le_of_ble_eq_true rfl) (Nat.le_of_ble_eq_true rfl) ⟨Nat.le_of_ble_eq_true rfl, Nat.le_of_ble_eq_true rfl⟩ (fun h h1 H e => e))
theorem KN_run_o (hI : INV S X b) (hb : b + 210 ≤ 107520) (hst : l.stackTraces = false) {m : Nat} {c r : Int} (hm2 : 0 ≤ (m : Int) ∧ (m : Int) < S.2 22) (r_c : rI c) (r_r : rI r) (hc : isCellB c r = true) (hr : ¬ (m : Int) = S.2 27) (hy : (whyS (uG S 31 0) m (atI c r)).1 = 45) : Ct l yL_run wsL_run ({ frames := 20, cells := 12, slots := 40 + growS (X.2 25) (X.2 26).toNat, locals := 500 } : Room) D (tyL cB cC cI cO cJ cD) ee [.ref (P 1), .int (iI m), .int (iI c), .int (iI r)] (CW cI cO ee (TxH cB) P S X) (LWo cB cI cO ee P (b + 210) (runX S m c r) (lenG (X.2 25) (X.2 26).toNat)) 12 (40 + growS (X.2 25) (X.2 26).toNat) := by
  have hwp := hI.1.1.1
  have ha := atI_in (c := c) (r := r) hc
  have hn := INV_len hI
  have h22 := hwp.2.2.2.2.1
  have hm : isMacB S m = true := isMac_t.mpr hm2
  have hno : ¬ (isMacB S m = false ∨ isCellB c r = false) := by rw [hm, hc]; decide
  rw [show runX S m c r = _ from (if_neg hno).trans ((if_neg hr).trans (if_neg (fun z => z hy)))]
  refine KN_0 (KN_ok (S := uG S 31 0) (40 + growS (X.2 25) (X.2 26).toNat) (lenG (X.2 25) (X.2 26).toNat) (kW_run (kX7_run (S := uG S 31 0) hI.1 hb (TxH_ok cB) (TxH_p cB) (m := m) hm2.2 ⟨r_c, r_r⟩ hc hr hy rfl) ⟨rfl, rfl⟩ (fun h hh => CW_1 hh) JI) (rfl) (run_31 (S := uG S 31 0) hI.1.1 ⟨by omega, by omega⟩ ha hy) (Nat.le_of_ble_eq_true rfl) (Nat.le_of_ble_eq_true rfl) (by have := grow_c (X.2 25) (X.2 26).toNat; dsimp only; omega) (by dsimp only; omega) ⟨by have := grow_c (X.2 25) (X.2 26).toNat; omega, by omega⟩ (fun h h1 H e => ?_))
  obtain ⟨⟨P2, X4, S3, h2, p2, hS3, hE, h26⟩, hF⟩ := e
  exact ⟨hF, P2, _, h2, p2, INV_run (S := uG S 31 0) (INV_u31 0 hI) hb hm2 ha hy hS3 hE (by obtain ⟨q1, q2, q3⟩ := H.2.2.2.1.2.2; omega) h26, by rw [endX_26]; exact h26⟩
theorem KN_reason (hI : INV S X b) (hst : l.stackTraces = false) {m c r : Int} (hm2 : 0 ≤ m ∧ m < S.2 22) (r_c : rI c) (r_r : rI r) (hc : isCellB c r = true) : Ct l yL_reason wsL_reason ({ frames := 20, cells := 12, slots := 40, locals := 500 } : Room) D (tyL cB cC cI cO cJ cD) ee [.ref (P 1), .int (iI m), .int (iI c), .int (iI r)] (CW cI cO ee (TxH cB) P S X) (LWo cB cI cO ee P b (reasonX S m c r) (X.2 26).toNat) 12 40 := by
  have hwp := hI.1.1.1
  have hn := INV_len hI
  have hb := INV_top hI
  have hm : isMacB S m = true := isMac_t.mpr hm2
  have hno : ¬ (isMacB S m = false ∨ isCellB c r = false) := by rw [hm, hc]; decide
  rw [show reasonX S m c r = _ from if_neg hno]
  refine KN_0 (KN_ok (S := uG S 31 0) 40 (X.2 26).toNat (kW_reason (kX7_reason (S := uG S 31 0) hwp hI.1.2.1 (TxH_ok cB) hm2 ⟨r_c, r_r⟩ hc) ⟨rfl, rfl⟩ (fun h hh => CW_1 hh) JI) (rfl) (by show (whyS (uG S 31 0) m (atI c r)).2.2 31 = 0; rw [whyS_2]; rfl) (Nat.le_of_ble_eq_true rfl) (Nat.le_of_ble_eq_true rfl) (Nat.le_of_ble_eq_true rfl) (Nat.le_of_ble_eq_true rfl) ⟨Nat.le_of_ble_eq_true rfl, Nat.le_of_ble_eq_true rfl⟩ (fun h h1 H e => ?_))
  obtain ⟨⟨f, h2⟩, hF⟩ := e
  exact ⟨hF.mono (fun u z => by unfold tC at z; unfold T7; omega), P, Xtr X f, CW_E1 (fun k hk => whyS_1 _ _ _ k hk) (fun k _ => by rw [whyS_2]) h2, rfl, INV_b (INV_why _ _ (INV_xtr f (INV_u31 0 hI))) (by omega) hb, hn.2.2⟩
end

section
variable {l : Launch} {D : va_G} {cB cC cI cO cJ cD : ClassId} {ee : Nat × Nat} {na nb : Nat} {P : Nat → Nat} {S X : MSt} {f g : Int → Int} {k : Nat}
set_option maxHeartbeats 8000000 in
set_option maxRecDepth 100000 in
theorem kO_isRun_i {q c r : Int} (hq : 0 ≤ q ∧ q < S.2 22) (hc9 : 0 ≤ c ∧ c < 6) (hr9 : 0 ≤ r ∧ r < 8) (hqr : q = S.2 27) (hst : l.stackTraces = false) (hW : WS k S X f g) (hk : k ≤ 57) : OKf l D cB cC cI cO cJ cD ee yL_isRun wsL_isRun [.ref na, .ref nb, .int (iI q), .int (iI c), .int (iI r)] na nb P S X f g k := by
  obtain ⟨hIv, hnr, h55, hk9, h31, hlx⟩ := hW
  have h0s : uG S 31 0 = S := by rw [← h31]; exact uG_id S 31
  have hwp := hIv.1.1.1
  have hmw := hIv.1.1
  have w5 := hwp.2.2.2.2.1
  obtain ⟨n50, n51, n52, n53, n54, n56, n57⟩ := id hnr.2.2.2.2.1
  have hM := KN_reason (l := l) (D := D) (cB := cB) (cC := cC) (cI := cI) (cO := cO) (cJ := cJ) (cD := cD) (ee := ee) (P := P) hIv hst (m := q) (c := c) (r := r) hq ⟨by omega, by omega⟩ ⟨by omega, by omega⟩ (cell_t hc9 hr9)
  have hin9 := INV_len hIv
  generalize hl9 : (X.2 26).toNat = len9 at *
  unfold OKf
  refine Ct_of (cc := cL_isRun) (own := RL) [some (.ref (P 1)), some (.ref na), some (.ref nb), some (.int (iI q)), some (.int (iI c)), some (.int (iI r)), none, none] (by decide) rfl rfl (Nat.le_of_ble_eq_true rfl) (fun i9 v9 h9 => argL [.ref (P 1), .ref na, .ref nb, .int (iI q), .int (iI c), .int (iI r)] 2 rfl i9 v9 h9) ?_
  intro p e s m9 args below meth c9 h0 sz hI C hr hlk hinit
  refine V_weak (I2 := WD cB cI cO ee na nb P S X f g) (fun x hx => by rw [hx]; exact hI) ?_
  have hq9 : isMacB S q = true := isMac_t.mpr hq
  have hcl := cell_t hc9 hr9
  have hno : ¬ (isMacB S q = false ∨ isCellB c r = false) := by rw [hq9, hcl]; decide
  have hTr : reasonX S q c r = ((whyS S q (6 * r + c)).1, (whyS S q (6 * r + c)).2) := by
    rw [show reasonX S q c r = _ from if_neg hno, h0s]
    rfl
  have hans : ansL (reasonX S q c r) = (whyS S q (6 * r + c)).1 := by
    rw [hTr]
    exact ansL_0 (by rw [whyS_2]; exact h31)
  have ry := whyS_ans S q (6 * r + c)
  have hhw := hmw.2.2.1
  have hsw2 := hmw.2.2.2.2.1.2
  refine V_aload1 (pc' := 1) C dL_isRun_0 rfl ?_
  refine V_bipush (pc' := 3) C dL_isRun_1 rfl (by decide) ?_
  refine V_newarr (pc' := 5) (N := 48) (atype := .int) (ty := .int) (a0 := (48, .inl (iF fun _ => 0))) 903 C (by decide +kernel) rfl 2 rfl (fun cA => rfl) ⟨rfl, by decide⟩ (by dsimp only; omega) (by dsimp only; omega) dL_isRun_3 rfl (fun qv => ?_)
  refine V_fix (fun g1 hg1 => ?_)
  obtain ⟨g0, hW0, hq0, rfl⟩ := hg1
  have hqa : na ≠ qv := fun z => by
    have h9 := hW0.2.1
    unfold NA at h9
    rw [z, hq0] at h9
    cases h9
  have hqb : nb ≠ qv := fun z => by
    have h9 := hW0.2.2
    rw [z, hq0] at h9
    cases h9
  have hA1 : NA cI na f (hup g0 qv (903, .inl (cI, (48, .inl (iF fun _ => 0))))) := by unfold NA; rw [hup_n hqa]; exact hW0.2.1
  have hB1 : (hup g0 qv (903, .inl (cI, (48, .inl (iF fun _ => 0))))) nb = some (902, .inl (cI, 60000, .inl (iF g))) := by rw [hup_n hqb]; exact hW0.2.2
  have hV1 : NVv cI qv (fun _ => 0) (hup g0 qv (903, .inl (cI, (48, .inl (iF fun _ => 0))))) := hup_s
  have hF1 : Fr tN g0 (hup g0 qv (903, .inl (cI, (48, .inl (iF fun _ => 0))))) := fun a t e ha ht => by
    rw [hup_n (fun z => by rw [z, hq0] at ha; cases ha)]
    exact ha
  refine V_iload3 (pc' := 6) C dL_isRun_5 rfl ?_
  refine V_iload4 (pc' := 8) C dL_isRun_6 rfl ?_
  refine V_iload5 (pc' := 10) C dL_isRun_8 rfl ?_
  refine V_callS (n := 5) [.ref na, .ref qv, .int (iI q), .int (iI c), .int (iI r)] C (kL_reason_ (S := S) (q := q) (c := c) (r := r) (f := f) (w0 := fun _ => 0) hnr.1.1 hnr.2.1 hnr.2.2.1 hwp (by omega) hc9 hr9) gL_isRun_L_reason_ rfl ydL_reason_ ⟨Nat.le_of_ble_eq_true rfl, Nat.le_of_ble_eq_true rfl⟩ ⟨rfl, rfl⟩ rfl (fun h hh => by rw [hh]; exact ⟨hA1, hV1⟩) rfl (Nat.le_of_ble_eq_true rfl) dL_isRun_10 ⟨by dsimp only; omega, by dsimp only; omega⟩ (fun h v h' hh hj9 => ?_)
  obtain ⟨rfl, hF8⟩ := hj9
  rw [hh] at hF8
  have hF7 : Fr tN g0 h' := hF1.trans (hF8.mono (fun u hu => by unfold tN; omega))
  refine V_weak (I2 := WD cB cI cO ee na nb P S X f g) (fun z hz => by rw [hz]; exact hW0.n hIv hF7 ⟨hF8 _ _ _ hA1 (by decide), hF8 _ _ _ hB1 (by decide)⟩) ?_
  refine V_istore6 (pc' := 15) C dL_isRun_13 rfl (by decide) rfl ?_
  refine V_aload0 (pc' := 16) C dL_isRun_15 rfl ?_
  refine V_iload3 (pc' := 17) C dL_isRun_16 rfl ?_
  refine V_iload4 (pc' := 19) C dL_isRun_17 rfl ?_
  refine V_iload5 (pc' := 21) C dL_isRun_19 rfl ?_
  refine V_callSW (n := 4) [.ref (P 1), .int (iI q), .int (iI c), .int (iI r)] C hM gL_isRun_L_reason rfl ydL_reason ⟨Nat.le_of_ble_eq_true rfl, Nat.le_of_ble_eq_true rfl⟩ ⟨rfl, rfl⟩ rfl (fun h hh => hh.1) rfl (Nat.le_of_ble_eq_true rfl) dL_isRun_21 ⟨by dsimp only; omega, by dsimp only; omega⟩ (fun h v h' hh hj9 => ?_)
  obtain ⟨rfl, ⟨P2, X2, hc2, hp2, hi2, hx2⟩, hF2⟩ := hj9
  refine V_weak (I2 := WD cB cI cO ee na nb P2 ((reasonX S q c r).2) X2 f g) (fun x hx => by rw [hx]; exact hh.k hF2 hc2) ?_
  rw [show (reasonX S q c r).2 = (whyS S q (6 * r + c)).2 by rw [hTr]] at hi2 hc2
  have e1 : ∀ k, k ≠ 1 → S.1 k = (whyS S q (6 * r + c)).2.1 k := fun k h => (whyS_1 S q (6 * r + c) k h).symm
  have e2 : ∀ k, k ≠ 31 → S.2 k = (whyS S q (6 * r + c)).2.2 k := fun k _ => by rw [whyS_2]
  have hiS : INV S X2 (210 * (k : Int)) := INV_cg e1 e2 hi2
  refine V_weak (I2 := WD cB cI cO ee na nb P2 S X2 f g) (fun x hx => ⟨CW_E1 e1 e2 (by have := hx.1; rw [hTr] at this; exact this), hx.2⟩) ?_
  refine V_iload6 (pc' := 26) C dL_isRun_24 rfl ?_
  refine V_icmpeq (tgt := 31) C ⟨by rw [hans]; omega, by omega⟩ dL_isRun_26 (by decide) rfl (fun c_26 => ?_) (fun c_26 => ?_)
  · refine V_iload3 (pc' := 32) C dL_isRun_31 rfl ?_
    refine V_aload1 (pc' := 33) C dL_isRun_32 rfl ?_
    refine V_bipush (pc' := 35) C dL_isRun_33 rfl (by decide) ?_
    refine V_ialdE (pc' := 36) (n := 540) (f := f) (v := (S.2 27 + 1)) C 2 rfl (fun h hh => ⟨901, hh.2.1⟩) ⟨by omega, by omega, by omega⟩ (n52) dL_isRun_35 rfl ?_
    refine V_iconst (pc' := 37) C dL_isRun_36 rfl ?_
    refine V_isubE (pc' := 38) (v := S.2 27) C (by omega) dL_isRun_37 rfl ?_
    refine V_icmpeq (tgt := 48) C ⟨by omega, by omega⟩ dL_isRun_38 (by decide) rfl (fun c_38 => ?_) (fun c_38 => ?_)
    · refine V_aload0 (pc' := 49) C dL_isRun_48 rfl ?_
      refine V_iload3 (pc' := 50) C dL_isRun_49 rfl ?_
      refine V_iload4 (pc' := 52) C dL_isRun_50 rfl ?_
      refine V_iload5 (pc' := 54) C dL_isRun_52 rfl ?_
      have hM2 := KN_run_i (l := l) (D := D) (cB := cB) (cC := cC) (cI := cI) (cO := cO) (cJ := cJ) (cD := cD) (ee := ee) (P := P2) hiS (by omega) hst (m := q) hq ⟨by omega, by omega⟩ ⟨by omega, by omega⟩ hcl hqr
      rw [hp2] at hM2
      have hTx : runX S q c r = (0, uG S 31 2) := (if_neg hno).trans (if_pos hqr)
      have hansx : ansL (runX S q c r) = -900002 := by rw [hTx]; exact ansL_k (k := 2) (uG_s _ _ _) (by decide)
      refine V_callSW (n := 4) [.ref (P 1), .int (iI q), .int (iI c), .int (iI r)] C hM2 gL_isRun_L_run rfl ydL_run ⟨Nat.le_of_ble_eq_true rfl, Nat.le_of_ble_eq_true rfl⟩ ⟨rfl, rfl⟩ rfl (fun h hh => hh.1) rfl (Nat.le_of_ble_eq_true rfl) dL_isRun_54 ⟨by dsimp only; omega, by dsimp only; omega⟩ (fun h v h' hh hj9 => ?_)
      obtain ⟨rfl, ⟨P3, X3, hc3, hp3, hi3, hx3⟩, hF3⟩ := hj9
      refine V_weak (I2 := WD cB cI cO ee na nb P3 ((runX S q c r).2) X3 f g) (fun x hx => by rw [hx]; exact hh.k hF3 hc3) ?_
      refine V_iload3 (pc' := 58) C dL_isRun_57 rfl ?_
      refine V_aload1 (pc' := 59) C dL_isRun_58 rfl ?_
      refine V_bipush (pc' := 61) C dL_isRun_59 rfl (by decide) ?_
      refine V_ialdE (pc' := 62) (n := 540) (f := f) (v := (S.2 27 + 1)) C 2 rfl (fun h hh => ⟨901, hh.2.1⟩) ⟨by omega, by omega, by omega⟩ (n52) dL_isRun_61 rfl ?_
      refine V_iconst (pc' := 63) C dL_isRun_62 rfl ?_
      refine V_isubE (pc' := 64) (v := S.2 27) C (by omega) dL_isRun_63 rfl ?_
      refine V_icmpne (tgt := 72) C ⟨by omega, by omega⟩ dL_isRun_64 (by decide) rfl (fun c_64 => ?_) (fun c_64 => ?_)
      · exact absurd c_64 (fun z => z hqr)
      · refine V_ldc (pc' := 69) (n := (-900002)) (v := (-900002)) C (by decide +kernel) dL_isRun_67 rfl (by decide) ?_
        refine V_goto (tgt := 74) C dL_isRun_69 (by decide) ?_
        refine V_eq (st2 := [.int (iI ((-900002))), .int (iI ((-900002)))]) (by rw [hansx] <;> rfl) ?_
        refine V_sameN (tgt := 81) C dL_isRun_74 (by decide) rfl ?_
        refine V_iconst (pc' := 78) C dL_isRun_77 rfl ?_
        refine V_goto (tgt := 82) C dL_isRun_78 (by decide) ?_
        exact V_endz (z := 1) C hr hlk (nar_z true) (fun h' hh => LO_mk hh (hp3.trans hp2) hi3 (by omega) (by omega) (by omega) hk (by rw [hTx]; exact hnr) (by rw [hTx]; exact rfl)) ⟨by omega, by omega⟩ dL_isRun_82
    · exact absurd c_38 (fun z => z hqr)
  · exact absurd c_26 (fun z => z hans)
set_option maxHeartbeats 8000000 in
set_option maxRecDepth 100000 in
theorem kO_isRun_u {q c r : Int} (hq : 0 ≤ q ∧ q < S.2 22) (hc9 : 0 ≤ c ∧ c < 6) (hr9 : 0 ≤ r ∧ r < 8) (hqr : ¬ q = S.2 27) (hok : ¬ (whyS S q (6 * r + c)).1 = 45) (hst : l.stackTraces = false) (hW : WS k S X f g) (hk : k ≤ 57) : OKf l D cB cC cI cO cJ cD ee yL_isRun wsL_isRun [.ref na, .ref nb, .int (iI q), .int (iI c), .int (iI r)] na nb P S X f g k := by
  obtain ⟨hIv, hnr, h55, hk9, h31, hlx⟩ := hW
  have h0s : uG S 31 0 = S := by rw [← h31]; exact uG_id S 31
  have hwp := hIv.1.1.1
  have hmw := hIv.1.1
  have w5 := hwp.2.2.2.2.1
  obtain ⟨n50, n51, n52, n53, n54, n56, n57⟩ := id hnr.2.2.2.2.1
  have hM := KN_reason (l := l) (D := D) (cB := cB) (cC := cC) (cI := cI) (cO := cO) (cJ := cJ) (cD := cD) (ee := ee) (P := P) hIv hst (m := q) (c := c) (r := r) hq ⟨by omega, by omega⟩ ⟨by omega, by omega⟩ (cell_t hc9 hr9)
  have hin9 := INV_len hIv
  generalize hl9 : (X.2 26).toNat = len9 at *
  unfold OKf
  refine Ct_of (cc := cL_isRun) (own := RL) [some (.ref (P 1)), some (.ref na), some (.ref nb), some (.int (iI q)), some (.int (iI c)), some (.int (iI r)), none, none] (by decide) rfl rfl (Nat.le_of_ble_eq_true rfl) (fun i9 v9 h9 => argL [.ref (P 1), .ref na, .ref nb, .int (iI q), .int (iI c), .int (iI r)] 2 rfl i9 v9 h9) ?_
  intro p e s m9 args below meth c9 h0 sz hI C hr hlk hinit
  refine V_weak (I2 := WD cB cI cO ee na nb P S X f g) (fun x hx => by rw [hx]; exact hI) ?_
  have hq9 : isMacB S q = true := isMac_t.mpr hq
  have hcl := cell_t hc9 hr9
  have hno : ¬ (isMacB S q = false ∨ isCellB c r = false) := by rw [hq9, hcl]; decide
  have hTr : reasonX S q c r = ((whyS S q (6 * r + c)).1, (whyS S q (6 * r + c)).2) := by
    rw [show reasonX S q c r = _ from if_neg hno, h0s]
    rfl
  have hans : ansL (reasonX S q c r) = (whyS S q (6 * r + c)).1 := by
    rw [hTr]
    exact ansL_0 (by rw [whyS_2]; exact h31)
  have ry := whyS_ans S q (6 * r + c)
  have hhw := hmw.2.2.1
  have hsw2 := hmw.2.2.2.2.1.2
  refine V_aload1 (pc' := 1) C dL_isRun_0 rfl ?_
  refine V_bipush (pc' := 3) C dL_isRun_1 rfl (by decide) ?_
  refine V_newarr (pc' := 5) (N := 48) (atype := .int) (ty := .int) (a0 := (48, .inl (iF fun _ => 0))) 903 C (by decide +kernel) rfl 2 rfl (fun cA => rfl) ⟨rfl, by decide⟩ (by dsimp only; omega) (by dsimp only; omega) dL_isRun_3 rfl (fun qv => ?_)
  refine V_fix (fun g1 hg1 => ?_)
  obtain ⟨g0, hW0, hq0, rfl⟩ := hg1
  have hqa : na ≠ qv := fun z => by
    have h9 := hW0.2.1
    unfold NA at h9
    rw [z, hq0] at h9
    cases h9
  have hqb : nb ≠ qv := fun z => by
    have h9 := hW0.2.2
    rw [z, hq0] at h9
    cases h9
  have hA1 : NA cI na f (hup g0 qv (903, .inl (cI, (48, .inl (iF fun _ => 0))))) := by unfold NA; rw [hup_n hqa]; exact hW0.2.1
  have hB1 : (hup g0 qv (903, .inl (cI, (48, .inl (iF fun _ => 0))))) nb = some (902, .inl (cI, 60000, .inl (iF g))) := by rw [hup_n hqb]; exact hW0.2.2
  have hV1 : NVv cI qv (fun _ => 0) (hup g0 qv (903, .inl (cI, (48, .inl (iF fun _ => 0))))) := hup_s
  have hF1 : Fr tN g0 (hup g0 qv (903, .inl (cI, (48, .inl (iF fun _ => 0))))) := fun a t e ha ht => by
    rw [hup_n (fun z => by rw [z, hq0] at ha; cases ha)]
    exact ha
  refine V_iload3 (pc' := 6) C dL_isRun_5 rfl ?_
  refine V_iload4 (pc' := 8) C dL_isRun_6 rfl ?_
  refine V_iload5 (pc' := 10) C dL_isRun_8 rfl ?_
  refine V_callS (n := 5) [.ref na, .ref qv, .int (iI q), .int (iI c), .int (iI r)] C (kL_reason_ (S := S) (q := q) (c := c) (r := r) (f := f) (w0 := fun _ => 0) hnr.1.1 hnr.2.1 hnr.2.2.1 hwp (by omega) hc9 hr9) gL_isRun_L_reason_ rfl ydL_reason_ ⟨Nat.le_of_ble_eq_true rfl, Nat.le_of_ble_eq_true rfl⟩ ⟨rfl, rfl⟩ rfl (fun h hh => by rw [hh]; exact ⟨hA1, hV1⟩) rfl (Nat.le_of_ble_eq_true rfl) dL_isRun_10 ⟨by dsimp only; omega, by dsimp only; omega⟩ (fun h v h' hh hj9 => ?_)
  obtain ⟨rfl, hF8⟩ := hj9
  rw [hh] at hF8
  have hF7 : Fr tN g0 h' := hF1.trans (hF8.mono (fun u hu => by unfold tN; omega))
  refine V_weak (I2 := WD cB cI cO ee na nb P S X f g) (fun z hz => by rw [hz]; exact hW0.n hIv hF7 ⟨hF8 _ _ _ hA1 (by decide), hF8 _ _ _ hB1 (by decide)⟩) ?_
  refine V_istore6 (pc' := 15) C dL_isRun_13 rfl (by decide) rfl ?_
  refine V_aload0 (pc' := 16) C dL_isRun_15 rfl ?_
  refine V_iload3 (pc' := 17) C dL_isRun_16 rfl ?_
  refine V_iload4 (pc' := 19) C dL_isRun_17 rfl ?_
  refine V_iload5 (pc' := 21) C dL_isRun_19 rfl ?_
  refine V_callSW (n := 4) [.ref (P 1), .int (iI q), .int (iI c), .int (iI r)] C hM gL_isRun_L_reason rfl ydL_reason ⟨Nat.le_of_ble_eq_true rfl, Nat.le_of_ble_eq_true rfl⟩ ⟨rfl, rfl⟩ rfl (fun h hh => hh.1) rfl (Nat.le_of_ble_eq_true rfl) dL_isRun_21 ⟨by dsimp only; omega, by dsimp only; omega⟩ (fun h v h' hh hj9 => ?_)
  obtain ⟨rfl, ⟨P2, X2, hc2, hp2, hi2, hx2⟩, hF2⟩ := hj9
  refine V_weak (I2 := WD cB cI cO ee na nb P2 ((reasonX S q c r).2) X2 f g) (fun x hx => by rw [hx]; exact hh.k hF2 hc2) ?_
  rw [show (reasonX S q c r).2 = (whyS S q (6 * r + c)).2 by rw [hTr]] at hi2 hc2
  have e1 : ∀ k, k ≠ 1 → S.1 k = (whyS S q (6 * r + c)).2.1 k := fun k h => (whyS_1 S q (6 * r + c) k h).symm
  have e2 : ∀ k, k ≠ 31 → S.2 k = (whyS S q (6 * r + c)).2.2 k := fun k _ => by rw [whyS_2]
  have hiS : INV S X2 (210 * (k : Int)) := INV_cg e1 e2 hi2
  refine V_weak (I2 := WD cB cI cO ee na nb P2 S X2 f g) (fun x hx => ⟨CW_E1 e1 e2 (by have := hx.1; rw [hTr] at this; exact this), hx.2⟩) ?_
  refine V_iload6 (pc' := 26) C dL_isRun_24 rfl ?_
  refine V_icmpeq (tgt := 31) C ⟨by rw [hans]; omega, by omega⟩ dL_isRun_26 (by decide) rfl (fun c_26 => ?_) (fun c_26 => ?_)
  · refine V_iload3 (pc' := 32) C dL_isRun_31 rfl ?_
    refine V_aload1 (pc' := 33) C dL_isRun_32 rfl ?_
    refine V_bipush (pc' := 35) C dL_isRun_33 rfl (by decide) ?_
    refine V_ialdE (pc' := 36) (n := 540) (f := f) (v := (S.2 27 + 1)) C 2 rfl (fun h hh => ⟨901, hh.2.1⟩) ⟨by omega, by omega, by omega⟩ (n52) dL_isRun_35 rfl ?_
    refine V_iconst (pc' := 37) C dL_isRun_36 rfl ?_
    refine V_isubE (pc' := 38) (v := S.2 27) C (by omega) dL_isRun_37 rfl ?_
    refine V_icmpeq (tgt := 48) C ⟨by omega, by omega⟩ dL_isRun_38 (by decide) rfl (fun c_38 => ?_) (fun c_38 => ?_)
    · exact absurd c_38 hqr
    · refine V_iload6 (pc' := 43) C dL_isRun_41 rfl ?_
      refine V_bipush (pc' := 45) C dL_isRun_43 rfl (by decide) ?_
      refine V_icmpeq (tgt := 83) C ⟨by omega, by decide⟩ dL_isRun_45 (by decide) rfl (fun c_45 => ?_) (fun c_45 => ?_)
      · exact absurd c_45 hok
      · refine V_aload0 (pc' := 49) C dL_isRun_48 rfl ?_
        refine V_iload3 (pc' := 50) C dL_isRun_49 rfl ?_
        refine V_iload4 (pc' := 52) C dL_isRun_50 rfl ?_
        refine V_iload5 (pc' := 54) C dL_isRun_52 rfl ?_
        have hM2 := KN_run_u (l := l) (D := D) (cB := cB) (cC := cC) (cI := cI) (cO := cO) (cJ := cJ) (cD := cD) (ee := ee) (P := P2) hiS (by omega) hst (m := q) hq ⟨by omega, by omega⟩ ⟨by omega, by omega⟩ hcl hqr (by rw [h0s]; exact hok)
        rw [hp2] at hM2
        have hTx : runX S q c r = (0, uG (whyS S q (6 * r + c)).2 31 3) := by
          rw [show runX S q c r = _ from (if_neg hno).trans ((if_neg hqr).trans (if_pos (by rw [h0s]; exact hok))), h0s]
          rfl
        have hansx : ansL (runX S q c r) = -900003 := by rw [hTx]; exact ansL_k (k := 3) (uG_s _ _ _) (by decide)
        refine V_callSW (n := 4) [.ref (P 1), .int (iI q), .int (iI c), .int (iI r)] C hM2 gL_isRun_L_run rfl ydL_run ⟨Nat.le_of_ble_eq_true rfl, Nat.le_of_ble_eq_true rfl⟩ ⟨rfl, rfl⟩ rfl (fun h hh => hh.1) rfl (Nat.le_of_ble_eq_true rfl) dL_isRun_54 ⟨by dsimp only; omega, by dsimp only; omega⟩ (fun h v h' hh hj9 => ?_)
        obtain ⟨rfl, ⟨P3, X3, hc3, hp3, hi3, hx3⟩, hF3⟩ := hj9
        refine V_weak (I2 := WD cB cI cO ee na nb P3 ((runX S q c r).2) X3 f g) (fun x hx => by rw [hx]; exact hh.k hF3 hc3) ?_
        refine V_iload3 (pc' := 58) C dL_isRun_57 rfl ?_
        refine V_aload1 (pc' := 59) C dL_isRun_58 rfl ?_
        refine V_bipush (pc' := 61) C dL_isRun_59 rfl (by decide) ?_
        refine V_ialdE (pc' := 62) (n := 540) (f := f) (v := (S.2 27 + 1)) C 2 rfl (fun h hh => ⟨901, hh.2.1⟩) ⟨by omega, by omega, by omega⟩ (n52) dL_isRun_61 rfl ?_
        refine V_iconst (pc' := 63) C dL_isRun_62 rfl ?_
        refine V_isubE (pc' := 64) (v := S.2 27) C (by omega) dL_isRun_63 rfl ?_
        refine V_icmpne (tgt := 72) C ⟨by omega, by omega⟩ dL_isRun_64 (by decide) rfl (fun c_64 => ?_) (fun c_64 => ?_)
        · refine V_ldc (pc' := 74) (n := (-900003)) (v := (-900003)) C (by decide +kernel) dL_isRun_72 rfl (by decide) ?_
          refine V_eq (st2 := [.int (iI ((-900003))), .int (iI ((-900003)))]) (by rw [hansx] <;> rfl) ?_
          refine V_sameN (tgt := 81) C dL_isRun_74 (by decide) rfl ?_
          refine V_iconst (pc' := 78) C dL_isRun_77 rfl ?_
          refine V_goto (tgt := 82) C dL_isRun_78 (by decide) ?_
          exact V_endz (z := 1) C hr hlk (nar_z true) (fun h' hh => LO_mk hh (hp3.trans hp2) hi3 (by omega) (by omega) (by omega) hk (by rw [hTx]; exact hnr.cg (fun k a _ _ _ => whyS_1 S q (6 * r + c) k a) (fun k _ a => by show (if k = 31 then _ else _) = _; rw [if_neg a, whyS_2])) (by rw [hTx]; exact by show (whyS S q (6 * r + c)).2.2 22 = S.2 22; rw [whyS_2])) ⟨by omega, by omega⟩ dL_isRun_82
        · exact absurd c_64 (fun z => z hqr)
  · exact absurd c_26 (fun z => z hans)
set_option maxHeartbeats 8000000 in
set_option maxRecDepth 100000 in
theorem kO_isRun_o {q c r : Int} (hq : 0 ≤ q ∧ q < S.2 22) (hc9 : 0 ≤ c ∧ c < 6) (hr9 : 0 ≤ r ∧ r < 8) (hqr : ¬ q = S.2 27) (hok : (whyS S q (6 * r + c)).1 = 45) (hst : l.stackTraces = false) (hW : WS k S X f g) (hk : k ≤ 57) : OKf l D cB cC cI cO cJ cD ee yL_isRun wsL_isRun [.ref na, .ref nb, .int (iI q), .int (iI c), .int (iI r)] na nb P S X f g k := by
  obtain ⟨hIv, hnr, h55, hk9, h31, hlx⟩ := hW
  have h0s : uG S 31 0 = S := by rw [← h31]; exact uG_id S 31
  have hwp := hIv.1.1.1
  have hmw := hIv.1.1
  have w5 := hwp.2.2.2.2.1
  obtain ⟨n50, n51, n52, n53, n54, n56, n57⟩ := id hnr.2.2.2.2.1
  have hM := KN_reason (l := l) (D := D) (cB := cB) (cC := cC) (cI := cI) (cO := cO) (cJ := cJ) (cD := cD) (ee := ee) (P := P) hIv hst (m := q) (c := c) (r := r) hq ⟨by omega, by omega⟩ ⟨by omega, by omega⟩ (cell_t hc9 hr9)
  have hin9 := INV_len hIv
  generalize hl9 : (X.2 26).toNat = len9 at *
  have hg8 := grow_8 (S.2 29 + S.2 24) len9
  have hlb := len_b hIv (by omega) hlx (Or.inr rfl)
  rw [hIv.1.2.2.2.1.1.1, hl9] at hlb
  unfold OKf
  refine Ct_of (cc := cL_isRun) (own := RL) [some (.ref (P 1)), some (.ref na), some (.ref nb), some (.int (iI q)), some (.int (iI c)), some (.int (iI r)), none, none] (by decide) rfl rfl (Nat.le_of_ble_eq_true rfl) (fun i9 v9 h9 => argL [.ref (P 1), .ref na, .ref nb, .int (iI q), .int (iI c), .int (iI r)] 2 rfl i9 v9 h9) ?_
  intro p e s m9 args below meth c9 h0 sz hI C hr hlk hinit
  refine V_weak (I2 := WD cB cI cO ee na nb P S X f g) (fun x hx => by rw [hx]; exact hI) ?_
  have hq9 : isMacB S q = true := isMac_t.mpr hq
  have hcl := cell_t hc9 hr9
  have hno : ¬ (isMacB S q = false ∨ isCellB c r = false) := by rw [hq9, hcl]; decide
  have hTr : reasonX S q c r = ((whyS S q (6 * r + c)).1, (whyS S q (6 * r + c)).2) := by
    rw [show reasonX S q c r = _ from if_neg hno, h0s]
    rfl
  have hans : ansL (reasonX S q c r) = (whyS S q (6 * r + c)).1 := by
    rw [hTr]
    exact ansL_0 (by rw [whyS_2]; exact h31)
  have ry := whyS_ans S q (6 * r + c)
  have hhw := hmw.2.2.1
  have hsw2 := hmw.2.2.2.2.1.2
  refine V_aload1 (pc' := 1) C dL_isRun_0 rfl ?_
  refine V_bipush (pc' := 3) C dL_isRun_1 rfl (by decide) ?_
  refine V_newarr (pc' := 5) (N := 48) (atype := .int) (ty := .int) (a0 := (48, .inl (iF fun _ => 0))) 903 C (by decide +kernel) rfl 2 rfl (fun cA => rfl) ⟨rfl, by decide⟩ (by dsimp only; omega) (by dsimp only; omega) dL_isRun_3 rfl (fun qv => ?_)
  refine V_fix (fun g1 hg1 => ?_)
  obtain ⟨g0, hW0, hq0, rfl⟩ := hg1
  have hqa : na ≠ qv := fun z => by
    have h9 := hW0.2.1
    unfold NA at h9
    rw [z, hq0] at h9
    cases h9
  have hqb : nb ≠ qv := fun z => by
    have h9 := hW0.2.2
    rw [z, hq0] at h9
    cases h9
  have hA1 : NA cI na f (hup g0 qv (903, .inl (cI, (48, .inl (iF fun _ => 0))))) := by unfold NA; rw [hup_n hqa]; exact hW0.2.1
  have hB1 : (hup g0 qv (903, .inl (cI, (48, .inl (iF fun _ => 0))))) nb = some (902, .inl (cI, 60000, .inl (iF g))) := by rw [hup_n hqb]; exact hW0.2.2
  have hV1 : NVv cI qv (fun _ => 0) (hup g0 qv (903, .inl (cI, (48, .inl (iF fun _ => 0))))) := hup_s
  have hF1 : Fr tN g0 (hup g0 qv (903, .inl (cI, (48, .inl (iF fun _ => 0))))) := fun a t e ha ht => by
    rw [hup_n (fun z => by rw [z, hq0] at ha; cases ha)]
    exact ha
  refine V_iload3 (pc' := 6) C dL_isRun_5 rfl ?_
  refine V_iload4 (pc' := 8) C dL_isRun_6 rfl ?_
  refine V_iload5 (pc' := 10) C dL_isRun_8 rfl ?_
  refine V_callS (n := 5) [.ref na, .ref qv, .int (iI q), .int (iI c), .int (iI r)] C (kL_reason_ (S := S) (q := q) (c := c) (r := r) (f := f) (w0 := fun _ => 0) hnr.1.1 hnr.2.1 hnr.2.2.1 hwp (by omega) hc9 hr9) gL_isRun_L_reason_ rfl ydL_reason_ ⟨Nat.le_of_ble_eq_true rfl, Nat.le_of_ble_eq_true rfl⟩ ⟨rfl, rfl⟩ rfl (fun h hh => by rw [hh]; exact ⟨hA1, hV1⟩) rfl (Nat.le_of_ble_eq_true rfl) dL_isRun_10 ⟨by dsimp only; omega, by dsimp only; omega⟩ (fun h v h' hh hj9 => ?_)
  obtain ⟨rfl, hF8⟩ := hj9
  rw [hh] at hF8
  have hF7 : Fr tN g0 h' := hF1.trans (hF8.mono (fun u hu => by unfold tN; omega))
  refine V_weak (I2 := WD cB cI cO ee na nb P S X f g) (fun z hz => by rw [hz]; exact hW0.n hIv hF7 ⟨hF8 _ _ _ hA1 (by decide), hF8 _ _ _ hB1 (by decide)⟩) ?_
  refine V_istore6 (pc' := 15) C dL_isRun_13 rfl (by decide) rfl ?_
  refine V_aload0 (pc' := 16) C dL_isRun_15 rfl ?_
  refine V_iload3 (pc' := 17) C dL_isRun_16 rfl ?_
  refine V_iload4 (pc' := 19) C dL_isRun_17 rfl ?_
  refine V_iload5 (pc' := 21) C dL_isRun_19 rfl ?_
  refine V_callSW (n := 4) [.ref (P 1), .int (iI q), .int (iI c), .int (iI r)] C hM gL_isRun_L_reason rfl ydL_reason ⟨Nat.le_of_ble_eq_true rfl, Nat.le_of_ble_eq_true rfl⟩ ⟨rfl, rfl⟩ rfl (fun h hh => hh.1) rfl (Nat.le_of_ble_eq_true rfl) dL_isRun_21 ⟨by dsimp only; omega, by dsimp only; omega⟩ (fun h v h' hh hj9 => ?_)
  obtain ⟨rfl, ⟨P2, X2, hc2, hp2, hi2, hx2⟩, hF2⟩ := hj9
  refine V_weak (I2 := WD cB cI cO ee na nb P2 ((reasonX S q c r).2) X2 f g) (fun x hx => by rw [hx]; exact hh.k hF2 hc2) ?_
  rw [show (reasonX S q c r).2 = (whyS S q (6 * r + c)).2 by rw [hTr]] at hi2 hc2
  have e1 : ∀ k, k ≠ 1 → S.1 k = (whyS S q (6 * r + c)).2.1 k := fun k h => (whyS_1 S q (6 * r + c) k h).symm
  have e2 : ∀ k, k ≠ 31 → S.2 k = (whyS S q (6 * r + c)).2.2 k := fun k _ => by rw [whyS_2]
  have hiS : INV S X2 (210 * (k : Int)) := INV_cg e1 e2 hi2
  refine V_weak (I2 := WD cB cI cO ee na nb P2 S X2 f g) (fun x hx => ⟨CW_E1 e1 e2 (by have := hx.1; rw [hTr] at this; exact this), hx.2⟩) ?_
  refine V_iload6 (pc' := 26) C dL_isRun_24 rfl ?_
  refine V_icmpeq (tgt := 31) C ⟨by rw [hans]; omega, by omega⟩ dL_isRun_26 (by decide) rfl (fun c_26 => ?_) (fun c_26 => ?_)
  · refine V_iload3 (pc' := 32) C dL_isRun_31 rfl ?_
    refine V_aload1 (pc' := 33) C dL_isRun_32 rfl ?_
    refine V_bipush (pc' := 35) C dL_isRun_33 rfl (by decide) ?_
    refine V_ialdE (pc' := 36) (n := 540) (f := f) (v := (S.2 27 + 1)) C 2 rfl (fun h hh => ⟨901, hh.2.1⟩) ⟨by omega, by omega, by omega⟩ (n52) dL_isRun_35 rfl ?_
    refine V_iconst (pc' := 37) C dL_isRun_36 rfl ?_
    refine V_isubE (pc' := 38) (v := S.2 27) C (by omega) dL_isRun_37 rfl ?_
    refine V_icmpeq (tgt := 48) C ⟨by omega, by omega⟩ dL_isRun_38 (by decide) rfl (fun c_38 => ?_) (fun c_38 => ?_)
    · exact absurd c_38 hqr
    · refine V_iload6 (pc' := 43) C dL_isRun_41 rfl ?_
      refine V_bipush (pc' := 45) C dL_isRun_43 rfl (by decide) ?_
      refine V_icmpeq (tgt := 83) C ⟨by omega, by decide⟩ dL_isRun_45 (by decide) rfl (fun c_45 => ?_) (fun c_45 => ?_)
      · have hYp := run_pre3 (v := 0) hmw ⟨by omega, by omega⟩ ⟨by omega, by omega⟩ hok
        have hok9 := hok
        generalize hY : uG (whyS S q (6 * r + c)).2 31 0 = Y at *
        have y1 : ∀ k, k ≠ 1 → Y.1 k = S.1 k := fun k h => by rw [← hY, uG_1, whyS_1 S q (6 * r + c) k h]
        have y2 : ∀ k, k ≠ 31 → Y.2 k = S.2 k := fun k h => by rw [← hY, uG_n _ h, whyS_2]
        have hpe : PEq Y S := ⟨fun k h1 h2 => y1 k (by omega), y1 0 (by decide)⟩
        have hb24 := hYp.2.2.2.2.2.2.1
        obtain ⟨q1, q2, q3⟩ := run_ok 0 hwp hpe ⟨by omega, by omega⟩ ⟨by omega, by omega⟩ (by rw [y2 24 (by decide)]; have := hmw.2.1.1; have := HW_log hhw; omega) hok
        have hRY : NR f g Y := hnr.cg (fun k a _ _ _ => y1 k a) (fun k _ a => y2 k a)
        have hoY : ∀ i : Nat, (i : Int) < Y.1 4 q → isOutB Y q i (6 * r + c) = false := fun i hi => by
          have := (whyS_ok hok i (by rw [y1 4 (by decide)] at hi; exact hi)).1
          unfold isOutB at this ⊢
          rw [y1 6 (by decide), y1 7 (by decide)]
          exact this
        have hl0 := hmw.2.1.1
        refine V_aload1 (pc' := 84) C dL_isRun_83 rfl ?_
        refine V_bipush (pc' := 86) C dL_isRun_84 rfl (by decide) ?_
        refine V_ialdE (pc' := 87) (n := 540) (f := f) (v := (S.2 29 + S.2 24)) C 2 rfl (fun h hh => ⟨901, hh.2.1⟩) ⟨by omega, by omega, by omega⟩ (n56) dL_isRun_86 rfl ?_
        refine V_istore7 (pc' := 89) C dL_isRun_87 rfl (by decide) rfl ?_
        refine V_aload1 (pc' := 90) C dL_isRun_89 rfl ?_
        refine V_aload2 (pc' := 91) C dL_isRun_90 rfl ?_
        refine V_iload3 (pc' := 92) C dL_isRun_91 rfl ?_
        refine V_iload4 (pc' := 94) C dL_isRun_92 rfl ?_
        refine V_iload5 (pc' := 96) C dL_isRun_94 rfl ?_
        refine V_iconst (pc' := 97) C dL_isRun_96 rfl ?_
        refine V_callS (n := 6) [.ref na, .ref nb, .int (iI q), .int (iI c), .int (iI r), .int (iI 0)] C (kL_run_ (S := Y) (q := q) (c := c) (r := r) (dp := 0) (f := f) (g := g) hRY hYp.1 (by omega) hc9 hr9 (by decide) q1 hoY q3 (by rw [y2 29 (by decide), y2 24 (by decide)]; omega)) gL_isRun_L_run_ rfl ydL_run_ ⟨Nat.le_of_ble_eq_true rfl, Nat.le_of_ble_eq_true rfl⟩ ⟨rfl, rfl⟩ rfl (fun h hh => hh.2) rfl (Nat.le_of_ble_eq_true rfl) dL_isRun_97 ⟨by dsimp only; omega, by dsimp only; omega⟩ (fun h v h' hh hj9 => ?_)
        obtain ⟨rfl, ⟨f2, g2, hN2, hR2, h552⟩, hF9⟩ := hj9
        refine V_weak (I2 := WD cB cI cO ee na nb P2 S X2 f2 g2) (fun x hx => by rw [hx]; exact hh.n hiS hF9 hN2) ?_
        refine V_aload0 (pc' := 101) C dL_isRun_100 rfl ?_
        refine V_iload3 (pc' := 102) C dL_isRun_101 rfl ?_
        refine V_iload4 (pc' := 104) C dL_isRun_102 rfl ?_
        refine V_iload5 (pc' := 106) C dL_isRun_104 rfl ?_
        obtain ⟨qn, hqn⟩ : ∃ z : Nat, q = (z : Int) := ⟨q.toNat, by omega⟩
        have hM2 := KN_run_o (l := l) (D := D) (cB := cB) (cC := cC) (cI := cI) (cO := cO) (cJ := cJ) (cD := cD) (ee := ee) (P := P2) hiS (by omega) hst (m := qn) (c := c) (r := r) (by omega) ⟨by omega, by omega⟩ ⟨by omega, by omega⟩ hcl (by omega) (by rw [h0s, ← hqn]; exact hok)
        have e25 : X2.2 25 = S.2 29 + S.2 24 := hiS.1.2.2.2.1.1.1
        have e26 : (X2.2 26).toNat = len9 := by omega
        rw [hp2, e25, e26, ← hqn] at hM2
        have hTZ : runX S q c r = runZ S q (6 * r + c) := by
          rw [show runX S q c r = _ from (if_neg hno).trans ((if_neg hqr).trans (if_neg (fun z => z (by rw [h0s]; exact hok)))), h0s]
          rfl
        have hansx : ansL (runX S q c r) = (chX (runS Y q (6 * r + c) 0) (S.2 24)).2 24 - S.2 24 := by
          rw [hTZ, ansL_0 (run_31 hmw ⟨by omega, by omega⟩ ⟨by omega, by omega⟩ hok), ← hY]
          exact endsS_fst _ _ _
        refine V_callSW (n := 4) [.ref (P 1), .int (iI q), .int (iI c), .int (iI r)] C hM2 gL_isRun_L_run rfl ydL_run ⟨Nat.le_of_ble_eq_true rfl, Nat.le_of_ble_eq_true rfl⟩ ⟨rfl, rfl⟩ rfl (fun h hh => hh.1) rfl (Nat.le_of_ble_eq_true rfl) dL_isRun_106 ⟨by dsimp only; omega, by dsimp only; omega⟩ (fun h v h' hh hj9 => ?_)
        obtain ⟨rfl, ⟨P3, X3, hc3, hp3, hi3, hx3⟩, hF3⟩ := hj9
        refine V_weak (I2 := WD cB cI cO ee na nb P3 ((runX S q c r).2) X3 f2 g2) (fun x hx => by rw [hx]; exact hh.k hF3 hc3) ?_
        refine V_aload1 (pc' := 110) C dL_isRun_109 rfl ?_
        refine V_aload2 (pc' := 111) C dL_isRun_110 rfl ?_
        refine V_iload7 (pc' := 113) C dL_isRun_111 rfl ?_
        refine V_callS (n := 3) [.ref na, .ref nb, .int (iI (S.2 29 + S.2 24))] C (kL_acted (S := runS Y q (6 * r + c) 0) (fr := S.2 24) (f := f2) (g := g2) (by rw [← hY, run_2 S q (6 * r + c) 0 29 (by decide)]) hR2 hYp.2.2.2 (HWo_hand (HW_o hhw) (by rw [← hY]; exact run_2 S q (6 * r + c) 0 25 (by decide)) (by rw [← hY]; exact run_1 S q (6 * r + c) 0 20 (by decide))) (by have h9 := hYp.2.2.2.2.2.2.2.1; rw [← hY, run_2 S q (6 * r + c) 0 29 (by decide)]; rw [← hY] at h9; omega) (by omega)) gL_isRun_L_acted rfl ydL_acted ⟨Nat.le_of_ble_eq_true rfl, Nat.le_of_ble_eq_true rfl⟩ ⟨rfl, rfl⟩ rfl (fun h hh => hh.2) rfl (Nat.le_of_ble_eq_true rfl) dL_isRun_113 ⟨by dsimp only; omega, by dsimp only; omega⟩ (fun h v h' hh hj9 => ?_)
        obtain ⟨rfl, ⟨f3, g3, hN3, hR3, h5a, h5b⟩, hF9⟩ := hj9
        refine V_weak (I2 := WD cB cI cO ee na nb P3 (runX S q c r).2 X3 f3 g3) (fun x hx => by rw [hx]; exact hh.n hi3 hF9 hN3) ?_
        replace hR3 : NR f3 g3 (runZ S q (6 * r + c)).2 := by rw [← hY] at hR3; exact hR3
        refine V_eq (st2 := [.int (iI ((chX (runS Y q (6 * r + c) 0) (S.2 24)).2 24 - S.2 24)), .int (iI ((chX (runS Y q (6 * r + c) 0) (S.2 24)).2 24 - S.2 24))]) (by rw [hansx] <;> rfl) ?_
        refine V_sameN (tgt := 123) C dL_isRun_116 (by decide) rfl ?_
        refine V_iconst (pc' := 120) C dL_isRun_119 rfl ?_
        refine V_goto (tgt := 124) C dL_isRun_120 (by decide) ?_
        exact V_endz (z := 1) C hr hlk (nar_z true) (fun h' hh => LO_mk hh (hp3.trans hp2) hi3 (by omega) (by omega) (by omega) hk (by rw [hTZ]; exact hR3) (by rw [hTZ]; exact run_22 hmw ⟨by omega, by omega⟩ ⟨by omega, by omega⟩ hok)) ⟨by omega, by omega⟩ dL_isRun_124
      · exact absurd c_45 (fun z => z hok)
  · exact absurd c_26 (fun z => z hans)
theorem kO_isSet {a c r n : Int} (ha : a = 115 ∨ a = 97 ∨ a = 99) (hc9 : 0 ≤ c ∧ c < 6) (hr9 : 0 ≤ r ∧ r < 8) (hn : -20000 ≤ n ∧ n ≤ 20000) (hst : l.stackTraces = false) (hW : WS k S X f g) (hk : k ≤ 57) : OKf l D cB cC cI cO cJ cD ee yL_isSet wsL_isSet [.ref na, .ref nb, .int (iI a), .int (iI c), .int (iI r), .int (iI n)] na nb P S X f g k := by
  rcases ha with rfl | rfl | rfl
  · exact kO_isSet_s hc9 hr9 hn hst hW hk
  · exact kO_isSet_a hc9 hr9 hn hst hW hk
  · exact kO_isSet_c hc9 hr9 hn hst hW hk
theorem kO_isRun {q c r : Int} (hq : 0 ≤ q ∧ q < S.2 22) (hc9 : 0 ≤ c ∧ c < 6) (hr9 : 0 ≤ r ∧ r < 8) (hst : l.stackTraces = false) (hW : WS k S X f g) (hk : k ≤ 57) : OKf l D cB cC cI cO cJ cD ee yL_isRun wsL_isRun [.ref na, .ref nb, .int (iI q), .int (iI c), .int (iI r)] na nb P S X f g k := by
  by_cases h1 : q = S.2 27
  · exact kO_isRun_i hq hc9 hr9 h1 hst hW hk
  · by_cases h2 : (whyS S q (6 * r + c)).1 = 45
    · exact kO_isRun_o hq hc9 hr9 h1 h2 hst hW hk
    · exact kO_isRun_u hq hc9 hr9 h1 h2 hst hW hk

end

/-! each call of the class by the law, all its cases together, by the spec's functions -/
section
variable {l : Launch} {D : va_G} {cB cC cI cO cJ cD : ClassId} {ee : Nat × Nat} {P : Nat → Nat} {S X : MSt} {b b' : Int}
/-- what the law makes of an answer: the answer, or the number of what was thrown -/
def ansL (T : Int × MSt) : Int := if T.2.2 31 = 0 then T.1 else -900000 - T.2.2 31
def LWo (cB cI cO : ClassId) (ee : Nat × Nat) (P : Nat → Nat) (b' : Int) (T : Int × MSt) (len' : Nat) : Hp → Option Value → Hp → Prop := fun h v9 h' => v9 = some (.int (iI (ansL T))) ∧ (∃ P' X', CW cI cO ee (TxH cB) P' T.2 X' h' ∧ P' 1 = P 1 ∧ INV T.2 X' b' ∧ X'.2 26 = (len' : Int)) ∧ Fr T7 h h'
def KL (l : Launch) (D : va_G) (cB cC cI cO cJ cD : ClassId) (ee : Nat × Nat) (y : MethodName) (ws : List Cond) (As : List Value) (P : Nat → Nat) (S X : MSt) (b' : Int) (T : Int × MSt) : Prop := ∃ ms len' : Nat, ms + 8 * (X.2 26).toNat ≤ 40 + 8 * len' ∧ (len' = (X.2 26).toNat ∨ len' = lenG (X.2 25) (X.2 26).toNat) ∧ Ct l y ws ({ frames := 20, cells := 12, slots := ms, locals := 500 } : Room) D (tyL cB cC cI cO cJ cD) ee (.ref (P 1) :: As) (CW cI cO ee (TxH cB) P S X) (LWo cB cI cO ee P b' T len') 12 ms
theorem INV_len (h : INV S X b) : 210 ≤ X.2 26 ∧ X.2 26 ≤ 107520 ∧ X.2 26 = ((X.2 26).toNat : Int) := by
  obtain ⟨e, he, hl⟩ := h.1.2.2.2.2.2
  have h1 : 1 ≤ 2 ^ e := Nat.one_le_two_pow
  have h2 : 2 ^ e ≤ 2 ^ 9 := Nat.pow_le_pow_right (by decide) he
  rw [hl]
  refine ⟨by omega, by omega, by omega⟩
theorem INV_top (h : INV S X b) : b ≤ 107520 := h.1.1.2.2.2.2.1.2.2.2
theorem CW_1 {h : Hp} (H : CW cI cO ee (TxH cB) P S X h) : ∃ t fs, h (P 1) = some (t, .inr (12, fs)) := ⟨1, _, H.1⟩
theorem JI {I : Hp → Prop} {J0 : Hp → Int → Hp → Prop} : ∀ h v h', I h → (Ji J0) h v h' → ∃ z : Int, v = some (.int (iI z)) := fun h v h' _ hj => ⟨hj.choose, hj.choose_spec.1⟩
theorem CW_u (v : Int) {h : Hp} (H : CW cI cO ee (TxH cB) P S X h) : CW cI cO ee (TxH cB) P (uG S 31 v) X h := H.congr (TxH_ok cB) ⟨rfl, fun _ _ _ => rfl, rfl, rfl, rfl, rfl, rfl, rfl, rfl⟩
theorem CW_E1 {S' : MSt} (e1 : ∀ k, k ≠ 1 → S'.1 k = S.1 k) (e2 : ∀ k, k ≠ 31 → S'.2 k = S.2 k) {h : Hp} (H : CW cI cO ee (TxH cB) P S X h) : CW cI cO ee (TxH cB) P S' X h := H.congr (TxH_ok cB) ⟨e1 0 (by decide), fun k k0 _ => e1 k (by omega), e1 21 (by decide), e2 22 (by decide), e2 23 (by decide), e2 26 (by decide), e2 27 (by decide), e2 28 (by decide), e2 30 (by decide)⟩
/-- a call that returns -/
theorem KL_ok {y : MethodName} {ws : List Cond} {As : List Value} {rm : Room} {mc ms : Nat} {T : Int × MSt} {V : Int} {W : Hp → Hp → Prop} (ms9 len' : Nat) (hIv : INV S X b) (hM : Ct l y ws rm D (tyL cB cC cI cO cJ cD) ee (.ref (P 1) :: As) (CW cI cO ee (TxH cB) P S X) (Ji (fun h z9 h' => z9 = V ∧ W h h')) mc ms) (hV : V = T.1) (hT : T.2.2 31 = 0) (hf : rm.frames ≤ 20) (hl : rm.locals ≤ 500) (hc : rm.cells ≤ 12) (hs : rm.slots ≤ ms9) (hm : mc ≤ 12 ∧ ms ≤ ms9) (h8 : ms9 + 8 * (X.2 26).toNat ≤ 40 + 8 * len') (h9 : len' = (X.2 26).toNat ∨ len' = lenG (X.2 25) (X.2 26).toNat)
    (hW : ∀ h h1, CW cI cO ee (TxH cB) P S X h → W h h1 → Fr T7 h h1 ∧ ∃ P' X', CW cI cO ee (TxH cB) P' T.2 X' h1 ∧ P' 1 = P 1 ∧ INV T.2 X' b' ∧ X'.2 26 = (len' : Int)) : KL l D cB cC cI cO cJ cD ee y ws As P S X b' T := by
  refine ⟨ms9, len', h8, h9, Ct_room (Ct_mono hM (fun h hh => hh) (fun h v h' hh hj => ?_)) hf hl hc hs hm⟩
  obtain ⟨z, rfl, rfl, hw⟩ := hj
  obtain ⟨hF, P', X', hc2, hp2, hi2, hx2⟩ := hW h h' hh hw
  exact ⟨by unfold ansL; rw [if_pos hT, hV], ⟨P', X', hc2, hp2, hi2, hx2⟩, hF⟩
/-- a call that throws; the trial may have changed -/
theorem KL_er {y : MethodName} {ws : List Cond} {As : List Value} {rm : Room} {mc ms : Nat} {T : Int × MSt} {k v9 : Int} {JX : Hp → Hp → Prop} (hIv : INV S X b) (hb : b ≤ b' ∧ b' ≤ 107520) (hM : Ct l y ws rm D (tyL cB cC cI cO cJ cD) ee (.ref (P 1) :: As) (CW cI cO ee (TxH cB) P S X) (fun h v h' => v = some (.int (iI v9)) ∧ JX h h') mc ms) (hk : k ≠ 0 ∧ v9 = -900000 - k) (hT : T.2.2 31 = k) (e1 : ∀ j, j ≠ 1 → T.2.1 j = S.1 j) (e2 : ∀ j, j ≠ 31 → T.2.2 j = S.2 j) (hf : rm.frames ≤ 20) (hl : rm.locals ≤ 500) (hc : rm.cells ≤ 12) (hs : rm.slots ≤ 40) (hm : mc ≤ 12 ∧ ms ≤ 40) (hJ : ∀ h h', CW cI cO ee (TxH cB) P S X h → JX h h' → (∃ f, CW cI cO ee (TxH cB) P S (Xtr X f) h') ∧ Fr (tC 4) h h') : KL l D cB cC cI cO cJ cD ee y ws As P S X b' T := by
  have hn := INV_len hIv
  refine ⟨40, (X.2 26).toNat, by omega, Or.inl rfl, Ct_room (Ct_mono hM (fun h hh => hh) (fun h v h' hh hj => ?_)) hf hl hc hs hm⟩
  obtain ⟨rfl, hj⟩ := hj
  obtain ⟨⟨f, hc2⟩, hF⟩ := hJ h h' hh hj
  exact ⟨by unfold ansL; rw [if_neg (by rw [hT]; exact hk.1), hT, hk.2], ⟨P, Xtr X f, CW_E1 e1 e2 hc2, rfl, INV_b (INV_cg e1 e2 (INV_xtr f hIv)) hb.1 hb.2, hn.2.2⟩, hF.mono (fun u hu => by unfold tC at hu; unfold T7; omega)⟩
theorem JX_e {h h' : Hp} (H : CW cI cO ee (TxH cB) P S X h) (e : h' = h) : (∃ f, CW cI cO ee (TxH cB) P S (Xtr X f) h') ∧ Fr (tC 4) h h' := by
  subst e
  refine ⟨⟨X.1 5, ?_⟩, Fr.refl⟩
  have e5 : Xtr X (X.1 5) = X := by
    unfold Xtr
    refine Prod.ext (funext fun j => ?_) rfl
    show (if j = 5 then X.1 5 else X.1 j) = X.1 j
    split
    · rename_i q; rw [q]
    · rfl
  rw [e5]
  exact H
/-- nothing changes but the answer -/
theorem W_same (k : Int) (hIv : INV S X b) (hb : b ≤ b' ∧ b' ≤ 107520) {S' : MSt} (e1 : ∀ j, j ≠ 1 → S'.1 j = S.1 j) (e2 : ∀ j, j ≠ 31 → S'.2 j = S.2 j) : ∀ h h1, CW cI cO ee (TxH cB) P S X h → h1 = h → Fr T7 h h1 ∧ ∃ P' X', CW cI cO ee (TxH cB) P' S' X' h1 ∧ P' 1 = P 1 ∧ INV S' X' b' ∧ X'.2 26 = ((X.2 26).toNat : Int) := fun h h1 H e => by
  subst e
  exact ⟨Fr.refl, P, X, CW_E1 e1 e2 H, rfl, INV_b (INV_cg e1 e2 hIv) hb.1 hb.2, (INV_len hIv).2.2⟩
theorem u31_1 (v : Int) : ∀ j, j ≠ 1 → (uG S 31 v).1 j = S.1 j := fun _ _ => rfl
theorem u31_2 (v : Int) : ∀ j, j ≠ 31 → (uG S 31 v).2 j = S.2 j := fun _ h => uG_n _ h _
theorem fN (h : Bool) (n : ¬ h = true) : h = false := by cases h; rfl; exact absurd rfl n
theorem isMac_t {m : Int} : isMacB S m = true ↔ 0 ≤ m ∧ m < S.2 22 := by
  simp only [isMacB, isInB, Bool.and_eq_true, decide_eq_true_eq]
  omega
theorem isMac_f {m : Int} (h : isMacB S m = false) : ¬ (0 ≤ m ∧ m < S.2 22) := fun z => by rw [isMac_t.mpr z] at h; cases h
theorem hF_of (h : INV S X b) : ∀ i, 0 ≤ i → i < X.2 25 → rI (X.1 7 i) ∧ rI (X.1 9 i) ∧ rI (X.1 10 i) := fun i i0 i1 => by
  have e := h.1.2.2.2.1.2.2.1 i.toNat (by omega)
  rw [show ((i.toNat : Nat) : Int) = i by omega] at e
  refine ⟨⟨by omega, by omega⟩, ⟨by omega, by omega⟩, by omega, by omega⟩
theorem KL_0 {y : MethodName} {ws : List Cond} {As : List Value} {T : Int × MSt} (H : KL l D cB cC cI cO cJ cD ee y ws As P (uG S 31 0) X b' T) : KL l D cB cC cI cO cJ cD ee y ws As P S X b' T := by
  obtain ⟨ms, len', h1, h2, h3⟩ := H
  exact ⟨ms, len', h1, h2, Ct_mono h3 (fun h hh => CW_u 0 hh) (fun h v h' _ hj => hj)⟩
set_option maxHeartbeats 1000000 in
theorem KL_cell_ (hI : INV S X b) (hst : l.stackTraces = false) {c r : Int} (r_c : rI c) (r_r : rI r) : KL l D cB cC cI cO cJ cD ee yL_cell_ wsL_cell_ [.int (iI c), .int (iI r)] P S X b (cellX S c r) := by
  have hn := INV_len hI
  have hwp := hI.1.1.1
  have hb := INV_top hI
  by_cases hc : isCellB c r = true
  · rw [show cellX S c r = _ from if_neg (by rw [hc]; decide)]
    exact KL_ok 40 (X.2 26).toNat hI (kW_cell_ (kX7_cell ⟨r_c, r_r⟩ hc) ⟨rfl, rfl⟩ (fun h hh => CW_1 hh) JI) (rfl) rfl (Nat.le_of_ble_eq_true rfl) (Nat.le_of_ble_eq_true rfl) (Nat.le_of_ble_eq_true rfl) (Nat.le_of_ble_eq_true rfl) ⟨Nat.le_of_ble_eq_true rfl, Nat.le_of_ble_eq_true rfl⟩ (by omega) (Or.inl rfl) (W_same 0 hI ⟨by omega, hb⟩ (u31_1 _) (u31_2 _))
  · have hc := fN _ hc
    rw [show cellX S c r = _ from if_pos hc]
    exact KL_er hI ⟨by omega, hb⟩ (kW_cell__1 (xX7_cell ⟨r_c, r_r⟩ hc hst) ⟨rfl, rfl⟩ (fun h hh => CW_1 hh)) (by decide) (uG_s _ _ _) (u31_1 _) (u31_2 _) (Nat.le_of_ble_eq_true rfl) (Nat.le_of_ble_eq_true rfl) (Nat.le_of_ble_eq_true rfl) (Nat.le_of_ble_eq_true rfl) ⟨Nat.le_of_ble_eq_true rfl, Nat.le_of_ble_eq_true rfl⟩ (fun h h1 H e => JX_e H e)
set_option maxHeartbeats 1000000 in
theorem KL_cellByAudit (hI : INV S X b) (hst : l.stackTraces = false) {c r : Int} (r_c : rI c) (r_r : rI r) : KL l D cB cC cI cO cJ cD ee yL_cellByAudit wsL_cellByAudit [.int (iI c), .int (iI r)] P S X b (cellX S c r) := by
  have hn := INV_len hI
  have hwp := hI.1.1.1
  have hb := INV_top hI
  by_cases hc : isCellB c r = true
  · rw [show cellX S c r = _ from if_neg (by rw [hc]; decide)]
    have ha := atI_in (c := c) (r := r) hc
    exact KL_ok 40 (X.2 26).toNat hI (kW_cellByAudit (kX7_cellByAudit ⟨r_c, r_r⟩ hc (hF_of hI)) ⟨rfl, rfl⟩ (fun h hh => CW_1 hh) JI) (hI.1.2.2.2.1.2.2.2.1 _ ha.1 ha.2) rfl (Nat.le_of_ble_eq_true rfl) (Nat.le_of_ble_eq_true rfl) (Nat.le_of_ble_eq_true rfl) (Nat.le_of_ble_eq_true rfl) ⟨Nat.le_of_ble_eq_true rfl, Nat.le_of_ble_eq_true rfl⟩ (by omega) (Or.inl rfl) (W_same 0 hI ⟨by omega, hb⟩ (u31_1 _) (u31_2 _))
  · have hc := fN _ hc
    rw [show cellX S c r = _ from if_pos hc]
    exact KL_er hI ⟨by omega, hb⟩ (kW_cellByAudit_1 (xX7_cellByAudit ⟨r_c, r_r⟩ hc hst) ⟨rfl, rfl⟩ (fun h hh => CW_1 hh)) (by decide) (uG_s _ _ _) (u31_1 _) (u31_2 _) (Nat.le_of_ble_eq_true rfl) (Nat.le_of_ble_eq_true rfl) (Nat.le_of_ble_eq_true rfl) (Nat.le_of_ble_eq_true rfl) ⟨Nat.le_of_ble_eq_true rfl, Nat.le_of_ble_eq_true rfl⟩ (fun h h1 H e => JX_e H e)
set_option maxHeartbeats 1000000 in
theorem KL_granted (hI : INV S X b) (hst : l.stackTraces = false) {c r : Int} (r_c : rI c) (r_r : rI r) : KL l D cB cC cI cO cJ cD ee yL_granted wsL_granted [.int (iI c), .int (iI r)] P S X b (grantedX S c r) := by
  have hn := INV_len hI
  have hwp := hI.1.1.1
  have hb := INV_top hI
  by_cases hc : isCellB c r = true
  · rw [show grantedX S c r = _ from if_neg (by rw [hc]; decide)]
    exact KL_ok 40 (X.2 26).toNat hI (kW_granted (kX7_granted hwp ⟨r_c, r_r⟩ hc) ⟨rfl, rfl⟩ (fun h hh => CW_1 hh) JI) (rfl) rfl (Nat.le_of_ble_eq_true rfl) (Nat.le_of_ble_eq_true rfl) (Nat.le_of_ble_eq_true rfl) (Nat.le_of_ble_eq_true rfl) ⟨Nat.le_of_ble_eq_true rfl, Nat.le_of_ble_eq_true rfl⟩ (by omega) (Or.inl rfl) (W_same 0 hI ⟨by omega, hb⟩ (u31_1 _) (u31_2 _))
  · have hc := fN _ hc
    rw [show grantedX S c r = _ from if_pos hc]
    exact KL_er hI ⟨by omega, hb⟩ (kW_granted_1 (xX7_granted ⟨r_c, r_r⟩ hc hst) ⟨rfl, rfl⟩ (fun h hh => CW_1 hh)) (by decide) (uG_s _ _ _) (u31_1 _) (u31_2 _) (Nat.le_of_ble_eq_true rfl) (Nat.le_of_ble_eq_true rfl) (Nat.le_of_ble_eq_true rfl) (Nat.le_of_ble_eq_true rfl) ⟨Nat.le_of_ble_eq_true rfl, Nat.le_of_ble_eq_true rfl⟩ (fun h h1 H e => JX_e H e)
set_option maxHeartbeats 1000000 in
theorem KL_addMacro (hI : INV S X b) (hst : l.stackTraces = false) : KL l D cB cC cI cO cJ cD ee yL_addMacro wsL_addMacro [] P S X b (addMacroX S) := by
  have hn := INV_len hI
  have hwp := hI.1.1.1
  have hb := INV_top hI
  by_cases hc : S.2 22 = 6
  · rw [show addMacroX S = _ from if_pos hc]
    exact KL_er hI ⟨by omega, hb⟩ (kW_addMacro_1 (xX7_addMacro hwp (by omega) hst) ⟨rfl, rfl⟩ (fun h hh => CW_1 hh)) (by decide) (uG_s _ _ _) (u31_1 _) (u31_2 _) (Nat.le_of_ble_eq_true rfl) (Nat.le_of_ble_eq_true rfl) (Nat.le_of_ble_eq_true rfl) (Nat.le_of_ble_eq_true rfl) ⟨Nat.le_of_ble_eq_true rfl, Nat.le_of_ble_eq_true rfl⟩ (fun h h1 H e => JX_e H e)
  · rw [show addMacroX S = _ from if_neg hc]
    have h22 := hwp.2.2.2.2.1
    obtain ⟨m, hm⟩ : ∃ m : Nat, S.2 22 = (m : Int) := ⟨(S.2 22).toNat, by omega⟩
    refine KL_0 (KL_ok (S := uG S 31 0) 40 (X.2 26).toNat (INV_u31 0 hI) (kW_addMacro (kX7_addMacro (S := uG S 31 0) hwp hI.1.2.2.1 hI.2 (TxH_ok cB) (TxH_p cB) (m := m) hm (by omega)) ⟨rfl, rfl⟩ (fun h hh => CW_1 hh) JI) (rfl) (rfl) (Nat.le_of_ble_eq_true rfl) (Nat.le_of_ble_eq_true rfl) (Nat.le_of_ble_eq_true rfl) (Nat.le_of_ble_eq_true rfl) ⟨Nat.le_of_ble_eq_true rfl, Nat.le_of_ble_eq_true rfl⟩ (by omega) (Or.inl rfl) (fun h h1 H e => ?_))
    obtain ⟨⟨P2, h2, p2⟩, hF⟩ := e
    exact ⟨hF, P2, X, h2, p2, INV_b (INV_addM (INV_u31 0 hI) hc) (by omega) hb, hn.2.2⟩
set_option maxHeartbeats 1000000 in
theorem KL_record (hI : INV S X b) (hst : l.stackTraces = false) {m c r : Int} (r_m : rI m) (r_c : rI c) (r_r : rI r) : KL l D cB cC cI cO cJ cD ee yL_record wsL_record [.int (iI m), .int (iI c), .int (iI r)] P S X b (recordX S m c r) := by
  have hn := INV_len hI
  have hwp := hI.1.1.1
  have hb := INV_top hI
  by_cases hm : isMacB S m = true
  · have hm2 := isMac_t.mp hm
    by_cases hc : isCellB c r = true
    · have hno : ¬ (isMacB S m = false ∨ isCellB c r = false) := by rw [hm, hc]; decide
      have h27 := hwp.2.2.2.2.1
      by_cases hr : 0 ≤ S.2 27
      · rw [show recordX S m c r = _ from (if_neg hno).trans (if_pos hr)]
        exact KL_er hI ⟨by omega, hb⟩ (kW_record_2 (xX7_record_i hwp hm2 ⟨r_c, r_r⟩ hc (by omega) hst) ⟨rfl, rfl⟩ (fun h hh => CW_1 hh)) (by decide) (uG_s _ _ _) (u31_1 _) (u31_2 _) (Nat.le_of_ble_eq_true rfl) (Nat.le_of_ble_eq_true rfl) (Nat.le_of_ble_eq_true rfl) (Nat.le_of_ble_eq_true rfl) ⟨Nat.le_of_ble_eq_true rfl, Nat.le_of_ble_eq_true rfl⟩ (fun h h1 H e => JX_e H e)
      · rw [show recordX S m c r = _ from (if_neg hno).trans (if_neg hr)]
        obtain ⟨m, rfl⟩ : ∃ q : Nat, m = (q : Int) := ⟨m.toNat, by omega⟩
        have ha := atI_in (c := c) (r := r) hc
        refine KL_0 (KL_ok (S := uG S 31 0) 40 (X.2 26).toNat (INV_u31 0 hI) (kW_record (kX7_record (S := uG S 31 0) hwp hI.1.2.2.1 (TxH_ok cB) (TxH_p cB) (m := m) hm2.2 ⟨r_c, r_r⟩ hc (by show S.2 27 = -1; omega)) ⟨rfl, rfl⟩ (fun h hh => CW_1 hh) JI) (rfl) (rfl) (Nat.le_of_ble_eq_true rfl) (Nat.le_of_ble_eq_true rfl) (Nat.le_of_ble_eq_true rfl) (Nat.le_of_ble_eq_true rfl) ⟨Nat.le_of_ble_eq_true rfl, Nat.le_of_ble_eq_true rfl⟩ (by omega) (Or.inl rfl) (fun h h1 H e => ?_))
        exact ⟨e.2, P, X, e.1, rfl, INV_b (INV_rec (S := uG S 31 0) (INV_u31 0 hI) hm2 ha) (by omega) hb, hn.2.2⟩
    · have hc := fN _ hc
      rw [show recordX S m c r = _ from if_pos (Or.inr hc)]
      exact KL_er hI ⟨by omega, hb⟩ (kW_record_1 (xX7_record_c hwp hm2 ⟨r_c, r_r⟩ hc hst) ⟨rfl, rfl⟩ (fun h hh => CW_1 hh)) (by decide) (uG_s _ _ _) (u31_1 _) (u31_2 _) (Nat.le_of_ble_eq_true rfl) (Nat.le_of_ble_eq_true rfl) (Nat.le_of_ble_eq_true rfl) (Nat.le_of_ble_eq_true rfl) ⟨Nat.le_of_ble_eq_true rfl, Nat.le_of_ble_eq_true rfl⟩ (fun h h1 H e => JX_e H e)
  · have hm := fN _ hm
    rw [show recordX S m c r = _ from if_pos (Or.inl hm)]
    exact KL_er hI ⟨by omega, hb⟩ (kW_record_1 (xX7_record_m hwp (isMac_f hm) r_m hst) ⟨rfl, rfl⟩ (fun h hh => CW_1 hh)) (by decide) (uG_s _ _ _) (u31_1 _) (u31_2 _) (Nat.le_of_ble_eq_true rfl) (Nat.le_of_ble_eq_true rfl) (Nat.le_of_ble_eq_true rfl) (Nat.le_of_ble_eq_true rfl) ⟨Nat.le_of_ble_eq_true rfl, Nat.le_of_ble_eq_true rfl⟩ (fun h h1 H e => JX_e H e)
set_option maxHeartbeats 1000000 in
theorem KL_stop (hI : INV S X b) (hst : l.stackTraces = false) : KL l D cB cC cI cO cJ cD ee yL_stop wsL_stop [] P S X b (stopX S) := by
  have hn := INV_len hI
  have hwp := hI.1.1.1
  have hb := INV_top hI
  have h27 := hwp.2.2.2.2.1
  by_cases hc : S.2 27 < 0
  · rw [show stopX S = _ from if_pos hc]
    exact KL_er hI ⟨by omega, hb⟩ (kW_stop_1 (xX7_stop hwp (by omega) ⟨by omega, by omega⟩ hst) ⟨rfl, rfl⟩ (fun h hh => CW_1 hh)) (by decide) (uG_s _ _ _) (u31_1 _) (u31_2 _) (Nat.le_of_ble_eq_true rfl) (Nat.le_of_ble_eq_true rfl) (Nat.le_of_ble_eq_true rfl) (Nat.le_of_ble_eq_true rfl) ⟨Nat.le_of_ble_eq_true rfl, Nat.le_of_ble_eq_true rfl⟩ (fun h h1 H e => JX_e H e)
  · rw [show stopX S = _ from if_neg hc]
    have hrw := hI.1.1.2.2.2.1 (by omega)
    refine KL_0 (KL_ok (S := uG S 31 0) 40 (X.2 26).toNat (INV_u31 0 hI) (kW_stop (kX7_stop (S := uG S 31 0) hwp (TxH_ok cB) ⟨by show 0 ≤ S.2 27; omega, hrw.1⟩) ⟨rfl, rfl⟩ (fun h hh => CW_1 hh) JI) (rfl) (rfl) (Nat.le_of_ble_eq_true rfl) (Nat.le_of_ble_eq_true rfl) (Nat.le_of_ble_eq_true rfl) (Nat.le_of_ble_eq_true rfl) ⟨Nat.le_of_ble_eq_true rfl, Nat.le_of_ble_eq_true rfl⟩ (by omega) (Or.inl rfl) (fun h h1 H e => ?_))
    exact ⟨e.2.mono (fun u z => by unfold T7; omega), P, X, e.1, rfl, INV_b (INV_stop (INV_u31 0 hI)) (by omega) hb, hn.2.2⟩
set_option maxHeartbeats 1000000 in
theorem KL_grant (hI : INV S X b) (hst : l.stackTraces = false) {m c r c2 r2 : Int} (r_m : rI m) (r_c : rI c) (r_r : rI r) (r_c2 : rI c2) (r_r2 : rI r2) : KL l D cB cC cI cO cJ cD ee yL_grant wsL_grant [.int (iI m), .int (iI c), .int (iI r), .int (iI c2), .int (iI r2)] P S X b (grantX S m c r c2 r2) := by
  have hn := INV_len hI
  have hwp := hI.1.1.1
  have hb := INV_top hI
  by_cases hm : isMacB S m = true
  · have hm2 := isMac_t.mp hm
    by_cases hc : isCellB c r = true
    · by_cases hd : isCellB c2 r2 = true
      · have hno : ¬ (isMacB S m = false ∨ isCellB c r = false ∨ isCellB c2 r2 = false) := by rw [hm, hc, hd]; decide
        by_cases hg : isRangeB c r c2 r2 = true
        · have hg2 : ¬ isRangeB c r c2 r2 = false := by rw [hg]; decide
          obtain ⟨m, rfl⟩ : ∃ q : Nat, m = (q : Int) := ⟨m.toNat, by omega⟩
          have hw2 := hwp.2.1 (m : Int) (by omega) (by have := hwp.2.2.2.2.1; omega)
          by_cases h4 : S.1 9 m = 4
          · rw [show grantX S m c r c2 r2 = _ from (if_neg hno).trans ((if_neg hg2).trans (if_pos h4))]
            exact KL_er hI ⟨by omega, hb⟩ (kW_grant_3 (xX7_grant_f hwp hm2.2 ⟨r_c, r_r⟩ ⟨r_c2, r_r2⟩ hc hd hg h4 hst) ⟨rfl, rfl⟩ (fun h hh => CW_1 hh)) (by decide) (uG_s _ _ _) (u31_1 _) (u31_2 _) (Nat.le_of_ble_eq_true rfl) (Nat.le_of_ble_eq_true rfl) (Nat.le_of_ble_eq_true rfl) (Nat.le_of_ble_eq_true rfl) ⟨Nat.le_of_ble_eq_true rfl, Nat.le_of_ble_eq_true rfl⟩ (fun h h1 H e => JX_e H e)
          · rw [show grantX S m c r c2 r2 = _ from (if_neg hno).trans ((if_neg hg2).trans (if_neg h4))]
            have ha := atI_in (c := c) (r := r) hc
            have ha2 := atI_in (c := c2) (r := r2) hd
            refine KL_0 (KL_ok (S := uG S 31 0) 40 (X.2 26).toNat (INV_u31 0 hI) (kW_grant (kX7_grant (S := uG S 31 0) hwp hI.1.2.2.1 (TxH_ok cB) (TxH_p cB) (m := m) hm2.2 ⟨r_c, r_r⟩ ⟨r_c2, r_r2⟩ hc hd hg (by show S.1 9 m < 4; omega)) ⟨rfl, rfl⟩ (fun h hh => CW_1 hh) JI) (rfl) (rfl) (Nat.le_of_ble_eq_true rfl) (Nat.le_of_ble_eq_true rfl) (Nat.le_of_ble_eq_true rfl) (Nat.le_of_ble_eq_true rfl) ⟨Nat.le_of_ble_eq_true rfl, Nat.le_of_ble_eq_true rfl⟩ (by omega) (Or.inl rfl) (fun h h1 H e => ?_))
            obtain ⟨⟨P2, h2, p2⟩, hF⟩ := e
            exact ⟨hF, P2, X, h2, p2, INV_b (INV_grant (S := uG S 31 0) (INV_u31 0 hI) hm2 ha ha2 h4) (by omega) hb, hn.2.2⟩
        · have hg := fN _ hg
          rw [show grantX S m c r c2 r2 = _ from (if_neg hno).trans (if_pos hg)]
          exact KL_er hI ⟨by omega, hb⟩ (kW_grant_2 (xX7_grant_r hwp hm2 ⟨r_c, r_r⟩ ⟨r_c2, r_r2⟩ hc hd hg hst) ⟨rfl, rfl⟩ (fun h hh => CW_1 hh)) (by decide) (uG_s _ _ _) (u31_1 _) (u31_2 _) (Nat.le_of_ble_eq_true rfl) (Nat.le_of_ble_eq_true rfl) (Nat.le_of_ble_eq_true rfl) (Nat.le_of_ble_eq_true rfl) ⟨Nat.le_of_ble_eq_true rfl, Nat.le_of_ble_eq_true rfl⟩ (fun h h1 H e => JX_e H e)
      · have hd := fN _ hd
        rw [show grantX S m c r c2 r2 = _ from if_pos (Or.inr (Or.inr hd))]
        exact KL_er hI ⟨by omega, hb⟩ (kW_grant_1 (xX7_grant_d hwp hm2 ⟨r_c, r_r⟩ ⟨r_c2, r_r2⟩ hc hd hst) ⟨rfl, rfl⟩ (fun h hh => CW_1 hh)) (by decide) (uG_s _ _ _) (u31_1 _) (u31_2 _) (Nat.le_of_ble_eq_true rfl) (Nat.le_of_ble_eq_true rfl) (Nat.le_of_ble_eq_true rfl) (Nat.le_of_ble_eq_true rfl) ⟨Nat.le_of_ble_eq_true rfl, Nat.le_of_ble_eq_true rfl⟩ (fun h h1 H e => JX_e H e)
    · have hc := fN _ hc
      rw [show grantX S m c r c2 r2 = _ from if_pos (Or.inr (Or.inl hc))]
      exact KL_er hI ⟨by omega, hb⟩ (kW_grant_1 (xX7_grant_c hwp hm2 ⟨r_c, r_r⟩ ⟨r_c2, r_r2⟩ hc hst) ⟨rfl, rfl⟩ (fun h hh => CW_1 hh)) (by decide) (uG_s _ _ _) (u31_1 _) (u31_2 _) (Nat.le_of_ble_eq_true rfl) (Nat.le_of_ble_eq_true rfl) (Nat.le_of_ble_eq_true rfl) (Nat.le_of_ble_eq_true rfl) ⟨Nat.le_of_ble_eq_true rfl, Nat.le_of_ble_eq_true rfl⟩ (fun h h1 H e => JX_e H e)
  · have hm := fN _ hm
    rw [show grantX S m c r c2 r2 = _ from if_pos (Or.inl hm)]
    exact KL_er hI ⟨by omega, hb⟩ (kW_grant_1 (xX7_grant_m hwp (isMac_f hm) r_m hst) ⟨rfl, rfl⟩ (fun h hh => CW_1 hh)) (by decide) (uG_s _ _ _) (u31_1 _) (u31_2 _) (Nat.le_of_ble_eq_true rfl) (Nat.le_of_ble_eq_true rfl) (Nat.le_of_ble_eq_true rfl) (Nat.le_of_ble_eq_true rfl) ⟨Nat.le_of_ble_eq_true rfl, Nat.le_of_ble_eq_true rfl⟩ (fun h h1 H e => JX_e H e)
set_option maxHeartbeats 1000000 in
theorem KL_takeGrants (hI : INV S X b) (hst : l.stackTraces = false) {m : Int} (r_m : rI m) : KL l D cB cC cI cO cJ cD ee yL_takeGrants wsL_takeGrants [.int (iI m)] P S X b (takeX S m) := by
  have hn := INV_len hI
  have hwp := hI.1.1.1
  have hb := INV_top hI
  by_cases hm : isMacB S m = true
  · have hm2 := isMac_t.mp hm
    rw [show takeX S m = _ from if_neg (by rw [hm]; decide)]
    obtain ⟨m, rfl⟩ : ∃ q : Nat, m = (q : Int) := ⟨m.toNat, by omega⟩
    refine KL_0 (KL_ok (S := uG S 31 0) 40 (X.2 26).toNat (INV_u31 0 hI) (kW_takeGrants (kX7_takeGrants (S := uG S 31 0) hwp hI.1.2.2.1 (TxH_ok cB) (TxH_p cB) (m := m) hm2.2) ⟨rfl, rfl⟩ (fun h hh => CW_1 hh) JI) (rfl) (rfl) (Nat.le_of_ble_eq_true rfl) (Nat.le_of_ble_eq_true rfl) (Nat.le_of_ble_eq_true rfl) (Nat.le_of_ble_eq_true rfl) ⟨Nat.le_of_ble_eq_true rfl, Nat.le_of_ble_eq_true rfl⟩ (by omega) (Or.inl rfl) (fun h h1 H e => ?_))
    exact ⟨e.2, P, X, e.1, rfl, INV_b (INV_take (S := uG S 31 0) (INV_u31 0 hI)) (by omega) hb, hn.2.2⟩
  · have hm := fN _ hm
    rw [show takeX S m = _ from if_pos hm]
    exact KL_er hI ⟨by omega, hb⟩ (kW_takeGrants_1 (xX7_takeGrants hwp (isMac_f hm) r_m hst) ⟨rfl, rfl⟩ (fun h hh => CW_1 hh)) (by decide) (uG_s _ _ _) (u31_1 _) (u31_2 _) (Nat.le_of_ble_eq_true rfl) (Nat.le_of_ble_eq_true rfl) (Nat.le_of_ble_eq_true rfl) (Nat.le_of_ble_eq_true rfl) ⟨Nat.le_of_ble_eq_true rfl, Nat.le_of_ble_eq_true rfl⟩ (fun h h1 H e => JX_e H e)
set_option maxHeartbeats 1000000 in
theorem KL_reason (hI : INV S X b) (hst : l.stackTraces = false) {m c r : Int} (r_m : rI m) (r_c : rI c) (r_r : rI r) : KL l D cB cC cI cO cJ cD ee yL_reason wsL_reason [.int (iI m), .int (iI c), .int (iI r)] P S X b (reasonX S m c r) := by
  have hn := INV_len hI
  have hwp := hI.1.1.1
  have hb := INV_top hI
  by_cases hm : isMacB S m = true
  · have hm2 := isMac_t.mp hm
    by_cases hc : isCellB c r = true
    · have hno : ¬ (isMacB S m = false ∨ isCellB c r = false) := by rw [hm, hc]; decide
      rw [show reasonX S m c r = _ from if_neg hno]
      refine KL_0 (KL_ok (S := uG S 31 0) 40 (X.2 26).toNat (INV_u31 0 hI) (kW_reason (kX7_reason (S := uG S 31 0) hwp hI.1.2.1 (TxH_ok cB) hm2 ⟨r_c, r_r⟩ hc) ⟨rfl, rfl⟩ (fun h hh => CW_1 hh) JI) (rfl) (by show (whyS (uG S 31 0) m (atI c r)).2.2 31 = 0; rw [whyS_2]; rfl) (Nat.le_of_ble_eq_true rfl) (Nat.le_of_ble_eq_true rfl) (Nat.le_of_ble_eq_true rfl) (Nat.le_of_ble_eq_true rfl) ⟨Nat.le_of_ble_eq_true rfl, Nat.le_of_ble_eq_true rfl⟩ (by omega) (Or.inl rfl) (fun h h1 H e => ?_))
      obtain ⟨⟨f, h2⟩, hF⟩ := e
      exact ⟨hF.mono (fun u z => by unfold tC at z; unfold T7; omega), P, Xtr X f, CW_E1 (fun k hk => whyS_1 _ _ _ k hk) (fun k _ => by rw [whyS_2]) h2, rfl, INV_b (INV_why _ _ (INV_xtr f (INV_u31 0 hI))) (by omega) hb, hn.2.2⟩
    · have hc := fN _ hc
      rw [show reasonX S m c r = _ from if_pos (Or.inr hc)]
      exact KL_er hI ⟨by omega, hb⟩ (kW_reason_1 (xX7_reason_c hwp hm2 ⟨r_c, r_r⟩ hc hst) ⟨rfl, rfl⟩ (fun h hh => CW_1 hh)) (by decide) (uG_s _ _ _) (u31_1 _) (u31_2 _) (Nat.le_of_ble_eq_true rfl) (Nat.le_of_ble_eq_true rfl) (Nat.le_of_ble_eq_true rfl) (Nat.le_of_ble_eq_true rfl) ⟨Nat.le_of_ble_eq_true rfl, Nat.le_of_ble_eq_true rfl⟩ (fun h h1 H e => JX_e H e)
  · have hm := fN _ hm
    rw [show reasonX S m c r = _ from if_pos (Or.inl hm)]
    exact KL_er hI ⟨by omega, hb⟩ (kW_reason_1 (xX7_reason_m hwp (isMac_f hm) r_m hst) ⟨rfl, rfl⟩ (fun h hh => CW_1 hh)) (by decide) (uG_s _ _ _) (u31_1 _) (u31_2 _) (Nat.le_of_ble_eq_true rfl) (Nat.le_of_ble_eq_true rfl) (Nat.le_of_ble_eq_true rfl) (Nat.le_of_ble_eq_true rfl) ⟨Nat.le_of_ble_eq_true rfl, Nat.le_of_ble_eq_true rfl⟩ (fun h h1 H e => JX_e H e)
set_option maxHeartbeats 1000000 in
theorem KL_run (hI : INV S X b) (hb : b + 210 ≤ 107520) (hst : l.stackTraces = false) {m c r : Int} (r_m : rI m) (r_c : rI c) (r_r : rI r) : KL l D cB cC cI cO cJ cD ee yL_run wsL_run [.int (iI m), .int (iI c), .int (iI r)] P S X (b + 210) (runX S m c r) := by
  have hn := INV_len hI
  have hwp := hI.1.1.1
  by_cases hm : isMacB S m = true
  · have hm2 := isMac_t.mp hm
    by_cases hc : isCellB c r = true
    · have hno : ¬ (isMacB S m = false ∨ isCellB c r = false) := by rw [hm, hc]; decide
      have ha := atI_in (c := c) (r := r) hc
      by_cases hr : m = S.2 27
      · rw [show runX S m c r = _ from (if_neg hno).trans (if_pos hr)]
        exact KL_er hI ⟨by omega, hb⟩ (kW_run_2 (xX7_run_i hwp hm2 ⟨r_c, r_r⟩ hc hr hst) ⟨rfl, rfl⟩ (fun h hh => CW_1 hh)) (by decide) (uG_s _ _ _) (u31_1 _) (u31_2 _) (Nat.le_of_ble_eq_true rfl) (Nat.le_of_ble_eq_true rfl) (Nat.le_of_ble_eq_true rfl) (Nat.le_of_ble_eq_true rfl) ⟨Nat.le_of_ble_eq_true rfl, Nat.le_of_ble_eq_true rfl⟩ (fun h h1 H e => JX_e H e)
      · by_cases hy : (whyS (uG S 31 0) m (atI c r)).1 = 45
        · rw [show runX S m c r = _ from (if_neg hno).trans ((if_neg hr).trans (if_neg (fun z => z hy)))]
          obtain ⟨m, rfl⟩ : ∃ q : Nat, m = (q : Int) := ⟨m.toNat, by omega⟩
          have h22 := hwp.2.2.2.2.1
          refine KL_0 (KL_ok (S := uG S 31 0) (40 + growS (X.2 25) (X.2 26).toNat) (lenG (X.2 25) (X.2 26).toNat) (INV_u31 0 hI) (kW_run (kX7_run (S := uG S 31 0) hI.1 hb (TxH_ok cB) (TxH_p cB) (m := m) hm2.2 ⟨r_c, r_r⟩ hc hr hy rfl) ⟨rfl, rfl⟩ (fun h hh => CW_1 hh) JI) (rfl) (run_31 (S := uG S 31 0) hI.1.1 ⟨by omega, by omega⟩ ha hy) (Nat.le_of_ble_eq_true rfl) (Nat.le_of_ble_eq_true rfl) (by have := grow_c (X.2 25) (X.2 26).toNat; dsimp only; omega) (by dsimp only; omega) ⟨by have := grow_c (X.2 25) (X.2 26).toNat; omega, by omega⟩ (by have := grow_8 (X.2 25) (X.2 26).toNat; omega) (Or.inr rfl) (fun h h1 H e => ?_))
          obtain ⟨⟨P2, X4, S3, h2, p2, hS3, hE, h26⟩, hF⟩ := e
          exact ⟨hF, P2, _, h2, p2, INV_run (S := uG S 31 0) (INV_u31 0 hI) hb hm2 ha hy hS3 hE (by obtain ⟨q1, q2, q3⟩ := H.2.2.2.1.2.2; omega) h26, by rw [endX_26]; exact h26⟩
        · rw [show runX S m c r = _ from (if_neg hno).trans ((if_neg hr).trans (if_pos hy))]
          exact KL_0 (KL_er (S := uG S 31 0) (INV_u31 0 hI) ⟨by omega, hb⟩ (kW_run_3 (xX7_run_u (S := uG S 31 0) hwp hI.1.2.1 (TxH_ok cB) hm2 ⟨r_c, r_r⟩ hc hr hy hst) ⟨rfl, rfl⟩ (fun h hh => CW_1 hh)) (by decide) (uG_s _ _ _) (fun j hj => whyS_1 _ _ _ j hj) (fun j hj => by show (if j = 31 then _ else _) = _; rw [if_neg hj, whyS_2]) (Nat.le_of_ble_eq_true rfl) (Nat.le_of_ble_eq_true rfl) (Nat.le_of_ble_eq_true rfl) (Nat.le_of_ble_eq_true rfl) ⟨Nat.le_of_ble_eq_true rfl, Nat.le_of_ble_eq_true rfl⟩ (fun h h1 H e => e))
    · have hc := fN _ hc
      rw [show runX S m c r = _ from if_pos (Or.inr hc)]
      exact KL_er hI ⟨by omega, hb⟩ (kW_run_1 (xX7_run_c hwp hm2 ⟨r_c, r_r⟩ hc hst) ⟨rfl, rfl⟩ (fun h hh => CW_1 hh)) (by decide) (uG_s _ _ _) (u31_1 _) (u31_2 _) (Nat.le_of_ble_eq_true rfl) (Nat.le_of_ble_eq_true rfl) (Nat.le_of_ble_eq_true rfl) (Nat.le_of_ble_eq_true rfl) ⟨Nat.le_of_ble_eq_true rfl, Nat.le_of_ble_eq_true rfl⟩ (fun h h1 H e => JX_e H e)
  · have hm := fN _ hm
    rw [show runX S m c r = _ from if_pos (Or.inl hm)]
    exact KL_er hI ⟨by omega, hb⟩ (kW_run_1 (xX7_run_m hwp (isMac_f hm) r_m hst) ⟨rfl, rfl⟩ (fun h hh => CW_1 hh)) (by decide) (uG_s _ _ _) (u31_1 _) (u31_2 _) (Nat.le_of_ble_eq_true rfl) (Nat.le_of_ble_eq_true rfl) (Nat.le_of_ble_eq_true rfl) (Nat.le_of_ble_eq_true rfl) ⟨Nat.le_of_ble_eq_true rfl, Nat.le_of_ble_eq_true rfl⟩ (fun h h1 H e => JX_e H e)
set_option maxHeartbeats 1000000 in
theorem KL_set (hI : INV S X b) (hb : b + 210 ≤ 107520) (hst : l.stackTraces = false) {c r v : Int} (r_c : rI c) (r_r : rI r) (r_v : rI v) : KL l D cB cC cI cO cJ cD ee yL_set wsL_set [.int (iI c), .int (iI r), .int (iI v)] P S X (b + 210) (setX S c r v) := by
  have hn := INV_len hI
  have hwp := hI.1.1.1
  by_cases hc : isCellB c r = true
  · have ha := atI_in (c := c) (r := r) hc
    have hcn : ¬ isCellB c r = false := by rw [hc]; decide
    by_cases hv : isValueB v = true
    · rw [show setX S c r v = _ from (if_neg hcn).trans (if_neg (by rw [hv]; decide))]
      refine KL_0 (KL_ok (S := uG S 31 0) (40 + growS (X.2 25) (X.2 26).toNat) (lenG (X.2 25) (X.2 26).toNat) (INV_u31 0 hI) (kW_set (kX7_set (S := uG S 31 0) ⟨r_c, r_r⟩ hc hI.1 hb (TxH_ok cB) (TxH_p cB) hv) ⟨rfl, rfl⟩ (fun h hh => CW_1 hh) JI) (rfl) (byH_31 (S := uG S 31 0) hI.1.1 (by decide) ha (isValue_of.mp hv) hv) (Nat.le_of_ble_eq_true rfl) (Nat.le_of_ble_eq_true rfl) (by have := grow_c (X.2 25) (X.2 26).toNat; dsimp only; omega) (by dsimp only; omega) ⟨by have := grow_c (X.2 25) (X.2 26).toNat; omega, by omega⟩ (by have := grow_8 (X.2 25) (X.2 26).toNat; omega) (Or.inr rfl) (fun h h1 H e => ?_))
      obtain ⟨⟨P2, X4, S3, h2, p2, hS3, hE, h26⟩, hF⟩ := e
      exact ⟨hF, P2, _, h2, p2, INV_hand (S := uG S 31 0) (INV_u31 0 hI) hb (by decide) ha (isValue_of.mp hv) hv hS3 hE (by obtain ⟨q1, q2, q3⟩ := H.2.2.2.1.2.2; omega) h26, by rw [endX_26]; exact h26⟩
    · have hv := fN _ hv
      rw [show setX S c r v = _ from (if_neg hcn).trans (if_pos hv)]
      exact KL_er hI ⟨by omega, hb⟩ (kW_set_2 (xX7_set_2 ⟨r_c, r_r⟩ hc r_v hv hst) ⟨rfl, rfl⟩ (fun h hh => CW_1 hh)) (by decide) (uG_s _ _ _) (u31_1 _) (u31_2 _) (Nat.le_of_ble_eq_true rfl) (Nat.le_of_ble_eq_true rfl) (Nat.le_of_ble_eq_true rfl) (Nat.le_of_ble_eq_true rfl) ⟨Nat.le_of_ble_eq_true rfl, Nat.le_of_ble_eq_true rfl⟩ (fun h h1 H e => JX_e H e)
  · have hc := fN _ hc
    rw [show setX S c r v = _ from if_pos hc]
    exact KL_er hI ⟨by omega, hb⟩ (kW_set_1 (xX7_set_1 ⟨r_c, r_r⟩ hc hst) ⟨rfl, rfl⟩ (fun h hh => CW_1 hh)) (by decide) (uG_s _ _ _) (u31_1 _) (u31_2 _) (Nat.le_of_ble_eq_true rfl) (Nat.le_of_ble_eq_true rfl) (Nat.le_of_ble_eq_true rfl) (Nat.le_of_ble_eq_true rfl) ⟨Nat.le_of_ble_eq_true rfl, Nat.le_of_ble_eq_true rfl⟩ (fun h h1 H e => JX_e H e)
set_option maxHeartbeats 1000000 in
theorem KL_add (hI : INV S X b) (hb : b + 210 ≤ 107520) (hst : l.stackTraces = false) {c r v : Int} (r_c : rI c) (r_r : rI r) (r_v : rI v) : KL l D cB cC cI cO cJ cD ee yL_add wsL_add [.int (iI c), .int (iI r), .int (iI v)] P S X (b + 210) (addX S c r v) := by
  have hn := INV_len hI
  have hwp := hI.1.1.1
  by_cases hc : isCellB c r = true
  · have ha := atI_in (c := c) (r := r) hc
    have hcn : ¬ isCellB c r = false := by rw [hc]; decide
    by_cases hv : isValueB v = true
    · by_cases hs : isValueB (S.1 0 (atI c r) + v) = true
      · rw [show addX S c r v = _ from (if_neg hcn).trans (if_neg (by rw [hv, hs]; decide))]
        refine KL_0 (KL_ok (S := uG S 31 0) (40 + growS (X.2 25) (X.2 26).toNat) (lenG (X.2 25) (X.2 26).toNat) (INV_u31 0 hI) (kW_add (kX7_add (S := uG S 31 0) ⟨r_c, r_r⟩ hc hI.1 hb (TxH_ok cB) (TxH_p cB) hv hs) ⟨rfl, rfl⟩ (fun h hh => CW_1 hh) JI) (rfl) (byH_31 (S := uG S 31 0) hI.1.1 (by decide) ha (isValue_of.mp hv) hs) (Nat.le_of_ble_eq_true rfl) (Nat.le_of_ble_eq_true rfl) (by have := grow_c (X.2 25) (X.2 26).toNat; dsimp only; omega) (by dsimp only; omega) ⟨by have := grow_c (X.2 25) (X.2 26).toNat; omega, by omega⟩ (by have := grow_8 (X.2 25) (X.2 26).toNat; omega) (Or.inr rfl) (fun h h1 H e => ?_))
        obtain ⟨⟨P2, X4, S3, h2, p2, hS3, hE, h26⟩, hF⟩ := e
        exact ⟨hF, P2, _, h2, p2, INV_hand (S := uG S 31 0) (INV_u31 0 hI) hb (by decide) ha (isValue_of.mp hv) hs hS3 hE (by obtain ⟨q1, q2, q3⟩ := H.2.2.2.1.2.2; omega) h26, by rw [endX_26]; exact h26⟩
      · have hs := fN _ hs
        rw [show addX S c r v = _ from (if_neg hcn).trans (if_pos (Or.inr hs))]
        exact KL_er hI ⟨by omega, hb⟩ (kW_add_2 (xX7_add_3 ⟨r_c, r_r⟩ hc hwp hv hs hst) ⟨rfl, rfl⟩ (fun h hh => CW_1 hh)) (by decide) (uG_s _ _ _) (u31_1 _) (u31_2 _) (Nat.le_of_ble_eq_true rfl) (Nat.le_of_ble_eq_true rfl) (Nat.le_of_ble_eq_true rfl) (Nat.le_of_ble_eq_true rfl) ⟨Nat.le_of_ble_eq_true rfl, Nat.le_of_ble_eq_true rfl⟩ (fun h h1 H e => JX_e H e)
    · have hv := fN _ hv
      rw [show addX S c r v = _ from (if_neg hcn).trans (if_pos (Or.inl hv))]
      exact KL_er hI ⟨by omega, hb⟩ (kW_add_2 (xX7_add_2 ⟨r_c, r_r⟩ hc r_v hv hst) ⟨rfl, rfl⟩ (fun h hh => CW_1 hh)) (by decide) (uG_s _ _ _) (u31_1 _) (u31_2 _) (Nat.le_of_ble_eq_true rfl) (Nat.le_of_ble_eq_true rfl) (Nat.le_of_ble_eq_true rfl) (Nat.le_of_ble_eq_true rfl) ⟨Nat.le_of_ble_eq_true rfl, Nat.le_of_ble_eq_true rfl⟩ (fun h h1 H e => JX_e H e)
  · have hc := fN _ hc
    rw [show addX S c r v = _ from if_pos hc]
    exact KL_er hI ⟨by omega, hb⟩ (kW_add_1 (xX7_add_1 ⟨r_c, r_r⟩ hc hst) ⟨rfl, rfl⟩ (fun h hh => CW_1 hh)) (by decide) (uG_s _ _ _) (u31_1 _) (u31_2 _) (Nat.le_of_ble_eq_true rfl) (Nat.le_of_ble_eq_true rfl) (Nat.le_of_ble_eq_true rfl) (Nat.le_of_ble_eq_true rfl) ⟨Nat.le_of_ble_eq_true rfl, Nat.le_of_ble_eq_true rfl⟩ (fun h h1 H e => JX_e H e)
set_option maxHeartbeats 1000000 in
theorem KL_copyBase (hI : INV S X b) (hb : b + 210 ≤ 107520) (hst : l.stackTraces = false) {c r : Int} (r_c : rI c) (r_r : rI r) : KL l D cB cC cI cO cJ cD ee yL_copyBase wsL_copyBase [.int (iI c), .int (iI r)] P S X (b + 210) (copyBaseX S c r) := by
  have hn := INV_len hI
  have hwp := hI.1.1.1
  by_cases hc : isCellB c r = true
  · have ha := atI_in (c := c) (r := r) hc
    have hcn : ¬ isCellB c r = false := by rw [hc]; decide
    have h27 := hwp.2.2.2.2.1
    by_cases hz : S.2 27 < 0
    · rw [show copyBaseX S c r = _ from (if_neg hcn).trans (if_pos hz)]
      exact KL_er hI ⟨by omega, hb⟩ (kW_copyBase_2 (xX7_copyBase_2 ⟨r_c, r_r⟩ hc (by omega) hst) ⟨rfl, rfl⟩ (fun h hh => CW_1 hh)) (by decide) (uG_s _ _ _) (u31_1 _) (u31_2 _) (Nat.le_of_ble_eq_true rfl) (Nat.le_of_ble_eq_true rfl) (Nat.le_of_ble_eq_true rfl) (Nat.le_of_ble_eq_true rfl) ⟨Nat.le_of_ble_eq_true rfl, Nat.le_of_ble_eq_true rfl⟩ (fun h h1 H e => JX_e H e)
    · rw [show copyBaseX S c r = _ from (if_neg hcn).trans (if_neg hz)]
      have hv : isValueB (S.1 0 (S.2 28)) = true := isValue_of.mpr (hwp.2.2.2.2.2 _ (by omega) (by omega))
      refine KL_0 (KL_ok (S := uG S 31 0) (40 + growS (X.2 25) (X.2 26).toNat) (lenG (X.2 25) (X.2 26).toNat) (INV_u31 0 hI) (kW_copyBase (kX7_copyBase (S := uG S 31 0) ⟨r_c, r_r⟩ hc hI.1 hb (TxH_ok cB) (TxH_p cB) (by show S.2 27 ≠ -1; omega)) ⟨rfl, rfl⟩ (fun h hh => CW_1 hh) JI) (rfl) (byH_31 (S := uG S 31 0) hI.1.1 (by decide) ha (by decide) hv) (Nat.le_of_ble_eq_true rfl) (Nat.le_of_ble_eq_true rfl) (by have := grow_c (X.2 25) (X.2 26).toNat; dsimp only; omega) (by dsimp only; omega) ⟨by have := grow_c (X.2 25) (X.2 26).toNat; omega, by omega⟩ (by have := grow_8 (X.2 25) (X.2 26).toNat; omega) (Or.inr rfl) (fun h h1 H e => ?_))
      obtain ⟨⟨P2, X4, S3, h2, p2, hS3, hE, h26⟩, hF⟩ := e
      exact ⟨hF, P2, _, h2, p2, INV_hand (S := uG S 31 0) (INV_u31 0 hI) hb (by decide) ha (by decide) hv hS3 hE (by obtain ⟨q1, q2, q3⟩ := H.2.2.2.1.2.2; omega) h26, by rw [endX_26]; exact h26⟩
  · have hc := fN _ hc
    rw [show copyBaseX S c r = _ from if_pos hc]
    exact KL_er hI ⟨by omega, hb⟩ (kW_copyBase_1 (xX7_copyBase_1 ⟨r_c, r_r⟩ hc hst) ⟨rfl, rfl⟩ (fun h hh => CW_1 hh)) (by decide) (uG_s _ _ _) (u31_1 _) (u31_2 _) (Nat.le_of_ble_eq_true rfl) (Nat.le_of_ble_eq_true rfl) (Nat.le_of_ble_eq_true rfl) (Nat.le_of_ble_eq_true rfl) ⟨Nat.le_of_ble_eq_true rfl, Nat.le_of_ble_eq_true rfl⟩ (fun h h1 H e => JX_e H e)
set_option maxHeartbeats 1000000 in
theorem KL_addRule (hI : INV S X b) (hst : l.stackTraces = false) {c r c2 r2 m k : Int} (r_c : rI c) (r_r : rI r) (r_c2 : rI c2) (r_r2 : rI r2) (r_m : rI m) (r_k : rI k) : KL l D cB cC cI cO cJ cD ee yL_addRule wsL_addRule [.int (iI c), .int (iI r), .int (iI c2), .int (iI r2), .int (iI m), .int (iI k)] P S X b (addRuleX S c r c2 r2 m k) := by
  have hn := INV_len hI
  have hwp := hI.1.1.1
  have hb := INV_top hI
  by_cases hc : isCellB c r = true
  · by_cases hd : isCellB c2 r2 = true
    · by_cases hm : isMacB S m = true
      · have hm2 := isMac_t.mp hm
        have hno : ¬ (isCellB c r = false ∨ isCellB c2 r2 = false ∨ isMacB S m = false) := by rw [hm, hc, hd]; decide
        by_cases hg : isRangeB c r c2 r2 = true
        · by_cases hk : isRankB k = true
          · have hk2 : 0 ≤ k ∧ k ≤ 9 := by simpa [isRankB] using hk
            have hg2 : ¬ (isRangeB c r c2 r2 = false ∨ isInB k 0 9 = false) := by rw [hg, show isInB k 0 9 = true from hk]; decide
            by_cases h6 : S.2 23 = 6
            · rw [show addRuleX S c r c2 r2 m k = _ from (if_neg hno).trans ((if_neg hg2).trans (if_pos h6))]
              exact KL_er hI ⟨by omega, hb⟩ (kW_addRule_3 (xX7_addRule_f hwp hm2 ⟨r_c, r_r⟩ ⟨r_c2, r_r2⟩ hc hd r_k hg hk h6 hst) ⟨rfl, rfl⟩ (fun h hh => CW_1 hh)) (by decide) (uG_s _ _ _) (u31_1 _) (u31_2 _) (Nat.le_of_ble_eq_true rfl) (Nat.le_of_ble_eq_true rfl) (Nat.le_of_ble_eq_true rfl) (Nat.le_of_ble_eq_true rfl) ⟨Nat.le_of_ble_eq_true rfl, Nat.le_of_ble_eq_true rfl⟩ (fun h h1 H e => JX_e H e)
            · rw [show addRuleX S c r c2 r2 m k = _ from (if_neg hno).trans ((if_neg hg2).trans (if_neg h6))]
              have ha := atI_in (c := c) (r := r) hc
              have ha2 := atI_in (c := c2) (r := r2) hd
              have h23 := hwp.2.2.2.2.1
              obtain ⟨m, rfl⟩ : ∃ q : Nat, m = (q : Int) := ⟨m.toNat, by omega⟩
              refine KL_0 (KL_ok (S := uG S 31 0) 40 (X.2 26).toNat (INV_u31 0 hI) (kW_addRule (kX7_addRule (S := uG S 31 0) hwp hI.1.2.2.1 (TxH_ok cB) (TxH_p cB) (m := m) hm2.2 ⟨r_c, r_r⟩ ⟨r_c2, r_r2⟩ hc hd r_k hg hk (by show S.2 23 < 6; omega)) ⟨rfl, rfl⟩ (fun h hh => CW_1 hh) JI) (rfl) (rfl) (Nat.le_of_ble_eq_true rfl) (Nat.le_of_ble_eq_true rfl) (Nat.le_of_ble_eq_true rfl) (Nat.le_of_ble_eq_true rfl) ⟨Nat.le_of_ble_eq_true rfl, Nat.le_of_ble_eq_true rfl⟩ (by omega) (Or.inl rfl) (fun h h1 H e => ?_))
              obtain ⟨⟨P2, h2, p2⟩, hF⟩ := e
              exact ⟨hF, P2, X, h2, p2, INV_b (INV_addR (S := uG S 31 0) (INV_u31 0 hI) ha ha2 hm2 hk2 h6) (by omega) hb, hn.2.2⟩
          · have hk := fN _ hk
            rw [show addRuleX S c r c2 r2 m k = _ from (if_neg hno).trans (if_pos (Or.inr hk))]
            exact KL_er hI ⟨by omega, hb⟩ (kW_addRule_2 (xX7_addRule_k hwp hm2 ⟨r_c, r_r⟩ ⟨r_c2, r_r2⟩ hc hd r_k hg hk hst) ⟨rfl, rfl⟩ (fun h hh => CW_1 hh)) (by decide) (uG_s _ _ _) (u31_1 _) (u31_2 _) (Nat.le_of_ble_eq_true rfl) (Nat.le_of_ble_eq_true rfl) (Nat.le_of_ble_eq_true rfl) (Nat.le_of_ble_eq_true rfl) ⟨Nat.le_of_ble_eq_true rfl, Nat.le_of_ble_eq_true rfl⟩ (fun h h1 H e => JX_e H e)
        · have hg := fN _ hg
          rw [show addRuleX S c r c2 r2 m k = _ from (if_neg hno).trans (if_pos (Or.inl hg))]
          exact KL_er hI ⟨by omega, hb⟩ (kW_addRule_2 (xX7_addRule_r hwp hm2 ⟨r_c, r_r⟩ ⟨r_c2, r_r2⟩ hc hd r_k hg hst) ⟨rfl, rfl⟩ (fun h hh => CW_1 hh)) (by decide) (uG_s _ _ _) (u31_1 _) (u31_2 _) (Nat.le_of_ble_eq_true rfl) (Nat.le_of_ble_eq_true rfl) (Nat.le_of_ble_eq_true rfl) (Nat.le_of_ble_eq_true rfl) ⟨Nat.le_of_ble_eq_true rfl, Nat.le_of_ble_eq_true rfl⟩ (fun h h1 H e => JX_e H e)
      · have hm := fN _ hm
        rw [show addRuleX S c r c2 r2 m k = _ from if_pos (Or.inr (Or.inr hm))]
        exact KL_er hI ⟨by omega, hb⟩ (kW_addRule_1 (xX7_addRule_m hwp ⟨r_c, r_r⟩ ⟨r_c2, r_r2⟩ hc hd (isMac_f hm) r_m hst) ⟨rfl, rfl⟩ (fun h hh => CW_1 hh)) (by decide) (uG_s _ _ _) (u31_1 _) (u31_2 _) (Nat.le_of_ble_eq_true rfl) (Nat.le_of_ble_eq_true rfl) (Nat.le_of_ble_eq_true rfl) (Nat.le_of_ble_eq_true rfl) ⟨Nat.le_of_ble_eq_true rfl, Nat.le_of_ble_eq_true rfl⟩ (fun h h1 H e => JX_e H e)
    · have hd := fN _ hd
      rw [show addRuleX S c r c2 r2 m k = _ from if_pos (Or.inr (Or.inl hd))]
      exact KL_er hI ⟨by omega, hb⟩ (kW_addRule_1 (xX7_addRule_d ⟨r_c, r_r⟩ ⟨r_c2, r_r2⟩ hc hd hst) ⟨rfl, rfl⟩ (fun h hh => CW_1 hh)) (by decide) (uG_s _ _ _) (u31_1 _) (u31_2 _) (Nat.le_of_ble_eq_true rfl) (Nat.le_of_ble_eq_true rfl) (Nat.le_of_ble_eq_true rfl) (Nat.le_of_ble_eq_true rfl) ⟨Nat.le_of_ble_eq_true rfl, Nat.le_of_ble_eq_true rfl⟩ (fun h h1 H e => JX_e H e)
  · have hc := fN _ hc
    rw [show addRuleX S c r c2 r2 m k = _ from if_pos (Or.inl hc)]
    exact KL_er hI ⟨by omega, hb⟩ (kW_addRule_1 (xX7_addRule_c ⟨r_c, r_r⟩ ⟨r_c2, r_r2⟩ hc hst) ⟨rfl, rfl⟩ (fun h hh => CW_1 hh)) (by decide) (uG_s _ _ _) (u31_1 _) (u31_2 _) (Nat.le_of_ble_eq_true rfl) (Nat.le_of_ble_eq_true rfl) (Nat.le_of_ble_eq_true rfl) (Nat.le_of_ble_eq_true rfl) ⟨Nat.le_of_ble_eq_true rfl, Nat.le_of_ble_eq_true rfl⟩ (fun h h1 H e => JX_e H e)
set_option maxHeartbeats 1000000 in
theorem KL_setRank (hI : INV S X b) (hst : l.stackTraces = false) {q k : Int} (r_q : rI q) (r_k : rI k) : KL l D cB cC cI cO cJ cD ee yL_setRank wsL_setRank [.int (iI q), .int (iI k)] P S X b (setRankX S q k) := by
  have hn := INV_len hI
  have hwp := hI.1.1.1
  have hb := INV_top hI
  by_cases hq : isInB q 0 (S.2 23 - 1) = true
  · have hq2 : 0 ≤ q ∧ q < S.2 23 := by
      simp only [isInB, Bool.and_eq_true, decide_eq_true_eq] at hq
      omega
    have hqn : ¬ isInB q 0 (S.2 23 - 1) = false := by rw [hq]; decide
    obtain ⟨q, rfl⟩ : ∃ z : Nat, q = (z : Int) := ⟨q.toNat, by omega⟩
    by_cases hk : isRankB k = true
    · have hk2 : 0 ≤ k ∧ k ≤ 9 := by simpa [isRankB] using hk
      rw [show setRankX S q k = _ from (if_neg hqn).trans (if_neg (by rw [show isInB k 0 9 = true from hk]; decide))]
      refine KL_0 (KL_ok (S := uG S 31 0) 40 (X.2 26).toNat (INV_u31 0 hI) (kW_setRank (kX7_setRank (S := uG S 31 0) hwp (TxH_ok cB) (TxH_p cB) (q := q) hq2.2 r_k hk) ⟨rfl, rfl⟩ (fun h hh => CW_1 hh) JI) (rfl) (rfl) (Nat.le_of_ble_eq_true rfl) (Nat.le_of_ble_eq_true rfl) (Nat.le_of_ble_eq_true rfl) (Nat.le_of_ble_eq_true rfl) ⟨Nat.le_of_ble_eq_true rfl, Nat.le_of_ble_eq_true rfl⟩ (by omega) (Or.inl rfl) (fun h h1 H e => ?_))
      exact ⟨e.2, P, X, e.1, rfl, INV_b (INV_rank (S := uG S 31 0) (INV_u31 0 hI) hk2) (by omega) hb, hn.2.2⟩
    · have hk := fN _ hk
      rw [show setRankX S q k = _ from (if_neg hqn).trans (if_pos hk)]
      exact KL_er hI ⟨by omega, hb⟩ (kW_setRank_2 (xX7_setRank_2 hwp (TxH_ok cB) (TxH_p cB) (q := q) hq2.2 r_k hk hst) ⟨rfl, rfl⟩ (fun h hh => CW_1 hh)) (by decide) (uG_s _ _ _) (u31_1 _) (u31_2 _) (Nat.le_of_ble_eq_true rfl) (Nat.le_of_ble_eq_true rfl) (Nat.le_of_ble_eq_true rfl) (Nat.le_of_ble_eq_true rfl) ⟨Nat.le_of_ble_eq_true rfl, Nat.le_of_ble_eq_true rfl⟩ (fun h h1 H e => JX_e H e)
  · have hq := fN _ hq
    have hq2 : ¬ (0 ≤ q ∧ q < S.2 23) := fun z => by
      rw [show isInB q 0 (S.2 23 - 1) = true by simp only [isInB, Bool.and_eq_true, decide_eq_true_eq]; omega] at hq
      cases hq
    rw [show setRankX S q k = _ from if_pos hq]
    exact KL_er hI ⟨by omega, hb⟩ (kW_setRank_1 (xX7_setRank_1 hwp hq2 r_q hst) ⟨rfl, rfl⟩ (fun h hh => CW_1 hh)) (by decide) (uG_s _ _ _) (u31_1 _) (u31_2 _) (Nat.le_of_ble_eq_true rfl) (Nat.le_of_ble_eq_true rfl) (Nat.le_of_ble_eq_true rfl) (Nat.le_of_ble_eq_true rfl) ⟨Nat.le_of_ble_eq_true rfl, Nat.le_of_ble_eq_true rfl⟩ (fun h h1 H e => JX_e H e)
set_option maxHeartbeats 1000000 in
theorem KL_rule (hI : INV S X b) (hst : l.stackTraces = false) {c r : Int} (r_c : rI c) (r_r : rI r) : KL l D cB cC cI cO cJ cD ee yL_rule wsL_rule [.int (iI c), .int (iI r)] P S X b (ruleX S c r) := by
  have hn := INV_len hI
  have hwp := hI.1.1.1
  have hb := INV_top hI
  by_cases hc : isCellB c r = true
  · have hcn : ¬ isCellB c r = false := by rw [hc]; decide
    have hr9 := ruledI_in (S := S) (x := atI c r) ⟨hwp.2.2.2.2.1.2.2.1, hwp.2.2.2.2.1.2.2.2.1⟩
    by_cases hl : ruledI S (atI c r) < 0
    · rw [show ruleX S c r = _ from (if_neg hcn).trans (if_pos hl)]
      exact KL_er hI ⟨by omega, hb⟩ (kW_rule_2 (xX7_rule_n hwp ⟨r_c, r_r⟩ hc (by omega) hst) ⟨rfl, rfl⟩ (fun h hh => CW_1 hh)) (by decide) (uG_s _ _ _) (u31_1 _) (u31_2 _) (Nat.le_of_ble_eq_true rfl) (Nat.le_of_ble_eq_true rfl) (Nat.le_of_ble_eq_true rfl) (Nat.le_of_ble_eq_true rfl) ⟨Nat.le_of_ble_eq_true rfl, Nat.le_of_ble_eq_true rfl⟩ (fun h h1 H e => JX_e H e)
    · rw [show ruleX S c r = _ from (if_neg hcn).trans (if_neg hl)]
      exact KL_ok 40 (X.2 26).toNat hI (kW_rule (kX7_rule hwp ⟨r_c, r_r⟩ hc (by omega)) ⟨rfl, rfl⟩ (fun h hh => CW_1 hh) JI) (rfl) rfl (Nat.le_of_ble_eq_true rfl) (Nat.le_of_ble_eq_true rfl) (Nat.le_of_ble_eq_true rfl) (Nat.le_of_ble_eq_true rfl) ⟨Nat.le_of_ble_eq_true rfl, Nat.le_of_ble_eq_true rfl⟩ (by omega) (Or.inl rfl) (W_same 0 hI ⟨by omega, hb⟩ (u31_1 _) (u31_2 _))
  · have hc := fN _ hc
    rw [show ruleX S c r = _ from if_pos hc]
    exact KL_er hI ⟨by omega, hb⟩ (kW_rule_1 (xX7_rule ⟨r_c, r_r⟩ hc hst) ⟨rfl, rfl⟩ (fun h hh => CW_1 hh)) (by decide) (uG_s _ _ _) (u31_1 _) (u31_2 _) (Nat.le_of_ble_eq_true rfl) (Nat.le_of_ble_eq_true rfl) (Nat.le_of_ble_eq_true rfl) (Nat.le_of_ble_eq_true rfl) ⟨Nat.le_of_ble_eq_true rfl, Nat.le_of_ble_eq_true rfl⟩ (fun h h1 H e => JX_e H e)
set_option maxHeartbeats 1000000 in
theorem KL_undo (hI : INV S X b) (hst : l.stackTraces = false) : KL l D cB cC cI cO cJ cD ee yL_undo wsL_undo [] P S X b (undoX S) := by
  have hn := INV_len hI
  have hwp := hI.1.1.1
  have hb := INV_top hI
  have h25 := hI.1.1.2.2.1.1
  by_cases hc : S.2 25 = 0
  · rw [show undoX S = _ from if_pos hc]
    exact KL_er hI ⟨by omega, hb⟩ (kW_undo_1 (xX7_undo (by have := hI.1.2.2.2.2.1.1; omega) hst) ⟨rfl, rfl⟩ (fun h hh => CW_1 hh)) (by decide) (uG_s _ _ _) (u31_1 _) (u31_2 _) (Nat.le_of_ble_eq_true rfl) (Nat.le_of_ble_eq_true rfl) (Nat.le_of_ble_eq_true rfl) (Nat.le_of_ble_eq_true rfl) ⟨Nat.le_of_ble_eq_true rfl, Nat.le_of_ble_eq_true rfl⟩ (fun h h1 H e => JX_e H e)
  · rw [show undoX S = _ from if_neg hc]
    refine KL_0 (KL_ok (S := uG S 31 0) 40 (X.2 26).toNat (INV_u31 0 hI) (kW_undo (kX7_undo (S := uG S 31 0) hI.1 (TxH_ok cB) (by show 0 < S.2 25; omega)) ⟨rfl, rfl⟩ (fun h hh => CW_1 hh) JI) (rfl) (by show (unI (uG (uG S 31 0) 25 (S.2 25 - 1)) (S.2 24 - S.1 20 (S.2 25 - 1)).toNat).2 31 = 0; rw [unI_2 _ 31 (by decide)]; rfl) (Nat.le_of_ble_eq_true rfl) (Nat.le_of_ble_eq_true rfl) (Nat.le_of_ble_eq_true rfl) (Nat.le_of_ble_eq_true rfl) ⟨Nat.le_of_ble_eq_true rfl, Nat.le_of_ble_eq_true rfl⟩ (by omega) (Or.inl rfl) (fun h h1 H e => ?_))
    obtain ⟨⟨X2, h2, x7, x25, x26, x27, x12⟩, hF⟩ := e
    exact ⟨hF, P, X2, h2, rfl, INV_b (INV_undo (S := uG S 31 0) (INV_u31 0 hI) (by show 0 < S.2 25; omega) x7 x25 x26 x27 x12) (by omega) hb, by rw [x26]; exact hn.2.2⟩
/-- the mean value, or the double that tells that there is none -/
def meanL (S : MSt) : UInt64 := if cnN S 48 = 0 then CM9 else meanD (smN S 48) (cnN S 48)
set_option maxHeartbeats 1000000 in
theorem KL_meanValue (hI : INV S X b) (hst : l.stackTraces = false) : Ct l yL_meanValue wsL_meanValue ({ frames := 20, cells := 12, slots := 40, locals := 500 } : Room) D (tyL cB cC cI cO cJ cD) ee [.ref (P 1)] (CW cI cO ee (TxH cB) P S X) (fun h v9 h' => v9 = some (.double (meanL S)) ∧ h' = h) 12 40 := by
  have hwp := hI.1.1.1
  by_cases hz : cnN S 48 = 0
  · refine Ct_room (Ct_mono (kW_meanValue_1 (xX7_meanValue (P := P) (S := S) (X := X) hwp hz hst) ⟨rfl, rfl⟩ (fun h hh => CW_1 hh)) (fun h hh => hh) (fun h v h' hh hj => ?_)) (Nat.le_of_ble_eq_true rfl) (Nat.le_of_ble_eq_true rfl) (Nat.le_of_ble_eq_true rfl) (Nat.le_of_ble_eq_true rfl) ⟨Nat.le_of_ble_eq_true rfl, Nat.le_of_ble_eq_true rfl⟩
    obtain ⟨rfl, rfl⟩ := hj
    exact ⟨by rw [show meanL S = _ from if_pos hz], rfl⟩
  · refine Ct_room (Ct_mono (kW_meanValue (kX7_meanValue (P := P) (S := S) (X := X) hwp hz) ⟨rfl, rfl⟩ (fun h hh => CW_1 hh) (fun h v h' _ e => ⟨_, e.1⟩)) (fun h hh => hh) (fun h v h' hh hj => ?_)) (Nat.le_of_ble_eq_true rfl) (Nat.le_of_ble_eq_true rfl) (Nat.le_of_ble_eq_true rfl) (Nat.le_of_ble_eq_true rfl) ⟨Nat.le_of_ble_eq_true rfl, Nat.le_of_ble_eq_true rfl⟩
    obtain ⟨rfl, rfl⟩ := hj
    exact ⟨by rw [show meanL S = _ from if_neg hz], rfl⟩
theorem mean_eq (hI : INV S X b) : FP.dcmp (meanL S) (meanL S) = some .eq := by
  by_cases hz : cnN S 48 = 0
  · rw [show meanL S = _ from if_pos hz]
    decide +kernel
  · have h1 := smN_in hI.1.1.1 48 (Nat.le_refl _)
    have h2 := cnN_in S 48
    rw [show meanL S = _ from if_neg hz]
    exact meanD_eq ⟨by omega, by omega⟩ ⟨by omega, by omega⟩ hz

end

/-! a change of a cell in the class -/
/-- the text's part asks for its own cells and for S.1 21 and S.2 30 alone -/
def T9ok (Tx9 : (Nat → Nat) → MSt → Hp → Prop) : Prop := ∀ (P : Nat → Nat) (S S' : MSt) (h h' : Hp) (T : Nat → Prop), S'.1 21 = S.1 21 → S'.2 30 = S.2 30 → Fr T h h' → ¬ T 14 → ¬ T 15 → Tx9 P S h → Tx9 P S' h'
def X13 (X : MSt) (f : Int → Int) : MSt := (fun j => if j = 13 then f else X.1 j, X.2)
def XnF (X : MSt) (G : Nat → Int → Int) (n : Int) : MSt := (fun j => if 7 ≤ j ∧ j < 11 then G (j - 7) else X.1 j, fun j => if j = 25 then n else X.2 j)
section
variable {cI cO : ClassId} {ee : Nat × Nat} {Tx9 : (Nat → Nat) → MSt → Hp → Prop} {P : Nat → Nat} {S X : MSt} {h h' : Hp}
theorem CW.dep {f : Int → Int} (H : CW cI cO ee Tx9 P S X h) (hw : WFp S) (h9 : T9ok Tx9) : CW cI cO ee Tx9 P S (X13 X f) (hup h (P 13) (13, .inl (cI, 210, .inl (iF f)))) := by
  obtain ⟨a1, a2, a3, a4, a5, a6, a7, a8⟩ := H
  have hF : Fr (fun u => u = 13) h (hup h (P 13) (13, .inl (cI, 210, .inl (iF f)))) := Fr.refl.up a6 rfl
  exact ⟨MnH.fr (X := X) a1 hF (by decide), a2.fr hF (by decide) (by decide), a3.fr hF (by decide) (by decide), AuH.eq (AuX.fr (X := X) a4 hF (fun u _ _ => by omega)) (fun k hk => match k, hk with
    | 0, _ => rfl
    | 1, _ => rfl
    | 2, _ => rfl
    | 3, _ => rfl), a5.fr hF (by decide) (by decide), hup_s, h9 _ _ _ _ _ _ rfl rfl hF (by decide) (by decide) a7, a8.fr hw hF (fun u _ _ => by omega)⟩
theorem CW.note {G : Nat → Int → Int} {n : Int} (H : CW cI cO ee Tx9 P S X h) (hw : WFp S) (h9 : T9ok Tx9) (h1 : AuH cI (P 6) (fun k => P (7 + k)) 6 G n (X.2 26).toNat h') (hF : Fr (tU 6) h h') : CW cI cO ee Tx9 P S (XnF X G n) h' := by
  obtain ⟨a1, a2, a3, a4, a5, a6, a7, a8⟩ := H
  have nt : ∀ u, ¬ (6 ≤ u ∧ u < 11) → ¬ tU 6 u := fun u q z => q ⟨z.1, z.2⟩
  exact ⟨MnH.fr (X := X) a1 hF (nt _ (by omega)), a2.fr hF (nt _ (by omega)) (nt _ (by omega)), a3.fr hF (nt _ (by omega)) (nt _ (by omega)), AuH.eq h1 (fun k hk => match k, hk with
    | 0, _ => rfl
    | 1, _ => rfl
    | 2, _ => rfl
    | 3, _ => rfl), a5.fr hF (nt _ (by omega)) (nt _ (by omega)), DpX.fr (X := X) a6 hF (nt _ (by omega)), h9 _ _ _ _ _ _ rfl rfl hF (nt _ (by omega)) (nt _ (by omega)) a7, a8.fr hw hF (fun u _ _ => nt _ (by omega))⟩
theorem CW.put {z v : Int} (H : CW cI cO ee Tx9 P S X h) (hw : WFp S) (h9 : T9ok Tx9) (h1 : CeH cI (P 2) (P 3) 2 (upZ (S.1 0) z v) h') (hF : Fr (tC 2) h h') : CW cI cO ee Tx9 P (uA S 0 z v) X h' := by
  obtain ⟨a1, a2, a3, a4, a5, a6, a7, a8⟩ := H
  have nt : ∀ u, 4 ≤ u → ¬ tC 2 u := fun u q z => by
    unfold tC at z
    omega
  exact ⟨MnH.fr (X := X) a1 hF (by unfold tC; omega), h1, a3.fr hF (nt _ (by omega)) (nt _ (by omega)), AuX.fr a4 hF (fun u _ _ => nt _ (by omega)), a5.fr hF (nt _ (by omega)) (nt _ (by omega)), DpX.fr a6 hF (nt _ (by omega)), h9 P S (uA S 0 z v) h h' (tC 2) rfl rfl hF (nt _ (by omega)) (nt _ (by omega)) a7, MrH.fr (S := S) a8 hw hF (fun u _ _ => nt _ (by omega))⟩
theorem CW.log {x v by_ deep : Int} (H : CW cI cO ee Tx9 P (uA S 0 x v) X h) (h9 : T9ok Tx9) (hv : ¬ S.1 0 x = v) : CW cI cO ee Tx9 P (becS S x v by_ deep) X h := by
  have e : becS S x v by_ deep = uA (uG (uA (uA (uA (uA S 16 (S.2 24) x) 17 (S.2 24) (S.1 0 x)) 18 (S.2 24) by_) 19 (S.2 24) deep) 24 (S.2 24 + 1)) 0 x v := if_neg hv
  rw [e]
  obtain ⟨a1, a2, a3, a4, a5, a6, a7, a8⟩ := H
  exact ⟨a1, a2, a3, a4, a5, a6, h9 P (uA S 0 x v) _ h h (fun _ => False) rfl rfl Fr.refl (fun z => z) (fun z => z) a7, a8⟩
end
theorem ydX7_change : yX7_change.cls = RX7 ∧ yX7_change.cls ≠ "java/lang/invoke/MethodHandle" ∧ yX7_change.cls ≠ "java/lang/invoke/VarHandle" ∧ (parseMethodDescriptor yX7_change.desc).map (fun d => d.parameters.length) = some 5 := by decide +kernel
section
variable {l : Launch} {D : va_G} {cB cC cI cO cJ cD : ClassId} {ee : Nat × Nat} {Tx9 : (Nat → Nat) → MSt → Hp → Prop} {P : Nat → Nat} {S X : MSt}
set_option maxHeartbeats 4000000 in
set_option maxRecDepth 100000 in
theorem kX7_change_n (hwp : WFp S) (h9 : T9ok Tx9) {q tq : Nat} {k c r nu pl bs mk dp : Int} (hq : ¬ (fun u => tC 2 u ∨ tU 6 u ∨ u = 13) tq) (hk : 0 ≤ k ∧ k ≤ 255) (hn : -9999 ≤ nu ∧ nu ≤ 9999) (hpl : 0 ≤ pl ∧ pl < 48) (hbs : 0 ≤ bs ∧ bs < 48) (hc9 : 0 ≤ X.2 25 ∧ X.2 25 ≤ 107520 ∧ 0 ≤ X.2 20 ∧ X.2 20 ≤ X.2 25) (hv : (vbI k nu (S.1 0 pl) (S.1 0 bs)) = S.1 0 pl) : Ct l yX7_change wsX7_change ({ frames := 3, cells := 0, slots := 0, locals := 80 } : Room) D (tyL cB cC cI cO cJ cD) ee [.ref (P 1), .int (iI pl), .ref q, .int (iI bs), .int (iI mk), .int (iI dp)] (fun x => CW cI cO ee Tx9 P S X x ∧ x q = some (tq, .inr (11, [iV k, iV c, iV r, iV nu]))) (fun h v9 h' => v9 = none ∧ CW cI cO ee Tx9 P S X h' ∧ Fr (fun u => tC 2 u ∨ tU 6 u ∨ u = 13) h h') (0) (0) := by
  refine Ct_of (cc := cX7_change) (own := RX7) [some (.ref (P 1)), some (.int (iI pl)), some (.ref q), some (.int (iI bs)), some (.int (iI mk)), some (.int (iI dp)), none, none, none] (by decide) rfl rfl (Nat.le_of_ble_eq_true rfl) (fun i9 v9 h9 => argL [.ref (P 1), .int (iI pl), .ref q, .int (iI bs), .int (iI mk), .int (iI dp)] 3 rfl i9 v9 h9) ?_
  intro p e s m9 args below meth c9 h0 sz hI C hr hlk hinit
  have hin : ∀ w ∈ wsX70, w ∈ wsX7_change := by decide +kernel
  obtain ⟨hw1, hw2, hw3, hw4, hw5, hw6⟩ := id hwp
  have hc0 := hw6 pl hpl.1 hpl.2
  have hcb := hw6 bs hbs.1 hbs.2
  have hvr : rI (vbI k nu (S.1 0 pl) (S.1 0 bs)) ∧ rI (S.1 0 pl) := ⟨by unfold vbI; split <;> first | omega | (split <;> omega), by omega⟩
  refine V_weak (I2 := fun x9 => (CW cI cO ee Tx9 P (S) (X) x9 ∧ x9 q = some (tq, .inr (11, [iV k, iV c, iV r, iV nu]))) ∧ Fr (fun u => tC 2 u ∨ tU 6 u ∨ u = 13) h0 x9) (fun x9 hx9 => by subst hx9; exact ⟨hI, Fr.refl⟩) ?_
  refine V_aload0 (pc' := 1) C dX7_change_0 rfl ?_
  refine V_getf (pc' := 4) (T := TX7) (N := 13) (ci := 12) C hin rfl 0 (by decide) (by decide +kernel) (fun h hh => ⟨1, _, hh.1.1.1, rfl⟩) dX7_change_1 rfl ?_
  refine V_iload1 (pc' := 5) C dX7_change_4 rfl ?_
  refine V_callV (ci := 6) (n := 1) [.int (iI pl)] C (kX1_valueAt (v := P 3) (g := S.1 0) (t := 2) (z := pl) hpl) gX7_change_X1_valueAt rfl ydX1_valueAt ⟨Nat.le_of_ble_eq_true rfl, Nat.le_of_ble_eq_true rfl⟩ ⟨rfl, rfl⟩ rfl rfl (fun h hh => ⟨2, _, hh.1.1.2.1.1⟩) (fun h hh => hh.1.1.2.1) rfl (Nat.le_of_ble_eq_true rfl) dX7_change_5 ⟨Nat.le_of_ble_eq_true rfl, Nat.le_of_ble_eq_true rfl⟩ (fun h v h' hh hj9 => ?_)
  obtain ⟨r9, rfl, hj8, rfl⟩ := hj9
  rw [hj8]
  refine V_weak (I2 := fun x9 => (CW cI cO ee Tx9 P (S) (X) x9 ∧ x9 q = some (tq, .inr (11, [iV k, iV c, iV r, iV nu]))) ∧ Fr (fun u => tC 2 u ∨ tU 6 u ∨ u = 13) h0 x9) (fun x9 hx9 => by rw [hx9]; exact hh) ?_
  refine V_istore6 (pc' := 10) C dX7_change_8 rfl (by decide) rfl ?_
  refine V_aload2 (pc' := 11) C dX7_change_10 rfl ?_
  refine V_iload6 (pc' := 13) C dX7_change_11 rfl ?_
  refine V_aload0 (pc' := 14) C dX7_change_13 rfl ?_
  refine V_getf (pc' := 17) (T := TX7) (N := 13) (ci := 12) C hin rfl 0 (by decide) (by decide +kernel) (fun h hh => ⟨1, _, hh.1.1.1, rfl⟩) dX7_change_14 rfl ?_
  refine V_iload3 (pc' := 18) C dX7_change_17 rfl ?_
  refine V_callV (ci := 6) (n := 1) [.int (iI bs)] C (kX1_valueAt (v := P 3) (g := S.1 0) (t := 2) (z := bs) hbs) gX7_change_X1_valueAt rfl ydX1_valueAt ⟨Nat.le_of_ble_eq_true rfl, Nat.le_of_ble_eq_true rfl⟩ ⟨rfl, rfl⟩ rfl rfl (fun h hh => ⟨2, _, hh.1.1.2.1.1⟩) (fun h hh => hh.1.1.2.1) rfl (Nat.le_of_ble_eq_true rfl) dX7_change_18 ⟨Nat.le_of_ble_eq_true rfl, Nat.le_of_ble_eq_true rfl⟩ (fun h v h' hh hj9 => ?_)
  obtain ⟨r9, rfl, hj8, rfl⟩ := hj9
  rw [hj8]
  refine V_weak (I2 := fun x9 => (CW cI cO ee Tx9 P (S) (X) x9 ∧ x9 q = some (tq, .inr (11, [iV k, iV c, iV r, iV nu]))) ∧ Fr (fun u => tC 2 u ∨ tU 6 u ∨ u = 13) h0 x9) (fun x9 hx9 => by rw [hx9]; exact hh) ?_
  refine V_callV (ci := 11) (n := 2) [.int (iI (S.1 0 pl)), .int (iI (S.1 0 bs))] C (kX6_valueBehind (t := tq) (k := k) (c := c) (r := r) (n := nu) (b0 := S.1 0 pl) (b1 := S.1 0 bs) hk) gX7_change_X6_valueBehind rfl ydX6_valueBehind ⟨Nat.le_of_ble_eq_true rfl, Nat.le_of_ble_eq_true rfl⟩ ⟨rfl, rfl⟩ rfl rfl (fun h hh => ⟨tq, _, hh.1.2⟩) (fun h hh => hh.1.2) rfl (Nat.le_of_ble_eq_true rfl) dX7_change_21 ⟨Nat.le_of_ble_eq_true rfl, Nat.le_of_ble_eq_true rfl⟩ (fun h v h' hh hj9 => ?_)
  obtain ⟨r9, rfl, hj8, rfl⟩ := hj9
  rw [hj8]
  refine V_weak (I2 := fun x9 => (CW cI cO ee Tx9 P (S) (X) x9 ∧ x9 q = some (tq, .inr (11, [iV k, iV c, iV r, iV nu]))) ∧ Fr (fun u => tC 2 u ∨ tU 6 u ∨ u = 13) h0 x9) (fun x9 hx9 => by rw [hx9]; exact hh) ?_
  refine V_istore7 (pc' := 26) C dX7_change_24 rfl (by decide) rfl ?_
  refine V_aload0 (pc' := 27) C dX7_change_26 rfl ?_
  refine V_getf (pc' := 30) (T := TX7) (N := 13) (ci := 12) C hin rfl 4 (by decide) (by decide +kernel) (fun h hh => ⟨1, _, hh.1.1.1, rfl⟩) dX7_change_27 rfl ?_
  refine V_callV (ci := 5) (n := 0) [] C (kX0_size (v := fun k => P (7 + k)) (t := 6) (F := fun k => X.1 (7 + k)) (n := X.2 25) (len := (X.2 26).toNat)) gX7_change_X0_size rfl ydX0_size ⟨Nat.le_of_ble_eq_true rfl, Nat.le_of_ble_eq_true rfl⟩ ⟨rfl, rfl⟩ rfl rfl (fun h hh => ⟨6, _, hh.1.1.2.2.2.1.1⟩) (fun h hh => hh.1.1.2.2.2.1) rfl (Nat.le_of_ble_eq_true rfl) dX7_change_30 ⟨Nat.le_of_ble_eq_true rfl, Nat.le_of_ble_eq_true rfl⟩ (fun h v h' hh hj9 => ?_)
  obtain ⟨r9, rfl, hj8, rfl⟩ := hj9
  rw [hj8]
  refine V_weak (I2 := fun x9 => (CW cI cO ee Tx9 P (S) (X) x9 ∧ x9 q = some (tq, .inr (11, [iV k, iV c, iV r, iV nu]))) ∧ Fr (fun u => tC 2 u ∨ tU 6 u ∨ u = 13) h0 x9) (fun x9 hx9 => by rw [hx9]; exact hh) ?_
  refine V_aload0 (pc' := 34) C dX7_change_33 rfl ?_
  refine V_getf (pc' := 37) (T := TX7) (N := 13) (ci := 12) C hin rfl 8 (by decide) (by decide +kernel) (fun h hh => ⟨1, _, hh.1.1.1, rfl⟩) dX7_change_34 rfl ?_
  refine V_isub (pc' := 38) C dX7_change_37 rfl ?_
  refine V_istore8 (pc' := 40) C dX7_change_38 rfl (by decide) rfl ?_
  refine V_iload7 (pc' := 42) C dX7_change_40 rfl ?_
  refine V_iload6 (pc' := 44) C dX7_change_42 rfl ?_
  refine V_icmpeq (tgt := 72) C hvr dX7_change_44 (by decide) rfl (fun c_44 => ?_) (fun c_44 => ?_)
  · exact V_endv C hr hlk (fun h' hh => ⟨rfl, hh.1.1, hh.2⟩) ⟨Nat.le_refl _, Nat.le_refl _⟩ dX7_change_72
  · exact absurd c_44 (by omega)
set_option maxHeartbeats 4000000 in
set_option maxRecDepth 100000 in
theorem kX7_change_y (hwp : WFp S) (h9 : T9ok Tx9) {q tq : Nat} {k c r nu pl bs mk dp : Int} (hq : ¬ (fun u => tC 2 u ∨ tU 6 u ∨ u = 13) tq) (hk : 0 ≤ k ∧ k ≤ 255) (hn : -9999 ≤ nu ∧ nu ≤ 9999) (hpl : 0 ≤ pl ∧ pl < 48) (hbs : 0 ≤ bs ∧ bs < 48) (hc9 : 0 ≤ X.2 25 ∧ X.2 25 ≤ 107520 ∧ 0 ≤ X.2 20 ∧ X.2 20 ≤ X.2 25) (hv : ¬ (vbI k nu (S.1 0 pl) (S.1 0 bs)) = S.1 0 pl) (hi : X.2 25 - X.2 20 < 210 ∧ X.2 25 < X.2 26) : Ct l yX7_change wsX7_change ({ frames := 3, cells := 0, slots := 0, locals := 80 } : Room) D (tyL cB cC cI cO cJ cD) ee [.ref (P 1), .int (iI pl), .ref q, .int (iI bs), .int (iI mk), .int (iI dp)] (fun x => CW cI cO ee Tx9 P S X x ∧ x q = some (tq, .inr (11, [iV k, iV c, iV r, iV nu]))) (fun h v9 h' => v9 = none ∧ CW cI cO ee Tx9 P (becS S pl (vbI k nu (S.1 0 pl) (S.1 0 bs)) mk dp) (XnF (X13 X (upZ (X.1 13) (X.2 25 - X.2 20) dp)) (noteF (fun k => X.1 (7 + k)) (X.2 25) pl (S.1 0 pl) (vbI k nu (S.1 0 pl) (S.1 0 bs)) mk) (X.2 25 + 1)) h' ∧ Fr (fun u => tC 2 u ∨ tU 6 u ∨ u = 13) h h') (0) (0) := by
  refine Ct_of (cc := cX7_change) (own := RX7) [some (.ref (P 1)), some (.int (iI pl)), some (.ref q), some (.int (iI bs)), some (.int (iI mk)), some (.int (iI dp)), none, none, none] (by decide) rfl rfl (Nat.le_of_ble_eq_true rfl) (fun i9 v9 h9 => argL [.ref (P 1), .int (iI pl), .ref q, .int (iI bs), .int (iI mk), .int (iI dp)] 3 rfl i9 v9 h9) ?_
  intro p e s m9 args below meth c9 h0 sz hI C hr hlk hinit
  have hin : ∀ w ∈ wsX70, w ∈ wsX7_change := by decide +kernel
  obtain ⟨hw1, hw2, hw3, hw4, hw5, hw6⟩ := id hwp
  have hc0 := hw6 pl hpl.1 hpl.2
  have hcb := hw6 bs hbs.1 hbs.2
  have hvr : rI (vbI k nu (S.1 0 pl) (S.1 0 bs)) ∧ rI (S.1 0 pl) := ⟨by unfold vbI; split <;> first | omega | (split <;> omega), by omega⟩
  refine V_weak (I2 := fun x9 => (CW cI cO ee Tx9 P (S) (X) x9 ∧ x9 q = some (tq, .inr (11, [iV k, iV c, iV r, iV nu]))) ∧ Fr (fun u => tC 2 u ∨ tU 6 u ∨ u = 13) h0 x9) (fun x9 hx9 => by subst hx9; exact ⟨hI, Fr.refl⟩) ?_
  refine V_aload0 (pc' := 1) C dX7_change_0 rfl ?_
  refine V_getf (pc' := 4) (T := TX7) (N := 13) (ci := 12) C hin rfl 0 (by decide) (by decide +kernel) (fun h hh => ⟨1, _, hh.1.1.1, rfl⟩) dX7_change_1 rfl ?_
  refine V_iload1 (pc' := 5) C dX7_change_4 rfl ?_
  refine V_callV (ci := 6) (n := 1) [.int (iI pl)] C (kX1_valueAt (v := P 3) (g := S.1 0) (t := 2) (z := pl) hpl) gX7_change_X1_valueAt rfl ydX1_valueAt ⟨Nat.le_of_ble_eq_true rfl, Nat.le_of_ble_eq_true rfl⟩ ⟨rfl, rfl⟩ rfl rfl (fun h hh => ⟨2, _, hh.1.1.2.1.1⟩) (fun h hh => hh.1.1.2.1) rfl (Nat.le_of_ble_eq_true rfl) dX7_change_5 ⟨Nat.le_of_ble_eq_true rfl, Nat.le_of_ble_eq_true rfl⟩ (fun h v h' hh hj9 => ?_)
  obtain ⟨r9, rfl, hj8, rfl⟩ := hj9
  rw [hj8]
  refine V_weak (I2 := fun x9 => (CW cI cO ee Tx9 P (S) (X) x9 ∧ x9 q = some (tq, .inr (11, [iV k, iV c, iV r, iV nu]))) ∧ Fr (fun u => tC 2 u ∨ tU 6 u ∨ u = 13) h0 x9) (fun x9 hx9 => by rw [hx9]; exact hh) ?_
  refine V_istore6 (pc' := 10) C dX7_change_8 rfl (by decide) rfl ?_
  refine V_aload2 (pc' := 11) C dX7_change_10 rfl ?_
  refine V_iload6 (pc' := 13) C dX7_change_11 rfl ?_
  refine V_aload0 (pc' := 14) C dX7_change_13 rfl ?_
  refine V_getf (pc' := 17) (T := TX7) (N := 13) (ci := 12) C hin rfl 0 (by decide) (by decide +kernel) (fun h hh => ⟨1, _, hh.1.1.1, rfl⟩) dX7_change_14 rfl ?_
  refine V_iload3 (pc' := 18) C dX7_change_17 rfl ?_
  refine V_callV (ci := 6) (n := 1) [.int (iI bs)] C (kX1_valueAt (v := P 3) (g := S.1 0) (t := 2) (z := bs) hbs) gX7_change_X1_valueAt rfl ydX1_valueAt ⟨Nat.le_of_ble_eq_true rfl, Nat.le_of_ble_eq_true rfl⟩ ⟨rfl, rfl⟩ rfl rfl (fun h hh => ⟨2, _, hh.1.1.2.1.1⟩) (fun h hh => hh.1.1.2.1) rfl (Nat.le_of_ble_eq_true rfl) dX7_change_18 ⟨Nat.le_of_ble_eq_true rfl, Nat.le_of_ble_eq_true rfl⟩ (fun h v h' hh hj9 => ?_)
  obtain ⟨r9, rfl, hj8, rfl⟩ := hj9
  rw [hj8]
  refine V_weak (I2 := fun x9 => (CW cI cO ee Tx9 P (S) (X) x9 ∧ x9 q = some (tq, .inr (11, [iV k, iV c, iV r, iV nu]))) ∧ Fr (fun u => tC 2 u ∨ tU 6 u ∨ u = 13) h0 x9) (fun x9 hx9 => by rw [hx9]; exact hh) ?_
  refine V_callV (ci := 11) (n := 2) [.int (iI (S.1 0 pl)), .int (iI (S.1 0 bs))] C (kX6_valueBehind (t := tq) (k := k) (c := c) (r := r) (n := nu) (b0 := S.1 0 pl) (b1 := S.1 0 bs) hk) gX7_change_X6_valueBehind rfl ydX6_valueBehind ⟨Nat.le_of_ble_eq_true rfl, Nat.le_of_ble_eq_true rfl⟩ ⟨rfl, rfl⟩ rfl rfl (fun h hh => ⟨tq, _, hh.1.2⟩) (fun h hh => hh.1.2) rfl (Nat.le_of_ble_eq_true rfl) dX7_change_21 ⟨Nat.le_of_ble_eq_true rfl, Nat.le_of_ble_eq_true rfl⟩ (fun h v h' hh hj9 => ?_)
  obtain ⟨r9, rfl, hj8, rfl⟩ := hj9
  rw [hj8]
  refine V_weak (I2 := fun x9 => (CW cI cO ee Tx9 P (S) (X) x9 ∧ x9 q = some (tq, .inr (11, [iV k, iV c, iV r, iV nu]))) ∧ Fr (fun u => tC 2 u ∨ tU 6 u ∨ u = 13) h0 x9) (fun x9 hx9 => by rw [hx9]; exact hh) ?_
  refine V_istore7 (pc' := 26) C dX7_change_24 rfl (by decide) rfl ?_
  refine V_aload0 (pc' := 27) C dX7_change_26 rfl ?_
  refine V_getf (pc' := 30) (T := TX7) (N := 13) (ci := 12) C hin rfl 4 (by decide) (by decide +kernel) (fun h hh => ⟨1, _, hh.1.1.1, rfl⟩) dX7_change_27 rfl ?_
  refine V_callV (ci := 5) (n := 0) [] C (kX0_size (v := fun k => P (7 + k)) (t := 6) (F := fun k => X.1 (7 + k)) (n := X.2 25) (len := (X.2 26).toNat)) gX7_change_X0_size rfl ydX0_size ⟨Nat.le_of_ble_eq_true rfl, Nat.le_of_ble_eq_true rfl⟩ ⟨rfl, rfl⟩ rfl rfl (fun h hh => ⟨6, _, hh.1.1.2.2.2.1.1⟩) (fun h hh => hh.1.1.2.2.2.1) rfl (Nat.le_of_ble_eq_true rfl) dX7_change_30 ⟨Nat.le_of_ble_eq_true rfl, Nat.le_of_ble_eq_true rfl⟩ (fun h v h' hh hj9 => ?_)
  obtain ⟨r9, rfl, hj8, rfl⟩ := hj9
  rw [hj8]
  refine V_weak (I2 := fun x9 => (CW cI cO ee Tx9 P (S) (X) x9 ∧ x9 q = some (tq, .inr (11, [iV k, iV c, iV r, iV nu]))) ∧ Fr (fun u => tC 2 u ∨ tU 6 u ∨ u = 13) h0 x9) (fun x9 hx9 => by rw [hx9]; exact hh) ?_
  refine V_aload0 (pc' := 34) C dX7_change_33 rfl ?_
  refine V_getf (pc' := 37) (T := TX7) (N := 13) (ci := 12) C hin rfl 8 (by decide) (by decide +kernel) (fun h hh => ⟨1, _, hh.1.1.1, rfl⟩) dX7_change_34 rfl ?_
  refine V_isub (pc' := 38) C dX7_change_37 rfl ?_
  refine V_istore8 (pc' := 40) C dX7_change_38 rfl (by decide) rfl ?_
  refine V_iload7 (pc' := 42) C dX7_change_40 rfl ?_
  refine V_iload6 (pc' := 44) C dX7_change_42 rfl ?_
  refine V_icmpeq (tgt := 72) C hvr dX7_change_44 (by decide) rfl (fun c_44 => ?_) (fun c_44 => ?_)
  · exact absurd c_44 (by omega)
  · refine V_iload8 (pc' := 49) C dX7_change_47 rfl ?_
    refine V_iflt (tgt := 72) C (by omega) dX7_change_49 (by decide) rfl (fun c_49 => ?_) (fun c_49 => ?_)
    · exact absurd c_49 (by omega)
    · refine V_iload8 (pc' := 54) C dX7_change_52 rfl ?_
      refine V_aload0 (pc' := 55) C dX7_change_54 rfl ?_
      refine V_getf (pc' := 58) (T := TX7) (N := 13) (ci := 12) C hin rfl 7 (by decide) (by decide +kernel) (fun h hh => ⟨1, _, hh.1.1.1, rfl⟩) dX7_change_55 rfl ?_
      refine V_alen (pc' := 59) (n := 210) C 2 rfl (fun h hh => ⟨13, hh.1.1.2.2.2.2.2.1⟩) dX7_change_58 rfl ?_
      refine V_eq (st2 := [.int (iI 210), .int (iI (X.2 25 - X.2 20))]) rfl ?_
      refine V_icmpge (tgt := 72) C (by omega) dX7_change_59 (by decide) rfl (fun c_59 => ?_) (fun c_59 => ?_)
      · exact absurd c_59 (by omega)
      · refine V_aload0 (pc' := 63) C dX7_change_62 rfl ?_
        refine V_getf (pc' := 66) (T := TX7) (N := 13) (ci := 12) C hin rfl 4 (by decide) (by decide +kernel) (fun h hh => ⟨1, _, hh.1.1.1, rfl⟩) dX7_change_63 rfl ?_
        refine V_callV (ci := 5) (n := 0) [] C (kX0_isFull (v := fun k => P (7 + k)) (t := 6) (F := fun k => X.1 (7 + k)) (n := X.2 25) (len := (X.2 26).toNat)) gX7_change_X0_isFull rfl ydX0_isFull ⟨Nat.le_of_ble_eq_true rfl, Nat.le_of_ble_eq_true rfl⟩ ⟨rfl, rfl⟩ rfl rfl (fun h hh => ⟨6, _, hh.1.1.2.2.2.1.1⟩) (fun h hh => hh.1.1.2.2.2.1) rfl (Nat.le_of_ble_eq_true rfl) dX7_change_66 ⟨Nat.le_of_ble_eq_true rfl, Nat.le_of_ble_eq_true rfl⟩ (fun h v h' hh hj9 => ?_)
        obtain ⟨r9, rfl, hj8, rfl⟩ := hj9
        rw [hj8, show decide (((X.2 26).toNat : Int) ≤ X.2 25) = false from decide_eq_false (by omega)]
        refine V_weak (I2 := fun x9 => (CW cI cO ee Tx9 P (S) (X) x9 ∧ x9 q = some (tq, .inr (11, [iV k, iV c, iV r, iV nu]))) ∧ Fr (fun u => tC 2 u ∨ tU 6 u ∨ u = 13) h0 x9) (fun x9 hx9 => by rw [hx9]; exact hh) ?_
        refine V_ifeqB (tgt := 73) C dX7_change_69 (by decide) rfl (fun c_69 => ?_) (fun c_69 => ?_)
        · refine V_aload0 (pc' := 74) C dX7_change_73 rfl ?_
          refine V_getf (pc' := 77) (T := TX7) (N := 13) (ci := 12) C hin rfl 7 (by decide) (by decide +kernel) (fun h hh => ⟨1, _, hh.1.1.1, rfl⟩) dX7_change_74 rfl ?_
          refine V_iload8 (pc' := 79) C dX7_change_77 rfl ?_
          refine V_iload5 (pc' := 81) C dX7_change_79 rfl ?_
          refine V_iast (pc' := 82) (n := 210) (f := X.1 13) (I2 := fun x9 => (CW cI cO ee Tx9 P (S) (X13 X (upZ (X.1 13) (X.2 25 - X.2 20) dp)) x9 ∧ x9 q = some (tq, .inr (11, [iV k, iV c, iV r, iV nu]))) ∧ Fr (fun u => tC 2 u ∨ tU 6 u ∨ u = 13) h0 x9) C 2 rfl (fun h hh => ⟨13, hh.1.1.2.2.2.2.2.1, ⟨hh.1.1.dep hwp h9, (Fr.refl (T := fun u => u = 13)).up hh.1.1.2.2.2.2.2.1 rfl _ _ _ hh.1.2 (fun z => hq (Or.inr (Or.inr z)))⟩, hh.2.up hh.1.1.2.2.2.2.2.1 (Or.inr (Or.inr rfl))⟩) ⟨by omega, by omega, by omega⟩ dX7_change_81 rfl ?_
          refine V_aload0 (pc' := 83) C dX7_change_82 rfl ?_
          refine V_getf (pc' := 86) (T := TX7) (N := 13) (ci := 12) C hin rfl 4 (by decide) (by decide +kernel) (fun h hh => ⟨1, _, hh.1.1.1, rfl⟩) dX7_change_83 rfl ?_
          refine V_iload1 (pc' := 87) C dX7_change_86 rfl ?_
          refine V_iload6 (pc' := 89) C dX7_change_87 rfl ?_
          refine V_iload7 (pc' := 91) C dX7_change_89 rfl ?_
          refine V_iload4 (pc' := 93) C dX7_change_91 rfl ?_
          refine V_callV (ci := 5) (n := 4) [.int (iI pl), .int (iI (S.1 0 pl)), .int (iI (vbI k nu (S.1 0 pl) (S.1 0 bs))), .int (iI mk)] C (kX0_note (v := fun k => P (7 + k)) (t := 6) (F := fun k => X.1 (7 + k)) (n := X.2 25) (len := (X.2 26).toNat) (pl := pl) (be := S.1 0 pl) (bh := (vbI k nu (S.1 0 pl) (S.1 0 bs))) (mk := mk) (by omega)) gX7_change_X0_note rfl ydX0_note ⟨Nat.le_of_ble_eq_true rfl, Nat.le_of_ble_eq_true rfl⟩ ⟨rfl, rfl⟩ rfl rfl (fun h hh => ⟨6, _, hh.1.1.2.2.2.1.1⟩) (fun h hh => AuH.eq hh.1.1.2.2.2.1 (fun k hk => match k, hk with | 0, _ => rfl | 1, _ => rfl | 2, _ => rfl | 3, _ => rfl)) rfl (Nat.le_of_ble_eq_true rfl) dX7_change_93 ⟨Nat.le_of_ble_eq_true rfl, Nat.le_of_ble_eq_true rfl⟩ (fun h v h' hh hj9 => ?_)
          obtain ⟨rfl, hj1, hj2⟩ := hj9
          refine V_weak (I2 := fun x9 => (CW cI cO ee Tx9 P (S) (XnF (X13 X (upZ (X.1 13) (X.2 25 - X.2 20) dp)) (noteF (fun k => X.1 (7 + k)) (X.2 25) pl (S.1 0 pl) (vbI k nu (S.1 0 pl) (S.1 0 bs)) mk) (X.2 25 + 1)) x9 ∧ x9 q = some (tq, .inr (11, [iV k, iV c, iV r, iV nu]))) ∧ Fr (fun u => tC 2 u ∨ tU 6 u ∨ u = 13) h0 x9) (fun x9 hx9 => by rw [hx9]; exact ⟨⟨hh.1.1.note hwp h9 hj1 hj2, hj2 _ _ _ hh.1.2 (fun z => hq (Or.inr (Or.inl z)))⟩, hh.2.trans (hj2.mono (fun u hu => Or.inr (Or.inl hu)))⟩) ?_
          refine V_aload0 (pc' := 97) C dX7_change_96 rfl ?_
          refine V_getf (pc' := 100) (T := TX7) (N := 13) (ci := 12) C hin rfl 0 (by decide) (by decide +kernel) (fun h hh => ⟨1, _, hh.1.1.1, rfl⟩) dX7_change_97 rfl ?_
          refine V_iload1 (pc' := 101) C dX7_change_100 rfl ?_
          refine V_iload7 (pc' := 103) C dX7_change_101 rfl ?_
          refine V_callV (ci := 6) (n := 2) [.int (iI pl), .int (iI (vbI k nu (S.1 0 pl) (S.1 0 bs)))] C (kX1_put (v := P 3) (g := S.1 0) (t := 2) (z := pl) hpl (vbI k nu (S.1 0 pl) (S.1 0 bs))) gX7_change_X1_put rfl ydX1_put ⟨Nat.le_of_ble_eq_true rfl, Nat.le_of_ble_eq_true rfl⟩ ⟨rfl, rfl⟩ rfl rfl (fun h hh => ⟨2, _, hh.1.1.2.1.1⟩) (fun h hh => hh.1.1.2.1) rfl (Nat.le_of_ble_eq_true rfl) dX7_change_103 ⟨Nat.le_of_ble_eq_true rfl, Nat.le_of_ble_eq_true rfl⟩ (fun h v h' hh hj9 => ?_)
          obtain ⟨rfl, hj1, hj2⟩ := hj9
          refine V_weak (I2 := fun x9 => CW cI cO ee Tx9 P (becS S pl (vbI k nu (S.1 0 pl) (S.1 0 bs)) mk dp) (XnF (X13 X (upZ (X.1 13) (X.2 25 - X.2 20) dp)) (noteF (fun k => X.1 (7 + k)) (X.2 25) pl (S.1 0 pl) (vbI k nu (S.1 0 pl) (S.1 0 bs)) mk) (X.2 25 + 1)) x9 ∧ Fr (fun u => tC 2 u ∨ tU 6 u ∨ u = 13) h0 x9) (fun x9 hx9 => by rw [hx9]; exact ⟨(hh.1.1.put hwp h9 hj1 hj2).log h9 (fun z => hv z.symm), hh.2.trans (hj2.mono (fun u hu => Or.inl hu))⟩) ?_
          exact V_endv C hr hlk (fun h' hh => ⟨rfl, hh.1, hh.2⟩) ⟨Nat.le_refl _, Nat.le_refl _⟩ dX7_change_106
        · exact absurd c_69 (by decide)
end

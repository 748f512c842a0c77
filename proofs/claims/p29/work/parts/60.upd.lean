/-! macros and rules: what the calls change -/
def UM (S : MSt) : Prop := ∀ m : Int, S.2 22 ≤ m → m < 6 → S.1 4 m = 0 ∧ S.1 9 m = 0
section
variable {cI cO : ClassId} {ee : Nat × Nat} {Tx9 : (Nat → Nat) → MSt → Hp → Prop} {P P' : Nat → Nat} {S S' X X' : MSt} {h h' : Hp} {T : Nat → Prop}
theorem MrH.one {m : Nat} (H : MrH cO ee P S h) (hw : WFp S) (hrm : RM S) (hm : (m : Int) < S.2 22) (hF : Fr T h h') (hT : ∀ u, u < 500 → u ≠ 110 + m → u ≠ 120 + m → u ≠ 130 + m → u ≠ 140 + m → ¬ T u) (p : ∀ u, usT S u → P' u = P u) (st : StP cO ee P' S' m h') (gr : GrP cO ee P' S' m h')
    (e4 : ∀ m' : Nat, m' ≠ m → S'.1 4 m' = S.1 4 m') (e9 : ∀ m' : Nat, m' ≠ m → S'.1 9 m' = S.1 9 m') (e5 : ∀ m' k : Nat, m' ≠ m → m' < 6 → k < 10 → stF S' (10 * m' + k) = stF S (10 * m' + k)) (e10 : ∀ m' g : Nat, m' ≠ m → m' < 6 → g < 4 → S'.1 10 (4 * m' + g) = S.1 10 (4 * m' + g) ∧ S'.1 11 (4 * m' + g) = S.1 11 (4 * m' + g)) (e : ∀ k, 12 ≤ k → k < 16 → S'.1 k = S.1 k) (e22 : S'.2 22 = S.2 22) (e23 : S'.2 23 = S.2 23) : MrH cO ee P' S' h' := by
  obtain ⟨a1, a2, a3, a4⟩ := H
  obtain ⟨w1, w2, w3, w4, w5, w6⟩ := hw
  obtain ⟨u1, u2, u3, u4⟩ := usT_16 (S := S)
  have nt : ∀ u : Nat, u < 500 → u ≠ 110 + m → u ≠ 120 + m → u ≠ 130 + m → u ≠ 140 + m → ¬ T u := hT
  refine ⟨a1.keep hF ⟨nt _ (by omega) (by omega) (by omega) (by omega) (by omega), nt _ (by omega) (by omega) (by omega) (by omega) (by omega)⟩ (p _ u1) (fun j hj => p _ (usT_m hj).1) e22, fun m' hm' => ?_, a3.keep hF ⟨nt _ (by omega) (by omega) (by omega) (by omega) (by omega), nt _ (by omega) (by omega) (by omega) (by omega) (by omega)⟩ (p _ u3) (fun j hj => p _ (usT_r hj).1) e23, fun r hr => ?_⟩
  · rw [e22] at hm'
    have A := a2 m' hm'
    obtain ⟨v1, v2, v3, v4, v5, v6, v7⟩ := usT_m hm'
    have hm9 := w2 m' (by omega) (by omega)
    have M : MaH (P' (100 + m')) (100 + m') m' (P' (110 + m')) (P' (130 + m')) h' := A.1.keep hF (nt _ (by omega) (by omega) (by omega) (by omega) (by omega)) (p _ v1) (p _ v2) (p _ v4)
    by_cases z : m' = m
    · subst z
      exact Mac1_mk M st gr
    · exact Mac1_mk M (A.st.keep hF ⟨nt _ (by omega) (by omega) (by omega) (by omega) (by omega), nt _ (by omega) (by omega) (by omega) (by omega) (by omega), fun j hj => nt _ (by omega) (by omega) (by omega) (by omega) (by omega)⟩ (p _ v2) (fun j hj => p _ (v6 j hj)) (e4 m' z) (fun j hj => e5 m' j z (by omega) (by omega))) (A.gr.keep hF ⟨nt _ (by omega) (by omega) (by omega) (by omega) (by omega), nt _ (by omega) (by omega) (by omega) (by omega) (by omega), fun j hj => nt _ (by omega) (by omega) (by omega) (by omega) (by omega)⟩ (p _ v4) (fun j hj => p _ (v7 j hj)) (e9 m' z) (fun j hj => e10 m' j z (by omega) (by omega)))
  · rw [e23] at hr
    have h14 := w4 r (by omega) (by omega)
    have hr14 := hrm r (by omega) hr
    obtain ⟨v1, v2⟩ := usT_r hr
    exact (a4 r hr).keep hF ⟨nt _ (by omega) (by omega) (by omega) (by omega) (by omega), nt _ (by omega) (by omega) (by omega) (by omega) (by omega)⟩ (p _ v1) (p _ v2) (p _ (usT_m (by omega)).1) (by rw [e 12 (by decide) (by decide)]) (by rw [e 13 (by decide) (by decide)]) (by rw [e 14 (by decide) (by decide)]) (by rw [e 15 (by decide) (by decide)])
theorem nt_110 {m : Nat} (hm : m < 6) : ∀ u, u < 500 → u ≠ 110 + m → u ≠ 120 + m → u ≠ 130 + m → u ≠ 140 + m → ¬ tL (110 + m) u := fun u _ z1 z2 _ _ z => by
  unfold tL at z
  omega
theorem nt_130 {m : Nat} (hm : m < 6) : ∀ u, u < 500 → u ≠ 110 + m → u ≠ 120 + m → u ≠ 130 + m → u ≠ 140 + m → ¬ tL (130 + m) u := fun u _ _ _ z1 z2 z => by
  unfold tL at z
  omega
theorem MrH.dropSt {m : Nat} {md : Int} {ar : Option Nat} (H : MrH cO ee P S h) (hw : WFp S) (hrm : RM S) (hm : (m : Int) < S.2 22) (hF : Fr (tL (110 + m)) h h') (hl : LH cO ee (P (110 + m)) (110 + m) md ar 0 (fun i => if i < (S.1 4 m).toNat then none else fstP P (200 + 10 * m) (S.1 4 m) i) h') : MrH cO ee P (uA S 4 m 0) h' := by
  obtain ⟨w1, w2, w3, w4, w5, w6⟩ := id hw
  have hm9 := w2 m (by omega) (by omega)
  rw [fstP_none] at hl
  have e4 : (uA S 4 m 0).1 4 = upZ (S.1 4) m 0 := uA_s _ _ _ _
  have A := H.2.1 m hm
  have nt : ∀ u : Nat, u ≠ 110 + m → u ≠ 120 + m → ¬ tL (110 + m) u := fun u z1 z2 z => by
    unfold tL at z
    omega
  refine H.one hw hrm hm hF (nt_110 (by omega)) (fun _ _ => rfl) ⟨⟨md, ar, by rw [e4, upZ_s]; exact hl⟩, fun k hk => ?_⟩ (A.gr.keep hF ⟨nt _ (by omega) (by omega), nt _ (by omega) (by omega), fun g hg => nt _ (by omega) (by omega)⟩ rfl (fun _ _ => rfl) rfl (fun _ _ => ⟨rfl, rfl⟩)) (fun m' z => by rw [e4, upZ_n (by omega)]) (fun _ _ => rfl) (fun _ _ _ _ _ => rfl) (fun _ _ _ _ _ => ⟨rfl, rfl⟩) (fun k k0 k1 => uA_n _ (by omega) _ _) rfl rfl
  rw [e4, upZ_s] at hk
  omega
theorem MrH.dropGr {m : Nat} {md : Int} {ar : Option Nat} (H : MrH cO ee P S h) (hw : WFp S) (hrm : RM S) (hm : (m : Int) < S.2 22) (hF : Fr (tL (130 + m)) h h') (hl : LH cO ee (P (130 + m)) (130 + m) md ar 0 (fun i => if i < (S.1 9 m).toNat then none else fstP P (300 + 4 * m) (S.1 9 m) i) h') : MrH cO ee P (uA S 9 m 0) h' := by
  obtain ⟨w1, w2, w3, w4, w5, w6⟩ := id hw
  have hm9 := w2 m (by omega) (by omega)
  rw [fstP_none] at hl
  have e4 : (uA S 9 m 0).1 9 = upZ (S.1 9) m 0 := uA_s _ _ _ _
  have A := H.2.1 m hm
  have nt : ∀ u : Nat, u ≠ 130 + m → u ≠ 140 + m → ¬ tL (130 + m) u := fun u z1 z2 z => by
    unfold tL at z
    omega
  refine H.one hw hrm hm hF (nt_130 (by omega)) (fun _ _ => rfl) (A.st.keep hF ⟨nt _ (by omega) (by omega), nt _ (by omega) (by omega), fun g hg => nt _ (by omega) (by omega)⟩ rfl (fun _ _ => rfl) rfl (fun _ _ => rfl)) ⟨⟨md, ar, by rw [e4, upZ_s]; exact hl⟩, fun k hk => ?_⟩ (fun _ _ => rfl) (fun m' z => by rw [e4, upZ_n (by omega)]) (fun _ _ _ _ _ => rfl) (fun _ _ _ _ _ => ⟨rfl, rfl⟩) (fun k k0 k1 => uA_n _ (by omega) _ _) rfl rfl
  rw [e4, upZ_s] at hk
  omega
theorem usT_gr {m k : Nat} (hw : WFp S) (hm : m < 6) (hk : S.1 9 m = k) (hk10 : k < 4) {u : Nat} (hu : usT S u) : u ≠ 300 + 4 * m + k := by
  obtain ⟨w1, w2, w3, w4, w5, w6⟩ := hw
  intro q
  rcases hu with h | h | h | h | ⟨m', hm', h⟩ | ⟨r, hr, h⟩
  · omega
  · omega
  · omega
  · omega
  · have hm9 := w2 m' (by omega) (by omega)
    rcases h with h | h | h | h | h | ⟨k', hk', h⟩ | ⟨g, hg, h⟩
    · omega
    · omega
    · omega
    · omega
    · omega
    · omega
    · have e : m' = m := by omega
      subst e
      omega
  · rcases h with h | h <;> omega
def grS (S : MSt) (m x y : Int) : MSt := uA (uA (uA S 10 (4 * m + S.1 9 m) x) 11 (4 * m + S.1 9 m) y) 9 m (S.1 9 m + 1)
theorem MrH.addG {m k q q' : Nat} {md x y : Int} (H : MrH cO ee P S h) (hw : WFp S) (hrm : RM S) (hm : (m : Int) < S.2 22) (hk : S.1 9 m = k) (hk10 : k < 4) (hF : Fr (tL (130 + m)) h h') (hq : h q = some (300 + 4 * m + k, .inr (9, rgF x y))) (hl : LH cO ee (P (130 + m)) (130 + m) md (some q') (S.1 9 m + 1) (va_up (fstP P (300 + 4 * m) (S.1 9 m)) (S.1 9 m).toNat (some q)) h') : MrH cO ee (pUp P (300 + 4 * m + k) q) (grS S m x y) h' := by
  obtain ⟨w1, w2, w3, w4, w5, w6⟩ := id hw
  have hm9 := w2 m (by omega) (by omega)
  have e9 : (grS S m x y).1 9 = upZ (S.1 9) m (S.1 9 m + 1) := uA_s _ _ _ _
  have e10 : (grS S m x y).1 10 = upZ (S.1 10) (4 * m + k) x := by unfold grS; rw [hk]; rfl
  have e11 : (grS S m x y).1 11 = upZ (S.1 11) (4 * m + k) y := by unfold grS; rw [hk]; rfl
  have A := H.2.1 m hm
  have hm6 : m < 6 := by omega
  have p : ∀ u, usT S u → pUp P (300 + 4 * m + k) q u = P u := fun u hu => pUp_n (usT_gr hw hm6 hk hk10 hu)
  obtain ⟨v1, v2, v3, v4, v5, v6, v7⟩ := usT_m hm
  have nt : ∀ u : Nat, u ≠ 130 + m → u ≠ 140 + m → ¬ tL (130 + m) u := fun u z1 z2 z => by
    unfold tL at z
    omega
  refine H.one hw hrm hm hF (nt_130 hm6) p (A.st.keep hF ⟨nt _ (by omega) (by omega), nt _ (by omega) (by omega), fun g hg => nt _ (by omega) (by omega)⟩ (p _ v2) (fun j hj => p _ (v6 j hj)) rfl (fun _ _ => rfl)) ⟨⟨md, some q', ?_⟩, fun k' hk' => ?_⟩ (fun _ _ => rfl) (fun m' z => by rw [e9, upZ_n (by omega)]) (fun _ _ _ _ _ => rfl) (fun m' g z z1 z2 => by rw [e10, e11, upZ_n (by omega), upZ_n (by omega)]; exact ⟨rfl, rfl⟩) (fun k k0 k1 => by unfold grS; rw [uA_n _ (by omega), uA_n _ (by omega), uA_n _ (by omega)]) rfl rfl
  · rw [p _ v4, e9, upZ_s, ← fstP_push (P := P) (P' := pUp P (300 + 4 * m + k) q) hk (fun i hi => p _ (v7 i hi)) pUp_s]
    exact hl
  · rw [e9, upZ_s] at hk'
    by_cases z : k' = k
    · subst z
      rw [pUp_s, e10, e11, upZ_s, upZ_s]
      exact hF _ _ _ hq (nt _ (by omega) (by omega))
    · rw [e10, e11, upZ_n (by omega), upZ_n (by omega), p _ (v7 k' (by omega))]
      exact hF _ _ _ (A.gr.2 k' (by omega)) (nt _ (by omega) (by omega))
/-- a macro more -/
theorem usT_nm {m : Nat} (hw : WFp S) (hum : UM S) (hm : S.2 22 = m) {u : Nat} (hu : usT S u) : u ≠ 100 + m ∧ u ≠ 110 + m ∧ u ≠ 120 + m ∧ u ≠ 130 + m ∧ u ≠ 140 + m := by
  obtain ⟨w1, w2, w3, w4, w5, w6⟩ := hw
  rcases hu with h | h | h | h | ⟨m', hm', h⟩ | ⟨r, hr, h⟩
  · omega
  · omega
  · omega
  · omega
  · have hm9 := w2 m' (by omega) (by omega)
    rcases h with h | h | h | h | h | ⟨k', hk', h⟩ | ⟨g, hg, h⟩ <;> omega
  · rcases h with h | h <;> omega
theorem MrH.addM {m q q1 q2 q' : Nat} {md : Int} (H : MrH cO ee P S h) (hw : WFp S) (hrm : RM S) (hum : UM S) (hm : S.2 22 = m) (hm6 : m < 6) (hF : Fr (tL 16) h h') (hq : MaH q (100 + m) m q1 q2 h) (h1 : LH cO ee q1 (110 + m) 0 none 0 (fun _ => none) h) (h2 : LH cO ee q2 (130 + m) 0 none 0 (fun _ => none) h) (hl : LH cO ee (P 16) 16 md (some q') (S.2 22 + 1) (va_up (fstP P 100 (S.2 22)) (S.2 22).toNat (some q)) h') : MrH cO ee (pUp (pUp (pUp P (130 + m) q2) (110 + m) q1) (100 + m) q) (uG S 22 (S.2 22 + 1)) h' := by
  obtain ⟨a1, a2, a3, a4⟩ := H
  obtain ⟨w1, w2, w3, w4, w5, w6⟩ := id hw
  have p : ∀ u, usT S u → pUp (pUp (pUp P (130 + m) q2) (110 + m) q1) (100 + m) q u = P u := fun u hu => by
    have z := usT_nm hw hum hm hu
    rw [pUp_n z.1, pUp_n z.2.1, pUp_n z.2.2.2.1]
  obtain ⟨u1, u2, u3, u4⟩ := usT_16 (S := S)
  have nt : ∀ u : Nat, u ≠ 16 → u ≠ 26 → ¬ tL 16 u := fun u z1 z2 z => by
    unfold tL at z
    omega
  have e22 : (uG S 22 (S.2 22 + 1)).2 22 = S.2 22 + 1 := uG_s _ _ _
  have hz := hum m (by omega) (by omega)
  refine ⟨⟨md, some q', ?_⟩, fun m' hm' => ?_, a3.keep hF ⟨nt _ (by omega) (by omega), nt _ (by omega) (by omega)⟩ (p _ u3) (fun j hj => p _ (usT_r hj).1) rfl, fun r hr => ?_⟩
  · rw [p _ u1, e22, ← fstP_push (P := P) hm (fun i hi => p _ (usT_m hi).1) pUp_s]
    exact hl
  · rw [e22] at hm'
    by_cases z : m' = m
    · subst z
      have n1 : (110 + m' ≠ 100 + m') ∧ (130 + m' ≠ 110 + m') ∧ (130 + m' ≠ 100 + m') := by omega
      refine Mac1_mk ?_ ⟨⟨0, none, ?_⟩, fun k hk => ?_⟩ ⟨⟨0, none, ?_⟩, fun k hk => ?_⟩
      · rw [pUp_s, pUp_n n1.1, pUp_s, pUp_n n1.2.2, pUp_n n1.2.1, pUp_s]
        exact hF _ _ _ hq (nt _ (by omega) (by omega))
      · rw [pUp_n n1.1, pUp_s, uG_1, hz.1]
        exact h1.fr hF (nt _ (by omega) (by omega)) (nt _ (by omega) (by omega)) |> fun z => by
          have e : (fun _ : Nat => (none : Option Nat)) = fstP (pUp (pUp (pUp P (130 + m') q2) (110 + m') q1) (100 + m') q) (200 + 10 * m') 0 := by
            funext i
            unfold fstP
            rw [if_neg (by omega)]
          rw [e] at z
          exact z
      · rw [uG_1, hz.1] at hk
        omega
      · rw [pUp_n n1.2.2, pUp_n n1.2.1, pUp_s, uG_1, hz.2]
        exact h2.fr hF (nt _ (by omega) (by omega)) (nt _ (by omega) (by omega)) |> fun z => by
          have e : (fun _ : Nat => (none : Option Nat)) = fstP (pUp (pUp (pUp P (130 + m') q2) (110 + m') q1) (100 + m') q) (300 + 4 * m') 0 := by
            funext i
            unfold fstP
            rw [if_neg (by omega)]
          rw [e] at z
          exact z
      · rw [uG_1, hz.2] at hk
        omega
    · have hm'' : (m' : Int) < S.2 22 := by omega
      have A := a2 m' hm''
      obtain ⟨v1, v2, v3, v4, v5, v6, v7⟩ := usT_m hm''
      have hm9 := w2 m' (by omega) (by omega)
      exact Mac1_mk (A.1.keep hF (nt _ (by omega) (by omega)) (p _ v1) (p _ v2) (p _ v4)) (A.st.keep hF ⟨nt _ (by omega) (by omega), nt _ (by omega) (by omega), fun j hj => nt _ (by omega) (by omega)⟩ (p _ v2) (fun j hj => p _ (v6 j hj)) rfl (fun _ _ => rfl)) (A.gr.keep hF ⟨nt _ (by omega) (by omega), nt _ (by omega) (by omega), fun j hj => nt _ (by omega) (by omega)⟩ (p _ v4) (fun j hj => p _ (v7 j hj)) rfl (fun _ _ => ⟨rfl, rfl⟩))
  · have hr2 : (r : Int) < S.2 23 := hr
    have h14 := w4 r (by omega) (by omega)
    have hr14 := hrm r (by omega) hr2
    obtain ⟨v1, v2⟩ := usT_r hr2
    exact (a4 r hr2).keep hF ⟨nt _ (by omega) (by omega), nt _ (by omega) (by omega)⟩ (p _ v1) (p _ v2) (p _ (usT_m (by omega)).1) rfl rfl rfl rfl
/-- a rule more -/
theorem usT_nr {r : Nat} (hw : WFp S) (hr : S.2 23 = r) {u : Nat} (hu : usT S u) : u ≠ 400 + r ∧ u ≠ 410 + r := by
  obtain ⟨w1, w2, w3, w4, w5, w6⟩ := hw
  rcases hu with h | h | h | h | ⟨m', hm', h⟩ | ⟨r', hr', h⟩
  · omega
  · omega
  · omega
  · omega
  · have hm9 := w2 m' (by omega) (by omega)
    rcases h with h | h | h | h | h | ⟨k', hk', h⟩ | ⟨g, hg, h⟩ <;> omega
  · rcases h with h | h <;> omega
def arS (S : MSt) (x y m k : Int) : MSt := uG (uA (uA (uA (uA S 12 (S.2 23) x) 13 (S.2 23) y) 14 (S.2 23) m) 15 (S.2 23) k) 23 (S.2 23 + 1)
theorem MrH.addR {m r q q1 q' : Nat} {md x y k : Int} (H : MrH cO ee P S h) (hw : WFp S) (hrm : RM S) (hr : S.2 23 = r) (hr6 : r < 6) (hm : (m : Int) < S.2 22) (hF : Fr (tL 18) h h') (hq : h q = some (400 + r, .inr (10, [.ref q1, .ref (P (100 + m)), iV k]))) (hq1 : h q1 = some (410 + r, .inr (9, rgF x y))) (hl : LH cO ee (P 18) 18 md (some q') (S.2 23 + 1) (va_up (fstP P 400 (S.2 23)) (S.2 23).toNat (some q)) h') : MrH cO ee (pUp (pUp P (410 + r) q1) (400 + r) q) (arS S x y m k) h' := by
  obtain ⟨a1, a2, a3, a4⟩ := H
  obtain ⟨w1, w2, w3, w4, w5, w6⟩ := id hw
  have p : ∀ u, usT S u → pUp (pUp P (410 + r) q1) (400 + r) q u = P u := fun u hu => by
    have z := usT_nr hw hr hu
    rw [pUp_n z.1, pUp_n z.2]
  obtain ⟨u1, u2, u3, u4⟩ := usT_16 (S := S)
  have nt : ∀ u : Nat, u ≠ 18 → u ≠ 28 → ¬ tL 18 u := fun u z1 z2 z => by
    unfold tL at z
    omega
  have e23 : (arS S x y m k).2 23 = S.2 23 + 1 := uG_s _ _ _
  have e12 : (arS S x y m k).1 12 = upZ (S.1 12) r x := by unfold arS; rw [hr]; rfl
  have e13 : (arS S x y m k).1 13 = upZ (S.1 13) r y := by unfold arS; rw [hr]; rfl
  have e14 : (arS S x y m k).1 14 = upZ (S.1 14) r m := by unfold arS; rw [hr]; rfl
  have e15 : (arS S x y m k).1 15 = upZ (S.1 15) r k := by unfold arS; rw [hr]; rfl
  refine ⟨a1.keep hF ⟨nt _ (by omega) (by omega), nt _ (by omega) (by omega)⟩ (p _ u1) (fun j hj => p _ (usT_m hj).1) rfl, fun m' hm' => ?_, ⟨md, some q', ?_⟩, fun r' hr' => ?_⟩
  · have hm'' : (m' : Int) < S.2 22 := hm'
    have A := a2 m' hm''
    obtain ⟨v1, v2, v3, v4, v5, v6, v7⟩ := usT_m hm''
    have hm9 := w2 m' (by omega) (by omega)
    exact Mac1_mk (A.1.keep hF (nt _ (by omega) (by omega)) (p _ v1) (p _ v2) (p _ v4)) (A.st.keep hF ⟨nt _ (by omega) (by omega), nt _ (by omega) (by omega), fun j hj => nt _ (by omega) (by omega)⟩ (p _ v2) (fun j hj => p _ (v6 j hj)) rfl (fun _ _ => rfl)) (A.gr.keep hF ⟨nt _ (by omega) (by omega), nt _ (by omega) (by omega), fun j hj => nt _ (by omega) (by omega)⟩ (p _ v4) (fun j hj => p _ (v7 j hj)) rfl (fun _ _ => ⟨rfl, rfl⟩))
  · rw [p _ u3, e23, ← fstP_push (P := P) hr (fun i hi => p _ (usT_r hi).1) pUp_s]
    exact hl
  · rw [e23] at hr'
    by_cases z : r' = r
    · subst z
      unfold Rul1
      rw [pUp_s, pUp_n (show 410 + r' ≠ 400 + r' by omega), pUp_s, e12, e13, e14, e15, upZ_s, upZ_s, upZ_s, upZ_s, Int.toNat_natCast, p _ (usT_m hm).1]
      exact ⟨hF _ _ _ hq (nt _ (by omega) (by omega)), hF _ _ _ hq1 (nt _ (by omega) (by omega))⟩
    · have hr2 : (r' : Int) < S.2 23 := by omega
      have h14 := w4 r' (by omega) (by omega)
      have hr14 := hrm r' (by omega) hr2
      obtain ⟨v1, v2⟩ := usT_r hr2
      exact (a4 r' hr2).keep hF ⟨nt _ (by omega) (by omega), nt _ (by omega) (by omega)⟩ (p _ v1) (p _ v2) (p _ (usT_m (by omega)).1) (by rw [e12, upZ_n (by omega)]) (by rw [e13, upZ_n (by omega)]) (by rw [e14, upZ_n (by omega)]) (by rw [e15, upZ_n (by omega)])
theorem MrH.rank {r : Nat} {k : Int} (H : MrH cO ee P S h) (hw : WFp S) (hr : (r : Int) < S.2 23) : MrH cO ee P (uA S 15 r k) (hup h (P (400 + r)) (400 + r, .inr (10, [.ref (P (410 + r)), .ref (P (100 + (S.1 14 r).toNat)), iV k]))) := by
  obtain ⟨a1, a2, a3, a4⟩ := H
  obtain ⟨w1, w2, w3, w4, w5, w6⟩ := id hw
  have hF : Fr (fun u => u = 400 + r) h (hup h (P (400 + r)) (400 + r, .inr (10, [.ref (P (410 + r)), .ref (P (100 + (S.1 14 r).toNat)), iV k]))) := Fr.refl.up (a4 r hr).1 rfl
  have e15 : (uA S 15 r k).1 15 = upZ (S.1 15) r k := uA_s _ _ _ _
  refine ⟨a1.keep hF ⟨by omega, by omega⟩ rfl (fun _ _ => rfl) rfl, fun m' hm' => ?_, a3.keep hF ⟨by omega, by omega⟩ rfl (fun _ _ => rfl) rfl, fun r' hr' => ?_⟩
  · have hm'' : (m' : Int) < S.2 22 := hm'
    have A := a2 m' hm''
    have hm9 := w2 m' (by omega) (by omega)
    exact Mac1_mk (A.1.keep hF (by omega) rfl rfl rfl) (A.st.keep hF ⟨by omega, by omega, fun j hj => by omega⟩ rfl (fun _ _ => rfl) rfl (fun _ _ => rfl)) (A.gr.keep hF ⟨by omega, by omega, fun j hj => by omega⟩ rfl (fun _ _ => rfl) rfl (fun _ _ => ⟨rfl, rfl⟩))
  · have hr2 : (r' : Int) < S.2 23 := hr'
    by_cases z : r' = r
    · subst z
      unfold Rul1
      rw [e15, upZ_s]
      exact ⟨hup_s, hF _ _ _ (a4 r' hr2).2 (by omega)⟩
    · exact (a4 r' hr2).keep hF ⟨by omega, by omega⟩ rfl rfl rfl rfl rfl rfl (by rw [e15, upZ_n (by omega)])
/-- the base's column, its row -/
theorem CW.base {j : Nat} {v w : Int} (H : CW cI cO ee Tx9 P S X h) (hw : WFp S) (h9 : T9ok Tx9) (hj : j = 10 ∧ v % 6 = w ∧ v / 6 = S.2 28 / 6 ∨ j = 11 ∧ v % 6 = S.2 28 % 6 ∧ v / 6 = w) : CW cI cO ee Tx9 P (uG S 28 v) X (hup h (P 1) (1, .inr (12, (mnF P S X).set j (iV w)))) := by
  obtain ⟨a1, a2, a3, a4, a5, a6, a7, a8⟩ := H
  have hF : Fr (fun u => u = 1) h (hup h (P 1) (1, .inr (12, (mnF P S X).set j (iV w)))) := Fr.refl.up a1 rfl
  refine ⟨?_, a2.fr hF (by decide) (by decide), a3.fr hF (by decide) (by decide), a4.fr hF (fun u _ _ => by omega), a5.fr hF (by decide) (by decide), a6.fr hF (by decide), h9 P S (uG S 28 v) h _ _ rfl rfl hF (by decide) (by decide) a7, MrH.fr (S := S) a8 hw hF (fun u _ _ => by omega)⟩
  have e : mnF P (uG S 28 v) X = (mnF P S X).set j (iV w) := by
    rcases hj with ⟨rfl, h1, h2⟩ | ⟨rfl, h1, h2⟩
    · show [_, _, _, _, _, _, _, _, _, _, iV (v % 6), iV (v / 6), _] = [_, _, _, _, _, _, _, _, _, _, iV w, iV (S.2 28 / 6), _]
      rw [h1, h2]
      rfl
    · show [_, _, _, _, _, _, _, _, _, _, iV (v % 6), iV (v / 6), _] = [_, _, _, _, _, _, _, _, _, _, iV (S.2 28 % 6), iV w, _]
      rw [h1, h2]
      rfl
  unfold MnH
  rw [e]
  exact hup_s
end

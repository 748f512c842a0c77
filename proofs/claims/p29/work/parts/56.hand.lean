/-! a change by hand -/
def T7 : Nat → Prop := fun u => u < 900 ∨ 1100 ≤ u
def RelF (S X : MSt) : Prop := RelL S X ∧ RelH S X ∧ RelN X
/-- what holds between two calls -/
def Iv (S X : MSt) (b : Int) : Prop := MW S b ∧ KD S ∧ RM S ∧ RelF S X
section
variable {cI cO : ClassId} {ee : Nat × Nat} {Tx9 : (Nat → Nat) → MSt → Hp → Prop} {P P' : Nat → Nat} {S S' X X' : MSt} {h h' : Hp} {T : Nat → Prop}
theorem usT_st {m k : Nat} (hw : WFp S) (hm : m < 6) (hk : S.1 4 m = k) (hk10 : k < 10) {u : Nat} (hu : usT S u) : u ≠ 200 + 10 * m + k := by
  obtain ⟨w1, w2, w3, w4, w5, w6⟩ := hw
  intro q
  rcases hu with h | h | h | h | ⟨m', hm', h⟩ | ⟨r, hr, h⟩
  · omega
  · omega
  · omega
  · omega
  · have hm9 := w2 m' (by omega) (by omega)
    rcases h with h | h | h | h | h | ⟨k', hk', h⟩ | ⟨g, hg, h⟩
    · omega
    · omega
    · omega
    · omega
    · omega
    · have e : m' = m := by omega
      subst e
      omega
    · omega
  · rcases h with h | h <;> omega
theorem CW.mk2 (H : CW cI cO ee Tx9 P S X h) (hF : Fr T h h') (hT2 : ∀ u, u < 16 → ¬ T u) (p : ∀ u, u < 20 → P' u = P u) (h9 : T9ok Tx9) (hp9 : T9p Tx9) (e0 : S'.1 0 = S.1 0) (e21 : S'.1 21 = S.1 21) (e26 : S'.2 26 = S.2 26) (e27 : S'.2 27 = S.2 27) (e28 : S'.2 28 = S.2 28) (e30 : S'.2 30 = S.2 30) (M : MrH cO ee P' S' h') : CW cI cO ee Tx9 P' S' X h' := by
  obtain ⟨a1, a2, a3, a4, a5, a6, a7, a8⟩ := H
  have b4 := AuX.fr a4 hF (fun u _ _ => hT2 _ (by omega))
  refine ⟨?_, ?_, ?_, ?_, ?_, ?_, hp9 P P' S' h' (p _ (by omega)) (p _ (by omega)) (h9 P S S' h h' T e21 e30 hF (hT2 _ (by omega)) (hT2 _ (by omega)) a7), M⟩
  · have b := MnH.fr (X := X) a1 hF (hT2 _ (by omega))
    unfold MnH mnF at b ⊢
    rw [p 1 (by omega), p 2 (by omega), p 4 (by omega), p 16 (by omega), p 18 (by omega), p 6 (by omega), p 11 (by omega), p 14 (by omega), p 13 (by omega), e26, e27, e28]
    exact b
  · rw [p 2 (by omega), p 3 (by omega), e0]
    exact a2.fr hF (hT2 _ (by omega)) (hT2 _ (by omega))
  · rw [p 4 (by omega), p 5 (by omega)]
    exact a3.fr hF (hT2 _ (by omega)) (hT2 _ (by omega))
  · unfold AuX at b4 ⊢
    rw [p 6 (by omega)]
    obtain ⟨c1, c2, c3⟩ := b4
    refine ⟨?_, fun k hk => ?_, c3⟩
    · simp only [Nat.add_zero, Nat.reduceAdd] at c1 ⊢
      rw [p 7 (by omega), p 8 (by omega), p 9 (by omega), p 10 (by omega)]
      exact c1
    · have c := c2 k hk
      simp only at c ⊢
      rw [p (7 + k) (by omega)]
      exact c
  · rw [p 11 (by omega), p 12 (by omega)]
    exact a5.fr hF (hT2 _ (by omega)) (hT2 _ (by omega))
  · unfold DpX
    rw [p 13 (by omega)]
    exact DpX.fr (X := X) a6 hF (hT2 _ (by omega))
theorem MrH.recs {m k q : Nat} {a c1 r1 n md : Int} {q' : Nat} (H : MrH cO ee P S h) (hw : WFp S) (hrm : RM S) (hm : (m : Int) < S.2 22) (hk : S.1 4 m = k) (hk10 : k < 10) (hF : Fr (tL (110 + m)) h h') (hq : h q = some (200 + 10 * m + k, .inr (11, [iV a, iV c1, iV r1, iV n]))) (hl : LH cO ee (P (110 + m)) (110 + m) md (some q') (S.1 4 m + 1) (va_up (fstP P (200 + 10 * m) (S.1 4 m)) (S.1 4 m).toNat (some q)) h')
    (e4 : S'.1 4 = upZ (S.1 4) m (S.1 4 m + 1)) (e5 : S'.1 5 = upZ (S.1 5) (10 * m + k) a) (e6 : S'.1 6 = upZ (S.1 6) (10 * m + k) c1) (e7 : S'.1 7 = upZ (S.1 7) (10 * m + k) r1) (e8 : S'.1 8 = upZ (S.1 8) (10 * m + k) n) (e : ∀ j, 9 ≤ j → j < 16 → S'.1 j = S.1 j) (e22 : S'.2 22 = S.2 22) (e23 : S'.2 23 = S.2 23) : MrH cO ee (pUp P (200 + 10 * m + k) q) S' h' := by
  obtain ⟨a1, a2, a3, a4⟩ := H
  obtain ⟨w1, w2, w3, w4, w5, w6⟩ := id hw
  have hm6 : m < 6 := by omega
  have p : ∀ u, usT S u → pUp P (200 + 10 * m + k) q u = P u := fun u hu => pUp_n (usT_st hw hm6 hk hk10 hu)
  obtain ⟨u1, u2, u3, u4⟩ := usT_16 (S := S)
  have nt : ∀ u : Nat, u ≠ 110 + m → u ≠ 120 + m → ¬ tL (110 + m) u := fun u z1 z2 z => by
    unfold tL at z
    omega
  refine ⟨a1.keep hF ⟨nt _ (by omega) (by omega), nt _ (by omega) (by omega)⟩ (p _ u1) (fun j hj => p _ (usT_m hj).1) e22, fun m' hm' => ?_, a3.keep hF ⟨nt _ (by omega) (by omega), nt _ (by omega) (by omega)⟩ (p _ u3) (fun j hj => p _ (usT_r hj).1) e23, fun r hr => ?_⟩
  · rw [e22] at hm'
    have A := a2 m' hm'
    obtain ⟨v1, v2, v3, v4, v5, v6, v7⟩ := usT_m hm'
    have hm9 := w2 m' (by omega) (by omega)
    have G : GrP cO ee (pUp P (200 + 10 * m + k) q) S' m' h' := A.gr.keep hF ⟨nt _ (by omega) (by omega), nt _ (by omega) (by omega), fun g hg => nt _ (by omega) (by omega)⟩ (p _ v4) (fun g hg => p _ (v7 g hg)) (by rw [e 9 (by decide) (by decide)]) (fun g hg => by rw [e 10 (by decide) (by decide), e 11 (by decide) (by decide)]; exact ⟨rfl, rfl⟩)
    have M : MaH (pUp P (200 + 10 * m + k) q (100 + m')) (100 + m') m' (pUp P (200 + 10 * m + k) q (110 + m')) (pUp P (200 + 10 * m + k) q (130 + m')) h' := A.1.keep hF (nt _ (by omega) (by omega)) (p _ v1) (p _ v2) (p _ v4)
    by_cases z : m' = m
    · subst z
      refine Mac1_mk M ⟨⟨md, some q', ?_⟩, fun k' hk' => ?_⟩ G
      · rw [p _ v2, e4, upZ_s, ← fstP_push (P := P) (P' := pUp P (200 + 10 * m' + k) q) hk (fun i hi => p _ (v6 i hi)) pUp_s]
        exact hl
      · rw [e4, upZ_s] at hk'
        by_cases y : k' = k
        · subst y
          rw [pUp_s]
          have e9 : stF S' (10 * (m' : Int) + k') = [iV a, iV c1, iV r1, iV n] := by
            unfold stF
            rw [e5, e6, e7, e8, upZ_s, upZ_s, upZ_s, upZ_s]
          rw [e9]
          exact hF _ _ _ hq (nt _ (by omega) (by omega))
        · have e9 : stF S' (10 * (m' : Int) + k') = stF S (10 * (m' : Int) + k') := by
            unfold stF
            rw [e5, e6, e7, e8, upZ_n (by omega), upZ_n (by omega), upZ_n (by omega), upZ_n (by omega)]
          rw [e9, p _ (v6 k' (by omega))]
          exact hF _ _ _ (A.2.2.1 k' (by omega)) (nt _ (by omega) (by omega))
    · refine Mac1_mk M (A.st.keep hF ⟨nt _ (by omega) (by omega), nt _ (by omega) (by omega), fun j hj => nt _ (by omega) (by omega)⟩ (p _ v2) (fun j hj => p _ (v6 j hj)) (by rw [e4, upZ_n (by omega)]) (fun j hj => ?_)) G
      unfold stF
      rw [e5, e6, e7, e8, upZ_n (by omega), upZ_n (by omega), upZ_n (by omega), upZ_n (by omega)]
  · rw [e23] at hr
    have h14 := w4 r (by omega) (by omega)
    have hr14 := hrm r (by omega) hr
    obtain ⟨v1, v2⟩ := usT_r hr
    exact (a4 r hr).keep hF ⟨nt _ (by omega) (by omega), nt _ (by omega) (by omega)⟩ (p _ v1) (p _ v2) (p _ (usT_m (by omega)).1) (by rw [e 12 (by decide) (by decide)]) (by rw [e 13 (by decide) (by decide)]) (by rw [e 14 (by decide) (by decide)]) (by rw [e 15 (by decide) (by decide)])
end
theorem endsS_fst (C : MSt) (fr n : Int) : (endsS C fr n).1 = n := by
  unfold endsS
  split <;> rfl
theorem HW_o {S : MSt} (h : HW S) : HWo S (S.2 24) := ⟨h.1, h.2.1, h.2.2.1, h.2.2.2.1, h.2.2.2.2⟩
theorem ew_chain {S X X' : MSt} {fr : Int} (hA : AW S fr) (hH : RelH S X) (ho : HWo S fr) (hr : RelA (chX S fr) X' fr) (hx : xK X X') : EW (chX S fr) X' fr := by
  obtain ⟨c1, c2, c3, c4, c5, c6⟩ := AW_chX hA
  obtain ⟨b1, b2, b3, b4, b5, b6, b7, b8, b9⟩ := hA
  have e25 := c5 25 (by decide) (by decide)
  refine ⟨hr, ⟨by rw [hx.2.1, e25]; exact hH.1, fun k k0 k1 => ?_⟩, ⟨?_, ?_, ?_, ?_, fun k k0 k1 => ?_⟩, c2, by omega, by omega⟩
  · rw [e25] at k1
    rw [hx.2.2.1, c5 29 (by decide) (by decide), c6]
    exact hH.2 k k0 k1
  · rw [e25]; exact ho.1
  · rw [e25]; exact ho.2.1
  · rw [c6]; exact ho.2.2.1
  · rw [c6, e25]; exact ho.2.2.2.1
  · rw [e25] at k1
    rw [c6]
    exact ho.2.2.2.2 k k0 k1
theorem rel_beg {S S' X X' : MSt} (hL : RelL S X) (hx : xB X X') (e0 : S'.1 0 = S.1 0) (e2 : S'.1 2 = S.1 2) (e3 : S'.1 3 = S.1 3) (e16 : S'.1 16 = S.1 16) (e17 : S'.1 17 = S.1 17) (e18 : S'.1 18 = S.1 18) (e24 : S'.2 24 = S.2 24) (e29 : S'.2 29 = S.2 29) : RelA S' X' (S.2 24) := by
  refine ⟨(hL.g hx.2.2.2.2.2.2 hx.2.1).e e0 e2 e3 e16 e17 e18 e24 e29 rfl rfl rfl rfl rfl, ?_, fun i i0 i1 => by omega⟩
  rw [hx.1, e29]
  exact hL.1.1
theorem recS_c {S : MSt} {a x n : Int} {m : Nat} (hm : S.2 27 = (m : Int)) : recS S a x n = uA (uA (uA (uA (uA S 5 (10 * S.2 27 + S.1 4 (S.2 27)) a) 6 (10 * S.2 27 + S.1 4 (S.2 27)) (x % 6 - S.2 28 % 6)) 7 (10 * S.2 27 + S.1 4 (S.2 27)) (x / 6 - S.2 28 / 6)) 8 (10 * S.2 27 + S.1 4 (S.2 27)) n) 4 (S.2 27) (S.1 4 (S.2 27) + 1) := if_neg (by omega)
section
variable {l : Launch} {D : va_G} {cB cC cI cO cJ cD : ClassId} {ee : Nat × Nat} {Tx9 : (Nat → Nat) → MSt → Hp → Prop} {P : Nat → Nat} {S X : MSt}
theorem kX7_end (hwp : WFp S) (h9 : T9ok Tx9) {fr : Int} (hc9 : 0 ≤ X.2 25 ∧ X.2 25 ≤ 107520 ∧ 0 ≤ X.2 20 ∧ X.2 20 ≤ 107520) (hd : X.2 25 - X.2 20 = S.2 24 - fr) (hh7 : 0 ≤ X.2 27 ∧ X.2 27 ≤ 8) : Ct l yX7_endAction wsX7_endAction ({ frames := 4, cells := 0, slots := 0, locals := 90 } : Room) D (tyL cB cC cI cO cJ cD) ee [.ref (P 1)] (CW cI cO ee Tx9 P S X) (Ji fun h z9 h' => z9 = S.2 24 - fr ∧ CW cI cO ee Tx9 P S (endX S X fr) h' ∧ Fr (tC 11) h h') 0 0 := by
  by_cases hn : S.2 24 - fr ≤ 0
  · have e2 : endX S X fr = X := if_pos hn
    rw [e2]
    refine Ct_mono (kX7_endAction_n hwp h9 hc9 (by omega)) (fun h q => q) (fun h v h' hI hJ => ?_)
    obtain ⟨z, rfl, rfl, rfl⟩ := hJ
    exact ⟨_, rfl, hd, hI, Fr.refl⟩
  · have e2 : endX S X fr = XhF X (keepF (X.1 12) (X.2 27) (X.2 20)) (keepN (X.2 27)) := if_neg hn
    rw [e2]
    by_cases h8 : X.2 27 = 8
    · refine Ct_mono (kX7_endAction_b hwp h9 hc9 (by omega) h8) (fun h q => q) (fun h v h' hI hJ => ?_)
      obtain ⟨z, rfl, rfl, j1, j2⟩ := hJ
      exact ⟨_, rfl, hd, j1, j2⟩
    · refine Ct_mono (kX7_endAction_s hwp h9 hc9 (by omega) ⟨hh7.1, by omega⟩) (fun h q => q) (fun h v h' hI hJ => ?_)
      obtain ⟨z, rfl, rfl, j1, j2⟩ := hJ
      exact ⟨_, rfl, hd, j1, j2⟩
end

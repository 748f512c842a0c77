/-! the law's rows: the end of an action, an undoing, grants, rules -/
theorem upZ_self (f : Int → Int) (i : Int) : upZ f i (f i) = f := funext fun z => by
  unfold upZ
  split
  · rename_i q; rw [q]
  · rfl
section
variable {f f' g g' : Int → Int} {S S' C : MSt}
theorem NRm.s (h : NRm f S) (e : ∀ k, 4 ≤ k → k < 12 → S'.1 k = S.1 k) : NRm f S' := by
  simp only [NRm, e 4 (by decide) (by decide), e 5 (by decide) (by decide), e 6 (by decide) (by decide), e 7 (by decide) (by decide), e 8 (by decide) (by decide), e 9 (by decide) (by decide), e 10 (by decide) (by decide), e 11 (by decide) (by decide)] at h ⊢
  exact h
theorem NRr.s (h : NRr f S) (e : ∀ k, 12 ≤ k → k < 16 → S'.1 k = S.1 k) (e2 : S'.2 23 = S.2 23) : NRr f S' := by
  simp only [NRr, e 12 (by decide) (by decide), e 13 (by decide) (by decide), e 14 (by decide) (by decide), e 15 (by decide) (by decide), e2] at h ⊢
  exact h
theorem NR.ends {fr : Int} (h : NR f g C) (hw : WFp C) (hh : HWo C fr) (hfr : fr < C.2 24) (h29 : 0 ≤ C.2 29 ∧ C.2 29 + C.2 24 ≤ 107520) (h55 : f 55 < 80) : NR (upZ (upZ (upZ f (460 + f 55) (C.2 29 + fr)) 55 (f 55 + 1)) 57 (if f 57 < 8 then f 57 + 1 else 8)) g (endsS C fr (C.2 24 - fr)).2 := by
  obtain ⟨⟨r1, r2⟩, hc, hm, hr, ⟨n50, n51, n52, n53, n54, n56, n57⟩, hi, hl⟩ := h
  have w5 := hw.2.2.2.2.1
  have e1 := endsS_1 C fr (C.2 24 - fr)
  have e2 := endsS_2 C fr (C.2 24 - fr)
  have lo := HWo_lo hh (C.2 25).toNat (by have := hh.1; omega)
  rw [show (((C.2 25).toNat : Nat) : Int) = C.2 25 by have := hh.1; omega, hh.2.2.2.1] at lo
  have i1 := hi.1
  have h0 := hh.1
  have h8 := hh.2.1
  have hn9 : ¬ C.2 24 - fr ≤ 0 := by omega
  have key : (endsS C fr (C.2 24 - fr)).2.2 29 + (endsS C fr (C.2 24 - fr)).2.2 24 = C.2 29 + C.2 24 ∧ (endsS C fr (C.2 24 - fr)).2.2 25 = (if C.2 25 < 8 then C.2 25 + 1 else 8) ∧ (∀ j, 0 ≤ j → j < (endsS C fr (C.2 24 - fr)).2.2 25 - 1 → (endsS C fr (C.2 24 - fr)).2.2 29 + (endsS C fr (C.2 24 - fr)).2.1 20 j = C.2 29 + C.1 20 (C.2 25 - ((endsS C fr (C.2 24 - fr)).2.2 25 - 1) + j)) ∧ (endsS C fr (C.2 24 - fr)).2.2 29 + (endsS C fr (C.2 24 - fr)).2.1 20 ((endsS C fr (C.2 24 - fr)).2.2 25 - 1) = C.2 29 + fr ∧ (∀ k, 0 ≤ k → k < (endsS C fr (C.2 24 - fr)).2.2 24 → ∀ i, i = 16 ∨ i = 17 ∨ i = 18 ∨ i = 19 → (endsS C fr (C.2 24 - fr)).2.1 i k = C.1 i (C.2 24 - (endsS C fr (C.2 24 - fr)).2.2 24 + k)) ∧ (endsS C fr (C.2 24 - fr)).2.2 24 ≤ C.2 24 := by
    by_cases q : C.2 25 = 8
    · have d1 := hh.2.2.2.2 0 (by omega) (by omega)
      rw [hh.2.2.1] at d1
      have d1' : 0 ≤ C.1 20 1 := by have := d1.1; rw [Int.zero_add] at this; omega
      rw [ends_8 hn9 q (by rw [← hh.2.2.2.1])]
      have s25 := setlS_25 C
      have s24 := setlS_24 C
      have s29 := setl_29 C
      show (setlS C).2 29 + (setlS C).2 24 = _ ∧ (setlS C).2 25 + 1 = _ ∧ (∀ j, 0 ≤ j → j < (setlS C).2 25 + 1 - 1 → (setlS C).2 29 + upZ ((setlS C).1 20) ((setlS C).2 25 + 1) ((setlS C).2 24) j = C.2 29 + C.1 20 (C.2 25 - ((setlS C).2 25 + 1 - 1) + j)) ∧ (setlS C).2 29 + upZ ((setlS C).1 20) ((setlS C).2 25 + 1) ((setlS C).2 24) ((setlS C).2 25 + 1 - 1) = C.2 29 + fr ∧ (∀ k, 0 ≤ k → k < (setlS C).2 24 → ∀ i, i = 16 ∨ i = 17 ∨ i = 18 ∨ i = 19 → (uA (uG (setlS C) 25 ((setlS C).2 25 + 1)) 20 ((setlS C).2 25 + 1) ((setlS C).2 24)).1 i k = C.1 i (C.2 24 - (setlS C).2 24 + k)) ∧ (setlS C).2 24 ≤ C.2 24
      refine ⟨by omega, by rw [if_neg (by omega)]; omega, fun j j0 j1 => ?_, ?_, fun k k0 k1 i hi => ?_, by omega⟩
      · rw [upZ_n (by omega), setl_20 C q j j0 (by omega), show C.2 25 - ((setlS C).2 25 + 1 - 1) + j = j + 1 by omega]
        omega
      · rw [upZ_n (by omega), setl_20 C q _ (by omega) (by omega), show (setlS C).2 25 + 1 - 1 + 1 = C.2 25 by omega, hh.2.2.2.1]
        omega
      · rw [uA_n _ (by omega), uG_1, setl_log C i hi d1' k k0 (by omega), show C.2 24 - (setlS C).2 24 + k = k + C.1 20 1 by omega]
    · rw [ends_lt hn9 q hh.2.2.2.1]
      show C.2 29 + C.2 24 = _ ∧ C.2 25 + 1 = _ ∧ (∀ j, 0 ≤ j → j < C.2 25 + 1 - 1 → C.2 29 + upZ (C.1 20) (C.2 25 + 1) (C.2 24) j = C.2 29 + C.1 20 (C.2 25 - (C.2 25 + 1 - 1) + j)) ∧ C.2 29 + upZ (C.1 20) (C.2 25 + 1) (C.2 24) (C.2 25 + 1 - 1) = C.2 29 + fr ∧ (∀ k, 0 ≤ k → k < C.2 24 → ∀ i, i = 16 ∨ i = 17 ∨ i = 18 ∨ i = 19 → (uA (uG C 25 (C.2 25 + 1)) 20 (C.2 25 + 1) (C.2 24)).1 i k = C.1 i (C.2 24 - C.2 24 + k)) ∧ C.2 24 ≤ C.2 24
      refine ⟨rfl, by rw [if_pos (by omega)], fun j j0 j1 => ?_, ?_, fun k k0 k1 i hi => ?_, Int.le_refl _⟩
      · rw [upZ_n (by omega), show C.2 25 - (C.2 25 + 1 - 1) + j = j by omega]
      · rw [upZ_n (by omega), show C.2 25 + 1 - 1 = C.2 25 by omega, hh.2.2.2.1]
      · rw [uA_n _ (by omega), uG_1, show C.2 24 - C.2 24 + k = k by omega]
  generalize hD : (endsS C fr (C.2 24 - fr)).2 = D at *
  obtain ⟨k29, k25, k20, k21, kl, k24⟩ := key
  have v57 : (if f 57 < 8 then f 57 + 1 else 8) = D.2 25 := by rw [k25, n57]
  rw [v57]
  have d25 : D.2 25 ≤ 8 ∧ 1 ≤ D.2 25 ∧ D.2 25 ≤ C.2 25 + 1 := by
    rw [k25]
    split <;> omega
  refine ⟨⟨((r1.up (Or.inr (by omega))).up (Or.inr (by omega))).up (Or.inr (by omega)), r2⟩, ?_, ?_, ?_, ⟨?_, ?_, ?_, ?_, ?_, ?_, ?_⟩, ⟨?_, fun j j0 j1 => ?_⟩, fun k k0 k1 => ?_⟩
  · have := hc.fc (f' := upZ (upZ (upZ f (460 + f 55) (C.2 29 + fr)) 55 (f 55 + 1)) 57 (D.2 25)) (fun z a b => by rw [upZ_n (by omega), upZ_n (by omega), upZ_n (by omega)])
    unfold NRc
    rw [e1 0 (by decide)]
    exact this
  · exact (hm.fc (f' := upZ (upZ (upZ f (460 + f 55) (C.2 29 + fr)) 55 (f 55 + 1)) 57 (D.2 25)) hw (fun z a b => by rw [upZ_n (by omega), upZ_n (by omega), upZ_n (by omega)])).s (fun k a b => e1 k (by omega))
  · exact (hr.fc (f' := upZ (upZ (upZ f (460 + f 55) (C.2 29 + fr)) 55 (f 55 + 1)) 57 (D.2 25)) (by omega) (fun z a b => by rw [upZ_n (by omega), upZ_n (by omega), upZ_n (by omega)])).s (fun k a b => e1 k (by omega)) (e2 23 (by decide))
  · rw [upZ_n (by omega), upZ_n (by omega), upZ_n (by omega), e2 22 (by decide)]; exact n50
  · rw [upZ_n (by omega), upZ_n (by omega), upZ_n (by omega), e2 23 (by decide)]; exact n51
  · rw [upZ_n (by omega), upZ_n (by omega), upZ_n (by omega), e2 27 (by decide)]; exact n52
  · rw [upZ_n (by omega), upZ_n (by omega), upZ_n (by omega), e2 28 (by decide)]; exact n53
  · rw [upZ_n (by omega), upZ_n (by omega), upZ_n (by omega), e2 26 (by decide)]; exact n54
  · rw [upZ_n (by omega), upZ_n (by omega), upZ_n (by omega), k29]; exact n56
  · rw [upZ_s]
  · rw [upZ_n (by omega), upZ_s]; omega
  · rw [show upZ (upZ (upZ f (460 + f 55) (C.2 29 + fr)) 55 (f 55 + 1)) 57 (D.2 25) 55 = f 55 + 1 by rw [upZ_n (by omega), upZ_s], upZ_n (by omega), upZ_n (by omega)]
    by_cases q : j = D.2 25 - 1
    · rw [q, k21, show 460 + (f 55 + 1) - D.2 25 + (D.2 25 - 1) = 460 + f 55 by omega, upZ_s]
    · rw [upZ_n (by omega), k20 j j0 (by omega)]
      have := hi.2 (C.2 25 - (D.2 25 - 1) + j) (by omega) (by omega)
      rw [← this]
      congr 1
      omega
  · obtain ⟨a1, a2, a3, a4⟩ := hl (C.2 24 - D.2 24 + k) (by omega) (by omega)
    rw [show C.2 29 + (C.2 24 - D.2 24 + k) = D.2 29 + k by omega] at a1 a2 a3 a4
    rw [kl k k0 k1 16 (by omega), kl k k0 k1 17 (by omega), kl k k0 k1 18 (by omega), kl k k0 k1 19 (by omega)]
    exact ⟨a1, a2, a3, a4⟩
/-- an undoing begins -/
theorem NR.un0 (h : NR f g S) (hw : WFp S) (hp : 0 < S.2 25) (h55 : f 55 < 80) (h8 : S.2 25 ≤ 8) : NR (upZ (upZ f 57 (f 57 - 1)) 55 (f 55 - 1)) g (uG S 25 (S.2 25 - 1)) := by
  obtain ⟨⟨r1, r2⟩, hc, hm, hr, ⟨n50, n51, n52, n53, n54, n56, n57⟩, hi, hl⟩ := h
  have w5 := hw.2.2.2.2.1
  have i1 := hi.1
  refine ⟨⟨(r1.up (Or.inr (by omega))).up (Or.inr (by omega)), r2⟩, NRc.fc (S := S) hc (fun z a b => by rw [upZ_n (by omega), upZ_n (by omega)]), NRm.fc (S := S) hm hw (fun z a b => by rw [upZ_n (by omega), upZ_n (by omega)]), NRr.fc (S := S) hr (by omega) (fun z a b => by rw [upZ_n (by omega), upZ_n (by omega)]), ⟨?_, ?_, ?_, ?_, ?_, ?_, ?_⟩, ⟨?_, fun j j0 j1 => ?_⟩, hl⟩
  · rw [upZ_n (by omega), upZ_n (by omega)]; exact n50
  · rw [upZ_n (by omega), upZ_n (by omega)]; exact n51
  · rw [upZ_n (by omega), upZ_n (by omega)]; exact n52
  · rw [upZ_n (by omega), upZ_n (by omega)]; exact n53
  · rw [upZ_n (by omega), upZ_n (by omega)]; exact n54
  · rw [upZ_n (by omega), upZ_n (by omega)]; exact n56
  · rw [upZ_n (by omega), upZ_s]
    show f 57 - 1 = S.2 25 - 1
    omega
  · rw [upZ_s]
    show S.2 25 - 1 ≤ f 55 - 1
    omega
  · have j2 : j < S.2 25 - 1 := j1
    rw [show upZ (upZ f 57 (f 57 - 1)) 55 (f 55 - 1) 55 = f 55 - 1 from upZ_s]
    show upZ (upZ f 57 (f 57 - 1)) 55 (f 55 - 1) (460 + (f 55 - 1) - (S.2 25 - 1) + j) = S.2 29 + S.1 20 j
    rw [upZ_n (by omega), upZ_n (by omega), ← hi.2 j j0 (by omega)]
    congr 1
    omega
/-- one change back; the count is told ahead -/
theorem NR.un1 (h : NR (upZ f 56 (S.2 29 + S.2 24)) g S) (hw : WFp S) (hl : WFl S) (hp : 0 < S.2 24) (h29 : 0 ≤ S.2 29 ∧ S.2 29 + S.2 24 < 15000) : f (8 * (S.1 16 (S.2 24 - 1) % 6) + S.1 16 (S.2 24 - 1) / 6) = S.1 0 (S.1 16 (S.2 24 - 1)) ∧ g (4 * (S.2 29 + (S.2 24 - 1))) = 8 * (S.1 16 (S.2 24 - 1) % 6) + S.1 16 (S.2 24 - 1) / 6 ∧ g (4 * (S.2 29 + (S.2 24 - 1)) + 1) = S.1 17 (S.2 24 - 1) ∧ NR (upZ (upZ f (8 * (S.1 16 (S.2 24 - 1) % 6) + S.1 16 (S.2 24 - 1) / 6) (S.1 17 (S.2 24 - 1))) 56 (S.2 29 + (S.2 24 - 1))) g (uA (uG S 24 (S.2 24 - 1)) 0 (S.1 16 (S.2 24 - 1)) (S.1 17 (S.2 24 - 1))) := by
  obtain ⟨⟨r1, r2⟩, hc, hm, hr, ⟨n50, n51, n52, n53, n54, n56, n57⟩, hi, hg⟩ := h
  have w5 := hw.2.2.2.2.1
  obtain ⟨x0, x1, -⟩ := hl.2 (S.2 24 - 1) (by omega) (by omega)
  obtain ⟨a1, a2, a3, a4⟩ := hg (S.2 24 - 1) (by omega) (by omega)
  generalize hx : S.1 16 (S.2 24 - 1) = x at *
  have ec := hc x x0 x1
  rw [upZ_n (by omega)] at ec
  refine ⟨ec, a1, a2, ⟨?_, r2⟩, fun y y0 y1 => ?_, ?_, ?_, ⟨?_, ?_, ?_, ?_, ?_, ?_, ?_⟩, ?_, fun k k0 k1 => ?_⟩
  · intro z hz
    have := r1 z hz
    have hv : rI (S.1 17 (S.2 24 - 1)) := by rw [← a2]; exact r2 _
    unfold upZ at this ⊢
    split
    · omega
    · rename_i q
      rw [if_neg q] at this
      split
      · exact hv
      · exact this
  · show upZ (upZ f (8 * (x % 6) + x / 6) (S.1 17 (S.2 24 - 1))) 56 (S.2 29 + (S.2 24 - 1)) (8 * (y % 6) + y / 6) = upZ (S.1 0) x (S.1 17 (S.2 24 - 1)) y
    rw [upZ_n (by omega)]
    by_cases q : y = x
    · rw [q, upZ_s, upZ_s]
    · rw [upZ_n (by omega), upZ_n q]
      have := hc y y0 y1
      rw [upZ_n (by omega)] at this
      exact this
  · exact NRm.fc (S := S) hm hw (fun z a b => by rw [upZ_n (by omega), upZ_n (by omega), upZ_n (by omega)])
  · exact NRr.fc (S := S) hr (by omega) (fun z a b => by rw [upZ_n (by omega), upZ_n (by omega), upZ_n (by omega)])
  · rw [upZ_n (by omega)] at n50; rw [upZ_n (by omega), upZ_n (by omega)]; exact n50
  · rw [upZ_n (by omega)] at n51; rw [upZ_n (by omega), upZ_n (by omega)]; exact n51
  · rw [upZ_n (by omega)] at n52; rw [upZ_n (by omega), upZ_n (by omega)]; exact n52
  · rw [upZ_n (by omega)] at n53; rw [upZ_n (by omega), upZ_n (by omega)]; exact n53
  · rw [upZ_n (by omega)] at n54; rw [upZ_n (by omega), upZ_n (by omega)]; exact n54
  · rw [upZ_s]; rfl
  · rw [upZ_n (by omega)] at n57; rw [upZ_n (by omega), upZ_n (by omega)]; exact n57
  · exact NRh.fc (S := S) hi (by rw [upZ_n (by omega), upZ_n (by omega), upZ_n (by omega)]) (fun z a => by rw [upZ_n (by omega), upZ_n (by omega), upZ_n (by omega)])
  · have k2 : k < S.2 24 - 1 := k1
    exact hg k k0 (by omega)
theorem NR.drop {m : Int} (h : NR f g S) (hw : WFp S) (hm9 : 0 ≤ m ∧ m < 6) : NR (upZ f (60 + 60 * m) 0) g (uA S 4 m 0) := by
  obtain ⟨⟨r1, r2⟩, hc, hm, hr, ⟨n50, n51, n52, n53, n54, n56, n57⟩, hi, hl⟩ := h
  have w5 := hw.2.2.2.2.1
  refine ⟨⟨r1.up (Or.inr (by decide)), r2⟩, NRc.fc (S := S) hc (fun z a b => by rw [upZ_n (by omega)]), fun j j0 j1 => ?_, NRr.fc (S := S) hr (by omega) (fun z a b => by rw [upZ_n (by omega)]), ⟨?_, ?_, ?_, ?_, ?_, ?_, ?_⟩, NRh.fc (S := S) hi (by rw [upZ_n (by omega)]) (fun z a => by rw [upZ_n (by omega)]), hl⟩
  · obtain ⟨h1, h2, h3, h4⟩ := hm j j0 j1
    have w2 := hw.2.1 j j0 j1
    refine ⟨?_, ?_, fun k k0 k1 => ?_, fun i i0 i1 => ?_⟩
    · show upZ f (60 + 60 * m) 0 (60 + 60 * j) = upZ (S.1 4) m 0 j
      by_cases q : j = m
      · rw [q, upZ_s, upZ_s]
      · rw [upZ_n (by omega), upZ_n q]; exact h1
    · rw [upZ_n (by omega)]; exact h2
    · have k2 : k < upZ (S.1 4) m 0 j := k1
      have k3 : k < S.1 4 j := by
        unfold upZ at k2
        split at k2 <;> omega
      rw [upZ_n (by omega), upZ_n (by omega), upZ_n (by omega), upZ_n (by omega)]
      exact h3 k k0 k3
    · have i2 : i < S.1 9 j := i1
      rw [upZ_n (by omega), upZ_n (by omega), upZ_n (by omega), upZ_n (by omega)]
      exact h4 i i0 i2
  · rw [upZ_n (by omega)]; exact n50
  · rw [upZ_n (by omega)]; exact n51
  · rw [upZ_n (by omega)]; exact n52
  · rw [upZ_n (by omega)]; exact n53
  · rw [upZ_n (by omega)]; exact n54
  · rw [upZ_n (by omega)]; exact n56
  · rw [upZ_n (by omega)]; exact n57
theorem NR.take {m : Int} (h : NR f g S) (hw : WFp S) (hm9 : 0 ≤ m ∧ m < 6) : NR (upZ f (60 + 60 * m + 1) 0) g (uA S 9 m 0) := by
  obtain ⟨⟨r1, r2⟩, hc, hm, hr, ⟨n50, n51, n52, n53, n54, n56, n57⟩, hi, hl⟩ := h
  have w5 := hw.2.2.2.2.1
  refine ⟨⟨r1.up (Or.inr (by decide)), r2⟩, NRc.fc (S := S) hc (fun z a b => by rw [upZ_n (by omega)]), fun j j0 j1 => ?_, NRr.fc (S := S) hr (by omega) (fun z a b => by rw [upZ_n (by omega)]), ⟨?_, ?_, ?_, ?_, ?_, ?_, ?_⟩, NRh.fc (S := S) hi (by rw [upZ_n (by omega)]) (fun z a => by rw [upZ_n (by omega)]), hl⟩
  · obtain ⟨h1, h2, h3, h4⟩ := hm j j0 j1
    have w2 := hw.2.1 j j0 j1
    refine ⟨?_, ?_, fun k k0 k1 => ?_, fun i i0 i1 => ?_⟩
    · rw [upZ_n (by omega)]; exact h1
    · show upZ f (60 + 60 * m + 1) 0 (60 + 60 * j + 1) = upZ (S.1 9) m 0 j
      by_cases q : j = m
      · rw [q, upZ_s, upZ_s]
      · rw [upZ_n (by omega), upZ_n q]; exact h2
    · have k2 : k < S.1 4 j := k1
      rw [upZ_n (by omega), upZ_n (by omega), upZ_n (by omega), upZ_n (by omega)]
      exact h3 k k0 k2
    · have i2 : i < upZ (S.1 9) m 0 j := i1
      have i3 : i < S.1 9 j := by
        unfold upZ at i2
        split at i2 <;> omega
      rw [upZ_n (by omega), upZ_n (by omega), upZ_n (by omega), upZ_n (by omega)]
      exact h4 i i0 i3
  · rw [upZ_n (by omega)]; exact n50
  · rw [upZ_n (by omega)]; exact n51
  · rw [upZ_n (by omega)]; exact n52
  · rw [upZ_n (by omega)]; exact n53
  · rw [upZ_n (by omega)]; exact n54
  · rw [upZ_n (by omega)]; exact n56
  · rw [upZ_n (by omega)]; exact n57
theorem NR.grant {m c r c2 r2 : Int} (h : NR f g S) (hw : WFp S) (hm9 : 0 ≤ m ∧ m < 6) (h4 : S.1 9 m < 4) (hc9 : 0 ≤ c ∧ c < 6) (hr9 : 0 ≤ r ∧ r < 8) (hd9 : 0 ≤ c2 ∧ c2 < 6) (he9 : 0 ≤ r2 ∧ r2 < 8) : NR (upZ (upZ (upZ (upZ (upZ f (60 + 60 * m + 42 + 4 * S.1 9 m) c) (60 + 60 * m + 42 + 4 * S.1 9 m + 1) r) (60 + 60 * m + 42 + 4 * S.1 9 m + 2) c2) (60 + 60 * m + 42 + 4 * S.1 9 m + 3) r2) (60 + 60 * m + 1) (S.1 9 m + 1)) g (uA (uA (uA S 10 (4 * m + S.1 9 m) (6 * r + c)) 11 (4 * m + S.1 9 m) (6 * r2 + c2)) 9 m (S.1 9 m + 1)) := by
  obtain ⟨⟨r1, r9⟩, hc, hm, hr, ⟨n50, n51, n52, n53, n54, n56, n57⟩, hi, hl⟩ := h
  have w5 := hw.2.2.2.2.1
  have w9 := hw.2.1 m hm9.1 hm9.2
  refine ⟨⟨((((r1.up (Or.inr (by omega))).up (Or.inr (by omega))).up (Or.inr (by omega))).up (Or.inr (by omega))).up (Or.inr (by omega)), r9⟩, NRc.fc (S := S) hc (fun z a b => by rw [upZ_n (by omega), upZ_n (by omega), upZ_n (by omega), upZ_n (by omega), upZ_n (by omega)]), fun j j0 j1 => ?_, NRr.fc (S := S) hr (by omega) (fun z a b => by rw [upZ_n (by omega), upZ_n (by omega), upZ_n (by omega), upZ_n (by omega), upZ_n (by omega)]), ⟨?_, ?_, ?_, ?_, ?_, ?_, ?_⟩, NRh.fc (S := S) hi (by rw [upZ_n (by omega), upZ_n (by omega), upZ_n (by omega), upZ_n (by omega), upZ_n (by omega)]) (fun z a => by rw [upZ_n (by omega), upZ_n (by omega), upZ_n (by omega), upZ_n (by omega), upZ_n (by omega)]), hl⟩
  · obtain ⟨h1, h2, h3, h5⟩ := hm j j0 j1
    have w2 := hw.2.1 j j0 j1
    refine ⟨?_, ?_, fun k k0 k1 => ?_, fun i i0 i1 => ?_⟩
    · rw [upZ_n (by omega), upZ_n (by omega), upZ_n (by omega), upZ_n (by omega), upZ_n (by omega)]; exact h1
    · show upZ _ (60 + 60 * m + 1) (S.1 9 m + 1) (60 + 60 * j + 1) = upZ (S.1 9) m (S.1 9 m + 1) j
      by_cases q : j = m
      · rw [q, upZ_s, upZ_s]
      · rw [upZ_n (by omega), upZ_n (by omega), upZ_n (by omega), upZ_n (by omega), upZ_n (by omega), upZ_n q]; exact h2
    · have k2 : k < S.1 4 j := k1
      obtain ⟨a1, a2, a3, a4⟩ := h3 k k0 k2
      refine ⟨?_, ?_, ?_, ?_⟩
      · rw [upZ_n (by omega), upZ_n (by omega), upZ_n (by omega), upZ_n (by omega), upZ_n (by omega)]; exact a1
      · rw [upZ_n (by omega), upZ_n (by omega), upZ_n (by omega), upZ_n (by omega), upZ_n (by omega)]; exact a2
      · rw [upZ_n (by omega), upZ_n (by omega), upZ_n (by omega), upZ_n (by omega), upZ_n (by omega)]; exact a3
      · rw [upZ_n (by omega), upZ_n (by omega), upZ_n (by omega), upZ_n (by omega), upZ_n (by omega)]; exact a4
    · have i2 : i < upZ (S.1 9) m (S.1 9 m + 1) j := i1
      show _ = upZ (S.1 10) (4 * m + S.1 9 m) (6 * r + c) (4 * j + i) % 6 ∧ _ = upZ (S.1 10) (4 * m + S.1 9 m) (6 * r + c) (4 * j + i) / 6 ∧ _ = upZ (S.1 11) (4 * m + S.1 9 m) (6 * r2 + c2) (4 * j + i) % 6 ∧ _ = upZ (S.1 11) (4 * m + S.1 9 m) (6 * r2 + c2) (4 * j + i) / 6
      by_cases q : j = m ∧ i = S.1 9 m
      · rw [q.1, q.2, upZ_s, upZ_s]
        refine ⟨?_, ?_, ?_, ?_⟩
        · rw [upZ_n (by omega), upZ_n (by omega), upZ_n (by omega), upZ_n (by omega), upZ_s]; omega
        · rw [upZ_n (by omega), upZ_n (by omega), upZ_n (by omega), upZ_s]; omega
        · rw [upZ_n (by omega), upZ_n (by omega), upZ_s]; omega
        · rw [upZ_n (by omega), upZ_s]; omega
      · have i3 : i < S.1 9 j := by
          unfold upZ at i2
          split at i2
          · rename_i q2
            rw [q2] at q ⊢
            omega
          · exact i2
        have hne : ¬ 4 * j + i = 4 * m + S.1 9 m := by omega
        rw [upZ_n hne, upZ_n hne]
        obtain ⟨a1, a2, a3, a4⟩ := h5 i i0 i3
        refine ⟨?_, ?_, ?_, ?_⟩
        · rw [upZ_n (by omega), upZ_n (by omega), upZ_n (by omega), upZ_n (by omega), upZ_n (by omega)]; exact a1
        · rw [upZ_n (by omega), upZ_n (by omega), upZ_n (by omega), upZ_n (by omega), upZ_n (by omega)]; exact a2
        · rw [upZ_n (by omega), upZ_n (by omega), upZ_n (by omega), upZ_n (by omega), upZ_n (by omega)]; exact a3
        · rw [upZ_n (by omega), upZ_n (by omega), upZ_n (by omega), upZ_n (by omega), upZ_n (by omega)]; exact a4
  · rw [upZ_n (by omega), upZ_n (by omega), upZ_n (by omega), upZ_n (by omega), upZ_n (by omega)]; exact n50
  · rw [upZ_n (by omega), upZ_n (by omega), upZ_n (by omega), upZ_n (by omega), upZ_n (by omega)]; exact n51
  · rw [upZ_n (by omega), upZ_n (by omega), upZ_n (by omega), upZ_n (by omega), upZ_n (by omega)]; exact n52
  · rw [upZ_n (by omega), upZ_n (by omega), upZ_n (by omega), upZ_n (by omega), upZ_n (by omega)]; exact n53
  · rw [upZ_n (by omega), upZ_n (by omega), upZ_n (by omega), upZ_n (by omega), upZ_n (by omega)]; exact n54
  · rw [upZ_n (by omega), upZ_n (by omega), upZ_n (by omega), upZ_n (by omega), upZ_n (by omega)]; exact n56
  · rw [upZ_n (by omega), upZ_n (by omega), upZ_n (by omega), upZ_n (by omega), upZ_n (by omega)]; exact n57
theorem NR.rank {q k : Int} (h : NR f g S) (hw : WFp S) (hq : 0 ≤ q ∧ q < S.2 23) (hk : rI k) : NR (upZ f (420 + 6 * q + 5) k) g (uA S 15 q k) := by
  obtain ⟨⟨r1, r2⟩, hc, hm, hr, ⟨n50, n51, n52, n53, n54, n56, n57⟩, hi, hl⟩ := h
  have w5 := hw.2.2.2.2.1
  refine ⟨⟨r1.up (Or.inr hk), r2⟩, NRc.fc (S := S) hc (fun z a b => by rw [upZ_n (by omega)]), NRm.fc (S := S) hm hw (fun z a b => by rw [upZ_n (by omega)]), fun j j0 j1 => ?_, ⟨?_, ?_, ?_, ?_, ?_, ?_, ?_⟩, NRh.fc (S := S) hi (by rw [upZ_n (by omega)]) (fun z a => by rw [upZ_n (by omega)]), hl⟩
  · have j2 : j < S.2 23 := j1
    obtain ⟨a1, a2, a3, a4, a5, a6⟩ := hr j j0 j2
    refine ⟨?_, ?_, ?_, ?_, ?_, ?_⟩
    · rw [upZ_n (by omega)]; exact a1
    · rw [upZ_n (by omega)]; exact a2
    · rw [upZ_n (by omega)]; exact a3
    · rw [upZ_n (by omega)]; exact a4
    · rw [upZ_n (by omega)]; exact a5
    · show upZ f (420 + 6 * q + 5) k (420 + 6 * j + 5) = upZ (S.1 15) q k j
      by_cases e : j = q
      · rw [e, upZ_s, upZ_s]
      · rw [upZ_n (by omega), upZ_n e]; exact a6
  · rw [upZ_n (by omega)]; exact n50
  · rw [upZ_n (by omega)]; exact n51
  · rw [upZ_n (by omega)]; exact n52
  · rw [upZ_n (by omega)]; exact n53
  · rw [upZ_n (by omega)]; exact n54
  · rw [upZ_n (by omega)]; exact n56
  · rw [upZ_n (by omega)]; exact n57
theorem NR.rule {m k c r c2 r2 : Int} (h : NR f g S) (hw : WFp S) (h6 : S.2 23 < 6) (hm9 : rI m) (hk : rI k) (hc9 : 0 ≤ c ∧ c < 6) (hr9 : 0 ≤ r ∧ r < 8) (hd9 : 0 ≤ c2 ∧ c2 < 6) (he9 : 0 ≤ r2 ∧ r2 < 8) : NR (upZ (upZ (upZ (upZ (upZ (upZ (upZ f (420 + 6 * S.2 23) c) (420 + 6 * S.2 23 + 1) r) (420 + 6 * S.2 23 + 2) c2) (420 + 6 * S.2 23 + 3) r2) (420 + 6 * S.2 23 + 4) m) (420 + 6 * S.2 23 + 5) k) 51 (S.2 23 + 1)) g (uG (uA (uA (uA (uA S 12 (S.2 23) (6 * r + c)) 13 (S.2 23) (6 * r2 + c2)) 14 (S.2 23) m) 15 (S.2 23) k) 23 (S.2 23 + 1)) := by
  obtain ⟨⟨r1, r9⟩, hc, hm, hr, ⟨n50, n51, n52, n53, n54, n56, n57⟩, hi, hl⟩ := h
  have w5 := hw.2.2.2.2.1
  refine ⟨⟨((((((r1.up (Or.inr (by omega))).up (Or.inr (by omega))).up (Or.inr (by omega))).up (Or.inr (by omega))).up (Or.inr hm9)).up (Or.inr hk)).up (Or.inr (by omega)), r9⟩, NRc.fc (S := S) hc (fun z a b => by rw [upZ_n (by omega), upZ_n (by omega), upZ_n (by omega), upZ_n (by omega), upZ_n (by omega), upZ_n (by omega), upZ_n (by omega)]), NRm.fc (S := S) hm hw (fun z a b => by rw [upZ_n (by omega), upZ_n (by omega), upZ_n (by omega), upZ_n (by omega), upZ_n (by omega), upZ_n (by omega), upZ_n (by omega)]), fun q q0 q1 => ?_, ⟨?_, ?_, ?_, ?_, ?_, ?_, ?_⟩, NRh.fc (S := S) hi (by rw [upZ_n (by omega), upZ_n (by omega), upZ_n (by omega), upZ_n (by omega), upZ_n (by omega), upZ_n (by omega), upZ_n (by omega)]) (fun z a => by rw [upZ_n (by omega), upZ_n (by omega), upZ_n (by omega), upZ_n (by omega), upZ_n (by omega), upZ_n (by omega), upZ_n (by omega)]), hl⟩
  · have q2 : q < S.2 23 + 1 := q1
    show _ = upZ (S.1 12) (S.2 23) (6 * r + c) q % 6 ∧ _ = upZ (S.1 12) (S.2 23) (6 * r + c) q / 6 ∧ _ = upZ (S.1 13) (S.2 23) (6 * r2 + c2) q % 6 ∧ _ = upZ (S.1 13) (S.2 23) (6 * r2 + c2) q / 6 ∧ _ = upZ (S.1 14) (S.2 23) m q ∧ _ = upZ (S.1 15) (S.2 23) k q
    by_cases e : q = S.2 23
    · rw [e, upZ_s, upZ_s, upZ_s, upZ_s]
      refine ⟨?_, ?_, ?_, ?_, ?_, ?_⟩
      · rw [upZ_n (by omega), upZ_n (by omega), upZ_n (by omega), upZ_n (by omega), upZ_n (by omega), upZ_n (by omega), upZ_s]; omega
      · rw [upZ_n (by omega), upZ_n (by omega), upZ_n (by omega), upZ_n (by omega), upZ_n (by omega), upZ_s]; omega
      · rw [upZ_n (by omega), upZ_n (by omega), upZ_n (by omega), upZ_n (by omega), upZ_s]; omega
      · rw [upZ_n (by omega), upZ_n (by omega), upZ_n (by omega), upZ_s]; omega
      · rw [upZ_n (by omega), upZ_n (by omega), upZ_s]
      · rw [upZ_n (by omega), upZ_s]
    · obtain ⟨a1, a2, a3, a4, a5, a6⟩ := hr q q0 (by omega)
      rw [upZ_n e, upZ_n e, upZ_n e, upZ_n e]
      refine ⟨?_, ?_, ?_, ?_, ?_, ?_⟩
      · rw [upZ_n (by omega), upZ_n (by omega), upZ_n (by omega), upZ_n (by omega), upZ_n (by omega), upZ_n (by omega), upZ_n (by omega)]; exact a1
      · rw [upZ_n (by omega), upZ_n (by omega), upZ_n (by omega), upZ_n (by omega), upZ_n (by omega), upZ_n (by omega), upZ_n (by omega)]; exact a2
      · rw [upZ_n (by omega), upZ_n (by omega), upZ_n (by omega), upZ_n (by omega), upZ_n (by omega), upZ_n (by omega), upZ_n (by omega)]; exact a3
      · rw [upZ_n (by omega), upZ_n (by omega), upZ_n (by omega), upZ_n (by omega), upZ_n (by omega), upZ_n (by omega), upZ_n (by omega)]; exact a4
      · rw [upZ_n (by omega), upZ_n (by omega), upZ_n (by omega), upZ_n (by omega), upZ_n (by omega), upZ_n (by omega), upZ_n (by omega)]; exact a5
      · rw [upZ_n (by omega), upZ_n (by omega), upZ_n (by omega), upZ_n (by omega), upZ_n (by omega), upZ_n (by omega), upZ_n (by omega)]; exact a6
  · rw [upZ_n (by omega), upZ_n (by omega), upZ_n (by omega), upZ_n (by omega), upZ_n (by omega), upZ_n (by omega), upZ_n (by omega)]; exact n50
  · rw [upZ_s]; rfl
  · rw [upZ_n (by omega), upZ_n (by omega), upZ_n (by omega), upZ_n (by omega), upZ_n (by omega), upZ_n (by omega), upZ_n (by omega)]; exact n52
  · rw [upZ_n (by omega), upZ_n (by omega), upZ_n (by omega), upZ_n (by omega), upZ_n (by omega), upZ_n (by omega), upZ_n (by omega)]; exact n53
  · rw [upZ_n (by omega), upZ_n (by omega), upZ_n (by omega), upZ_n (by omega), upZ_n (by omega), upZ_n (by omega), upZ_n (by omega)]; exact n54
  · rw [upZ_n (by omega), upZ_n (by omega), upZ_n (by omega), upZ_n (by omega), upZ_n (by omega), upZ_n (by omega), upZ_n (by omega)]; exact n56
  · rw [upZ_n (by omega), upZ_n (by omega), upZ_n (by omega), upZ_n (by omega), upZ_n (by omega), upZ_n (by omega), upZ_n (by omega)]; exact n57
end

/-! the law's two rows of numbers against the state: cells column by column, numbers 50..57, macros from 60 on, rules from 420 on, the actions' starts from 460 on; the log four to an entry -/
def rgA (f : Int → Int) : Prop := ∀ z, z ≠ 54 → rI (f z)
def NRc (f : Int → Int) (S : MSt) : Prop := ∀ x, 0 ≤ x → x < 48 → f (8 * (x % 6) + x / 6) = S.1 0 x
def NRm (f : Int → Int) (S : MSt) : Prop := ∀ m, 0 ≤ m → m < 6 → f (60 + 60 * m) = S.1 4 m ∧ f (60 + 60 * m + 1) = S.1 9 m
  ∧ (∀ k, 0 ≤ k → k < S.1 4 m → f (60 + 60 * m + 2 + 4 * k) = S.1 5 (10 * m + k) ∧ f (60 + 60 * m + 2 + 4 * k + 1) = S.1 6 (10 * m + k) ∧ f (60 + 60 * m + 2 + 4 * k + 2) = S.1 7 (10 * m + k) ∧ f (60 + 60 * m + 2 + 4 * k + 3) = S.1 8 (10 * m + k))
  ∧ (∀ j, 0 ≤ j → j < S.1 9 m → f (60 + 60 * m + 42 + 4 * j) = S.1 10 (4 * m + j) % 6 ∧ f (60 + 60 * m + 42 + 4 * j + 1) = S.1 10 (4 * m + j) / 6 ∧ f (60 + 60 * m + 42 + 4 * j + 2) = S.1 11 (4 * m + j) % 6 ∧ f (60 + 60 * m + 42 + 4 * j + 3) = S.1 11 (4 * m + j) / 6)
def NRr (f : Int → Int) (S : MSt) : Prop := ∀ q, 0 ≤ q → q < S.2 23 → f (420 + 6 * q) = S.1 12 q % 6 ∧ f (420 + 6 * q + 1) = S.1 12 q / 6 ∧ f (420 + 6 * q + 2) = S.1 13 q % 6 ∧ f (420 + 6 * q + 3) = S.1 13 q / 6 ∧ f (420 + 6 * q + 4) = S.1 14 q ∧ f (420 + 6 * q + 5) = S.1 15 q
def NRn (f : Int → Int) (S : MSt) : Prop := f 50 = S.2 22 ∧ f 51 = S.2 23 ∧ f 52 = S.2 27 + 1 ∧ f 53 = 8 * (S.2 28 % 6) + S.2 28 / 6 ∧ f 54 = S.2 26 ∧ f 56 = S.2 29 + S.2 24 ∧ f 57 = S.2 25
def NRh (f : Int → Int) (S : MSt) : Prop := S.2 25 ≤ f 55 ∧ ∀ j, 0 ≤ j → j < S.2 25 → f (460 + f 55 - S.2 25 + j) = S.2 29 + S.1 20 j
def NRl (g : Int → Int) (S : MSt) : Prop := ∀ k, 0 ≤ k → k < S.2 24 → g (4 * (S.2 29 + k)) = 8 * (S.1 16 k % 6) + S.1 16 k / 6 ∧ g (4 * (S.2 29 + k) + 1) = S.1 17 k ∧ g (4 * (S.2 29 + k) + 2) = S.1 18 k ∧ g (4 * (S.2 29 + k) + 3) = S.1 19 k
def NR (f g : Int → Int) (S : MSt) : Prop := (rgA f ∧ ∀ z, rI (g z)) ∧ NRc f S ∧ NRm f S ∧ NRr f S ∧ NRn f S ∧ NRh f S ∧ NRl g S
section
variable {f f' g g' : Int → Int} {S S' : MSt}
theorem rgA.up {i v : Int} (h : rgA f) (hv : i = 54 ∨ rI v) : rgA (upZ f i v) := by
  intro z hz
  unfold upZ
  split
  · rename_i q
    rcases hv with hv | hv
    · exact absurd (q.trans hv) hz
    · exact hv
  · exact h z hz
theorem rgZ_up {i v : Int} (h : ∀ z, rI (g z)) (hv : rI v) : ∀ z, rI (upZ g i v z) := by
  intro z
  unfold upZ
  split
  · exact hv
  · exact h z
theorem NRc.fc (h : NRc f S) (e : ∀ z, 0 ≤ z → z < 48 → f' z = f z) : NRc f' S := fun x a b => by
  rw [e _ (by omega) (by omega)]
  exact h x a b
theorem NRm.fc (h : NRm f S) (hw : WFp S) (e : ∀ z, 60 ≤ z → z < 420 → f' z = f z) : NRm f' S := fun m a b => by
  have w2 := hw.2.1 m a b
  obtain ⟨h1, h2, h3, h4⟩ := h m a b
  refine ⟨?_, ?_, fun k k0 k1 => ?_, fun j j0 j1 => ?_⟩
  · rw [e _ (by omega) (by omega)]; exact h1
  · rw [e _ (by omega) (by omega)]; exact h2
  · rw [e _ (by omega) (by omega), e _ (by omega) (by omega), e _ (by omega) (by omega), e _ (by omega) (by omega)]; exact h3 k k0 k1
  · rw [e _ (by omega) (by omega), e _ (by omega) (by omega), e _ (by omega) (by omega), e _ (by omega) (by omega)]; exact h4 j j0 j1
theorem NRr.fc (h : NRr f S) (hq : S.2 23 ≤ 6) (e : ∀ z, 420 ≤ z → z < 456 → f' z = f z) : NRr f' S := fun q a b => by
  rw [e _ (by omega) (by omega), e _ (by omega) (by omega), e _ (by omega) (by omega), e _ (by omega) (by omega), e _ (by omega) (by omega), e _ (by omega) (by omega)]
  exact h q a b
theorem NRh.fc (h : NRh f S) (e5 : f' 55 = f 55) (e : ∀ z, 460 ≤ z → f' z = f z) : NRh f' S := ⟨by rw [e5]; exact h.1, fun j a b => by
  have := h.1
  rw [e5, e _ (by omega)]
  exact h.2 j a b⟩
/-- what the rows do not tell may change -/
theorem NR.cg (h : NR f g S) (e1 : ∀ k, k ≠ 1 → k ≠ 2 → k ≠ 3 → k ≠ 21 → S'.1 k = S.1 k) (e2 : ∀ k, k ≠ 30 → k ≠ 31 → S'.2 k = S.2 k) : NR f g S' := by
  simp only [NR, NRc, NRm, NRr, NRn, NRh, NRl, e1 0 (by decide) (by decide) (by decide) (by decide), e1 4 (by decide) (by decide) (by decide) (by decide), e1 5 (by decide) (by decide) (by decide) (by decide), e1 6 (by decide) (by decide) (by decide) (by decide), e1 7 (by decide) (by decide) (by decide) (by decide), e1 8 (by decide) (by decide) (by decide) (by decide), e1 9 (by decide) (by decide) (by decide) (by decide), e1 10 (by decide) (by decide) (by decide) (by decide), e1 11 (by decide) (by decide) (by decide) (by decide), e1 12 (by decide) (by decide) (by decide) (by decide), e1 13 (by decide) (by decide) (by decide) (by decide), e1 14 (by decide) (by decide) (by decide) (by decide), e1 15 (by decide) (by decide) (by decide) (by decide), e1 16 (by decide) (by decide) (by decide) (by decide), e1 17 (by decide) (by decide) (by decide) (by decide), e1 18 (by decide) (by decide) (by decide) (by decide), e1 19 (by decide) (by decide) (by decide) (by decide), e1 20 (by decide) (by decide) (by decide) (by decide), e2 22 (by decide) (by decide), e2 23 (by decide) (by decide), e2 24 (by decide) (by decide), e2 25 (by decide) (by decide), e2 26 (by decide) (by decide), e2 27 (by decide) (by decide), e2 28 (by decide) (by decide), e2 29 (by decide) (by decide)] at h ⊢
  exact h
theorem NR.e1 (h : NR f g S) (E : E1 S S') : NR f g S' := h.cg (fun k a _ _ _ => E.1 k a) (fun k _ _ => by rw [E.2])
theorem NR.c (h : NR f g S) {c r : Int} (hc : 0 ≤ c ∧ c < 6) (hr : 0 ≤ r ∧ r < 8) : f (8 * c + r) = S.1 0 (6 * r + c) := by
  have e := h.2.1 (6 * r + c) (by omega) (by omega)
  rw [show (6 * r + c) % 6 = c by omega, show (6 * r + c) / 6 = r by omega] at e
  exact e
theorem NR.rg (h : NR f g S) {z : Int} (hz : z ≠ 54) : rI (f z) := h.1.1 z hz
/-- a change -/
theorem NR.bec {x v w dp : Int} (h : NR f g S) (hw : WFp S) (h0 : 0 ≤ S.2 29 ∧ 0 ≤ S.2 24 ∧ S.2 29 + S.2 24 < 15000) (hx : 0 ≤ x ∧ x < 48) (hv : rI v) (hb : rI w) (hd : rI dp) (hne : S.1 0 x ≠ v) : NR (upZ (upZ f 56 (f 56 + 1)) (8 * (x % 6) + x / 6) v) (upZ (upZ (upZ (upZ g (4 * f 56) (8 * (x % 6) + x / 6)) (4 * f 56 + 1) (f (8 * (x % 6) + x / 6))) (4 * f 56 + 2) w) (4 * f 56 + 3) dp) (becS S x v w dp) := by
  obtain ⟨⟨r1, r2⟩, hc, hm, hr, ⟨n50, n51, n52, n53, n54, n56, n57⟩, hh, hl⟩ := h
  have w5 := hw.2.2.2.2.1
  rw [show becS S x v w dp = _ from if_neg hne]
  have ec := hc x hx.1 hx.2
  refine ⟨⟨(r1.up (Or.inr (by omega))).up (Or.inr hv), rgZ_up (rgZ_up (rgZ_up (rgZ_up r2 (by omega)) (r1 _ (by omega))) hb) hd⟩, fun y y0 y1 => ?_, ?_, ?_, ?_, ?_, fun k k0 k1 => ?_⟩
  · show upZ (upZ f 56 (f 56 + 1)) (8 * (x % 6) + x / 6) v (8 * (y % 6) + y / 6) = upZ (S.1 0) x v y
    by_cases q : y = x
    · rw [q, upZ_s, upZ_s]
    · rw [upZ_n (by omega), upZ_n (by omega), upZ_n q]
      exact hc y y0 y1
  · exact hm.fc hw (fun z a b => by rw [upZ_n (by omega), upZ_n (by omega)])
  · exact hr.fc (by omega) (fun z a b => by rw [upZ_n (by omega), upZ_n (by omega)])
  · refine ⟨?_, ?_, ?_, ?_, ?_, ?_, ?_⟩
    · rw [upZ_n (by omega), upZ_n (by omega)]; exact n50
    · rw [upZ_n (by omega), upZ_n (by omega)]; exact n51
    · rw [upZ_n (by omega), upZ_n (by omega)]; exact n52
    · rw [upZ_n (by omega), upZ_n (by omega)]; exact n53
    · rw [upZ_n (by omega), upZ_n (by omega)]; exact n54
    · rw [upZ_n (by omega), upZ_s]
      show f 56 + 1 = S.2 29 + (S.2 24 + 1)
      omega
    · rw [upZ_n (by omega), upZ_n (by omega)]; exact n57
  · exact NRh.fc (S := S) hh (by rw [upZ_n (by omega), upZ_n (by omega)]) (fun z a => by rw [upZ_n (by omega), upZ_n (by omega)])
  · have k2 : k < S.2 24 + 1 := k1
    show upZ (upZ (upZ (upZ g (4 * f 56) (8 * (x % 6) + x / 6)) (4 * f 56 + 1) (f (8 * (x % 6) + x / 6))) (4 * f 56 + 2) w) (4 * f 56 + 3) dp (4 * (S.2 29 + k)) = 8 * (upZ (S.1 16) (S.2 24) x k % 6) + upZ (S.1 16) (S.2 24) x k / 6
      ∧ upZ (upZ (upZ (upZ g (4 * f 56) (8 * (x % 6) + x / 6)) (4 * f 56 + 1) (f (8 * (x % 6) + x / 6))) (4 * f 56 + 2) w) (4 * f 56 + 3) dp (4 * (S.2 29 + k) + 1) = upZ (S.1 17) (S.2 24) (S.1 0 x) k
      ∧ upZ (upZ (upZ (upZ g (4 * f 56) (8 * (x % 6) + x / 6)) (4 * f 56 + 1) (f (8 * (x % 6) + x / 6))) (4 * f 56 + 2) w) (4 * f 56 + 3) dp (4 * (S.2 29 + k) + 2) = upZ (S.1 18) (S.2 24) w k
      ∧ upZ (upZ (upZ (upZ g (4 * f 56) (8 * (x % 6) + x / 6)) (4 * f 56 + 1) (f (8 * (x % 6) + x / 6))) (4 * f 56 + 2) w) (4 * f 56 + 3) dp (4 * (S.2 29 + k) + 3) = upZ (S.1 19) (S.2 24) dp k
    by_cases q : k = S.2 24
    · rw [q, ← n56, upZ_s, upZ_s, upZ_s, upZ_s, upZ_s, upZ_n (by omega), upZ_n (by omega), upZ_n (by omega), upZ_s, upZ_n (by omega), upZ_n (by omega), upZ_s, upZ_n (by omega), upZ_s]
      exact ⟨rfl, ec, rfl, rfl⟩
    · obtain ⟨a1, a2, a3, a4⟩ := hl k k0 (by omega)
      refine ⟨?_, ?_, ?_, ?_⟩
      · rw [upZ_n (by omega), upZ_n (by omega), upZ_n (by omega), upZ_n (by omega), upZ_n q]; exact a1
      · rw [upZ_n (by omega), upZ_n (by omega), upZ_n (by omega), upZ_n (by omega), upZ_n q]; exact a2
      · rw [upZ_n (by omega), upZ_n (by omega), upZ_n (by omega), upZ_n (by omega), upZ_n q]; exact a3
      · rw [upZ_n (by omega), upZ_n (by omega), upZ_n (by omega), upZ_n (by omega), upZ_n q]; exact a4
/-- a step is recorded -/
theorem NR.rec_ {a x n : Int} (h : NR f g S) (hw : WFp S) (hm9 : 0 ≤ S.2 27) (h4 : S.1 4 (S.2 27) < 10) (hx : 0 ≤ x ∧ x < 48) (ha : rI a) (hn : rI n) : NR (upZ (upZ (upZ (upZ (upZ f (60 + 60 * S.2 27 + 2 + 4 * S.1 4 (S.2 27)) a) (60 + 60 * S.2 27 + 2 + 4 * S.1 4 (S.2 27) + 1) (x % 6 - S.2 28 % 6)) (60 + 60 * S.2 27 + 2 + 4 * S.1 4 (S.2 27) + 2) (x / 6 - S.2 28 / 6)) (60 + 60 * S.2 27 + 2 + 4 * S.1 4 (S.2 27) + 3) n) (60 + 60 * S.2 27) (S.1 4 (S.2 27) + 1)) g (recS S a x n) := by
  obtain ⟨⟨r1, r2⟩, hc, hm, hr, ⟨n50, n51, n52, n53, n54, n56, n57⟩, hh, hl⟩ := h
  have w5 := hw.2.2.2.2.1
  have w2 := hw.2.1 (S.2 27) hm9 (by omega)
  rw [show recS S a x n = _ from if_neg (by omega)]
  refine ⟨⟨((((r1.up (Or.inr ha)).up (Or.inr (by omega))).up (Or.inr (by omega))).up (Or.inr hn)).up (Or.inr (by omega)), r2⟩, ?_, fun m m0 m1 => ?_, ?_, ⟨?_, ?_, ?_, ?_, ?_, ?_, ?_⟩, ?_, hl⟩
  · exact NRc.fc (S := S) hc (fun z a b => by rw [upZ_n (by omega), upZ_n (by omega), upZ_n (by omega), upZ_n (by omega), upZ_n (by omega)])
  · obtain ⟨h1, h2, h3, h5⟩ := hm m m0 m1
    have w2m := hw.2.1 m m0 m1
    refine ⟨?_, ?_, fun k k0 k1 => ?_, fun j j0 j1 => ?_⟩
    · show upZ _ (60 + 60 * S.2 27) _ (60 + 60 * m) = upZ (S.1 4) (S.2 27) (S.1 4 (S.2 27) + 1) m
      by_cases q : m = S.2 27
      · rw [q, upZ_s, upZ_s]
      · rw [upZ_n (by omega), upZ_n (by omega), upZ_n (by omega), upZ_n (by omega), upZ_n (by omega), upZ_n q]; exact h1
    · rw [upZ_n (by omega), upZ_n (by omega), upZ_n (by omega), upZ_n (by omega), upZ_n (by omega)]; exact h2
    · have k2 : k < upZ (S.1 4) (S.2 27) (S.1 4 (S.2 27) + 1) m := k1
      show _ = upZ (S.1 5) (10 * S.2 27 + S.1 4 (S.2 27)) a (10 * m + k) ∧ _ = upZ (S.1 6) (10 * S.2 27 + S.1 4 (S.2 27)) (x % 6 - S.2 28 % 6) (10 * m + k) ∧ _ = upZ (S.1 7) (10 * S.2 27 + S.1 4 (S.2 27)) (x / 6 - S.2 28 / 6) (10 * m + k) ∧ _ = upZ (S.1 8) (10 * S.2 27 + S.1 4 (S.2 27)) n (10 * m + k)
      by_cases q : m = S.2 27 ∧ k = S.1 4 (S.2 27)
      · rw [q.1, q.2, upZ_s, upZ_s, upZ_s, upZ_s]
        refine ⟨?_, ?_, ?_, ?_⟩
        · rw [upZ_n (by omega), upZ_n (by omega), upZ_n (by omega), upZ_n (by omega), upZ_s]
        · rw [upZ_n (by omega), upZ_n (by omega), upZ_n (by omega), upZ_s]
        · rw [upZ_n (by omega), upZ_n (by omega), upZ_s]
        · rw [upZ_n (by omega), upZ_s]
      · have k3 : k < S.1 4 m := by
          unfold upZ at k2
          split at k2
          · rename_i q2
            rw [q2] at q ⊢
            omega
          · exact k2
        have hne : ¬ 10 * m + k = 10 * S.2 27 + S.1 4 (S.2 27) := by omega
        rw [upZ_n hne, upZ_n hne, upZ_n hne, upZ_n hne]
        obtain ⟨a1, a2, a3, a4⟩ := h3 k k0 k3
        refine ⟨?_, ?_, ?_, ?_⟩
        · rw [upZ_n (by omega), upZ_n (by omega), upZ_n (by omega), upZ_n (by omega), upZ_n (by omega)]; exact a1
        · rw [upZ_n (by omega), upZ_n (by omega), upZ_n (by omega), upZ_n (by omega), upZ_n (by omega)]; exact a2
        · rw [upZ_n (by omega), upZ_n (by omega), upZ_n (by omega), upZ_n (by omega), upZ_n (by omega)]; exact a3
        · rw [upZ_n (by omega), upZ_n (by omega), upZ_n (by omega), upZ_n (by omega), upZ_n (by omega)]; exact a4
    · have j2 : j < S.1 9 m := j1
      obtain ⟨a1, a2, a3, a4⟩ := h5 j j0 j2
      refine ⟨?_, ?_, ?_, ?_⟩
      · rw [upZ_n (by omega), upZ_n (by omega), upZ_n (by omega), upZ_n (by omega), upZ_n (by omega)]; exact a1
      · rw [upZ_n (by omega), upZ_n (by omega), upZ_n (by omega), upZ_n (by omega), upZ_n (by omega)]; exact a2
      · rw [upZ_n (by omega), upZ_n (by omega), upZ_n (by omega), upZ_n (by omega), upZ_n (by omega)]; exact a3
      · rw [upZ_n (by omega), upZ_n (by omega), upZ_n (by omega), upZ_n (by omega), upZ_n (by omega)]; exact a4
  · exact NRr.fc (S := S) hr (by omega) (fun z a b => by rw [upZ_n (by omega), upZ_n (by omega), upZ_n (by omega), upZ_n (by omega), upZ_n (by omega)])
  · rw [upZ_n (by omega), upZ_n (by omega), upZ_n (by omega), upZ_n (by omega), upZ_n (by omega)]; exact n50
  · rw [upZ_n (by omega), upZ_n (by omega), upZ_n (by omega), upZ_n (by omega), upZ_n (by omega)]; exact n51
  · rw [upZ_n (by omega), upZ_n (by omega), upZ_n (by omega), upZ_n (by omega), upZ_n (by omega)]; exact n52
  · rw [upZ_n (by omega), upZ_n (by omega), upZ_n (by omega), upZ_n (by omega), upZ_n (by omega)]; exact n53
  · rw [upZ_n (by omega), upZ_n (by omega), upZ_n (by omega), upZ_n (by omega), upZ_n (by omega)]; exact n54
  · rw [upZ_n (by omega), upZ_n (by omega), upZ_n (by omega), upZ_n (by omega), upZ_n (by omega)]; exact n56
  · rw [upZ_n (by omega), upZ_n (by omega), upZ_n (by omega), upZ_n (by omega), upZ_n (by omega)]; exact n57
  · exact NRh.fc (S := S) hh (by rw [upZ_n (by omega), upZ_n (by omega), upZ_n (by omega), upZ_n (by omega), upZ_n (by omega)]) (fun z a => by rw [upZ_n (by omega), upZ_n (by omega), upZ_n (by omega), upZ_n (by omega), upZ_n (by omega)])
/-- one of the numbers 50..57 but 55 changes -/
theorem NR.num {i v : Int} (h : NR f g S) (hw : WFp S) (hi : 50 ≤ i ∧ i < 58 ∧ i ≠ 55) (hv : i = 54 ∨ rI v) (E : S'.1 = S.1) (e23 : S'.2 23 = S.2 23) (e24 : S'.2 24 = S.2 24) (e25 : S'.2 25 = S.2 25) (e29 : S'.2 29 = S.2 29) (hn : NRn (upZ f i v) S') : NR (upZ f i v) g S' := by
  obtain ⟨⟨r1, r2⟩, hc, hm, hr, -, hh, hl⟩ := h
  have w5 := hw.2.2.2.2.1
  refine ⟨⟨r1.up hv, r2⟩, ?_, ?_, ?_, hn, ?_, ?_⟩
  · have := hc.fc (f' := upZ f i v) (fun z a b => upZ_n (by omega))
    unfold NRc
    rw [E]
    exact this
  · have := hm.fc (f' := upZ f i v) hw (fun z a b => upZ_n (by omega))
    unfold NRm
    rw [E]
    exact this
  · have := hr.fc (f' := upZ f i v) (by omega) (fun z a b => upZ_n (by omega))
    unfold NRr
    rw [E, e23]
    exact this
  · have := hh.fc (f' := upZ f i v) (upZ_n (by omega)) (fun z a => upZ_n (by omega))
    unfold NRh
    rw [E, e25, e29]
    exact this
  · unfold NRl
    rw [E, e24, e29]
    exact hl
theorem NR.skip (h : NR f g S) (hw : WFp S) : NR (upZ f 54 (f 54 + 1)) g (uG S 26 (S.2 26 + 1)) := by
  obtain ⟨n50, n51, n52, n53, n54, n56, n57⟩ := h.2.2.2.2.1
  refine h.num (S' := uG S 26 (S.2 26 + 1)) hw (by decide) (Or.inl rfl) rfl rfl rfl rfl rfl ⟨?_, ?_, ?_, ?_, ?_, ?_, ?_⟩
  · rw [upZ_n (by decide)]; exact n50
  · rw [upZ_n (by decide)]; exact n51
  · rw [upZ_n (by decide)]; exact n52
  · rw [upZ_n (by decide)]; exact n53
  · rw [upZ_s]
    show f 54 + 1 = S.2 26 + 1
    rw [n54]
  · rw [upZ_n (by decide)]; exact n56
  · rw [upZ_n (by decide)]; exact n57
theorem NR.s27 {w v : Int} (h : NR f g S) (hw : WFp S) (hv : v = w + 1) (hr : rI v) : NR (upZ f 52 v) g (uG S 27 w) := by
  obtain ⟨n50, n51, n52, n53, n54, n56, n57⟩ := h.2.2.2.2.1
  refine h.num (S' := uG S 27 w) hw (by decide) (Or.inr hr) rfl rfl rfl rfl rfl ⟨?_, ?_, ?_, ?_, ?_, ?_, ?_⟩
  · rw [upZ_n (by decide)]; exact n50
  · rw [upZ_n (by decide)]; exact n51
  · rw [upZ_s]; exact hv
  · rw [upZ_n (by decide)]; exact n53
  · rw [upZ_n (by decide)]; exact n54
  · rw [upZ_n (by decide)]; exact n56
  · rw [upZ_n (by decide)]; exact n57
theorem NR.s28 {x v : Int} (h : NR f g S) (hw : WFp S) (hx : 0 ≤ x ∧ x < 48) (hv : v = 8 * (x % 6) + x / 6) : NR (upZ f 53 v) g (uG S 28 x) := by
  obtain ⟨n50, n51, n52, n53, n54, n56, n57⟩ := h.2.2.2.2.1
  refine h.num (S' := uG S 28 x) hw (by decide) (Or.inr (by omega)) rfl rfl rfl rfl rfl ⟨?_, ?_, ?_, ?_, ?_, ?_, ?_⟩
  · rw [upZ_n (by decide)]; exact n50
  · rw [upZ_n (by decide)]; exact n51
  · rw [upZ_n (by decide)]; exact n52
  · rw [upZ_s]; exact hv
  · rw [upZ_n (by decide)]; exact n54
  · rw [upZ_n (by decide)]; exact n56
  · rw [upZ_n (by decide)]; exact n57
theorem NR.s22 (h : NR f g S) (hw : WFp S) : NR (upZ f 50 (f 50 + 1)) g (uG S 22 (S.2 22 + 1)) := by
  have w5 := hw.2.2.2.2.1
  obtain ⟨n50, n51, n52, n53, n54, n56, n57⟩ := h.2.2.2.2.1
  refine h.num (S' := uG S 22 (S.2 22 + 1)) hw (by decide) (Or.inr (by omega)) rfl rfl rfl rfl rfl ⟨?_, ?_, ?_, ?_, ?_, ?_, ?_⟩
  · rw [upZ_s]
    show f 50 + 1 = S.2 22 + 1
    rw [n50]
  · rw [upZ_n (by decide)]; exact n51
  · rw [upZ_n (by decide)]; exact n52
  · rw [upZ_n (by decide)]; exact n53
  · rw [upZ_n (by decide)]; exact n54
  · rw [upZ_n (by decide)]; exact n56
  · rw [upZ_n (by decide)]; exact n57
end

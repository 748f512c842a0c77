/-! macros and rules as they are made and changed; an action's begin with growth -/
def T9p (Tx9 : (Nat → Nat) → MSt → Hp → Prop) : Prop := ∀ (P P' : Nat → Nat) (S : MSt) (h : Hp), P' 14 = P 14 → P' 15 = P 15 → Tx9 P S h → Tx9 P' S h
def pUp (P : Nat → Nat) (t q : Nat) : Nat → Nat := fun u => if u = t then q else P u
theorem pUp_s {P : Nat → Nat} {t q : Nat} : pUp P t q t = q := if_pos rfl
theorem pUp_n {P : Nat → Nat} {t q u : Nat} (n : u ≠ t) : pUp P t q u = P u := if_neg n
theorem fstP_c {P P' : Nat → Nat} {b : Nat} {n : Int} (h : ∀ i : Nat, (i : Int) < n → P' (b + i) = P (b + i)) : fstP P' b n = fstP P b n := by
  funext i
  unfold fstP
  by_cases q : (i : Int) < n
  · rw [if_pos q, if_pos q, h i q]
  · rw [if_neg q, if_neg q]
theorem fstP_push {P P' : Nat → Nat} {b : Nat} {n : Int} {q k : Nat} (hk : n = k) (h : ∀ i : Nat, (i : Int) < n → P' (b + i) = P (b + i)) (hq : P' (b + k) = q) : va_up (fstP P b n) n.toNat (some q) = fstP P' b (n + 1) := by
  subst hk
  funext i
  unfold va_up fstP
  rw [Int.toNat_natCast]
  by_cases e : i = k
  · rw [if_pos e, if_pos (by omega), e, hq]
  · rw [if_neg e]
    by_cases e2 : (i : Int) < (k : Int)
    · rw [if_pos e2, if_pos (by omega), h i e2]
    · rw [if_neg e2, if_neg (by omega)]
theorem fstP_none {P : Nat → Nat} {b : Nat} {n : Int} : (fun i : Nat => if i < n.toNat then none else fstP P b n i) = fstP P b 0 := by
  funext i
  unfold fstP
  rw [if_neg (show ¬ (i : Int) < 0 by omega)]
  by_cases e : i < n.toNat
  · rw [if_pos e]
  · rw [if_neg e, if_neg (by omega)]
section
variable {cI cO : ClassId} {ee : Nat × Nat} {Tx9 : (Nat → Nat) → MSt → Hp → Prop} {P P' : Nat → Nat} {S S' X X' : MSt} {h h' : Hp} {T : Nat → Prop}
def StP (cO : ClassId) (ee : Nat × Nat) (P : Nat → Nat) (S : MSt) (m : Nat) (h : Hp) : Prop := (∃ md ar, LH cO ee (P (110 + m)) (110 + m) md ar (S.1 4 m) (fstP P (200 + 10 * m) (S.1 4 m)) h) ∧ ∀ k : Nat, (k : Int) < S.1 4 m → h (P (200 + 10 * m + k)) = some (200 + 10 * m + k, .inr (11, stF S (10 * m + k)))
def GrP (cO : ClassId) (ee : Nat × Nat) (P : Nat → Nat) (S : MSt) (m : Nat) (h : Hp) : Prop := (∃ md ar, LH cO ee (P (130 + m)) (130 + m) md ar (S.1 9 m) (fstP P (300 + 4 * m) (S.1 9 m)) h) ∧ ∀ g : Nat, (g : Int) < S.1 9 m → h (P (300 + 4 * m + g)) = some (300 + 4 * m + g, .inr (9, rgF (S.1 10 (4 * m + g)) (S.1 11 (4 * m + g))))
theorem Mac1_mk {m : Nat} (a : MaH (P (100 + m)) (100 + m) m (P (110 + m)) (P (130 + m)) h) (b : StP cO ee P S m h) (c : GrP cO ee P S m h) : Mac1 cO ee P S m h := ⟨a, b.1, b.2, c.1, c.2⟩
theorem Mac1.st {m : Nat} (H : Mac1 cO ee P S m h) : StP cO ee P S m h := ⟨H.2.1, H.2.2.1⟩
theorem Mac1.gr {m : Nat} (H : Mac1 cO ee P S m h) : GrP cO ee P S m h := ⟨H.2.2.2.1, H.2.2.2.2⟩
theorem StP.keep {m : Nat} (H : StP cO ee P S m h) (hF : Fr T h h') (hT : ¬ T (110 + m) ∧ ¬ T (120 + m) ∧ ∀ k : Nat, (k : Int) < S.1 4 m → ¬ T (200 + 10 * m + k)) (p1 : P' (110 + m) = P (110 + m)) (p2 : ∀ k : Nat, (k : Int) < S.1 4 m → P' (200 + 10 * m + k) = P (200 + 10 * m + k)) (e4 : S'.1 4 m = S.1 4 m) (e5 : ∀ k : Nat, (k : Int) < S.1 4 m → stF S' (10 * m + k) = stF S (10 * m + k)) : StP cO ee P' S' m h' := by
  obtain ⟨⟨md, ar, a⟩, b⟩ := H
  unfold StP
  rw [e4, p1, fstP_c (P := P) (P' := P') (fun i hi => p2 i hi)]
  refine ⟨⟨md, ar, a.fr hF hT.1 (by rw [show 110 + m + 10 = 120 + m by omega]; exact hT.2.1)⟩, fun k hk => ?_⟩
  rw [p2 k hk, e5 k hk]
  exact hF _ _ _ (b k hk) (hT.2.2 k hk)
theorem GrP.keep {m : Nat} (H : GrP cO ee P S m h) (hF : Fr T h h') (hT : ¬ T (130 + m) ∧ ¬ T (140 + m) ∧ ∀ k : Nat, (k : Int) < S.1 9 m → ¬ T (300 + 4 * m + k)) (p1 : P' (130 + m) = P (130 + m)) (p2 : ∀ k : Nat, (k : Int) < S.1 9 m → P' (300 + 4 * m + k) = P (300 + 4 * m + k)) (e9 : S'.1 9 m = S.1 9 m) (e10 : ∀ g : Nat, (g : Int) < S.1 9 m → S'.1 10 (4 * m + g) = S.1 10 (4 * m + g) ∧ S'.1 11 (4 * m + g) = S.1 11 (4 * m + g)) : GrP cO ee P' S' m h' := by
  obtain ⟨⟨md, ar, a⟩, b⟩ := H
  unfold GrP
  rw [e9, p1, fstP_c (P := P) (P' := P') (fun i hi => p2 i hi)]
  refine ⟨⟨md, ar, a.fr hF hT.1 (by rw [show 130 + m + 10 = 140 + m by omega]; exact hT.2.1)⟩, fun k hk => ?_⟩
  rw [p2 k hk, (e10 k hk).1, (e10 k hk).2]
  exact hF _ _ _ (b k hk) (hT.2.2 k hk)
theorem MaH.keep {m : Nat} (H : MaH (P (100 + m)) (100 + m) m (P (110 + m)) (P (130 + m)) h) (hF : Fr T h h') (hT : ¬ T (100 + m)) (p1 : P' (100 + m) = P (100 + m)) (p2 : P' (110 + m) = P (110 + m)) (p3 : P' (130 + m) = P (130 + m)) : MaH (P' (100 + m)) (100 + m) m (P' (110 + m)) (P' (130 + m)) h' := by
  rw [p1, p2, p3]
  exact hF _ _ _ H hT
theorem MacL.keep (H : MacL cO ee P S h) (hF : Fr T h h') (hT : ¬ T 16 ∧ ¬ T 26) (p1 : P' 16 = P 16) (p2 : ∀ k : Nat, (k : Int) < S.2 22 → P' (100 + k) = P (100 + k)) (e : S'.2 22 = S.2 22) : MacL cO ee P' S' h' := by
  obtain ⟨md, ar, a⟩ := H
  unfold MacL
  rw [e, p1, fstP_c (P := P) (P' := P') (fun i hi => p2 i hi)]
  exact ⟨md, ar, a.fr hF hT.1 hT.2⟩
theorem RulL.keep (H : RulL cO ee P S h) (hF : Fr T h h') (hT : ¬ T 18 ∧ ¬ T 28) (p1 : P' 18 = P 18) (p2 : ∀ k : Nat, (k : Int) < S.2 23 → P' (400 + k) = P (400 + k)) (e : S'.2 23 = S.2 23) : RulL cO ee P' S' h' := by
  obtain ⟨md, ar, a⟩ := H
  unfold RulL
  rw [e, p1, fstP_c (P := P) (P' := P') (fun i hi => p2 i hi)]
  exact ⟨md, ar, a.fr hF hT.1 hT.2⟩
theorem Rul1.keep {r : Nat} (H : Rul1 P S r h) (hF : Fr T h h') (hT : ¬ T (400 + r) ∧ ¬ T (410 + r)) (p1 : P' (400 + r) = P (400 + r)) (p2 : P' (410 + r) = P (410 + r)) (p3 : P' (100 + (S.1 14 r).toNat) = P (100 + (S.1 14 r).toNat)) (e12 : S'.1 12 r = S.1 12 r) (e13 : S'.1 13 r = S.1 13 r) (e14 : S'.1 14 r = S.1 14 r) (e15 : S'.1 15 r = S.1 15 r) : Rul1 P' S' r h' := by
  unfold Rul1 at H ⊢
  rw [p1, p2, e12, e13, e14, e15, p3]
  exact ⟨hF _ _ _ H.1 hT.1, hF _ _ _ H.2 hT.2⟩
/-- the tags that macros and rules use -/
def usT (S : MSt) (u : Nat) : Prop := u = 16 ∨ u = 26 ∨ u = 18 ∨ u = 28 ∨ (∃ m : Nat, (m : Int) < S.2 22 ∧ (u = 100 + m ∨ u = 110 + m ∨ u = 120 + m ∨ u = 130 + m ∨ u = 140 + m ∨ (∃ k : Nat, (k : Int) < S.1 4 m ∧ u = 200 + 10 * m + k) ∨ ∃ g : Nat, (g : Int) < S.1 9 m ∧ u = 300 + 4 * m + g)) ∨ ∃ r : Nat, (r : Int) < S.2 23 ∧ (u = 400 + r ∨ u = 410 + r)
theorem usT_m {S : MSt} {m : Nat} (h : (m : Int) < S.2 22) : usT S (100 + m) ∧ usT S (110 + m) ∧ usT S (120 + m) ∧ usT S (130 + m) ∧ usT S (140 + m) ∧ (∀ k : Nat, (k : Int) < S.1 4 m → usT S (200 + 10 * m + k)) ∧ ∀ g : Nat, (g : Int) < S.1 9 m → usT S (300 + 4 * m + g) :=
  ⟨Or.inr (Or.inr (Or.inr (Or.inr (Or.inl ⟨m, h, Or.inl rfl⟩)))), Or.inr (Or.inr (Or.inr (Or.inr (Or.inl ⟨m, h, Or.inr (Or.inl rfl)⟩)))), Or.inr (Or.inr (Or.inr (Or.inr (Or.inl ⟨m, h, Or.inr (Or.inr (Or.inl rfl))⟩)))), Or.inr (Or.inr (Or.inr (Or.inr (Or.inl ⟨m, h, Or.inr (Or.inr (Or.inr (Or.inl rfl)))⟩)))), Or.inr (Or.inr (Or.inr (Or.inr (Or.inl ⟨m, h, Or.inr (Or.inr (Or.inr (Or.inr (Or.inl rfl))))⟩)))), fun k hk => Or.inr (Or.inr (Or.inr (Or.inr (Or.inl ⟨m, h, Or.inr (Or.inr (Or.inr (Or.inr (Or.inr (Or.inl ⟨k, hk, rfl⟩)))))⟩)))), fun g hg => Or.inr (Or.inr (Or.inr (Or.inr (Or.inl ⟨m, h, Or.inr (Or.inr (Or.inr (Or.inr (Or.inr (Or.inr ⟨g, hg, rfl⟩)))))⟩))))⟩
theorem usT_r {S : MSt} {r : Nat} (h : (r : Int) < S.2 23) : usT S (400 + r) ∧ usT S (410 + r) := ⟨Or.inr (Or.inr (Or.inr (Or.inr (Or.inr ⟨r, h, Or.inl rfl⟩)))), Or.inr (Or.inr (Or.inr (Or.inr (Or.inr ⟨r, h, Or.inr rfl⟩))))⟩
theorem usT_16 {S : MSt} : usT S 16 ∧ usT S 26 ∧ usT S 18 ∧ usT S 28 := ⟨Or.inl rfl, Or.inr (Or.inl rfl), Or.inr (Or.inr (Or.inl rfl)), Or.inr (Or.inr (Or.inr (Or.inl rfl)))⟩
theorem usT_lo {S : MSt} (hw : WFp S) {u : Nat} (h : usT S u) : 16 ≤ u ∧ u < 500 := by
  obtain ⟨w1, w2, w3, w4, w5, w6⟩ := hw
  rcases h with rfl | rfl | rfl | rfl | ⟨m, hm, h⟩ | ⟨r, hr, h⟩
  · omega
  · omega
  · omega
  · omega
  · have hm9 := w2 m (by omega) (by omega)
    rcases h with h | h | h | h | h | ⟨k, hk, h⟩ | ⟨g, hg, h⟩ <;> omega
  · rcases h with h | h <;> omega
theorem MrH.kp (H : MrH cO ee P S h) (hw : WFp S) (hrm : RM S) (hF : Fr T h h') (hT : ∀ u, usT S u → ¬ T u) (p : ∀ u, usT S u → P' u = P u) (e : ∀ k, 4 ≤ k → k < 16 → S'.1 k = S.1 k) (e22 : S'.2 22 = S.2 22) (e23 : S'.2 23 = S.2 23) : MrH cO ee P' S' h' := by
  obtain ⟨a1, a2, a3, a4⟩ := H
  obtain ⟨w1, w2, w3, w4, w5, w6⟩ := hw
  obtain ⟨u1, u2, u3, u4⟩ := usT_16 (S := S)
  refine ⟨a1.keep hF ⟨hT _ u1, hT _ u2⟩ (p _ u1) (fun k hk => p _ (usT_m hk).1) e22, fun m hm => ?_, a3.keep hF ⟨hT _ u3, hT _ u4⟩ (p _ u3) (fun k hk => p _ (usT_r hk).1) e23, fun r hr => ?_⟩
  · rw [e22] at hm
    have q := a2 m hm
    obtain ⟨v1, v2, v3, v4, v5, v6, v7⟩ := usT_m hm
    exact Mac1_mk (q.1.keep hF (hT _ v1) (p _ v1) (p _ v2) (p _ v4)) (q.st.keep hF ⟨hT _ v2, hT _ v3, fun k hk => hT _ (v6 k hk)⟩ (p _ v2) (fun k hk => p _ (v6 k hk)) (by rw [e 4 (by decide) (by decide)]) (fun k hk => by unfold stF; rw [e 5 (by decide) (by decide), e 6 (by decide) (by decide), e 7 (by decide) (by decide), e 8 (by decide) (by decide)])) (q.gr.keep hF ⟨hT _ v4, hT _ v5, fun k hk => hT _ (v7 k hk)⟩ (p _ v4) (fun k hk => p _ (v7 k hk)) (by rw [e 9 (by decide) (by decide)]) (fun k hk => by rw [e 10 (by decide) (by decide), e 11 (by decide) (by decide)]; exact ⟨rfl, rfl⟩))
  · rw [e23] at hr
    have h14 := w4 r (by omega) (by omega)
    have hr14 := hrm r (by omega) hr
    obtain ⟨v1, v2⟩ := usT_r hr
    exact (a4 r hr).keep hF ⟨hT _ v1, hT _ v2⟩ (p _ v1) (p _ v2) (p _ (usT_m (by omega)).1) (by rw [e 12 (by decide) (by decide)]) (by rw [e 13 (by decide) (by decide)]) (by rw [e 14 (by decide) (by decide)]) (by rw [e 15 (by decide) (by decide)])
theorem CW.kp (H : CW cI cO ee Tx9 P S X h) (hw : WFp S) (hrm : RM S) (h9 : T9ok Tx9) (hF : Fr T h h') (hT : ∀ u, usT S u → ¬ T u) (hT2 : ∀ u, u < 16 → ¬ T u) : CW cI cO ee Tx9 P S X h' := by
  obtain ⟨a1, a2, a3, a4, a5, a6, a7, a8⟩ := H
  exact ⟨MnH.fr (X := X) a1 hF (hT2 _ (by omega)), a2.fr hF (hT2 _ (by omega)) (hT2 _ (by omega)), a3.fr hF (hT2 _ (by omega)) (hT2 _ (by omega)), AuX.fr a4 hF (fun u _ _ => hT2 _ (by omega)), a5.fr hF (hT2 _ (by omega)) (hT2 _ (by omega)), DpX.fr (X := X) a6 hF (hT2 _ (by omega)), h9 P S S h h' T rfl rfl hF (hT2 _ (by omega)) (hT2 _ (by omega)) a7, a8.kp hw hrm hF hT (fun _ _ => rfl) (fun _ _ _ => rfl) rfl rfl⟩
/-- the audit's new arrays -/
def pAu (P v : Nat → Nat) : Nat → Nat := fun u => if 7 ≤ u ∧ u < 11 then v (u - 7) else P u
theorem pAu_n {P v : Nat → Nat} {u : Nat} (n : ¬ (7 ≤ u ∧ u < 11)) : pAu P v u = P u := if_neg n
def XgF (X : MSt) (G : Nat → Int → Int) (len : Nat) : MSt := (fun j => if 7 ≤ j ∧ j < 11 then G (j - 7) else X.1 j, fun j => if j = 26 then (len : Int) else X.2 j)
theorem CW.grow {G : Nat → Int → Int} {len : Nat} {v : Nat → Nat} (H : CW cI cO ee Tx9 P S X h) (hw : WFp S) (hrm : RM S) (h9 : T9ok Tx9) (hp : T9p Tx9) (h1 : AuH cI (P 6) v 6 G (X.2 25) len h') (hF : Fr (tU 6) h h') : CW cI cO ee Tx9 (pAu P v) S (XgF X G len) h' := by
  obtain ⟨a1, a2, a3, a4, a5, a6, a7, a8⟩ := H
  have nt : ∀ u, ¬ (6 ≤ u ∧ u < 11) → ¬ tU 6 u := fun u q z => q ⟨z.1, z.2⟩
  refine ⟨MnH.fr (X := X) a1 hF (nt _ (by omega)), a2.fr hF (nt _ (by omega)) (nt _ (by omega)), a3.fr hF (nt _ (by omega)) (nt _ (by omega)), ⟨h1.1, fun k hk => ?_, h1.2.2.1, h1.2.2.2.1, h1.2.2.2.2⟩, a5.fr hF (nt _ (by omega)) (nt _ (by omega)), DpX.fr (X := X) a6 hF (nt _ (by omega)), hp P (pAu P v) S h' rfl rfl (h9 P S S h h' _ rfl rfl hF (nt _ (by omega)) (nt _ (by omega)) a7), a8.kp hw hrm hF (fun u hu => nt _ (by have := usT_lo hw hu; omega)) (fun u hu => pAu_n (by have := usT_lo hw hu; omega)) (fun _ _ _ => rfl) rfl rfl⟩
  match k, hk with
  | 0, _ => exact h1.2.1 0 (by decide)
  | 1, _ => exact h1.2.1 1 (by decide)
  | 2, _ => exact h1.2.1 2 (by decide)
  | 3, _ => exact h1.2.1 3 (by decide)
end
/-- the class's part as an action begins -/
def xB (X X' : MSt) : Prop := X'.2 20 = X.2 25 ∧ X'.2 25 = X.2 25 ∧ X'.2 27 = X.2 27 ∧ X'.1 12 = X.1 12 ∧ X'.1 13 = X.1 13 ∧ X'.2 26 = (lenG (X.2 25) (X.2 26).toNat : Int) ∧ ∀ k : Nat, k < 4 → ∀ z : Int, 0 ≤ z → z < X.2 25 → X'.1 (7 + k) z = X.1 (7 + k) z
def pB (P P' : Nat → Nat) : Prop := ∀ t, ¬ (7 ≤ t ∧ t < 11) → P' t = P t
def TKB : Nat → Prop := fun u => u = 1 ∨ tU 6 u
section
variable {l : Launch} {D : va_G} {cB cC cI cO cJ cD : ClassId} {ee : Nat × Nat} {Tx9 : (Nat → Nat) → MSt → Hp → Prop} {P : Nat → Nat} {S X : MSt}
set_option maxHeartbeats 4000000 in
set_option maxRecDepth 100000 in
theorem kX7_beginAction_g (hwp : WFp S) (hrm : RM S) (h9 : T9ok Tx9) (hp9 : T9p Tx9) (hs : ¬ (X.2 25 + 210 ≤ (X.2 26).toNat ∨ 107520 ≤ (X.2 26).toNat)) (h2 : 210 ≤ (X.2 26).toNat ∧ 2 * (X.2 26).toNat ≤ 107520) : Ct l yX7_beginAction wsX7_beginAction ({ frames := 4, cells := 4, slots := 8 * (X.2 26).toNat, locals := 90 } : Room) D (tyL cB cC cI cO cJ cD) ee [.ref (P 1)] (CW cI cO ee Tx9 P S X) (fun h v9 h' => v9 = none ∧ (∃ v', CW cI cO ee Tx9 (pAu P v') S (XgF (uG X 20 (X.2 25)) (grF (fun k => X.1 (7 + k)) (X.2 26).toNat) (2 * (X.2 26).toNat)) h') ∧ Fr TKB h h') (4) (8 * (X.2 26).toNat) := by
  refine Ct_of (cc := cX7_beginAction) (own := RX7) [some (.ref (P 1))] (by decide) rfl rfl (Nat.le_of_ble_eq_true rfl) (fun i9 v9 h9 => argL [.ref (P 1)] 0 rfl i9 v9 h9) ?_
  intro p e s m9 args below meth c9 h0 sz hI C hr hlk hinit
  have hin : ∀ w ∈ wsX70, w ∈ wsX7_beginAction := by decide +kernel
  refine V_weak (I2 := fun x9 => CW cI cO ee Tx9 P S (X) x9 ∧ Fr TKB h0 x9) (fun x9 hx9 => by subst hx9; exact ⟨hI, Fr.refl⟩) ?_
  refine V_aload0 (pc' := 1) C dX7_beginAction_0 rfl ?_
  refine V_aload0 (pc' := 2) C dX7_beginAction_1 rfl ?_
  refine V_getf (pc' := 5) (T := TX7) (N := 13) (ci := 12) C hin rfl 4 (by decide) (by decide +kernel) (fun h hh => ⟨1, _, hh.1.1, rfl⟩) dX7_beginAction_2 rfl ?_
  refine V_callV (ci := 5) (n := 0) [] C (kX0_size (v := fun k => P (7 + k)) (t := 6) (F := fun k => X.1 (7 + k)) (n := X.2 25) (len := (X.2 26).toNat)) gX7_beginAction_X0_size rfl ydX0_size ⟨Nat.le_of_ble_eq_true rfl, Nat.le_of_ble_eq_true rfl⟩ ⟨rfl, rfl⟩ rfl rfl (fun h hh => ⟨6, _, hh.1.2.2.2.1.1⟩) (fun h hh => hh.1.2.2.2.1) rfl (Nat.le_of_ble_eq_true rfl) dX7_beginAction_5 ⟨Nat.le_of_ble_eq_true rfl, Nat.le_of_ble_eq_true rfl⟩ (fun h v h' hh hj9 => ?_)
  obtain ⟨r9, rfl, hj8, rfl⟩ := hj9
  rw [hj8]
  refine V_weak (I2 := fun x9 => CW cI cO ee Tx9 P S (X) x9 ∧ Fr TKB h0 x9) (fun x9 hx9 => by rw [hx9]; exact hh) ?_
  refine V_putf (pc' := 11) (T := TX7) (N := 13) (ci := 12) (I2 := fun x9 => CW cI cO ee Tx9 P S (uG X 20 (X.2 25)) x9 ∧ Fr TKB h0 x9) C hin tyX7_ok nmX7 rfl 8 (by decide) (by decide +kernel) rfl rfl rfl (fun h hh => ⟨1, _, hh.1.1, Nat.le_of_ble_eq_true rfl, hh.1.beg hwp h9, hh.2.up hh.1.1 (Or.inl rfl)⟩) dX7_beginAction_8 rfl ?_
  refine V_aload0 (pc' := 12) C dX7_beginAction_11 rfl ?_
  refine V_getf (pc' := 15) (T := TX7) (N := 13) (ci := 12) C hin rfl 4 (by decide) (by decide +kernel) (fun h hh => ⟨1, _, hh.1.1, rfl⟩) dX7_beginAction_12 rfl ?_
  refine V_callV (ci := 5) (n := 0) [] C (kX0_makeRoom_g (v := fun k => P (7 + k)) (t := 6) (F := fun k => X.1 (7 + k)) (n := X.2 25) (len := (X.2 26).toNat) hs h2) gX7_beginAction_X0_makeRoom rfl ydX0_makeRoom ⟨Nat.le_of_ble_eq_true rfl, Nat.le_of_ble_eq_true rfl⟩ ⟨rfl, rfl⟩ rfl rfl (fun h hh => ⟨6, _, hh.1.2.2.2.1.1⟩) (fun h hh => hh.1.2.2.2.1) rfl (Nat.le_of_ble_eq_true rfl) dX7_beginAction_15 ⟨Nat.le_of_eq (Nat.zero_add _), Nat.le_of_eq (Nat.zero_add _)⟩ (fun h v h' hh hj9 => ?_)
  obtain ⟨rfl, ⟨v', hj1⟩, hj2⟩ := hj9
  refine V_weak (I2 := fun x9 => CW cI cO ee Tx9 (pAu P v') S (XgF (uG X 20 (X.2 25)) (grF (fun k => X.1 (7 + k)) (X.2 26).toNat) (2 * (X.2 26).toNat)) x9 ∧ Fr TKB h0 x9) (fun x9 hx9 => by rw [hx9]; exact ⟨hh.1.grow hwp hrm h9 hp9 hj1 hj2, hh.2.trans (hj2.mono (fun u hu => Or.inr hu))⟩) ?_
  exact V_endv C hr hlk (fun h' hh => ⟨rfl, ⟨v', hh.1⟩, hh.2⟩) ⟨Nat.le_of_eq (Nat.zero_add _), Nat.le_of_eq (Nat.zero_add _)⟩ dX7_beginAction_18
theorem RelN_g {X : MSt} (hN : RelN X) (h0 : 0 ≤ X.2 25 ∧ X.2 25 ≤ X.2 26) (h1 : X.2 25 + 210 ≤ 107520) : (210 ≤ (X.2 26).toNat ∧ (¬ (X.2 25 + 210 ≤ (X.2 26).toNat ∨ 107520 ≤ (X.2 26).toNat) → 2 * (X.2 26).toNat ≤ 107520)) ∧ (∃ e : Nat, e ≤ 9 ∧ (lenG (X.2 25) (X.2 26).toNat : Int) = ((210 * 2 ^ e : Nat) : Int)) ∧ X.2 25 + 210 ≤ (lenG (X.2 25) (X.2 26).toNat : Int) ∧ (lenG (X.2 25) (X.2 26).toNat : Int) ≤ 107520 ∧ 210 ≤ X.2 26 ∧ X.2 26 ≤ 107520 := by
  obtain ⟨e, he, hl⟩ := hN
  have hl2 : (X.2 26).toNat = 210 * 2 ^ e := by omega
  have key : e = 9 ∨ (e < 9 ∧ 210 * 2 ^ (e + 1) ≤ 107520 ∧ 210 * 2 ^ (e + 1) = 2 * (210 * 2 ^ e) ∧ 210 ≤ 210 * 2 ^ e) := by
    rcases Nat.lt_or_ge e 9 with q | q
    · refine Or.inr ⟨q, ?_⟩
      match e, q with
      | 0, _ => decide
      | 1, _ => decide
      | 2, _ => decide
      | 3, _ => decide
      | 4, _ => decide
      | 5, _ => decide
      | 6, _ => decide
      | 7, _ => decide
      | 8, _ => decide
      | e + 9, q => omega
    · exact Or.inl (by omega)
  unfold lenG
  by_cases hc : X.2 25 + 210 ≤ (X.2 26).toNat ∨ 107520 ≤ (X.2 26).toNat
  · rw [if_pos hc]
    rcases key with rfl | ⟨k1, k2, k3, k4⟩
    · simp only [show (210 * 2 ^ 9 : Nat) = 107520 by decide] at hl2 hl ⊢
      exact ⟨⟨by omega, fun z => absurd hc z⟩, ⟨9, by omega, by rw [hl2]⟩, by omega, by omega, by omega, by omega⟩
    · exact ⟨⟨by omega, fun z => absurd hc z⟩, ⟨e, he, by rw [hl2]⟩, by omega, by omega, by omega, by omega⟩
  · rw [if_neg hc]
    rcases key with rfl | ⟨k1, k2, k3, k4⟩
    · simp only [show (210 * 2 ^ 9 : Nat) = 107520 by decide] at hl2
      exact absurd (Or.inr (by omega)) hc
    · exact ⟨⟨by omega, fun _ => by omega⟩, ⟨e + 1, by omega, by rw [k3, hl2]⟩, by omega, by omega, by omega, by omega⟩
theorem kX7_begin (hwp : WFp S) (hrm : RM S) (h9 : T9ok Tx9) (hp9 : T9p Tx9) (hN : RelN X) (hc : 0 ≤ X.2 25 ∧ X.2 25 ≤ X.2 26 ∧ X.2 25 + 210 ≤ 107520) : Ct l yX7_beginAction wsX7_beginAction ({ frames := 4, cells := growC (X.2 25) (X.2 26).toNat, slots := growS (X.2 25) (X.2 26).toNat, locals := 90 } : Room) D (tyL cB cC cI cO cJ cD) ee [.ref (P 1)] (CW cI cO ee Tx9 P S X) (fun h v9 h' => v9 = none ∧ (∃ P' X', CW cI cO ee Tx9 P' S X' h' ∧ xB X X' ∧ pB P P') ∧ Fr TKB h h') (growC (X.2 25) (X.2 26).toNat) (growS (X.2 25) (X.2 26).toNat) := by
  obtain ⟨g1, g2, g3, g4, g5, g6⟩ := RelN_g hN ⟨hc.1, hc.2.1⟩ hc.2.2
  unfold growC growS
  by_cases hs : X.2 25 + 210 ≤ (X.2 26).toNat ∨ 107520 ≤ (X.2 26).toNat
  · rw [if_pos hs, if_pos hs]
    refine Ct_mono (kX7_beginAction_s hwp h9 hs) (fun h q => q) (fun h v h' hI hJ => ?_)
    obtain ⟨rfl, j1, j2⟩ := hJ
    refine ⟨rfl, ⟨P, _, j1, ⟨rfl, rfl, rfl, rfl, rfl, ?_, fun k _ z _ _ => rfl⟩, fun _ _ => rfl⟩, j2.mono (fun u hu => Or.inl hu)⟩
    show X.2 26 = _
    unfold lenG
    rw [if_pos hs]
    omega
  · rw [if_neg hs, if_neg hs]
    refine Ct_mono (kX7_beginAction_g hwp hrm h9 hp9 hs ⟨g1.1, g1.2 hs⟩) (fun h q => q) (fun h v h' hI hJ => ?_)
    obtain ⟨rfl, ⟨v', j1⟩, j2⟩ := hJ
    refine ⟨rfl, ⟨pAu P v', _, j1, ⟨rfl, rfl, rfl, rfl, rfl, ?_, fun k hk z z0 z1 => ?_⟩, fun t ht => pAu_n ht⟩, j2⟩
    · show ((2 * (X.2 26).toNat : Nat) : Int) = _
      unfold lenG
      rw [if_neg hs]
    · match k, hk with
      | 0, _ => exact grF_at (F := fun k => X.1 (7 + k)) (k := 0) ⟨z0, by omega⟩
      | 1, _ => exact grF_at (F := fun k => X.1 (7 + k)) (k := 1) ⟨z0, by omega⟩
      | 2, _ => exact grF_at (F := fun k => X.1 (7 + k)) (k := 2) ⟨z0, by omega⟩
      | 3, _ => exact grF_at (F := fun k => X.1 (7 + k)) (k := 3) ⟨z0, by omega⟩
end

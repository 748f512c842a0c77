/-! what ties the class's own part X to the reference's state S -/
theorem Ct_mono {l : Launch} {y : MethodName} {ws : List Cond} {rm : Room} {D : va_G} {tys : List (ClassId × FieldType)} {ee : Nat × Nat} {as : List Value} {I I' : Hp → Prop} {J J' : Hp → Option Value → Hp → Prop} {mc ms : Nat} (H : Ct l y ws rm D tys ee as I J mc ms) (hI : ∀ h, I' h → I h) (hJ : ∀ h v h', I' h → J h v h' → J' h v h') : Ct l y ws rm D tys ee as I' J' mc ms := fun h sz hi p e ha hc hk s m args below hf happ hP hK => by
  obtain ⟨n, o, h1, h2, h3, ⟨⟨v, h', e1, hj, hw⟩, hF⟩, q2⟩ := H h sz (hI h hi) p e ha hc hk s m args below hf happ hP hK
  exact ⟨n, o, h1, h2, h3, ⟨⟨v, h', e1, hJ h v h' hi hj, hw⟩, hF⟩, q2⟩
/-- two states that look the same to the class -/
def cwE (S S' : MSt) : Prop := S'.1 0 = S.1 0 ∧ (∀ k, 4 ≤ k → k < 16 → S'.1 k = S.1 k) ∧ S'.1 21 = S.1 21 ∧ S'.2 22 = S.2 22 ∧ S'.2 23 = S.2 23 ∧ S'.2 26 = S.2 26 ∧ S'.2 27 = S.2 27 ∧ S'.2 28 = S.2 28 ∧ S'.2 30 = S.2 30
theorem MrH.congr {cO : ClassId} {ee : Nat × Nat} {P : Nat → Nat} {S S' : MSt} {h : Hp} (E : cwE S S') (H : MrH cO ee P S h) : MrH cO ee P S' h := by
  obtain ⟨-, e, -, e22, e23, -⟩ := E
  simp only [MrH, MacL, RulL, Mac1, Rul1, stF, e22, e23, e 4 (by decide) (by decide), e 5 (by decide) (by decide), e 6 (by decide) (by decide), e 7 (by decide) (by decide), e 8 (by decide) (by decide), e 9 (by decide) (by decide), e 10 (by decide) (by decide), e 11 (by decide) (by decide), e 12 (by decide) (by decide), e 13 (by decide) (by decide), e 14 (by decide) (by decide), e 15 (by decide) (by decide)] at H ⊢
  exact H
theorem CW.congr {cI cO : ClassId} {ee : Nat × Nat} {Tx9 : (Nat → Nat) → MSt → Hp → Prop} {P : Nat → Nat} {S S' X : MSt} {h : Hp} (H : CW cI cO ee Tx9 P S X h) (h9 : T9ok Tx9) (E : cwE S S') : CW cI cO ee Tx9 P S' X h := by
  obtain ⟨a1, a2, a3, a4, a5, a6, a7, a8⟩ := H
  obtain ⟨e0, e, e21, e22, e23, e26, e27, e28, e30⟩ := id E
  refine ⟨?_, by rw [e0]; exact a2, a3, a4, a5, a6, h9 P S S' h h (fun _ => False) e21 e30 Fr.refl (fun z => z) (fun z => z) a7, MrH.congr E a8⟩
  unfold MnH mnF at a1 ⊢
  rw [e26, e27, e28]
  exact a1
abbrev AF (X : MSt) : Nat → Int → Int := fun k => X.1 (7 + k)
/-- the maker of a cell's last change, of the first entries -/
def byN (F : Nat → Int → Int) (z : Int) : Nat → Int
  | 0 => -2
  | j + 1 => if F 0 j = z then F 3 j else byN F z j
theorem anewN_pre {F G : Nat → Int → Int} {n : Nat} (z : Int) (h : ∀ j : Nat, j < n → G 0 j = F 0 j ∧ G 2 j = F 2 j) : ∀ j : Nat, j ≤ n → anewN G z j = anewN F z j
  | 0, _ => rfl
  | j + 1, hj => by rw [anewN, anewN, anewN_pre z h j (by omega), (h j (by omega)).1, (h j (by omega)).2]
theorem cntN_pre {F G : Nat → Int → Int} {n : Nat} (w : Int) (h : ∀ j : Nat, j < n → G 3 j = F 3 j) : ∀ j : Nat, j ≤ n → cntN G w j = cntN F w j
  | 0, _ => rfl
  | j + 1, hj => by rw [cntN, cntN, cntN_pre w h j (by omega), h j (by omega)]
theorem byN_pre {F G : Nat → Int → Int} {n : Nat} (z : Int) (h : ∀ j : Nat, j < n → G 0 j = F 0 j ∧ G 3 j = F 3 j) : ∀ j : Nat, j ≤ n → byN G z j = byN F z j
  | 0, _ => rfl
  | j + 1, hj => by rw [byN, byN, byN_pre z h j (by omega), (h j (by omega)).1, (h j (by omega)).2]
def RelL (S X : MSt) : Prop := (X.2 25 = S.2 29 + S.2 24 ∧ 0 ≤ S.2 29 ∧ 0 ≤ S.2 24)
  ∧ (∀ j : Nat, (j : Int) < S.2 24 → X.1 7 (S.2 29 + j) = S.1 16 j ∧ X.1 8 (S.2 29 + j) = S.1 17 j ∧ X.1 10 (S.2 29 + j) = S.1 18 j)
  ∧ (∀ e : Nat, (e : Int) < X.2 25 → (0 ≤ X.1 7 e ∧ X.1 7 e < 48) ∧ (-9999 ≤ X.1 9 e ∧ X.1 9 e ≤ 9999) ∧ (-1 ≤ X.1 10 e ∧ X.1 10 e ≤ 5) ∧ X.1 8 e = anewN (AF X) (X.1 7 e) e)
  ∧ (∀ z, 0 ≤ z → z < 48 → anewN (AF X) z (X.2 25).toNat = S.1 0 z)
  ∧ (∀ z, 0 ≤ z → z < 48 → S.1 2 z = byN (AF X) z (S.2 29).toNat)
  ∧ (∀ w, -1 ≤ w → w ≤ 5 → S.1 3 (w + 1) = cntN (AF X) w (S.2 29).toNat)
theorem RelL.push {S X S' X' : MSt} {pl v mk : Int} (H : RelL S X) (hp : 0 ≤ pl ∧ pl < 48) (hv : -9999 ≤ v ∧ v ≤ 9999) (hm : -1 ≤ mk ∧ mk ≤ 5) (x7 : X'.1 7 = upZ (X.1 7) (X.2 25) pl) (x8 : X'.1 8 = upZ (X.1 8) (X.2 25) (S.1 0 pl)) (x9 : X'.1 9 = upZ (X.1 9) (X.2 25) v) (x10 : X'.1 10 = upZ (X.1 10) (X.2 25) mk) (x25 : X'.2 25 = X.2 25 + 1)
    (s16 : S'.1 16 = upZ (S.1 16) (S.2 24) pl) (s17 : S'.1 17 = upZ (S.1 17) (S.2 24) (S.1 0 pl)) (s18 : S'.1 18 = upZ (S.1 18) (S.2 24) mk) (s0 : S'.1 0 = upZ (S.1 0) pl v) (s2 : S'.1 2 = S.1 2) (s3 : S'.1 3 = S.1 3) (s24 : S'.2 24 = S.2 24 + 1) (s29 : S'.2 29 = S.2 29) : RelL S' X' := by
  obtain ⟨⟨h1, h1a, h1b⟩, h2, h3, h4, h5, h6⟩ := H
  have lo : ∀ j : Nat, j < (X.2 25).toNat → (AF X') 0 j = (AF X) 0 j ∧ (AF X') 2 j = (AF X) 2 j ∧ (AF X') 3 j = (AF X) 3 j := fun j hj => by
    have hj' : (j : Int) ≠ X.2 25 := by omega
    refine ⟨?_, ?_, ?_⟩
    · show X'.1 7 j = X.1 7 j
      rw [x7, upZ_n hj']
    · show X'.1 9 j = X.1 9 j
      rw [x9, upZ_n hj']
    · show X'.1 10 j = X.1 10 j
      rw [x10, upZ_n hj']
  have an : ∀ (z : Int) (j : Nat), j ≤ (X.2 25).toNat → anewN (AF X') z j = anewN (AF X) z j := fun z j hj => anewN_pre z (fun i hi => ⟨(lo i hi).1, (lo i hi).2.1⟩) j hj
  refine ⟨⟨by omega, by omega, by omega⟩, fun j hj => ?_, fun e he => ?_, fun z z0 z1 => ?_, fun z z0 z1 => ?_, fun w w0 w1 => ?_⟩
  · rw [s29, x7, x8, x10, s16, s17, s18]
    by_cases q : (j : Int) = S.2 24
    · rw [show S.2 29 + (j : Int) = X.2 25 by omega, q, upZ_s, upZ_s, upZ_s, upZ_s, upZ_s, upZ_s]
      exact ⟨rfl, rfl, rfl⟩
    · have q2 : S.2 29 + (j : Int) ≠ X.2 25 := by omega
      rw [upZ_n q, upZ_n q, upZ_n q, upZ_n q2, upZ_n q2, upZ_n q2]
      exact h2 j (by omega)
  · by_cases q : (e : Int) = X.2 25
    · have q9 : e = (X.2 25).toNat := by omega
      have e7 : X'.1 7 e = pl := by rw [x7, q, upZ_s]
      rw [e7, an pl e (by omega), x9, x10, x8, q, upZ_s, upZ_s, upZ_s, q9, h4 pl hp.1 hp.2]
      exact ⟨hp, hv, hm, rfl⟩
    · rw [x7, x8, x9, x10, upZ_n q, upZ_n q, upZ_n q, upZ_n q, an _ e (by omega)]
      exact h3 e (by omega)
  · rw [x25, show (X.2 25 + 1).toNat = (X.2 25).toNat + 1 by omega, anewN, an z _ (Nat.le_refl _), s0, h4 z z0 z1]
    show (if X'.1 7 ((X.2 25).toNat : Int) = z then X'.1 9 ((X.2 25).toNat : Int) else S.1 0 z) = upZ (S.1 0) pl v z
    rw [x7, x9, show ((X.2 25).toNat : Int) = X.2 25 by omega, upZ_s, upZ_s]
    unfold upZ
    by_cases q : pl = z
    · rw [if_pos q, if_pos q.symm]
    · rw [if_neg q, if_neg (fun y => q y.symm)]
  · rw [s2, s29, h5 z z0 z1]
    exact (byN_pre z (fun i hi => ⟨(lo i hi).1, (lo i hi).2.2⟩) _ (by omega)).symm
  · rw [s3, s29, h6 w w0 w1]
    exact (cntN_pre w (fun i hi => (lo i hi).2.2) _ (by omega)).symm
def RelD (S X : MSt) (fr : Int) : Prop := X.2 20 = S.2 29 + fr ∧ ∀ i : Int, fr ≤ i → i < S.2 24 → X.1 13 (i - fr) = S.1 19 i
def RelA (S X : MSt) (fr : Int) : Prop := RelL S X ∧ RelD S X fr
/-- what an action at work leaves of the class's part -/
def xK (X X' : MSt) : Prop := X'.2 26 = X.2 26 ∧ X'.2 27 = X.2 27 ∧ X'.1 12 = X.1 12 ∧ X'.2 20 = X.2 20
theorem xK.rf {X : MSt} : xK X X := ⟨rfl, rfl, rfl, rfl⟩
theorem xK.trans {X Y Z : MSt} (a : xK X Y) (b : xK Y Z) : xK X Z := ⟨b.1.trans a.1, b.2.1.trans a.2.1, b.2.2.1.trans a.2.2.1, b.2.2.2.trans a.2.2.2⟩
theorem xK_tr (X : MSt) (f : Int → Int) : xK X (Xtr X f) := ⟨rfl, rfl, rfl, rfl⟩
theorem xK_nx (S X : MSt) (pl v mk dp : Int) : xK X (nxX S X pl v mk dp) := by
  unfold nxX
  split
  · exact xK.rf
  · exact ⟨rfl, rfl, rfl, rfl⟩
theorem xK_rn (S X : MSt) (m x dp : Int) : ∀ j : Nat, xK X (rnX S X m x dp j)
  | 0 => xK.rf
  | j + 1 => (xK_rn S X m x dp j).trans (xK_nx _ _ _ _ _ _)
theorem RelL.e {S X S' X' : MSt} (H : RelL S X) (s0 : S'.1 0 = S.1 0) (s2 : S'.1 2 = S.1 2) (s3 : S'.1 3 = S.1 3) (s16 : S'.1 16 = S.1 16) (s17 : S'.1 17 = S.1 17) (s18 : S'.1 18 = S.1 18) (s24 : S'.2 24 = S.2 24) (s29 : S'.2 29 = S.2 29) (x7 : X'.1 7 = X.1 7) (x8 : X'.1 8 = X.1 8) (x9 : X'.1 9 = X.1 9) (x10 : X'.1 10 = X.1 10) (x25 : X'.2 25 = X.2 25) : RelL S' X' := by
  obtain ⟨⟨h1, h1a, h1b⟩, h2, h3, h4, h5, h6⟩ := H
  have f0 : AF X' 0 = AF X 0 := x7
  have f2 : AF X' 2 = AF X 2 := x9
  have f3 : AF X' 3 = AF X 3 := x10
  have an : ∀ (z : Int) (j : Nat), anewN (AF X') z j = anewN (AF X) z j := fun z j => anewN_pre z (fun i _ => ⟨by rw [f0], by rw [f2]⟩) j (Nat.le_refl j)
  refine ⟨⟨by omega, by omega, by omega⟩, fun j hj => ?_, fun e he => ?_, fun z z0 z1 => ?_, fun z z0 z1 => ?_, fun w w0 w1 => ?_⟩
  · rw [s29, x7, x8, x10, s16, s17, s18]
    exact h2 j (by omega)
  · rw [x7, x8, x9, x10, an]
    exact h3 e (by omega)
  · rw [an, x25, s0]
    exact h4 z z0 z1
  · rw [s2, s29, h5 z z0 z1]
    exact (byN_pre z (fun i _ => ⟨by rw [f0], by rw [f3]⟩) _ (Nat.le_refl _)).symm
  · rw [s3, s29, h6 w w0 w1]
    exact (cntN_pre w (fun i _ => by rw [f3]) _ (Nat.le_refl _)).symm
theorem RelD.e {S X S' X' : MSt} {fr : Int} (H : RelD S X fr) (s19 : S'.1 19 = S.1 19) (s24 : S'.2 24 = S.2 24) (s29 : S'.2 29 = S.2 29) (x13 : X'.1 13 = X.1 13) (x20 : X'.2 20 = X.2 20) : RelD S' X' fr := ⟨by rw [x20, s29]; exact H.1, fun i h1 h2 => by rw [x13, s19]; exact H.2 i h1 (by omega)⟩
theorem RelA.nx {S X : MSt} {fr pl v mk dp : Int} (H : RelA S X fr) (hfr : fr ≤ S.2 24) (hp : 0 ≤ pl ∧ pl < 48) (hv : -9999 ≤ v ∧ v ≤ 9999) (hm : -1 ≤ mk ∧ mk ≤ 5) : RelA (becS S pl v mk dp) (nxX S X pl v mk dp) fr := by
  by_cases q : v = S.1 0 pl
  · have e1 : becS S pl v mk dp = S := if_pos q.symm
    have e2 : nxX S X pl v mk dp = X := if_pos q
    rw [e1, e2]
    exact H
  · have e1 : becS S pl v mk dp = uA (uG (uA (uA (uA (uA S 16 (S.2 24) pl) 17 (S.2 24) (S.1 0 pl)) 18 (S.2 24) mk) 19 (S.2 24) dp) 24 (S.2 24 + 1)) 0 pl v := if_neg (fun z => q z.symm)
    have e2 : nxX S X pl v mk dp = XnF (X13 X (upZ (X.1 13) (X.2 25 - X.2 20) dp)) (noteF (fun k => X.1 (7 + k)) (X.2 25) pl (S.1 0 pl) v mk) (X.2 25 + 1) := if_neg q
    rw [e1, e2]
    obtain ⟨HL, HD⟩ := H
    refine ⟨HL.push hp hv hm rfl rfl rfl rfl rfl rfl rfl rfl rfl rfl rfl rfl rfl, HD.1, fun i h1 h2 => ?_⟩
    have h2' : i < S.2 24 + 1 := h2
    show upZ (X.1 13) (X.2 25 - X.2 20) dp (i - fr) = upZ (S.1 19) (S.2 24) dp i
    have h3 := HL.1.1
    have h4 := HD.1
    by_cases z : i = S.2 24
    · rw [show X.2 25 - X.2 20 = i - fr by omega, z, upZ_s, upZ_s]
    · rw [upZ_n z, upZ_n (by omega)]
      exact HD.2 i h1 (by omega)
theorem RelA.rn {S X : MSt} {fr m x dp : Int} (H : RelA S X fr) (hfr : fr ≤ S.2 24) (hm : -1 ≤ m ∧ m ≤ 5) {n : Nat} (hg : ∀ j : Nat, j < n → 0 ≤ goalI S m j x ∧ goalI S m j x < 48) (hr : ∀ j : Nat, j ≤ n → rgN ((rnI S m x dp j).1 0)) : ∀ j : Nat, j ≤ n → RelA (rnI S m x dp j) (rnX S X m x dp j) fr
  | 0, _ => ⟨H.1.e rfl rfl rfl rfl rfl rfl rfl rfl rfl rfl rfl rfl rfl, H.2.e rfl rfl rfl rfl rfl⟩
  | j + 1, hj => by
    have ih := RelA.rn H hfr hm hg hr j (by omega)
    have h24 := rnI_24 S m x dp j
    have hgj := hg j (by omega)
    have hv := hr (j + 1) hj (goalI S m j x) hgj.1 hgj.2
    rw [rnI_nx, uA_n _ (by decide), becS_0, upZ_s] at hv
    rw [rnI_nx, rnX]
    have K := ih.nx (dp := dp) (by omega) hgj hv hm
    exact ⟨K.1.e rfl rfl rfl rfl rfl rfl rfl rfl rfl rfl rfl rfl rfl, K.2.e rfl rfl rfl rfl rfl⟩
/-- states that differ in the trial alone -/
def E1 (S S' : MSt) : Prop := (∀ k, k ≠ 1 → S'.1 k = S.1 k) ∧ S'.2 = S.2
theorem E1.cw {S S' : MSt} (E : E1 S S') : cwE S S' := ⟨E.1 0 (by decide), fun k h _ => E.1 k (by omega), E.1 21 (by decide), by rw [E.2], by rw [E.2], by rw [E.2], by rw [E.2], by rw [E.2], by rw [E.2]⟩
theorem RelA.e1 {S S' X : MSt} {fr : Int} (H : RelA S X fr) (E : E1 S S') : RelA S' X fr := ⟨H.1.e (E.1 0 (by decide)) (E.1 2 (by decide)) (E.1 3 (by decide)) (E.1 16 (by decide)) (E.1 17 (by decide)) (E.1 18 (by decide)) (by rw [E.2]) (by rw [E.2]) rfl rfl rfl rfl rfl, H.2.e (E.1 19 (by decide)) (by rw [E.2]) (by rw [E.2]) rfl rfl⟩
theorem E1_why (S : MSt) (m x : Int) : E1 S (whyS S m x).2 := ⟨fun k h => whyS_1 S m x k h, whyS_2 S m x⟩
theorem E1_u26 {S S' : MSt} (E : E1 S S') : E1 S (uG S' 26 (S'.2 26 + 0)) := ⟨E.1, by
  rw [← E.2]
  funext j
  show (if j = 26 then S'.2 26 + 0 else S'.2 j) = S'.2 j
  by_cases q : j = 26
  · rw [if_pos q, q, Int.add_zero]
  · rw [if_neg q]⟩
theorem E1.bec {S S' : MSt} (E : E1 S S') (g v w d : Int) : E1 (becS S g v w d) (becS S' g v w d) := by
  have e0 := E.1 0 (by decide)
  unfold becS
  rw [e0, E.2]
  by_cases q : S.1 0 g = v
  · rw [if_pos q, if_pos q]
    exact E
  · rw [if_neg q, if_neg q]
    refine ⟨fun k hk => ?_, ?_⟩
    · simp only [uA, uG, E.1 0 (by decide), E.1 16 (by decide), E.1 17 (by decide), E.1 18 (by decide), E.1 19 (by decide), E.1 k hk, show (16 : Nat) ≠ 1 by decide]
    · simp only [uA, uG, E.2]
theorem E1.u1 {S S' : MSt} (E : E1 S S') (z w z' w' : Int) : E1 (uA S 1 z w) (uA S' 1 z' w') := ⟨fun k hk => by rw [uA_n _ hk, uA_n _ hk]; exact E.1 k hk, E.2⟩
theorem E1.rn {S S' : MSt} {m x dp : Int} (E : E1 S S') (hx : 0 ≤ x ∧ x < 48) {n : Nat} (hg : ∀ j : Nat, j < n → 0 ≤ goalI S m j x ∧ goalI S m j x < 48) : ∀ j : Nat, j ≤ n → E1 (rnI S m x dp j) (rnI S' m x dp j)
  | 0, _ => ⟨fun k hk => by simp only [rnI, cpN, if_neg hk]; exact E.1 k hk, E.2⟩
  | j + 1, hj => by
    have ih := E1.rn (dp := dp) E hx hg j (by omega)
    have hgj := hg j (by omega)
    have eg : goalI S' m j x = goalI S m j x := by
      unfold goalI
      rw [E.1 6 (by decide), E.1 7 (by decide)]
    have es : stepI (rnI S' m x dp j) m j x = stepI (rnI S m x dp j) m j x := by
      refine stepI_eq (ih.1 5 (by decide)) (ih.1 6 (by decide)) (ih.1 7 (by decide)) (ih.1 8 (by decide)) ?_ ?_
      · rw [rnI_goal, rnI_01 S' m x dp j _ hgj.1 hgj.2, rnI_01 S m x dp j _ hgj.1 hgj.2, ih.1 0 (by decide)]
      · rw [rnI_01 S' m x dp j _ hx.1 hx.2, rnI_01 S m x dp j _ hx.1 hx.2, ih.1 0 (by decide)]
    rw [rnI_nx, rnI_nx, eg, es]
    exact (ih.bec _ _ _ _).u1 _ _ _ _

/-! what each call keeps -/
def INV (S X : MSt) (b : Int) : Prop := Iv S X b ∧ UM S
theorem MW_b {S : MSt} {b b' : Int} (h : MW S b) (h1 : b ≤ b') (h2 : b' ≤ 107520) : MW S b' := by
  obtain ⟨a1, a2, a3, a4, ⟨s1, s2, s3, s4⟩, a6⟩ := h
  exact ⟨a1, a2, a3, a4, ⟨s1, s2, by omega, h2⟩, a6⟩
theorem INV_b {S X : MSt} {b b' : Int} (h : INV S X b) (h1 : b ≤ b') (h2 : b' ≤ 107520) : INV S X b' := ⟨⟨MW_b h.1.1 h1 h2, h.1.2⟩, h.2⟩
section
variable {S S' X X' : MSt} {b : Int}
theorem INV_u31 (v : Int) (h : INV S X b) : INV (uG S 31 v) X b := h
theorem INV_u26 (v : Int) (h : INV S X b) : INV (uG S 26 v) X b := h
theorem INV_cg (e1 : ∀ k, k ≠ 1 → S'.1 k = S.1 k) (e2 : ∀ k, k ≠ 31 → S'.2 k = S.2 k) (h : INV S X b) : INV S' X b := by
  simp only [INV, Iv, MW, WFp, WFl, HW, RW, SW, TW, KD, RM, UM, RelF, RelL, RelH, e1 0 (by decide), e1 2 (by decide), e1 3 (by decide), e1 4 (by decide), e1 5 (by decide), e1 6 (by decide), e1 7 (by decide), e1 8 (by decide), e1 9 (by decide), e1 10 (by decide), e1 11 (by decide), e1 12 (by decide), e1 13 (by decide), e1 14 (by decide), e1 15 (by decide), e1 16 (by decide), e1 17 (by decide), e1 18 (by decide), e1 19 (by decide), e1 20 (by decide), e1 21 (by decide), e2 22 (by decide), e2 23 (by decide), e2 24 (by decide), e2 25 (by decide), e2 27 (by decide), e2 28 (by decide), e2 29 (by decide), e2 30 (by decide)] at h ⊢
  exact h
theorem INV_xtr (f : Int → Int) (h : INV S X b) : INV S (Xtr X f) b := ⟨⟨h.1.1, h.1.2.1, h.1.2.2.1, h.1.2.2.2.1.e rfl rfl rfl rfl rfl rfl rfl rfl rfl rfl rfl rfl rfl, h.1.2.2.2.2.1, h.1.2.2.2.2.2⟩, h.2⟩
theorem INV_why (m x : Int) (h : INV S X b) : INV (whyS S m x).2 X b := INV_cg (fun k hk => whyS_1 S m x k hk) (fun k _ => by rw [whyS_2]) h
theorem INV_addM (h : INV S X b) (h6 : S.2 22 ≠ 6) : INV (uG S 22 (S.2 22 + 1)) X b := by
  obtain ⟨⟨⟨w, wl, hw, rw9, sw, tw⟩, kd, rm, rel⟩, um⟩ := h
  obtain ⟨w1, w2, w3, w4, w5, w6⟩ := w
  refine ⟨⟨⟨⟨w1, w2, w3, w4, ⟨?_, ?_, w5.2.2⟩, w6⟩, wl, hw, fun q => ⟨?_, (rw9 q).2⟩, sw, tw⟩, kd, fun r r0 r1 => ?_, rel⟩, fun m m0 m1 => um m ?_ m1⟩
  · show 0 ≤ S.2 22 + 1
    omega
  · show S.2 22 + 1 ≤ 6
    omega
  · have := (rw9 q).1
    show S.2 27 < S.2 22 + 1
    omega
  · have := rm r r0 r1
    show S.1 14 r < S.2 22 + 1
    omega
  · have m2 : S.2 22 + 1 ≤ m := m0
    omega
theorem INV_rec {m x : Int} (h : INV S X b) (hm : 0 ≤ m ∧ m < S.2 22) (hx : 0 ≤ x ∧ x < 48) : INV (uG (uG (uA S 4 m 0) 27 m) 28 x) X b := by
  obtain ⟨⟨⟨w, wl, hw, rw9, sw, tw⟩, kd, rm, rel⟩, um⟩ := h
  have w5 := w.2.2.2.2.1
  refine ⟨⟨⟨WFp_28 (WFp_27m (WFp_4 w) ⟨hm.1, by omega⟩) hx, wl, hw, fun _ => ⟨hm.2, ?_⟩, sw, tw⟩, fun m' k m0 m1 k0 k1 => kd m' k m0 m1 k0 ?_, rm, rel⟩, fun m' m0 m1 => ?_⟩
  · show upZ (S.1 4) m 0 m < 10
    rw [upZ_s]
    decide
  · have k2 : k < upZ (S.1 4) m 0 m' := k1
    unfold upZ at k2
    split at k2 <;> omega
  · show upZ (S.1 4) m 0 m' = 0 ∧ S.1 9 m' = 0
    have := um m' m0 m1
    unfold upZ
    split
    · exact ⟨rfl, this.2⟩
    · exact this
theorem INV_stop (h : INV S X b) : INV (uG S 27 (-1)) X b := by
  obtain ⟨⟨⟨w, wl, hw, rw9, sw, tw⟩, kd, rm, rel⟩, um⟩ := h
  exact ⟨⟨⟨WFp_27 w, wl, hw, fun q => absurd (show (0 : Int) ≤ -1 from q) (by decide), sw, tw⟩, kd, rm, rel⟩, um⟩
theorem INV_take {m : Int} (h : INV S X b) : INV (uA S 9 m 0) X b := by
  obtain ⟨⟨⟨w, wl, hw, rw9, sw, tw⟩, kd, rm, rel⟩, um⟩ := h
  obtain ⟨w1, w2, w3, w4, w5, w6⟩ := w
  refine ⟨⟨⟨⟨w1, fun m' m0 m1 => ?_, w3, w4, w5, w6⟩, wl, hw, rw9, sw, tw⟩, kd, rm, rel⟩, fun m' m0 m1 => ?_⟩
  · have := w2 m' m0 m1
    refine ⟨this.1, this.2.1, ?_, ?_⟩
    · show 0 ≤ upZ (S.1 9) m 0 m'
      unfold upZ
      split <;> omega
    · show upZ (S.1 9) m 0 m' ≤ 4
      unfold upZ
      split <;> omega
  · have := um m' m0 m1
    refine ⟨this.1, ?_⟩
    show upZ (S.1 9) m 0 m' = 0
    unfold upZ
    split <;> omega
theorem INV_grant {m a c : Int} (h : INV S X b) (hm : 0 ≤ m ∧ m < S.2 22) (ha : 0 ≤ a ∧ a < 48) (hc : 0 ≤ c ∧ c < 48) (h4 : S.1 9 m ≠ 4) : INV (uA (uA (uA S 10 (4 * m + S.1 9 m) a) 11 (4 * m + S.1 9 m) c) 9 m (S.1 9 m + 1)) X b := by
  obtain ⟨⟨⟨w, wl, hw, rw9, sw, tw⟩, kd, rm, rel⟩, um⟩ := h
  obtain ⟨w1, w2, w3, w4, w5, w6⟩ := w
  refine ⟨⟨⟨⟨w1, fun m' m0 m1 => ?_, fun g g0 g1 => ?_, w4, w5, w6⟩, wl, hw, rw9, sw, tw⟩, kd, rm, rel⟩, fun m' m0 m1 => ?_⟩
  · have := w2 m' m0 m1
    have h9 := w2 m hm.1 (by omega)
    refine ⟨this.1, this.2.1, ?_, ?_⟩
    · show 0 ≤ upZ (S.1 9) m (S.1 9 m + 1) m'
      unfold upZ
      split <;> omega
    · show upZ (S.1 9) m (S.1 9 m + 1) m' ≤ 4
      unfold upZ
      split <;> omega
  · have := w3 g g0 g1
    show 0 ≤ upZ (S.1 10) (4 * m + S.1 9 m) a g ∧ upZ (S.1 10) (4 * m + S.1 9 m) a g < 48 ∧ 0 ≤ upZ (S.1 11) (4 * m + S.1 9 m) c g ∧ upZ (S.1 11) (4 * m + S.1 9 m) c g < 48
    unfold upZ
    split <;> omega
  · have := um m' m0 m1
    have m2 : S.2 22 ≤ m' := m0
    refine ⟨this.1, ?_⟩
    show upZ (S.1 9) m (S.1 9 m + 1) m' = 0
    rw [upZ_n (by omega)]
    exact this.2
theorem INV_rank {q k : Int} (h : INV S X b) (hk : 0 ≤ k ∧ k ≤ 9) : INV (uA S 15 q k) X b := by
  obtain ⟨⟨⟨w, wl, hw, rw9, sw, tw⟩, kd, rm, rel⟩, um⟩ := h
  obtain ⟨w1, w2, w3, w4, w5, w6⟩ := w
  refine ⟨⟨⟨⟨w1, w2, w3, fun r r0 r1 => ?_, w5, w6⟩, wl, hw, rw9, sw, tw⟩, kd, rm, rel⟩, um⟩
  have := w4 r r0 r1
  refine ⟨this.1, this.2.1, this.2.2.1, this.2.2.2.1, this.2.2.2.2.1, this.2.2.2.2.2.1, ?_⟩
  show 0 ≤ upZ (S.1 15) q k r ∧ upZ (S.1 15) q k r ≤ 9
  unfold upZ
  split <;> omega
theorem INV_addR {a c m k : Int} (h : INV S X b) (ha : 0 ≤ a ∧ a < 48) (hc : 0 ≤ c ∧ c < 48) (hm : 0 ≤ m ∧ m < S.2 22) (hk : 0 ≤ k ∧ k ≤ 9) (h6 : S.2 23 ≠ 6) : INV (uG (uA (uA (uA (uA S 12 (S.2 23) a) 13 (S.2 23) c) 14 (S.2 23) m) 15 (S.2 23) k) 23 (S.2 23 + 1)) X b := by
  obtain ⟨⟨⟨w, wl, hw, rw9, sw, tw⟩, kd, rm, rel⟩, um⟩ := h
  obtain ⟨w1, w2, w3, w4, w5, w6⟩ := w
  refine ⟨⟨⟨⟨w1, w2, w3, fun r r0 r1 => ?_, ⟨w5.1, w5.2.1, ?_, ?_, w5.2.2.2.2⟩, w6⟩, wl, hw, rw9, sw, tw⟩, kd, fun r r0 r1 => ?_, rel⟩, um⟩
  · have := w4 r r0 r1
    show 0 ≤ upZ (S.1 12) (S.2 23) a r ∧ upZ (S.1 12) (S.2 23) a r < 48 ∧ 0 ≤ upZ (S.1 13) (S.2 23) c r ∧ upZ (S.1 13) (S.2 23) c r < 48 ∧ 0 ≤ upZ (S.1 14) (S.2 23) m r ∧ upZ (S.1 14) (S.2 23) m r < 6 ∧ 0 ≤ upZ (S.1 15) (S.2 23) k r ∧ upZ (S.1 15) (S.2 23) k r ≤ 9
    unfold upZ
    split <;> omega
  · show 0 ≤ S.2 23 + 1
    omega
  · show S.2 23 + 1 ≤ 6
    omega
  · have r2 : r < S.2 23 + 1 := r1
    show upZ (S.1 14) (S.2 23) m r < S.2 22
    by_cases q : r = S.2 23
    · rw [q, upZ_s]
      exact hm.2
    · rw [upZ_n q]
      exact rm r r0 (by omega)
theorem INV_undo (h : INV S X b) (hz : 0 < S.2 25) (hx : X'.1 7 = X.1 7 ∧ X'.1 8 = X.1 8 ∧ X'.1 9 = X.1 9 ∧ X'.1 10 = X.1 10) (x25 : X'.2 25 = S.2 29 + S.1 20 (S.2 25 - 1)) (x26 : X'.2 26 = X.2 26) (x27 : X'.2 27 = X.2 27 - 1) (x12 : X'.1 12 = X.1 12) : INV (unI (uG S 25 (S.2 25 - 1)) (S.2 24 - S.1 20 (S.2 25 - 1)).toNat) X' b := by
  obtain ⟨⟨⟨w, wl, hw, rw9, sw, tw⟩, kd, rm, rL, rH, rN⟩, um⟩ := h
  have h1 := hw.2.2.2.2 (S.2 25 - 1) (by omega) (by omega)
  rw [show S.2 25 - 1 + 1 = S.2 25 by omega, hw.2.2.2.1] at h1
  have hlo := HWo_lo (HW_o hw) (S.2 25 - 1).toNat (by omega)
  rw [show (((S.2 25 - 1).toNat : Nat) : Int) = S.2 25 - 1 by omega] at hlo
  generalize hn : (S.2 24 - S.1 20 (S.2 25 - 1)).toNat = n
  have hnn : (n : Int) = S.2 24 - S.1 20 (S.2 25 - 1) := by omega
  have e1 := fun k hk => unI_1 (uG S 25 (S.2 25 - 1)) k hk n
  have e2 := fun k hk => unI_2 (uG S 25 (S.2 25 - 1)) k hk n
  have e24 : (unI (uG S 25 (S.2 25 - 1)) n).2 24 = S.2 24 - n := by
    have : ∀ j : Nat, (unI (uG S 25 (S.2 25 - 1)) j).2 24 = S.2 24 - j := fun j => by
      induction j with
      | zero => show S.2 24 = _; simp
      | succ j ih =>
        show (unI (uG S 25 (S.2 25 - 1)) j).2 24 - 1 = _
        rw [ih]
        omega
    exact this n
  have e25 : (unI (uG S 25 (S.2 25 - 1)) n).2 25 = S.2 25 - 1 := e2 25 (by decide)
  have e22 : (unI (uG S 25 (S.2 25 - 1)) n).2 22 = S.2 22 := e2 22 (by decide)
  have e23 : (unI (uG S 25 (S.2 25 - 1)) n).2 23 = S.2 23 := e2 23 (by decide)
  have e27 : (unI (uG S 25 (S.2 25 - 1)) n).2 27 = S.2 27 := e2 27 (by decide)
  have e29 : (unI (uG S 25 (S.2 25 - 1)) n).2 29 = S.2 29 := e2 29 (by decide)
  have e30 : (unI (uG S 25 (S.2 25 - 1)) n).2 30 = S.2 30 := e2 30 (by decide)
  have a2 : (unI (uG S 25 (S.2 25 - 1)) n).1 2 = S.1 2 := e1 2 (by decide)
  have a4 : (unI (uG S 25 (S.2 25 - 1)) n).1 4 = S.1 4 := e1 4 (by decide)
  have a9 : (unI (uG S 25 (S.2 25 - 1)) n).1 9 = S.1 9 := e1 9 (by decide)
  have a14 : (unI (uG S 25 (S.2 25 - 1)) n).1 14 = S.1 14 := e1 14 (by decide)
  have a16 : (unI (uG S 25 (S.2 25 - 1)) n).1 16 = S.1 16 := e1 16 (by decide)
  have a18 : (unI (uG S 25 (S.2 25 - 1)) n).1 18 = S.1 18 := e1 18 (by decide)
  have a19 : (unI (uG S 25 (S.2 25 - 1)) n).1 19 = S.1 19 := e1 19 (by decide)
  have a20 : (unI (uG S 25 (S.2 25 - 1)) n).1 20 = S.1 20 := e1 20 (by decide)
  have a21 : (unI (uG S 25 (S.2 25 - 1)) n).1 21 = S.1 21 := e1 21 (by decide)
  have rL' : RelL (uG S 25 (S.2 25 - 1)) X := rL.e rfl rfl rfl rfl rfl rfl rfl rfl rfl rfl rfl rfl rfl
  have hL := un_rel rL' (k := S.1 20 (S.2 25 - 1)) ⟨hlo, by show S.1 20 (S.2 25 - 1) ≤ S.2 24; omega⟩ hx.1 hx.2.1 hx.2.2.1 hx.2.2.2 x25
  have hL : RelL (unI (uG S 25 (S.2 25 - 1)) n) X' := by
    rw [← hn]
    exact hL
  refine ⟨⟨⟨WFp_un (S := uG S 25 (S.2 25 - 1)) w rL' (by show (n : Int) ≤ S.2 24; omega), ?_, ?_, ?_, ?_, ?_⟩, KD_of kd (fun k k0 _ => e1 k (by omega)), ?_, hL, ?_, ?_⟩, ?_⟩
  · unfold WFl
    rw [e24, a16, a18, a19]
    exact ⟨by omega, fun k k0 k1 => wl.2 k k0 (by omega)⟩
  · unfold HW
    rw [e25, e24, a20]
    exact ⟨by omega, by have := hw.2.1; omega, hw.2.2.1, by omega, fun k k0 k1 => hw.2.2.2.2 k k0 (by omega)⟩
  · unfold RW
    rw [e27, e22, a4]
    exact rw9
  · unfold SW
    rw [a2, e29, e24]
    exact ⟨sw.1, sw.2.1, by have := sw.2.2.1; omega, sw.2.2.2⟩
  · unfold TW
    rw [e30, a21]
    exact tw
  · unfold RM
    rw [e23, a14, e22]
    exact rm
  · unfold RelH
    rw [e25, e29, a20, x27, x12]
    exact ⟨by have := rH.1; omega, fun k k0 k1 => rH.2 k k0 (by omega)⟩
  · unfold RelN
    rw [x26]
    exact rN
  · unfold UM
    rw [e22, a4, a9]
    exact um
end
/-! the text -/
theorem TW_wr {S : MSt} {c : Int} (h : TW S) (h2 : S.2 30 < 20) (hc : 0 ≤ c ∧ c < 256) : TW (wrS S c) := by
  unfold TW
  rw [wrS_30, wr_21]
  refine ⟨by have := h.1; omega, by omega, fun z z0 z1 => ?_⟩
  by_cases q : z = S.2 30
  · rw [q, upZ_s]
    exact hc
  · rw [upZ_n q]
    exact h.2.2 z z0 z1
theorem TW_dig : ∀ (f : Nat) (S : MSt) (n : Int), TW S → 0 ≤ n → S.2 30 + f ≤ 20 → TW (digN f S n) ∧ (digN f S n).2 30 ≤ S.2 30 + f ∧ S.2 30 ≤ (digN f S n).2 30
  | 0, S, n, h, _, _ => ⟨h, by show S.2 30 ≤ S.2 30 + ((0 : Nat) : Int); omega, Int.le_refl _⟩
  | f + 1, S, n, h, hn, h2 => by
    rw [digN]
    split
    · obtain ⟨i1, i2, i3⟩ := TW_dig f S (n / 10) h (by omega) (by omega)
      refine ⟨TW_wr i1 (by omega) (by omega), ?_, ?_⟩ <;> rw [wrS_30] <;> omega
    · refine ⟨TW_wr h (by omega) (by omega), ?_, ?_⟩ <;> rw [wrS_30] <;> omega
theorem TW_dist {S : MSt} {d : Int} (h : TW S) (h2 : S.2 30 + 2 ≤ 20) : TW (distS S d) ∧ (distS S d).2 30 ≤ S.2 30 + 2 := by
  unfold distS
  have hs : TW (wrS S (signI d)) := TW_wr h (by omega) (by unfold signI; split <;> omega)
  have e := wrS_30 S (signI d)
  obtain ⟨a, b, -⟩ := TW_dig 1 (wrS S (signI d)) (absI d) hs (absI_0 d) (by rw [e]; omega)
  exact ⟨a, by rw [e] at b; omega⟩
theorem TW_num {S : MSt} {d : Int} (h : TW S) (h2 : S.2 30 + 5 ≤ 20) : TW (numS S d) := by
  unfold numS
  split
  · exact (TW_dig 4 S (absI d) h (absI_0 d) (by omega)).1
  · have e := wrS_30 S 45
    exact (TW_dig 4 (wrS S 45) (absI d) (TW_wr h (by omega) (by decide)) (absI_0 d) (by rw [e]; omega)).1
theorem stp_1 {S : MSt} {q : Int} {k : Nat} (h : k ≠ 21) : (stepS S q).1 k = S.1 k := by
  unfold stepS
  split
  · rw [(tx_1 h _ _).2, (tx_1 h _ _).2, wrS_1 _ _ k h]; rfl
  · rw [(tx_1 h _ _).1, wrS_1 _ _ k h, (tx_1 h _ _).2, (tx_1 h _ _).2, wrS_1 _ _ k h]; rfl
theorem stp_2 {S : MSt} {q : Int} {k : Nat} (h : k ≠ 30) : (stepS S q).2 k = S.2 k := by
  unfold stepS
  split
  · rw [(tx_2 h _ _).2, (tx_2 h _ _).2, wrS_2 _ _ k h, uG_n _ h]
  · rw [(tx_2 h _ _).1, wrS_2 _ _ k h, (tx_2 h _ _).2, (tx_2 h _ _).2, wrS_2 _ _ k h, uG_n _ h]
theorem TW_stp {S : MSt} {q : Int} (h : TW S) (hk : 0 ≤ S.1 5 q ∧ S.1 5 q < 256) : TW (stepS S q) := by
  have h0 : TW (uG S 30 0) := ⟨by rw [uG_s]; decide, by rw [uG_s]; decide, h.2.2⟩
  have e0 : (uG S 30 0).2 30 = 0 := uG_s _ _ _
  have h1 := TW_wr (c := S.1 5 q) h0 (by rw [e0]; decide) hk
  have e1 := wrS_30 (uG S 30 0) (S.1 5 q)
  obtain ⟨h2, e2⟩ := TW_dist (d := S.1 6 q) h1 (by rw [e1, e0]; decide)
  obtain ⟨h3, e3⟩ := TW_dist (d := S.1 7 q) h2 (by omega)
  unfold stepS
  split
  · exact h3
  · have h4 := TW_wr (c := 61) h3 (by omega) (by decide)
    have e4 := wrS_30 (distS (distS (wrS (uG S 30 0) (S.1 5 q)) (S.1 6 q)) (S.1 7 q)) 61
    exact TW_num h4 (by omega)
theorem INV_stp {S X : MSt} {b q : Int} (h : INV S X b) (hq : 0 ≤ q ∧ q < 60) : INV (stepS S q) X b := by
  obtain ⟨⟨⟨w, wl, hw, rw9, sw, tw⟩, kd, rm, rL, rH, rN⟩, um⟩ := h
  have w1 := w.1 q hq.1 hq.2
  have tw' := TW_stp (q := q) tw ⟨by omega, by omega⟩
  have e1 : ∀ k, k ≠ 21 → (stepS S q).1 k = S.1 k := fun k hk => stp_1 hk
  have e2 : ∀ k, k ≠ 30 → (stepS S q).2 k = S.2 k := fun k hk => stp_2 hk
  refine ⟨⟨⟨?_, ?_, ?_, ?_, ?_, tw'⟩, ?_, ?_, ?_, ?_, rN⟩, ?_⟩
  · simp only [WFp, e1 0 (by decide), e1 4 (by decide), e1 5 (by decide), e1 6 (by decide), e1 7 (by decide), e1 8 (by decide), e1 9 (by decide), e1 10 (by decide), e1 11 (by decide), e1 12 (by decide), e1 13 (by decide), e1 14 (by decide), e1 15 (by decide), e2 22 (by decide), e2 23 (by decide), e2 27 (by decide), e2 28 (by decide)]
    exact w
  · simp only [WFl, e1 16 (by decide), e1 18 (by decide), e1 19 (by decide), e2 24 (by decide)]
    exact wl
  · simp only [HW, e1 20 (by decide), e2 24 (by decide), e2 25 (by decide)]
    exact hw
  · simp only [RW, e1 4 (by decide), e2 22 (by decide), e2 27 (by decide)]
    exact rw9
  · simp only [SW, e1 2 (by decide), e2 24 (by decide), e2 29 (by decide)]
    exact sw
  · simp only [KD, e1 4 (by decide), e1 5 (by decide)]
    exact kd
  · simp only [RM, e1 14 (by decide), e2 22 (by decide), e2 23 (by decide)]
    exact rm
  · exact rL.e (e1 0 (by decide)) (e1 2 (by decide)) (e1 3 (by decide)) (e1 16 (by decide)) (e1 17 (by decide)) (e1 18 (by decide)) (e2 24 (by decide)) (e2 29 (by decide)) rfl rfl rfl rfl rfl
  · simp only [RelH, e1 20 (by decide), e2 25 (by decide), e2 29 (by decide)]
    exact rH
  · simp only [UM, e1 4 (by decide), e1 9 (by decide), e2 22 (by decide)]
    exact um
/-! the actions -/
theorem chX_1 (S : MSt) (fr : Int) (k : Nat) (h : k ≠ 0 ∧ k ≠ 1 ∧ k ≠ 16 ∧ k ≠ 17 ∧ k ≠ 18 ∧ k ≠ 19) : (chX S fr).1 k = S.1 k := chI_1 S fr k h _
theorem INV_ends {S S1 X X4 : MSt} {b w : Int} (h : INV S X b) (hb : b + 210 ≤ 107520) (haw : AW S1 (S.2 24)) (f9 : S1.1 9 = S.1 9) (f14 : S1.1 14 = S.1 14) (f21 : S1.1 21 = S.1 21) (g22 : S1.2 22 = S.2 22) (g23 : S1.2 23 = S.2 23) (g29 : S1.2 29 = S.2 29) (g30 : S1.2 30 = S.2 30) (hkd : KD S1) (h4 : ∀ m, S.2 22 ≤ m → S1.1 4 m = S.1 4 m) (hw1 : 0 ≤ w → w < S.2 22 ∧ S1.1 4 w < 10) (hw2 : -1 ≤ w ∧ w < 6) (hE : EW (chX S1 (S.2 24)) X4 (S.2 24)) (hN : RelN X4) : INV (uG (endsS (chX S1 (S.2 24)) (S.2 24) ((chX S1 (S.2 24)).2 24 - S.2 24)).2 27 w) (endX (chX S1 (S.2 24)) X4 (S.2 24)) (b + 210) := by
  obtain ⟨⟨⟨w9, wl, hw, rw9, sw, tw⟩, kd, rm, rL, rH, rN⟩, um⟩ := h
  obtain ⟨c1, c2, c3, c4, c5, c6⟩ := AW_chX haw
  obtain ⟨r1, r2, r3, r4, r5⟩ := ends_rel hE
  have h24 := hE.2.2.2.2.2
  have x1 : ∀ k, k ≠ 0 → k ≠ 1 → k ≠ 16 → k ≠ 17 → k ≠ 18 → k ≠ 19 → (chX S1 (S.2 24)).1 k = S1.1 k := fun k a b c d e f => chX_1 S1 (S.2 24) k ⟨a, b, c, d, e, f⟩
  have e1 := endsS_1 (chX S1 (S.2 24)) (S.2 24) ((chX S1 (S.2 24)).2 24 - S.2 24)
  have e2 := endsS_2 (chX S1 (S.2 24)) (S.2 24) ((chX S1 (S.2 24)).2 24 - S.2 24)
  generalize hC : chX S1 (S.2 24) = C at *
  generalize hD : (endsS C (S.2 24) (C.2 24 - S.2 24)).2 = D at *
  have d4 : D.1 4 = S1.1 4 := (e1 4 (by decide)).trans (x1 4 (by decide) (by decide) (by decide) (by decide) (by decide) (by decide))
  have d9 : D.1 9 = S.1 9 := ((e1 9 (by decide)).trans (x1 9 (by decide) (by decide) (by decide) (by decide) (by decide) (by decide))).trans f9
  have d14 : D.1 14 = S.1 14 := ((e1 14 (by decide)).trans (x1 14 (by decide) (by decide) (by decide) (by decide) (by decide) (by decide))).trans f14
  have d21 : D.1 21 = S.1 21 := ((e1 21 (by decide)).trans (x1 21 (by decide) (by decide) (by decide) (by decide) (by decide) (by decide))).trans f21
  have d22 : D.2 22 = S.2 22 := ((e2 22 (by decide)).trans (c5 22 (by decide) (by decide))).trans g22
  have d23 : D.2 23 = S.2 23 := ((e2 23 (by decide)).trans (c5 23 (by decide) (by decide))).trans g23
  have d30 : D.2 30 = S.2 30 := ((e2 30 (by decide)).trans (c5 30 (by decide) (by decide))).trans g30
  have c29 : C.2 29 = S.2 29 := (c5 29 (by decide) (by decide)).trans g29
  have wD : WFp D := WFp_of c1 (fun k k0 k1 => e1 k (by omega)) ⟨e2 22 (by decide), e2 23 (by decide), e2 27 (by decide), e2 28 (by decide)⟩ (by rw [e1 0 (by decide)]; exact c1.2.2.2.2.2)
  obtain ⟨w1, w2, w3, w4, w5, w6⟩ := wD
  refine ⟨⟨⟨⟨w1, w2, w3, w4, ⟨w5.1, w5.2.1, w5.2.2.1, w5.2.2.2.1, hw2.1, hw2.2, w5.2.2.2.2.2.2⟩, w6⟩, r4, r3, fun q => ?_, ⟨r1.sw, r1.1.2.1, ?_, hb⟩, ?_⟩, ?_, ?_, r1.e rfl rfl rfl rfl rfl rfl rfl rfl rfl rfl rfl rfl rfl, r2, ?_⟩, ?_⟩
  · have q1 : 0 ≤ w := q
    show w < D.2 22 ∧ D.1 4 w < 10
    rw [d22, d4]
    exact hw1 q1
  · show D.2 29 + D.2 24 ≤ b + 210
    have := sw.2.2.1
    omega
  · show TW (uG D 27 w)
    have : TW D := by
      unfold TW
      rw [d30, d21]
      exact tw
    exact this
  · have : KD D := by
      refine KD_of hkd (fun k k0 k1 => ?_)
      rw [e1 k (by omega), x1 k (by omega) (by omega) (by omega) (by omega) (by omega) (by omega)]
    exact this
  · have : RM D := RM_of rm d14 d22 d23
    exact this
  · unfold endX
    split
    · exact hN
    · exact hN
  · show ∀ m : Int, D.2 22 ≤ m → m < 6 → D.1 4 m = 0 ∧ D.1 9 m = 0
    rw [d22, d4, d9]
    intro m m0 m1
    rw [h4 m m0]
    exact um m m0 m1
theorem rec_4 {S : MSt} {a x n : Int} {m : Int} (hm : m ≠ S.2 27) : (recS S a x n).1 4 m = S.1 4 m := by
  unfold recS
  split
  · rfl
  · rw [uA_s]
    exact upZ_n hm
theorem INV_hand {S X X4 S3 : MSt} {a x v n b : Int} (h : INV S X b) (hb : b + 210 ≤ 107520) (ha : a = 115 ∨ a = 97 ∨ a = 99) (hx : 0 ≤ x ∧ x < 48) (hn : -9999 ≤ n ∧ n ≤ 9999) (hv : isValueB v = true) (hS3 : S3 = chX (handS S a x v n) (S.2 24)) (hE : EW S3 X4 (S.2 24)) (h25 : 0 ≤ X.2 25 ∧ X.2 25 ≤ X.2 26) (h26 : X4.2 26 = (lenG (X.2 25) (X.2 26).toNat : Int)) : INV (byHandS S a x v n).2 (endX S3 X4 (S.2 24)) (b + 210) := by
  subst hS3
  have haw : AW (handS S a x v n) (S.2 24) := hand_wf h.1.1 (by omega) hx hn hv
  have hN : RelN X4 := by
    obtain ⟨-, ⟨e, he, hl⟩, -⟩ := RelN_g h.1.2.2.2.2.2 h25 (by have := h.1.1.2.2.2.2.1; have := h.1.2.2.2.1.1; have := this.1; obtain ⟨-, s2, s3, s4⟩ := h.1.1.2.2.2.2.1; omega)
    exact ⟨e, he, by rw [h26]; exact hl⟩
  have c5 := (AW_chX haw).2.2.2.2.1
  have e2 := endsS_2 (chX (handS S a x v n) (S.2 24)) (S.2 24) ((chX (handS S a x v n) (S.2 24)).2 24 - S.2 24) 27 (by decide)
  have e1 := endsS_1 (chX (handS S a x v n) (S.2 24)) (S.2 24) ((chX (handS S a x v n) (S.2 24)).2 24 - S.2 24) 4 (by decide)
  have d27 : (endsS (chX (handS S a x v n) (S.2 24)) (S.2 24) ((chX (handS S a x v n) (S.2 24)).2 24 - S.2 24)).2.2 27 = S.2 27 := (e2.trans (c5 27 (by decide) (by decide))).trans (hand_2 S a x v n 27 (by decide))
  have d4 : (endsS (chX (handS S a x v n) (S.2 24)) (S.2 24) ((chX (handS S a x v n) (S.2 24)).2 24 - S.2 24)).2.1 4 = (handS S a x v n).1 4 := e1.trans (chX_1 _ _ 4 (by decide))
  have rw9 := h.1.1.2.2.2.1
  have w5 := h.1.1.1.2.2.2.2.1
  have w2 := haw.1.2.1
  refine INV_ends (w := if 0 ≤ (endsS (chX (handS S a x v n) (S.2 24)) (S.2 24) ((chX (handS S a x v n) (S.2 24)).2 24 - S.2 24)).2.2 27 ∧ (endsS (chX (handS S a x v n) (S.2 24)) (S.2 24) ((chX (handS S a x v n) (S.2 24)).2 24 - S.2 24)).2.1 4 ((endsS (chX (handS S a x v n) (S.2 24)) (S.2 24) ((chX (handS S a x v n) (S.2 24)).2 24 - S.2 24)).2.2 27) = 10 then -1 else (endsS (chX (handS S a x v n) (S.2 24)) (S.2 24) ((chX (handS S a x v n) (S.2 24)).2 24 - S.2 24)).2.2 27) h hb haw (hand_1 S a x v n 9 (by decide)) (hand_1 S a x v n 14 (by decide)) (hand_1 S a x v n 21 (by decide)) (hand_2 S a x v n 22 (by decide)) (hand_2 S a x v n 23 (by decide)) (hand_2 S a x v n 29 (by decide)) (hand_2 S a x v n 30 (by decide)) (KD_hand h.1.1 h.1.2.1 ha) (fun m hm => ?_) ?_ ?_ hE hN
  · unfold handS
    rw [becS_1 _ _ _ _ _ 4 (by decide)]
    by_cases q : S.2 27 < 0
    · rw [show recS S a x n = S from if_pos q]
    · exact rec_4 (by have := (rw9 (by omega)).1; omega)
  · rw [d27, d4]
    split
    · intro z
      exact absurd z (by decide)
    · rename_i q
      intro z
      have r := rw9 z
      have := w2 (S.2 27) z (by omega)
      refine ⟨r.1, ?_⟩
      have q2 : ¬ (handS S a x v n).1 4 (S.2 27) = 10 := fun e => q ⟨z, e⟩
      omega
  · rw [d27, d4]
    split
    · decide
    · exact ⟨w5.2.2.2.2.1, w5.2.2.2.2.2.1⟩
theorem INV_run {S X X4 S3 : MSt} {m x b : Int} (h : INV S X b) (hb : b + 210 ≤ 107520) (hm : 0 ≤ m ∧ m < S.2 22) (hx : 0 ≤ x ∧ x < 48) (hok : (whyS S m x).1 = 45) (hS3 : S3 = chX (runS (uG (whyS S m x).2 31 0) m x 0) (S.2 24)) (hE : EW S3 X4 (S.2 24)) (h25 : 0 ≤ X.2 25 ∧ X.2 25 ≤ X.2 26) (h26 : X4.2 26 = (lenG (X.2 25) (X.2 26).toNat : Int)) : INV (runZ S m x).2 (endX S3 X4 (S.2 24)) (b + 210) := by
  subst hS3
  have w5 := h.1.1.1.2.2.2.2.1
  have haw : AW (runS (uG (whyS S m x).2 31 0) m x 0) (S.2 24) := (run_pre3 (v := 0) h.1.1 ⟨hm.1, by omega⟩ hx hok).2.2.2
  have hN : RelN X4 := by
    obtain ⟨-, ⟨e, he, hl⟩, -⟩ := RelN_g h.1.2.2.2.2.2 h25 (by have := h.1.2.2.2.1.1; have := this.1; obtain ⟨-, s2, s3, s4⟩ := h.1.1.2.2.2.2.1; omega)
    exact ⟨e, he, by rw [h26]; exact hl⟩
  have r1 := run_1 S m x 0
  have r2 := run_2 S m x 0
  have d27 : (runZ S m x).2.2 27 = S.2 27 := ((endsS_2 _ _ _ 27 (by decide)).trans ((AW_chX haw).2.2.2.2.1 27 (by decide) (by decide))).trans (r2 27 (by decide))
  have K := INV_ends (w := (runZ S m x).2.2 27) h hb haw (r1 9 (by decide)) (r1 14 (by decide)) (r1 21 (by decide)) (r2 22 (by decide)) (r2 23 (by decide)) (r2 29 (by decide)) (r2 30 (by decide)) (KD_of h.1.2.1 (fun k k0 k1 => r1 k (by omega))) (fun m' _ => by rw [r1 4 (by decide)]) (fun z => by rw [d27] at z ⊢; rw [r1 4 (by decide)]; exact h.1.1.2.2.2.1 z) (by rw [d27]; exact ⟨w5.2.2.2.2.1, w5.2.2.2.2.2.1⟩) hE hN
  have e : uG (runZ S m x).2 27 ((runZ S m x).2.2 27) = (runZ S m x).2 := uG_id _ 27
  rw [← e]
  exact K
/-! ties of answers -/
theorem all_tie {S X : MSt} (hL : RelL S X) {w : Int} (hw : -1 ≤ w ∧ w ≤ 5) : ∀ j : Nat, (j : Int) ≤ S.2 24 → allN S w j = cntN (AF X) w ((S.2 29).toNat + j)
  | 0, _ => hL.2.2.2.2.2 w hw.1 hw.2
  | j + 1, hj => by
    have e := (hL.2.1 j (by omega)).2.2
    have h0 := hL.1.2.1
    rw [allN, all_tie hL hw j (by omega), ← Nat.add_assoc, cntN]
    have e2 : (AF X) 3 (((S.2 29).toNat + j : Nat) : Int) = S.1 18 j := by
      have e9 : (((S.2 29).toNat + j : Nat) : Int) = S.2 29 + j := by omega
      rw [← e, e9]
    rw [e2]
    by_cases q : S.1 18 j = w
    · rw [if_pos q, if_pos q]
    · rw [if_neg q, if_neg q, Int.add_zero]
theorem last_tie {S X : MSt} (hL : RelL S X) {z : Int} (hz : 0 ≤ z ∧ z < 48) : ∀ j : Nat, (j : Int) ≤ S.2 24 → lastN S z j = byN (AF X) z ((S.2 29).toNat + j)
  | 0, _ => hL.2.2.2.2.1 z hz.1 hz.2
  | j + 1, hj => by
    have e := hL.2.1 j (by omega)
    have h0 := hL.1.2.1
    have e9 : (((S.2 29).toNat + j : Nat) : Int) = S.2 29 + j := by omega
    rw [lastN, last_tie hL hz j (by omega), ← Nat.add_assoc, byN]
    have e2 : (AF X) 3 (((S.2 29).toNat + j : Nat) : Int) = S.1 18 j := by
      rw [← e.2.2, e9]
    have e3 : (AF X) 0 (((S.2 29).toNat + j : Nat) : Int) = S.1 16 j := by
      rw [← e.1, e9]
    rw [e2, e3]
theorem cnt_tie {S X : MSt} (hL : RelL S X) : (X.2 25).toNat = (S.2 29).toNat + (S.2 24).toNat := by
  have := hL.1
  omega
theorem all_t {S X : MSt} (hL : RelL S X) {w : Int} (hw : -1 ≤ w ∧ w ≤ 5) : cntN (AF X) w (X.2 25).toNat = allI S w := by
  have h1 := hL.1
  rw [cnt_tie hL]
  exact (all_tie hL hw (S.2 24).toNat (by omega)).symm
theorem last_t {S X : MSt} (hL : RelL S X) {z : Int} (hz : 0 ≤ z ∧ z < 48) : byN (AF X) z (X.2 25).toNat = lastN S z (S.2 24).toNat := by
  have h1 := hL.1
  rw [cnt_tie hL]
  exact (last_tie hL hz (S.2 24).toNat (by omega)).symm
theorem byN_lat (F : Nat → Int → Int) (z : Int) : ∀ n : Nat, (latN F z n = -1 ∧ byN F z n = -2) ∨ (0 ≤ latN F z n ∧ latN F z n < n ∧ byN F z n = F 3 (latN F z n))
  | 0 => Or.inl ⟨rfl, rfl⟩
  | n + 1 => by
    rw [latN, byN]
    by_cases q : F 0 n = z
    · rw [if_pos q, if_pos q]
      exact Or.inr ⟨by omega, by omega, rfl⟩
    · rw [if_neg q, if_neg q]
      rcases byN_lat F z n with h | ⟨h1, h2, h3⟩
      · exact Or.inl h
      · exact Or.inr ⟨h1, by omega, h3⟩
theorem lenG_le {S X : MSt} {b : Int} (h : INV S X b) : lenG (X.2 25) (X.2 26).toNat ≤ 107520 := by
  obtain ⟨e, he, hl⟩ := h.1.2.2.2.2.2
  have h3 : 2 ^ e ≤ 2 ^ 9 := Nat.pow_le_pow_right (by decide) he
  unfold lenG
  rw [hl, Int.toNat_natCast]
  split
  · omega
  · rename_i q
    have h8 : e ≤ 8 := by
      refine Nat.le_of_not_lt (fun z => ?_)
      have e9 : e = 9 := by omega
      subst e9
      omega
    have h4 : 2 ^ e ≤ 2 ^ 8 := Nat.pow_le_pow_right (by decide) h8
    omega
theorem grow_8 (n : Int) (len : Nat) : growS n len + 8 * len = 8 * lenG n len := by
  unfold growS lenG
  split <;> omega
theorem grow_c (n : Int) (len : Nat) : growC n len ≤ 4 := by
  unfold growC
  split <;> omega
theorem endX_26 (C X : MSt) (fr : Int) : (endX C X fr).2 26 = X.2 26 := by
  unfold endX
  split
  · rfl
  · rfl
theorem byH_31 {S : MSt} {a x v n b : Int} (h : MW S b) (ha : 0 ≤ a ∧ a ≤ 200) (hx : 0 ≤ x ∧ x < 48) (hn : -9999 ≤ n ∧ n ≤ 9999) (hv : isValueB v = true) : (byHandS S a x v n).2.2 31 = S.2 31 := by
  have haw : AW (handS S a x v n) (S.2 24) := hand_wf h ha hx hn hv
  have c5 := (AW_chX haw).2.2.2.2.1
  exact ((endsS_2 _ _ _ 31 (by decide)).trans (c5 31 (by decide) (by decide))).trans (hand_2 S a x v n 31 (by decide))
theorem run_31 {S : MSt} {m x b : Int} (h : MW S b) (hm : 0 ≤ m ∧ m < 6) (hx : 0 ≤ x ∧ x < 48) (hok : (whyS S m x).1 = 45) : (runZ S m x).2.2 31 = 0 := by
  have haw : AW (runS (uG (whyS S m x).2 31 0) m x 0) (S.2 24) := (run_pre3 (v := 0) h hm hx hok).2.2.2
  have c5 := (AW_chX haw).2.2.2.2.1
  refine ((endsS_2 _ _ _ 31 (by decide)).trans (c5 31 (by decide) (by decide))).trans ?_
  unfold runS
  rw [rnI_2 _ _ _ _ 31 (by decide), uG_s]

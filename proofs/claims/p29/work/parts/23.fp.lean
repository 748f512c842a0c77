/-! floats: whole numbers and their quotients are no NaN -/
section FPx
theorem u32of {n : Nat} (h : n < 4294967296) : (UInt32.ofNat n).toNat = n := by
  rw [UInt32.toNat_ofNat']
  exact Nat.mod_eq_of_lt h
theorem u64of {n : Nat} (h : n < 18446744073709551616) : (UInt64.ofNat n).toNat = n := by
  rw [UInt64.toNat_ofNat']
  exact Nat.mod_eq_of_lt h
def fpG (f : FP.Core.Fmt) : FP.Core.Datum → Prop
  | .nan => False
  | .inf _ => True
  | .fin _ c q => c < 2 ^ f.p ∧ q ≤ f.qmax
theorem fp_settle {f : FP.Core.Fmt} (h : f.tails < 2 ^ f.p) (s : Bool) (c : Nat) (q : Int) : fpG f (FP.Core.settle f s c q) := by
  unfold FP.Core.settle FP.Core.bound
  split
  · split
    · exact ⟨by assumption, by assumption⟩
    · trivial
  · split
    · exact ⟨h, by assumption⟩
    · trivial
theorem fp_rr {f : FP.Core.Fmt} (h : f.tails < 2 ^ f.p) (hq : f.qmin ≤ f.qmax) (s : Bool) (n d : Nat) (e : Int) : fpG f (FP.Core.roundRatio f s n d e) := by
  unfold FP.Core.roundRatio
  split
  · exact ⟨Nat.two_pow_pos _, hq⟩
  · exact fp_settle h _ _ _
theorem fp_int (f : FP.Core.Fmt) (hq1 : f.qmin ≤ 1 - (f.p : Int)) (hq2 : 0 ≤ f.qmax) (hp : 1 ≤ f.p) (s : Bool) (n : Nat) (h0 : n ≠ 0) (h1 : n < 2 ^ f.p) : ∃ c q, FP.Core.roundRatio f s n 1 0 = .fin s c q ∧ c ≠ 0 ∧ c < 2 ^ f.p ∧ q ≤ f.qmax := by
  have l1 : 2 ^ n.log2 ≤ n := Nat.log2_self_le h0
  have l2 : n < 2 ^ (n.log2 + 1) := Nat.lt_log2_self
  have l3 : n.log2 < f.p := (Nat.log2_lt h0).mpr h1
  have e1 : FP.Core.leading n 1 = (n.log2 : Int) := by
    unfold FP.Core.leading
    have z : Nat.log2 1 = 0 := by decide
    rw [z]
    simp only [Int.natCast_zero, Int.sub_zero, Int.toNat_natCast]
    rw [if_pos]
    have : (-(n.log2 : Int)).toNat = 0 := by omega
    rw [this]
    omega
  have e2 : FP.Core.quantum f n 1 0 = (n.log2 : Int) - ((f.p : Int) - 1) := by
    unfold FP.Core.quantum
    rw [e1]
    omega
  have e3 : FP.Core.unitsDen 1 0 ((n.log2 : Int) - ((f.p : Int) - 1)) = 1 := by
    unfold FP.Core.unitsDen
    rw [show ((n.log2 : Int) - ((f.p : Int) - 1) - 0).toNat = 0 by omega]
  have e4 : FP.Core.unitsNum n 0 ((n.log2 : Int) - ((f.p : Int) - 1)) = n * 2 ^ (f.p - 1 - n.log2) := by
    unfold FP.Core.unitsNum
    rw [show (0 - ((n.log2 : Int) - ((f.p : Int) - 1))).toNat = f.p - 1 - n.log2 by omega]
  have e5 : ∀ x : Nat, FP.Core.nearest x 1 = x := fun x => by
    unfold FP.Core.nearest
    rw [Nat.mod_one, if_pos (by decide), Nat.div_one]
  have e6 : n * 2 ^ (f.p - 1 - n.log2) < 2 ^ f.p := by
    have : 2 ^ f.p = 2 ^ (n.log2 + 1) * 2 ^ (f.p - 1 - n.log2) := by
      rw [← Nat.pow_add]
      congr 1
      omega
    rw [this]
    exact Nat.mul_lt_mul_of_pos_right l2 (Nat.two_pow_pos _)
  refine ⟨n * 2 ^ (f.p - 1 - n.log2), (n.log2 : Int) - ((f.p : Int) - 1), ?_, ?_, e6, by omega⟩
  · unfold FP.Core.roundRatio
    rw [if_neg h0]
    unfold FP.Core.roundAt FP.Core.settle FP.Core.bound
    rw [e2, e3, e4, e5, if_pos e6, if_pos (by omega)]
  · exact Nat.mul_ne_zero h0 (Nat.pos_iff_ne_zero.mp (Nat.two_pow_pos _))
theorem fp_dec32 {d : FP.Core.Datum} (h : fpG FP.Core.b32 d) : FP.Core.encode FP.Core.b32 d < 4294967296 ∧ FP.Core.encode FP.Core.b32 d % 2147483648 ≤ 2139095040 ∧ FP.Core.decode FP.Core.b32 (FP.Core.encode FP.Core.b32 d) ≠ .nan ∧ (∀ s c q, d = .fin s c q → ∃ s' c' q', FP.Core.decode FP.Core.b32 (FP.Core.encode FP.Core.b32 d) = .fin s' c' q' ∧ (c ≠ 0 → c' ≠ 0)) := by
  have ht : FP.Core.b32.tails = 8388608 := by decide
  have he : FP.Core.b32.exps = 256 := by decide
  have hq : FP.Core.b32.qmax = 104 := by decide
  have hm : FP.Core.b32.qmin = -149 := by decide
  cases d with
  | nan => cases h
  | inf s =>
    refine ⟨?_, ?_, ?_, fun s c q e => by cases e⟩
    · cases s <;> decide
    · cases s <;> decide
    · cases s <;> decide
  | fin s c q =>
    obtain ⟨h1, h2⟩ := h
    rw [hq] at h2
    have h1' : c < 16777216 := h1
    have hs : s.toNat ≤ 1 := by cases s <;> decide
    have key : ∃ E T : Nat, FP.Core.encode FP.Core.b32 (.fin s c q) = (s.toNat * 256 + E) * 8388608 + T ∧ T < 8388608 ∧ E < 255 ∧ (c ≠ 0 → E = 0 → T ≠ 0) := by
      unfold FP.Core.encode FP.Core.assemble
      rw [ht, he, hm]
      dsimp only
      by_cases z : c < 8388608
      · rw [if_pos z]
        exact ⟨0, c, rfl, z, by decide, fun a _ => a⟩
      · rw [if_neg z]
        exact ⟨_, _, rfl, by omega, by omega, fun _ a => by omega⟩
    obtain ⟨E, T, k1, k2, k3, k4⟩ := key
    rw [k1]
    have f1 : FP.Core.fieldT FP.Core.b32 ((s.toNat * 256 + E) * 8388608 + T) = T := by unfold FP.Core.fieldT; rw [ht]; omega
    have f2 : FP.Core.fieldE FP.Core.b32 ((s.toNat * 256 + E) * 8388608 + T) = E := by unfold FP.Core.fieldE; rw [ht, he]; omega
    have dd : ∃ s' c' q', FP.Core.decode FP.Core.b32 ((s.toNat * 256 + E) * 8388608 + T) = .fin s' c' q' ∧ (c ≠ 0 → c' ≠ 0) := by
      unfold FP.Core.decode
      rw [f1, f2, he, ht, if_neg (by omega)]
      by_cases z : E = 0
      · rw [if_pos z]
        exact ⟨_, _, _, rfl, fun a => k4 a z⟩
      · rw [if_neg z]
        exact ⟨_, _, _, rfl, fun _ => by omega⟩
    refine ⟨by omega, by omega, ?_, fun s1 c1 q1 e => ?_⟩
    · obtain ⟨s', c', q', e, -⟩ := dd
      rw [e]
      intro z
      cases z
    · cases e
      exact dd
theorem fp_dec64 {d : FP.Core.Datum} (h : fpG FP.Core.b64 d) : FP.Core.encode FP.Core.b64 d < 18446744073709551616 ∧ FP.Core.encode FP.Core.b64 d % 9223372036854775808 ≤ 9218868437227405312 ∧ FP.Core.decode FP.Core.b64 (FP.Core.encode FP.Core.b64 d) ≠ .nan ∧ (∀ s c q, d = .fin s c q → ∃ s' c' q', FP.Core.decode FP.Core.b64 (FP.Core.encode FP.Core.b64 d) = .fin s' c' q' ∧ (c ≠ 0 → c' ≠ 0)) := by
  have ht : FP.Core.b64.tails = 4503599627370496 := by decide
  have he : FP.Core.b64.exps = 2048 := by decide
  have hq : FP.Core.b64.qmax = 971 := by decide
  have hm : FP.Core.b64.qmin = -1074 := by decide
  cases d with
  | nan => cases h
  | inf s =>
    refine ⟨?_, ?_, ?_, fun s c q e => by cases e⟩
    · cases s <;> decide
    · cases s <;> decide
    · cases s <;> decide
  | fin s c q =>
    obtain ⟨h1, h2⟩ := h
    rw [hq] at h2
    have h1' : c < 9007199254740992 := h1
    have hs : s.toNat ≤ 1 := by cases s <;> decide
    have key : ∃ E T : Nat, FP.Core.encode FP.Core.b64 (.fin s c q) = (s.toNat * 2048 + E) * 4503599627370496 + T ∧ T < 4503599627370496 ∧ E < 2047 ∧ (c ≠ 0 → E = 0 → T ≠ 0) := by
      unfold FP.Core.encode FP.Core.assemble
      rw [ht, he, hm]
      dsimp only
      by_cases z : c < 4503599627370496
      · rw [if_pos z]
        exact ⟨0, c, rfl, z, by decide, fun a _ => a⟩
      · rw [if_neg z]
        exact ⟨_, _, rfl, by omega, by omega, fun _ a => by omega⟩
    obtain ⟨E, T, k1, k2, k3, k4⟩ := key
    rw [k1]
    have f1 : FP.Core.fieldT FP.Core.b64 ((s.toNat * 2048 + E) * 4503599627370496 + T) = T := by unfold FP.Core.fieldT; rw [ht]; omega
    have f2 : FP.Core.fieldE FP.Core.b64 ((s.toNat * 2048 + E) * 4503599627370496 + T) = E := by unfold FP.Core.fieldE; rw [ht, he]; omega
    have dd : ∃ s' c' q', FP.Core.decode FP.Core.b64 ((s.toNat * 2048 + E) * 4503599627370496 + T) = .fin s' c' q' ∧ (c ≠ 0 → c' ≠ 0) := by
      unfold FP.Core.decode
      rw [f1, f2, he, ht, if_neg (by omega)]
      by_cases z : E = 0
      · rw [if_pos z]
        exact ⟨_, _, _, rfl, fun a => k4 a z⟩
      · rw [if_neg z]
        exact ⟨_, _, _, rfl, fun _ => by omega⟩
    refine ⟨by omega, by omega, ?_, fun s1 c1 q1 e => ?_⟩
    · obtain ⟨s', c', q', e, -⟩ := dd
      rw [e]
      intro z
      cases z
    · cases e
      exact dd
theorem fp_n32 {d : FP.Core.Datum} (h : fpG FP.Core.b32 d) : vf_n32 (.ofNat (FP.Core.encode FP.Core.b32 d)) := by
  obtain ⟨h1, h2, -⟩ := fp_dec32 h
  unfold vf_n32
  rw [UInt32.le_iff_toNat_le, UInt32.toNat_and, u32of h1]
  rw [show (0x7fffffff : UInt32).toNat = 2 ^ 31 - 1 by decide, Nat.and_two_pow_sub_one_eq_mod]
  exact h2
theorem fp_n64 {d : FP.Core.Datum} (h : fpG FP.Core.b64 d) : vf_n64 (.ofNat (FP.Core.encode FP.Core.b64 d)) := by
  obtain ⟨h1, h2, -⟩ := fp_dec64 h
  unfold vf_n64
  rw [UInt64.le_iff_toNat_le, UInt64.toNat_and, u64of h1]
  rw [show (0x7fffffffffffffff : UInt64).toNat = 2 ^ 63 - 1 by decide, Nat.and_two_pow_sub_one_eq_mod]
  exact h2
theorem fp_i2f {z : Int} (h : -16777216 < z ∧ z < 16777216) : ∃ s c q, FP.Core.decode FP.Core.b32 (FP.i2f (iI z)).toNat = .fin s c q ∧ (z ≠ 0 → c ≠ 0) := by
  show ∃ s c q, FP.Core.decode FP.Core.b32 (UInt32.ofNat (FP.Core.fromInt FP.Core.b32 (iI z).toInt)).toNat = .fin s c q ∧ (z ≠ 0 → c ≠ 0)
  rw [iI_toInt (by omega)]
  have hz : ∃ s c q, FP.Core.round FP.Core.b32 (FP.Core.ofInt z) = .fin s c q ∧ c < 2 ^ 24 ∧ q ≤ 104 ∧ (z ≠ 0 → c ≠ 0) := by
    show ∃ s c q, FP.Core.roundRatio FP.Core.b32 (decide (z < 0)) z.natAbs 1 0 = .fin s c q ∧ c < 2 ^ 24 ∧ q ≤ 104 ∧ (z ≠ 0 → c ≠ 0)
    by_cases q0 : z = 0
    · subst q0
      exact ⟨false, 0, -149, by decide, by decide, by decide, fun h => absurd rfl h⟩
    · obtain ⟨c, q, e, h1, h2, h3⟩ := fp_int FP.Core.b32 (by decide) (by decide) (by decide) (decide (z < 0)) z.natAbs (by omega) (by show z.natAbs < 16777216; omega)
      exact ⟨_, c, q, e, h2, h3, fun _ => h1⟩
  obtain ⟨s, c, q, e, h1, h2, h3⟩ := hz
  have hg : fpG FP.Core.b32 (.fin s c q) := ⟨h1, h2⟩
  obtain ⟨g1, -, -, g4⟩ := fp_dec32 hg
  unfold FP.Core.fromInt
  rw [e, u32of g1]
  obtain ⟨s', c', q', e', h'⟩ := g4 s c q rfl
  exact ⟨s', c', q', e', fun k => h' (h3 k)⟩
theorem fp_i2d {z : Int} (h : rI z) : ∃ s c q, FP.Core.decode FP.Core.b64 (FP.i2d (iI z)).toNat = .fin s c q ∧ (z ≠ 0 → c ≠ 0) := by
  show ∃ s c q, FP.Core.decode FP.Core.b64 (UInt64.ofNat (FP.Core.fromInt FP.Core.b64 (iI z).toInt)).toNat = .fin s c q ∧ (z ≠ 0 → c ≠ 0)
  rw [iI_toInt h]
  have hz : ∃ s c q, FP.Core.round FP.Core.b64 (FP.Core.ofInt z) = .fin s c q ∧ c < 2 ^ 53 ∧ q ≤ 971 ∧ (z ≠ 0 → c ≠ 0) := by
    show ∃ s c q, FP.Core.roundRatio FP.Core.b64 (decide (z < 0)) z.natAbs 1 0 = .fin s c q ∧ c < 2 ^ 53 ∧ q ≤ 971 ∧ (z ≠ 0 → c ≠ 0)
    by_cases q0 : z = 0
    · subst q0
      exact ⟨false, 0, -1074, by decide, by decide, by decide, fun h => absurd rfl h⟩
    · obtain ⟨c, q, e, h1, h2, h3⟩ := fp_int FP.Core.b64 (by decide) (by decide) (by decide) (decide (z < 0)) z.natAbs (by omega) (by show z.natAbs < 9007199254740992; omega)
      exact ⟨_, c, q, e, h2, h3, fun _ => h1⟩
  obtain ⟨s, c, q, e, h1, h2, h3⟩ := hz
  have hg : fpG FP.Core.b64 (.fin s c q) := ⟨h1, h2⟩
  obtain ⟨g1, -, -, g4⟩ := fp_dec64 hg
  unfold FP.Core.fromInt
  rw [e, u64of g1]
  obtain ⟨s', c', q', e', h'⟩ := g4 s c q rfl
  exact ⟨s', c', q', e', fun k => h' (h3 k)⟩
/-- the share of a among b; the mean of a over b -/
def shareF (a b : Int) : UInt32 := FP.fdiv (FP.i2f (iI a)) (FP.i2f (iI b))
def meanD (a b : Int) : UInt64 := FP.ddiv (FP.i2d (iI a)) (FP.i2d (iI b))
theorem shareF_d {a b : Int} (ha : -16777216 < a ∧ a < 16777216) (hb : -16777216 < b ∧ b < 16777216) (h0 : b ≠ 0) : ∃ d, fpG FP.Core.b32 d ∧ shareF a b = .ofNat (FP.Core.encode FP.Core.b32 d) := by
  obtain ⟨s, c, q, e, -⟩ := fp_i2f ha
  obtain ⟨t, d, r, e', h'⟩ := fp_i2f hb
  refine ⟨FP.Core.roundRatio FP.Core.b32 (s != t) c d (q - r), fp_rr (by decide) (by decide) _ _ _ _, ?_⟩
  show UInt32.ofNat (FP.Core.encode FP.Core.b32 (FP.Core.quotient FP.Core.b32 (FP.Core.decode FP.Core.b32 (FP.i2f (iI a)).toNat) (FP.Core.decode FP.Core.b32 (FP.i2f (iI b)).toNat))) = _
  rw [e, e']
  unfold FP.Core.quotient
  dsimp only
  rw [if_neg (h' h0)]
theorem meanD_d {a b : Int} (ha : rI a) (hb : rI b) (h0 : b ≠ 0) : ∃ d, fpG FP.Core.b64 d ∧ meanD a b = .ofNat (FP.Core.encode FP.Core.b64 d) := by
  obtain ⟨s, c, q, e, -⟩ := fp_i2d ha
  obtain ⟨t, d, r, e', h'⟩ := fp_i2d hb
  refine ⟨FP.Core.roundRatio FP.Core.b64 (s != t) c d (q - r), fp_rr (by decide) (by decide) _ _ _ _, ?_⟩
  show UInt64.ofNat (FP.Core.encode FP.Core.b64 (FP.Core.quotient FP.Core.b64 (FP.Core.decode FP.Core.b64 (FP.i2d (iI a)).toNat) (FP.Core.decode FP.Core.b64 (FP.i2d (iI b)).toNat))) = _
  rw [e, e']
  unfold FP.Core.quotient
  dsimp only
  rw [if_neg (h' h0)]
theorem shareF_n {a b : Int} (ha : -16777216 < a ∧ a < 16777216) (hb : -16777216 < b ∧ b < 16777216) (h0 : b ≠ 0) : vf_n32 (shareF a b) := by
  obtain ⟨d, h, e⟩ := shareF_d ha hb h0
  rw [e]
  exact fp_n32 h
theorem meanD_n {a b : Int} (ha : rI a) (hb : rI b) (h0 : b ≠ 0) : vf_n64 (meanD a b) := by
  obtain ⟨d, h, e⟩ := meanD_d ha hb h0
  rw [e]
  exact fp_n64 h
theorem order_self {d : FP.Core.Datum} (h : d ≠ .nan) : FP.Core.order d d = some .eq := by
  cases d with
  | nan => exact absurd rfl h
  | inf s => cases s <;> rfl
  | fin s c q =>
    unfold FP.Core.order
    dsimp only
    rw [show compare (FP.Core.signed s (FP.Core.inUnits c q (min q q))) (FP.Core.signed s (FP.Core.inUnits c q (min q q))) = Ordering.eq from Std.ReflCmp.compare_self]
theorem meanD_eq {a b : Int} (ha : rI a) (hb : rI b) (h0 : b ≠ 0) : FP.dcmp (meanD a b) (meanD a b) = some .eq := by
  obtain ⟨d, h, e⟩ := meanD_d ha hb h0
  obtain ⟨g1, -, g3, -⟩ := fp_dec64 h
  rw [e]
  show FP.Core.order (FP.Core.decode FP.Core.b64 (UInt64.ofNat (FP.Core.encode FP.Core.b64 d)).toNat) (FP.Core.decode FP.Core.b64 (UInt64.ofNat (FP.Core.encode FP.Core.b64 d)).toNat) = some .eq
  rw [u64of g1]
  exact order_self g3
theorem shareF_w {a b : Int} (ha : -16777216 < a ∧ a < 16777216) (hb : -16777216 < b ∧ b < 16777216) (h0 : b ≠ 0) : vf_n64 (FP.f2d (shareF a b)) ∧ FP.dcmp (FP.f2d (shareF a b)) (FP.f2d (shareF a b)) = some .eq := by
  obtain ⟨d, h, e⟩ := shareF_d ha hb h0
  obtain ⟨g1, -, g3, -⟩ := fp_dec32 h
  rw [e]
  have hn : FP.Core.fIsNaN (UInt32.ofNat (FP.Core.encode FP.Core.b32 d)) = false := by
    show decide (FP.Core.decode FP.Core.b32 (UInt32.ofNat (FP.Core.encode FP.Core.b32 d)).toNat = .nan) = false
    rw [u32of g1]
    exact decide_eq_false g3
  have hf : FP.f2d (UInt32.ofNat (FP.Core.encode FP.Core.b32 d)) = .ofNat (FP.Core.encode FP.Core.b64 (FP.Core.round FP.Core.b64 (FP.Core.decode FP.Core.b32 (FP.Core.encode FP.Core.b32 d)))) := by
    unfold FP.f2d
    rw [if_neg (by rw [hn]; decide)]
    show UInt64.ofNat (FP.Core.encode FP.Core.b64 (FP.Core.round FP.Core.b64 (FP.Core.decode FP.Core.b32 (UInt32.ofNat (FP.Core.encode FP.Core.b32 d)).toNat))) = _
    rw [u32of g1]
  have hg : fpG FP.Core.b64 (FP.Core.round FP.Core.b64 (FP.Core.decode FP.Core.b32 (FP.Core.encode FP.Core.b32 d))) := by
    generalize FP.Core.decode FP.Core.b32 (FP.Core.encode FP.Core.b32 d) = x at g3
    cases x with
    | nan => exact absurd rfl g3
    | inf s => trivial
    | fin s c q => exact fp_rr (by decide) (by decide) _ _ _ _
  rw [hf]
  refine ⟨fp_n64 hg, ?_⟩
  obtain ⟨k1, -, k3, -⟩ := fp_dec64 hg
  show FP.Core.order (FP.Core.decode FP.Core.b64 (UInt64.ofNat _).toNat) (FP.Core.decode FP.Core.b64 (UInt64.ofNat _).toNat) = some .eq
  rw [u64of k1]
  exact order_self k3
end FPx

/-! the reference's constructor -/
def mFc (P : Nat → Nat) (k : Nat) : List Value := (List.range 32).map (fun j => if j < 22 then (if j < k then Value.ref (P j) else .null) else .int 0)
theorem mFc_set (P : Nat → Nat) (k q : Nat) (hk : k < 22) : (mFc P k).set k (.ref q) = mFc (fun j => if j = k then q else P j) (k + 1) := by
  apply List.ext_getElem?
  intro i
  unfold mFc
  by_cases hi : i < 32
  · by_cases e : i = k
    · subst e
      rw [List.getElem?_set_self (by simpa using hi)]
      simp [hi, hk]
    · rw [List.getElem?_set_ne (fun z => e z.symm)]
      simp only [List.getElem?_map, List.getElem?_range hi, Option.map_some, if_neg e]
      by_cases h1 : i < k
      · rw [if_pos h1, if_pos (show i < k + 1 by omega)]
      · rw [if_neg h1, if_neg (show ¬ i < k + 1 by omega)]
  · rw [List.getElem?_eq_none (by simp; omega), List.getElem?_eq_none (by simp; omega)]
theorem mFc_len (P : Nat → Nat) (k : Nat) : (mFc P k).length = 32 := by simp [mFc]
def Sz : MSt := (fun _ _ => 0, fun _ => 0)
def st2N : Nat → MSt
  | 0 => uG Sz 27 (-1)
  | j + 1 => uA (st2N j) 2 j (-2)
/-- the reference's state when it is new -/
def S0 : MSt := st2N 48
def MC (cC cI : ClassId) (mo : Nat) (P : Nat → Nat) (k : Nat) (h : Hp) : Prop := h mo = some (1000, .inr (13, mFc P k)) ∧ ∀ j, j < k → h (P j) = some (1001 + j, .inl (mCl cC cI j, mLen j, .inl (iF fun _ => 0)))
theorem Fr.new {T : Nat → Prop} {h0 h : Hp} {q : Nat} {x : Nat × va_E} (f : Fr T h0 h) (hq : h q = none) : Fr T h0 (hup h q x) := fun b u g hb n => by
  have h1 := f b u g hb n
  rw [hup_n, h1]
  intro z
  rw [z, hq] at h1
  cases h1
theorem MC_step {cC cI : ClassId} {mo k q : Nat} {P : Nat → Nat} {h : Hp} (hk : k < 22) (H : MC cC cI mo P k h) (hq : h q = none) : MC cC cI mo (fun j => if j = k then q else P j) (k + 1) (hup (hup h q (1001 + k, .inl (mCl cC cI k, mLen k, .inl (iF fun _ => 0)))) mo (1000, .inr (13, (mFc P k).set k (.ref q)))) := by
  have hm : mo ≠ q := fun e => by rw [← e, H.1] at hq; cases hq
  refine ⟨by rw [hup_s, mFc_set P k q hk], fun j hj => ?_⟩
  by_cases e : j = k
  · subst e
    dsimp only
    rw [if_pos rfl, hup_n (fun z => hm z.symm), hup_s]
  · dsimp only
    rw [if_neg e]
    have hj2 := H.2 j (by omega)
    rw [hup_n, hup_n]
    · exact hj2
    · intro z
      rw [z, hq] at hj2
      cases hj2
    · intro z
      rw [z, H.1] at hj2
      have := (Prod.mk.inj (Option.some.inj hj2)).1
      omega
theorem MC_end {cC cI : ClassId} {mo : Nat} {P : Nat → Nat} {h : Hp} (H : MC cC cI mo P 22 h) : MS cC cI mo P Sz h := ⟨H.1, H.2⟩
section VK
variable {p : Program} {l : Launch} {e : Env} {R : Room} {s : State} {m : MethodId} {args : Array Value} {below : List Frame} {meth : Method} {c : Code} {cells slots : Nat} {Q : State → Prop} {D : va_G} {A : Nat → Prop} {nL : Nat} {cc : ByteArray} {Ts : List Cond} {ee : Nat × Nat}
variable {pc pc' : Nat} {L : List (Option Value)} {st : List Value} {cB cC cI cO cJ cD : ClassId} {mo : Nat} {P : Nat → Nat} {h0 : Hp}
def MCI (cC cI : ClassId) (h0 : Hp) (mo : Nat) (P : Nat → Nat) (k : Nat) : Hp → Prop := fun h => MC cC cI mo P k h ∧ Fr tM h0 h
end VK
section
variable {l : Launch} {D : va_G} {cB cC cI cO cJ cD : ClassId} {ee : Nat × Nat} {mo : Nat} {Pm : Nat → Nat} {S : MSt} {b : Int}
end

/-! the reference's actions as calls, the undoing, the text -/
section VX6
variable {p : Program} {l : Launch} {e : Env} {R : Room} {s : State} {m : MethodId} {args : Array Value} {below : List Frame} {meth : Method} {c : Code} {cells slots : Nat} {Q : State → Prop} {D : va_G} {tys : List (ClassId × FieldType)} {A : Nat → Prop} {nL : Nat} {cc : ByteArray} {Ts : List Cond} {own : String} {ee : Nat × Nat} {I : Hp → Prop} {pc pc' : Nat} {L : List (Option Value)} {st : List Value}
def absI (x : Int) : Int := if 0 ≤ x then x else -x
theorem V_mabs {x : Int} {index : Nat} (C : Cx p m c cc nL s args Ts own D tys A ee) (h1 : Cond.methodLink own index Lib.Math.abs.name ∈ Ts) (h2 : Cond.static Lib.Math.abs.name ∈ Ts) (h3 : Cond.initialized "java/lang/Math" ∈ Ts) (h4 : Cond.code Lib.Math.abs.name Lib.Math.abs.code 1 (some .int) ∈ Ts) (hf : 1 ≤ R.frames ∧ (st.map fun v => v.category).sum + 13 ≤ R.locals) (hc : cells ≤ R.cells ∧ slots ≤ R.slots) (hr : rI x) (d : decode cc pc = .ok (.invokestatic index, 3)) (e0 : pc + 3 = pc') (k : Vx p l e R s m args below meth c cells slots Q D A nL I pc' L (.int (iI (absI x)) :: st)) : Vx p l e R s m args below meth c cells slots Q D A nL I pc L (.int (iI x) :: st) := by
  subst e0
  have hts := C.1.2.2.2.2
  intro h H locs ls hI hW hS hL
  have hl1 : ls.size = nL := by obtain ⟨lx, h1, -⟩ := hL; exact h1.1
  refine va_mabs C.1.1 C.1.2.1 (C.1.2.2.1.trans hl1.symm) C.1.2.2.2.1 (hts _ h1) (hts _ h2) (hts _ h3) (hts _ h4) hf.1 hf.2 hc.1 hc.2 d ?_
  have e1 : (if 0 ≤ iI x then iI x else 0 - iI x) = iI (absI x) := by
    unfold absI
    by_cases q : 0 ≤ x
    · rw [if_pos q, if_pos (by rw [← iI_0, iI_le (by decide) hr]; exact q)]
    · rw [if_neg q, if_neg (by rw [← iI_0, iI_le (by decide) hr]; exact q), ← iI_0, iI_sub, Int.zero_sub]
  rw [e1]
  exact k h H locs ls hI hW hS hL
end VX6
/-- what no action touches -/
theorem chI_1 (S : MSt) (fr : Int) (k : Nat) (h : k ≠ 0 ∧ k ≠ 1 ∧ k ≠ 16 ∧ k ≠ 17 ∧ k ≠ 18 ∧ k ≠ 19) : ∀ j, (chI S fr j).1.1 k = S.1 k
  | 0 => rfl
  | j + 1 => by
    have ih := chI_1 S fr k h j
    rw [chI]
    unfold chS
    split
    · split
      · simp only [runS]
        rw [rnI_1 _ _ _ _ k h, uG_1, whyS_1 _ _ _ k h.2.1]
        exact ih
      · simp only
        rw [uG_1, whyS_1 _ _ _ k h.2.1]
        exact ih
    · exact ih
theorem setlS_1 (S : MSt) (k : Nat) (h : k ≠ 2 ∧ k ≠ 3 ∧ k ≠ 16 ∧ k ≠ 17 ∧ k ≠ 18 ∧ k ≠ 19 ∧ k ≠ 20) : (setlS S).1 k = S.1 k := by
  unfold setlS
  rw [uG_1, sl3_1 _ _ k h.2.2.2.2.2.2]
  unfold setB
  rw [uG_1, sl2_1 _ _ k ⟨h.2.2.1, h.2.2.2.1, h.2.2.2.2.1, h.2.2.2.2.2.1⟩]
  unfold setA
  rw [uG_1, sl1_1 _ k ⟨h.1, h.2.1⟩]
theorem setlS_2 (S : MSt) (k : Nat) (h : k ≠ 24 ∧ k ≠ 25 ∧ k ≠ 29) : (setlS S).2 k = S.2 k := by
  unfold setlS
  rw [uG_n _ h.2.1, sl3_2, setB_2 S k ⟨h.2.2, h.1⟩]
theorem setlS_25 (S : MSt) : (setlS S).2 25 = S.2 25 - 1 := by
  unfold setlS
  rw [uG_s]
theorem setlS_24 (S : MSt) : (setlS S).2 24 = S.2 24 - S.1 20 1 := by
  unfold setlS
  rw [uG_n _ (by decide), sl3_2]
  unfold setB
  rw [uG_s]
theorem endsS_1 (C : MSt) (fr n : Int) (k : Nat) (h : k ≠ 2 ∧ k ≠ 3 ∧ k ≠ 16 ∧ k ≠ 17 ∧ k ≠ 18 ∧ k ≠ 19 ∧ k ≠ 20) : (endsS C fr n).2.1 k = C.1 k := by
  unfold endsS
  split
  · rfl
  · simp only
    rw [uA_n _ h.2.2.2.2.2.2, uG_1, uA_n _ h.2.2.2.2.2.2]
    split
    · rw [setlS_1 _ k h, uA_n _ h.2.2.2.2.2.2]
    · rfl
theorem endsS_2 (C : MSt) (fr n : Int) (k : Nat) (h : k ≠ 24 ∧ k ≠ 25 ∧ k ≠ 29) : (endsS C fr n).2.2 k = C.2 k := by
  unfold endsS
  split
  · rfl
  · simp only
    rw [uA_2, uG_n _ h.2.1, uA_2]
    split
    · rw [setlS_2 _ k h, uA_2]
    · rfl
/-- an action's changes begin at fr: what the end of the action needs -/
def AW (S : MSt) (fr : Int) : Prop := WFp S ∧ WFl S ∧ 0 ≤ fr ∧ fr ≤ S.2 24 ∧ S.2 24 ≤ fr + 10 ∧ S.2 24 ≤ 1890 ∧ 0 ≤ S.2 25 ∧ S.2 25 ≤ 8 ∧ (S.2 25 = 8 → 0 ≤ S.1 20 1 ∧ S.1 20 1 ≤ fr)
theorem AW_chX {S : MSt} {fr : Int} (h : AW S fr) : WFp (chX S fr) ∧ WFl (chX S fr) ∧ S.2 24 ≤ (chX S fr).2 24 ∧ (chX S fr).2 24 ≤ S.2 24 + 200 ∧ (∀ k, k ≠ 24 → k ≠ 26 → (chX S fr).2 k = S.2 k) ∧ (chX S fr).1 20 = S.1 20 := by
  obtain ⟨h1, h2, h3, h4, h5, h6, h7, h8, h9⟩ := h
  obtain ⟨a1, a2, a3⟩ := chL_sp h1 h2 h3 h6 h5
  obtain ⟨w1, w2, w3, w4, w5, w6, w7, w8⟩ := chI_wf h1 h2 h3 h6 (chL S fr) a1
  refine ⟨w1, w2, w5, ?_, w8, chI_1 S fr 20 (by decide) _⟩
  unfold chX
  omega
theorem lastN_in {S : MSt} {x : Int} (hs : -2 ≤ S.1 2 x ∧ S.1 2 x ≤ 5) (hl : WFl S) : ∀ n : Nat, (n : Int) ≤ S.2 24 → -2 ≤ lastN S x n ∧ lastN S x n ≤ 5
  | 0, _ => by simpa [lastN] using hs
  | n + 1, hn => by
    have ih := lastN_in hs hl n (by omega)
    have := hl.2 n (by omega) (by omega)
    unfold lastN
    split <;> omega
theorem lastN_congr {S S' : MSt} {x : Int} (h1 : S'.1 2 = S.1 2) (h2 : S'.1 16 = S.1 16) (h3 : S'.1 18 = S.1 18) : ∀ n, lastN S' x n = lastN S x n
  | 0 => by rw [lastN, lastN, h1]
  | n + 1 => by rw [lastN, lastN, lastN_congr h1 h2 h3 n, h2, h3]
theorem lastN_u (S : MSt) (v x : Int) (n : Nat) : lastN (uG S 31 v) x n = lastN S x n := lastN_congr (S' := uG S 31 v) (S := S) rfl rfl rfl n
-- text
def wrS (S : MSt) (ch : Int) : MSt := uG (uA S 21 (S.2 30) ch) 30 (S.2 30 + 1)
def digN : Nat → MSt → Int → MSt
  | 0, S, _ => S
  | f + 1, S, n => wrS (if 9 < n then digN f S (n / 10) else S) (48 + n % 10)
theorem wrS_30 (S : MSt) (ch : Int) : (wrS S ch).2 30 = S.2 30 + 1 := uG_s _ _ _
theorem wrS_1 (S : MSt) (ch : Int) (k : Nat) (h : k ≠ 21) : (wrS S ch).1 k = S.1 k := by unfold wrS; rw [uG_1, uA_n _ h]
theorem wrS_2 (S : MSt) (ch : Int) (k : Nat) (h : k ≠ 30) : (wrS S ch).2 k = S.2 k := by unfold wrS; rw [uG_n _ h, uA_2]
theorem digN_30 : ∀ (f : Nat) (S : MSt) (n : Int), S.2 30 ≤ (digN f S n).2 30 ∧ (digN f S n).2 30 ≤ S.2 30 + f
  | 0, S, n => by simp [digN]
  | f + 1, S, n => by
    have ih := digN_30 f S (n / 10)
    rw [digN, wrS_30]
    split <;> omega
theorem digN_1 (k : Nat) (h : k ≠ 21) : ∀ (f : Nat) (S : MSt) (n : Int), (digN f S n).1 k = S.1 k
  | 0, S, n => rfl
  | f + 1, S, n => by
    rw [digN, wrS_1 _ _ k h]
    split
    · exact digN_1 k h f S _
    · rfl
theorem digN_2 (k : Nat) (h : k ≠ 30) : ∀ (f : Nat) (S : MSt) (n : Int), (digN f S n).2 k = S.2 k
  | 0, S, n => rfl
  | f + 1, S, n => by
    rw [digN, wrS_2 _ _ k h]
    split
    · exact digN_2 k h f S _
    · rfl
/-- the text of a step -/
def signI (x : Int) : Int := if 0 ≤ x then 43 else 45
def distS (S : MSt) (x : Int) : MSt := digN 1 (wrS S (signI x)) (absI x)
def numS (S : MSt) (x : Int) : MSt := digN 4 (if 0 ≤ x then S else wrS S 45) (absI x)
def stepS (S : MSt) (k : Int) : MSt := if S.1 5 k = 99 then distS (distS (wrS (uG S 30 0) (S.1 5 k)) (S.1 6 k)) (S.1 7 k) else numS (wrS (distS (distS (wrS (uG S 30 0) (S.1 5 k)) (S.1 6 k)) (S.1 7 k)) 61) (S.1 8 k)
def writeStepX (S : MSt) (m q : Int) : Int × MSt := if isMacB S m = false ∨ isInB q 0 (S.1 4 m - 1) = false then (0, uG S 31 1) else ((stepS (uG S 31 0) (10 * m + q)).2 30, stepS (uG S 31 0) (10 * m + q))

section
variable {l : Launch} {D : va_G} {cB cC cI cO cJ cD : ClassId} {ee : Nat × Nat} {mo : Nat} {Pm : Nat → Nat} {S : MSt} {b : Int}
end

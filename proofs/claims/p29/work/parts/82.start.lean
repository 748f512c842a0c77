/-! the law: what holds at its entry -/
theorem ev_eqi {args : Array Value} {s : State} {tm : Term} {z : Int32} (h : (Cond.eq tm (.int z)).before args s = true) : tm.eval args s none [] s = some (.int z) := by
  cases hv : tm.eval args s none [] s with
  | none => simp [Cond.before, Cond.holds, Cond.value, hv] at h
  | some w =>
    have hz : (Term.int z).eval args s none [] s = some (.int z) := rfl
    simp only [Cond.before, Cond.holds, Cond.value, hv, hz] at h
    cases w <;> simp_all
theorem str_of {args : Array Value} {s : State} {own tx : String} {k : Nat} (h : (Cond.stringRef own k tx).before args s = true) : ∃ a, vk_R own k tx a s := by
  have hcur : ∃ cur, s.vm.findClass own = some cur := by
    have h1 := h
    simp only [Cond.before, Cond.holds, Cond.value] at h1
    cases hc : s.vm.findClass own with
    | none => simp [hc] at h1
    | some cur => exact ⟨cur, rfl⟩
  obtain ⟨cur, hcur⟩ := hcur
  obtain ⟨k9, cf, i, a, -, -, -, -, -, h2⟩ := Cond.stringRef_spec hcur h
  exact ⟨a, vk_R.of h h2⟩
theorem arr_of {args : Array Value} {s : State} {ty : FieldType} (h : (Cond.arrayClass ty).before args s = true) (ho : ∀ C, ty ≠ .object C) : ∃ cA, ArrOfT s cA ty ∧ va_RA s cA ty := by
  obtain ⟨c, k, comp, h1, h2, h3⟩ := Cond.arrayClass_spec h
  refine ⟨c, fun n z => ⟨fun k h => (by cases h), k, h2, comp, h3⟩, ?_⟩
  cases ty with
  | object C => exact absurd rfl (ho C)
  | _ => exact h1
theorem arr_ofO {args : Array Value} {s : State} {C : String} (h : (Cond.arrayOver (.object C)).before args s = true) : ∃ cA, ArrOfT s cA (.object C) ∧ va_RA s cA (.object C) := by
  obtain ⟨comp, c, k, h1, -, h3, h4, h5⟩ := Cond.arrayOver_spec h
  exact ⟨c, fun n z => ⟨fun k h => (by cases h), k, h3, comp, h4⟩, k, comp, h3, h4, h1, h5⟩
abbrev lw_FL : List Cond := flatC (Jvm.Cond.and given_1 narrow_1)
theorem ev_cast : ∀ q ∈ evCast, Cond.castable q.1 q.2 ∈ lw_tbl := by decide +kernel
theorem ev_nc : ∀ q ∈ evNc, Cond.not (.castable q.1 q.2) ∈ lw_FL := by decide +kernel
theorem ev_dc : ∀ y ∈ evDc, Cond.declares y ∈ lw_tbl := by decide +kernel
theorem ev_nf : ∀ q ∈ evNf, Cond.fieldLinkNest "MacroSheet" q.1 q.2.1 q.2.2.1 q.2.2.2 "MacroSheet" ∈ lw_tbl := by decide +kernel
theorem ev_str : ∀ q ∈ evStrs, Cond.stringRef q.1 q.2.1 q.2.2 ∈ lw_tbl := by decide +kernel
theorem EV_0 {s : State} {b N : Nat} {xs : Nat → Int32} {A : Nat → Prop} (hts : ∀ w ∈ lw_tbl, w.before #[Value.ref b] s = true) (hgv : (Jvm.Cond.and given_1 narrow_1).before #[Value.ref b] s = true) (hA : ∀ a : Nat, a < s.heap.size → ¬ A a) (hN : N ≤ 260) (hS : va_T .int b N (fun k => .int (xs k)) A s s.heap) : ∃ e1, EV (e1, b) A s s.heap := by
  have hfl : ∀ c ∈ lw_FL, c.before #[Value.ref b] s = true := flat_of_before _ hgv
  have iN := hts (.initialized "java/lang/Throwable") (by decide +kernel)
  have iA := hts (.initialized "java/util/ArrayList") (by decide +kernel)
  have iS := hts (.initialized "java/lang/String") (by decide +kernel)
  obtain ⟨e1, h1, h2⟩ := va_Tof (tm := .static "java/util/ArrayList" "DEFAULTCAPACITY_EMPTY_ELEMENTDATA" "[Ljava/lang/Object;") (ty := .object "java/lang/Object") (N := 0) (f := fun _ => .null) (A := A) (by decide) (hfl (.arrayOf (.static "java/util/ArrayList" "DEFAULTCAPACITY_EMPTY_ELEMENTDATA" "[Ljava/lang/Object;") (.object "java/lang/Object")) (by decide +kernel)) (ev_eqi (hfl (.eq (.length (.static "java/util/ArrayList" "DEFAULTCAPACITY_EMPTY_ELEMENTDATA" "[Ljava/lang/Object;")) (.int 0)) (by decide +kernel))) (fun j hj => absurd hj (Nat.not_lt_zero j)) hA
  exact ⟨e1, vx_Zqof (hts (.laysStatic "java/lang/Throwable" "UNASSIGNED_STACK" "[Ljava/lang/StackTraceElement;") (by decide +kernel)) iN (hfl (.isRef (.static "java/lang/Throwable" "UNASSIGNED_STACK" "[Ljava/lang/StackTraceElement;")) (by decide +kernel)) hA,
    vx_Zqof (hts (.laysStatic "java/lang/Throwable" "SUPPRESSED_SENTINEL" "Ljava/util/List;") (by decide +kernel)) iN (hfl (.isRef (.static "java/lang/Throwable" "SUPPRESSED_SENTINEL" "Ljava/util/List;")) (by decide +kernel)) hA,
    ⟨va_Zref (hts (.laysStatic "java/util/ArrayList" "DEFAULTCAPACITY_EMPTY_ELEMENTDATA" "[Ljava/lang/Object;") (by decide +kernel)) iA h1 hA, h2⟩,
    ⟨xs, N, hN, hS⟩, trivial,
    va_Zof (hts (.laysStatic "java/lang/String" "COMPACT_STRINGS" "Z") (by decide +kernel)) iS (ev_eqi (hfl (.eq (.static "java/lang/String" "COMPACT_STRINGS" "Z") (.int 1)) (by decide +kernel))) hA,
    fun q hq => str_of (hts _ (ev_str q hq)), va_AO.of (hts (.arrayOver (.object "java/lang/Object")) (by decide +kernel)),
    fun q hq => va_Nw.of rfl (hts _ (ev_cast q hq)), fun q hq => va_Nc.of (hfl _ (ev_nc q hq)), fun y hy => va_Nw.of rfl (hts _ (ev_dc y hy)), fun q hq => va_Nw.of rfl (hts _ (ev_nf q hq)), trivial⟩
theorem scr_T {s : State} {b N : Nat} {xs : Nat → Int32} {A : Nat → Prop} (hX : va_X b N xs s s.heap) (hA : ¬ A b) (hN : N ≤ 260) : va_T .int b N (fun k => .int (xs k)) A s s.heap := by
  obtain ⟨scr, hcb, hof, hkn, hsz, hval⟩ := hX
  exact ⟨scr, hcb, hof, hkn, Nat.le_of_eq hsz.symm, by rw [hsz], hval, hA⟩

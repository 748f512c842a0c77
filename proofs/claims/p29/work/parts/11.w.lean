/-! the surroundings: statics and string constants that the methods read -/
def evStrs : List (String × Nat × String) := [("MacroSheet", 68, "the number is out of range"), ("MacroSheet", 85, "the number or the value is out of range"), ("MacroSheet", 89, "no macro is recorded"), ("MacroSheet", 99, "there are 6 macros"), ("MacroSheet", 114, "a macro is recorded"), ("MacroSheet", 135, "this is no range"), ("MacroSheet", 140, "the macro has 4 grants"), ("MacroSheet", 166, "the macro is recorded"), ("MacroSheet", 170, "the macro cannot run"), ("MacroSheet", 189, "this is no range or no rank"), ("MacroSheet", 191, "there are 6 rules"), ("MacroSheet", 204, "no such rule"), ("MacroSheet", 207, "the rank is out of range"), ("MacroSheet", 217, "no rule is for the cell"), ("MacroSheet", 226, "no action can be undone"), ("MacroSheet", 241, "no such macro"), ("MacroSheet", 302, "all cells are 0"), ("MacroSheet", 307, "no such cell")]
def evCast : List (String × String) := [("MacroSheet$Macro", "java/lang/Object"), ("MacroSheet$Rule", "java/lang/Object"), ("MacroSheet$Step", "java/lang/Object"), ("MacroSheet$Range", "java/lang/Object"), ("java/lang/IndexOutOfBoundsException", "java/lang/IndexOutOfBoundsException"), ("java/lang/IllegalArgumentException", "java/lang/IllegalArgumentException"), ("java/lang/IllegalStateException", "java/lang/IllegalStateException"), ("java/lang/UnsupportedOperationException", "java/lang/UnsupportedOperationException"), ("java/util/NoSuchElementException", "java/util/NoSuchElementException"), ("java/lang/ArithmeticException", "java/lang/ArithmeticException")]
def evNc : List (String × String) := [("java/lang/IllegalArgumentException", "java/lang/IndexOutOfBoundsException"), ("java/lang/IllegalStateException", "java/lang/IndexOutOfBoundsException"), ("java/lang/IllegalStateException", "java/lang/IllegalArgumentException"), ("java/lang/UnsupportedOperationException", "java/lang/IndexOutOfBoundsException"), ("java/lang/UnsupportedOperationException", "java/lang/IllegalStateException"), ("java/util/NoSuchElementException", "java/lang/IndexOutOfBoundsException")]
def evDc : List MethodName := [Bundle.initS "java/lang/RuntimeException", Bundle.initS "java/lang/Exception", Bundle.initS Bundle.tN]
/-- fields of nest mates that the class itself reads and writes -/
def evNf : List (Nat × String × String × String) := [(209, "MacroSheet$Rule", "rank", "I"), (273, "MacroSheet$Step", "columns", "I"), (279, "MacroSheet$Step", "rows", "I"), (309, "MacroSheet$Rule", "range", "LMacroSheet$Range;"), (339, "MacroSheet$Rule", "macro", "LMacroSheet$Macro;"), (343, "MacroSheet$Macro", "number", "I")]
def EV (ee : Nat × Nat) (A : Nat → Prop) (U : State) (H : Heap) : Prop := vx_Zq Bundle.tN "UNASSIGNED_STACK" Bundle.steD A U H ∧ vx_Zq Bundle.tN "SUPPRESSED_SENTINEL" Bundle.listD A U H
  ∧ (va_Z "java/util/ArrayList" "DEFAULTCAPACITY_EMPTY_ELEMENTDATA" "[Ljava/lang/Object;" (.ref ee.1) A U H ∧ va_T (.object "java/lang/Object") ee.1 0 (fun _ => .null) A U H)
  ∧ (∃ (xs : Nat → Int32) (N : Nat), N ≤ 260 ∧ va_T .int ee.2 N (fun k => .int (xs k)) A U H)
  ∧ True
  ∧ va_Z "java/lang/String" "COMPACT_STRINGS" "Z" (.int 1) A U H
  ∧ (∀ q ∈ evStrs, ∃ sa, vk_R q.1 q.2.1 q.2.2 sa U) ∧ va_AO "java/lang/Object" U ∧ (∀ q ∈ evCast, va_Nw (.castable q.1 q.2) U) ∧ (∀ q ∈ evNc, va_Nc q.1 q.2 U) ∧ (∀ y ∈ evDc, va_Nw (.declares y) U) ∧ (∀ q ∈ evNf, va_Nw (.fieldLinkNest "MacroSheet" q.1 q.2.1 q.2.2.1 q.2.2.2 "MacroSheet") U)
  ∧ True
theorem EV.warm {ee : Nat × Nat} {A : Nat → Prop} {s U : State} {H : Heap} (hW : s.WarmedH U.vm) (h : EV ee A s H) : EV ee A U H := by
  obtain ⟨h1, h2, ⟨h3, h4⟩, ⟨xs, N, hN, hx⟩, -, h9, h10, h11, h12, h13, h14, h15, -⟩ := h
  refine ⟨h1.moved hW.alike, h2.moved hW.alike, ⟨h3.moved hW.alike, h4.moved hW.alike⟩, ⟨xs, N, hN, hx.moved hW.alike⟩, trivial, h9.moved hW.alike, fun q hq => ?_, h11.moved hW.alike, fun q hq => va_Nw.warmC hW (h12 q hq), fun q hq => (h13 q hq).moved hW.alike, fun y hy => va_tabs rfl (rfl : (s.setVm U.vm).vm = U.vm) (by rw [Cond.declares_setVm hW.alike]; exact h14 y hy), fun q hq => va_Nw.warmF hW (h15 q hq), trivial⟩
  obtain ⟨sa, h⟩ := h10 q hq
  exact ⟨sa, h.warm hW⟩
theorem EV.kept {ee : Nat × Nat} {A : Nat → Prop} {U : State} {H H1 : Heap} (h : EV ee A U H) (hq : ∀ a : Nat, a < H.size → ¬ A a → H1[a]? = H[a]?) : EV ee A U H1 := by
  obtain ⟨h1, h2, ⟨h3, h4⟩, ⟨xs, N, hN, hx⟩, -, h9, h10, h11, h12, h13, h14, h15, -⟩ := h
  exact ⟨h1.kept hq, h2.kept hq, ⟨h3.kept hq, h4.kept hq⟩, ⟨xs, N, hN, hx.kept hq⟩, trivial, h9.kept hq, h10, h11, h12, h13, h14, h15, trivial⟩
theorem EV.narrow {ee : Nat × Nat} {A B : Nat → Prop} {U : State} {H : Heap} (h : EV ee A U H) (hAB : ∀ q, B q → A q) : EV ee B U H := by
  obtain ⟨h1, h2, ⟨h3, h4⟩, ⟨xs, N, hN, hx⟩, -, h9, h10, h11, h12, h13, h14, h15, -⟩ := h
  exact ⟨h1.narrow hAB, h2.narrow hAB, ⟨h3.narrow hAB, h4.narrow hAB⟩, ⟨xs, N, hN, hx.narrow hAB⟩, trivial, h9.narrow hAB, h10, h11, h12, h13, h14, h15, trivial⟩

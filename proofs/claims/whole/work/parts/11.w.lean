/-! the surroundings: statics and string constants that the methods read -/
def evStrs : List (String × Nat × String) := [("MacroSheet", 68, "the number is out of range"), ("MacroSheet", 85, "the number or the value is out of range"), ("MacroSheet", 89, "no macro is recorded"), ("MacroSheet", 99, "there are 6 macros"), ("MacroSheet", 114, "a macro is recorded"), ("MacroSheet", 135, "this is no range"), ("MacroSheet", 140, "the macro has 4 grants"), ("MacroSheet", 166, "the macro is recorded"), ("MacroSheet", 170, "the macro cannot run"), ("MacroSheet", 189, "this is no range or no rank"), ("MacroSheet", 191, "there are 6 rules"), ("MacroSheet", 204, "no such rule"), ("MacroSheet", 207, "the rank is out of range"), ("MacroSheet", 217, "no rule is for the cell"), ("MacroSheet", 226, "no action can be undone"), ("MacroSheet", 241, "no such macro"), ("MacroSheet", 249, "no entry is for the cell"), ("MacroSheet", 258, "no such step"), ("MacroSheet", 291, "no such character"), ("MacroSheet", 299, "there are no entries"), ("MacroSheet", 302, "all cells are 0"), ("MacroSheet", 307, "no such cell")]
def EV (ee : Nat) (A : Nat → Prop) (U : State) (H : Heap) : Prop := vx_Zq Bundle.tN "UNASSIGNED_STACK" Bundle.steD A U H ∧ vx_Zq Bundle.tN "SUPPRESSED_SENTINEL" Bundle.listD A U H
  ∧ (va_Z "java/util/ArrayList" "DEFAULTCAPACITY_EMPTY_ELEMENTDATA" "[Ljava/lang/Object;" (.ref ee) A U H ∧ va_T (.object "java/lang/Object") ee 0 (fun _ => .null) A U H)
  ∧ (∃ t, va_Z "java/lang/Integer" "DigitOnes" "[B" (.ref t) A U H ∧ va_T .byte t 100 (fun k => .int (nI (48 + k % 10))) A U H)
  ∧ (∃ t, va_Z "java/lang/Integer" "DigitTens" "[B" (.ref t) A U H ∧ va_T .byte t 100 (fun k => .int (nI (48 + k / 10))) A U H)
  ∧ va_Z "java/lang/String" "COMPACT_STRINGS" "Z" (.int 1) A U H
  ∧ (∀ q ∈ evStrs, ∃ sa, vk_R q.1 q.2.1 q.2.2 sa U) ∧ va_AO "java/lang/Object" U
theorem EV.warm {ee : Nat} {A : Nat → Prop} {s U : State} {H : Heap} (hW : s.WarmedH U.vm) (h : EV ee A s H) : EV ee A U H := by
  obtain ⟨h1, h2, ⟨h3, h4⟩, ⟨t5, h5, h6⟩, ⟨t7, h7, h8⟩, h9, h10, h11⟩ := h
  refine ⟨h1.moved hW.alike, h2.moved hW.alike, ⟨h3.moved hW.alike, h4.moved hW.alike⟩, ⟨t5, h5.moved hW.alike, h6.moved hW.alike⟩, ⟨t7, h7.moved hW.alike, h8.moved hW.alike⟩, h9.moved hW.alike, fun q hq => ?_, h11.moved hW.alike⟩
  obtain ⟨sa, h⟩ := h10 q hq
  exact ⟨sa, h.warm hW⟩
theorem EV.kept {ee : Nat} {A : Nat → Prop} {U : State} {H H1 : Heap} (h : EV ee A U H) (hq : ∀ a : Nat, a < H.size → ¬ A a → H1[a]? = H[a]?) : EV ee A U H1 := by
  obtain ⟨h1, h2, ⟨h3, h4⟩, ⟨t5, h5, h6⟩, ⟨t7, h7, h8⟩, h9, h10, h11⟩ := h
  exact ⟨h1.kept hq, h2.kept hq, ⟨h3.kept hq, h4.kept hq⟩, ⟨t5, h5.kept hq, h6.kept hq⟩, ⟨t7, h7.kept hq, h8.kept hq⟩, h9.kept hq, h10, h11⟩
theorem EV.narrow {ee : Nat} {A B : Nat → Prop} {U : State} {H : Heap} (h : EV ee A U H) (hAB : ∀ q, B q → A q) : EV ee B U H := by
  obtain ⟨h1, h2, ⟨h3, h4⟩, ⟨t5, h5, h6⟩, ⟨t7, h7, h8⟩, h9, h10, h11⟩ := h
  exact ⟨h1.narrow hAB, h2.narrow hAB, ⟨h3.narrow hAB, h4.narrow hAB⟩, ⟨t5, h5.narrow hAB, h6.narrow hAB⟩, ⟨t7, h7.narrow hAB, h8.narrow hAB⟩, h9.narrow hAB, h10, h11⟩

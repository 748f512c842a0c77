/-! the rows of V -/
section VX
variable {p : Program} {l : Launch} {e : Env} {R : Room} {s : State} {m : MethodId} {args : Array Value} {below : List Frame} {meth : Method} {c : Code} {cells slots : Nat} {Q : State → Prop} {D : va_G} {tys : List (ClassId × FieldType)} {A : Nat → Prop} {nL : Nat} {cc : ByteArray} {Ts : List Cond} {own : String} {ee : Nat × Nat}
def Vx (p : Program) (l : Launch) (e : Env) (R : Room) (s : State) (m : MethodId) (args : Array Value) (below : List Frame) (meth : Method) (c : Code) (cells slots : Nat) (Q : State → Prop) (D : va_G) (A : Nat → Prop) (nL : Nat) (I : Hp → Prop) (pc : Nat) (L : List (Option Value)) (st : List Value) : Prop :=
  ∀ (h : Hp) (H : Heap) (locs : List Loc) (ls : Array Slot), I h → hpW D A h H → va_S A s.heap H locs → lhas ls nL L → W p l e R s m args below meth c H locs cells slots Q (F0 m pc ls st)
def Cx (p : Program) (m : MethodId) (c : Code) (cc : ByteArray) (nL : Nat) (s : State) (args : Array Value) (Ts : List Cond) (own : String) (D : va_G) (tys : List (ClassId × FieldType)) (A : Nat → Prop) (ee : Nat × Nat) : Prop := CallFix p m c cc nL s args Ts own ∧ va_K D vwCl tys s ∧ (∀ q : Nat, s.heap.size ≤ q → A q) ∧ EV ee A s s.heap
variable {I : Hp → Prop} {pc pc' : Nat} {L : List (Option Value)} {st : List Value} {t : List (Option Value)} {a0 a1 a2 a3 a4 a5 a6 a7 a8 a9 a10 w : Option Value}
theorem V_of {pc2 : Nat} {st2 : List Value} (hw : ∀ (H : Heap) (locs : List Loc) (ls : Array Slot), lhas ls nL L → W p l e R s m args below meth c H locs cells slots Q (F0 m pc2 ls st2) → W p l e R s m args below meth c H locs cells slots Q (F0 m pc ls st)) (k : Vx p l e R s m args below meth c cells slots Q D A nL I pc2 L st2) : Vx p l e R s m args below meth c cells slots Q D A nL I pc L st := fun h H locs ls a b c d => hw H locs ls d (k h H locs ls a b c d)
theorem V_weak {I2 : Hp → Prop} (hI : ∀ h, I h → I2 h) (k : Vx p l e R s m args below meth c cells slots Q D A nL I2 pc L st) : Vx p l e R s m args below meth c cells slots Q D A nL I pc L st := fun h H locs ls a b c d => k h H locs ls (hI h a) b c d
theorem V_ex {α : Sort _} {J : α → Hp → Prop} (k : ∀ x, Vx p l e R s m args below meth c cells slots Q D A nL (J x) pc L st) : Vx p l e R s m args below meth c cells slots Q D A nL (fun h => ∃ x, J x h) pc L st := fun h H locs ls a b c d => by
  obtain ⟨x, hx⟩ := a
  exact k x h H locs ls hx b c d
theorem V_and {φ : Prop} (k : φ → Vx p l e R s m args below meth c cells slots Q D A nL I pc L st) : Vx p l e R s m args below meth c cells slots Q D A nL (fun h => φ ∧ I h) pc L st := fun h H locs ls a b c d => k a.1 h H locs ls a.2 b c d
theorem V_fix (k : ∀ h, I h → Vx p l e R s m args below meth c cells slots Q D A nL (fun x => x = h) pc L st) : Vx p l e R s m args below meth c cells slots Q D A nL I pc L st := fun h H locs ls a b c d => k h a h H locs ls rfl b c d
theorem V_locals {L2 : List (Option Value)} (hs : ∀ (i : Nat) (v : Value), L2[i]? = some (some v) → L[i]? = some (some v)) (k : Vx p l e R s m args below meth c cells slots Q D A nL I pc L2 st) : Vx p l e R s m args below meth c cells slots Q D A nL I pc L st := fun h H locs ls a b c d => k h H locs ls a b c (lhas_sub d hs)
theorem V_eq {st2 : List Value} (h : st = st2) (k : Vx p l e R s m args below meth c cells slots Q D A nL I pc L st2) : Vx p l e R s m args below meth c cells slots Q D A nL I pc L st := h ▸ k

theorem V_forget0 (k : Vx p l e R s m args below meth c cells slots Q D A nL I pc (none :: t) st) : Vx p l e R s m args below meth c cells slots Q D A nL I pc (w :: t) st := V_locals (fun i v h => by
  match i, h with
  | 0, h => cases h
  | i + 1, h => exact h) k
theorem V_forget1 (k : Vx p l e R s m args below meth c cells slots Q D A nL I pc (a0 :: none :: t) st) : Vx p l e R s m args below meth c cells slots Q D A nL I pc (a0 :: w :: t) st := V_locals (fun i v h => by
  match i, h with
  | 0, h => exact h
  | 1, h => cases h
  | i + 2, h => exact h) k
theorem V_forget2 (k : Vx p l e R s m args below meth c cells slots Q D A nL I pc (a0 :: a1 :: none :: t) st) : Vx p l e R s m args below meth c cells slots Q D A nL I pc (a0 :: a1 :: w :: t) st := V_locals (fun i v h => by
  match i, h with
  | 0, h => exact h
  | 1, h => exact h
  | 2, h => cases h
  | i + 3, h => exact h) k
theorem V_forget3 (k : Vx p l e R s m args below meth c cells slots Q D A nL I pc (a0 :: a1 :: a2 :: none :: t) st) : Vx p l e R s m args below meth c cells slots Q D A nL I pc (a0 :: a1 :: a2 :: w :: t) st := V_locals (fun i v h => by
  match i, h with
  | 0, h => exact h
  | 1, h => exact h
  | 2, h => exact h
  | 3, h => cases h
  | i + 4, h => exact h) k
theorem V_forget4 (k : Vx p l e R s m args below meth c cells slots Q D A nL I pc (a0 :: a1 :: a2 :: a3 :: none :: t) st) : Vx p l e R s m args below meth c cells slots Q D A nL I pc (a0 :: a1 :: a2 :: a3 :: w :: t) st := V_locals (fun i v h => by
  match i, h with
  | 0, h => exact h
  | 1, h => exact h
  | 2, h => exact h
  | 3, h => exact h
  | 4, h => cases h
  | i + 5, h => exact h) k
theorem V_forget5 (k : Vx p l e R s m args below meth c cells slots Q D A nL I pc (a0 :: a1 :: a2 :: a3 :: a4 :: none :: t) st) : Vx p l e R s m args below meth c cells slots Q D A nL I pc (a0 :: a1 :: a2 :: a3 :: a4 :: w :: t) st := V_locals (fun i v h => by
  match i, h with
  | 0, h => exact h
  | 1, h => exact h
  | 2, h => exact h
  | 3, h => exact h
  | 4, h => exact h
  | 5, h => cases h
  | i + 6, h => exact h) k
theorem V_forget6 (k : Vx p l e R s m args below meth c cells slots Q D A nL I pc (a0 :: a1 :: a2 :: a3 :: a4 :: a5 :: none :: t) st) : Vx p l e R s m args below meth c cells slots Q D A nL I pc (a0 :: a1 :: a2 :: a3 :: a4 :: a5 :: w :: t) st := V_locals (fun i v h => by
  match i, h with
  | 0, h => exact h
  | 1, h => exact h
  | 2, h => exact h
  | 3, h => exact h
  | 4, h => exact h
  | 5, h => exact h
  | 6, h => cases h
  | i + 7, h => exact h) k
theorem V_forget7 (k : Vx p l e R s m args below meth c cells slots Q D A nL I pc (a0 :: a1 :: a2 :: a3 :: a4 :: a5 :: a6 :: none :: t) st) : Vx p l e R s m args below meth c cells slots Q D A nL I pc (a0 :: a1 :: a2 :: a3 :: a4 :: a5 :: a6 :: w :: t) st := V_locals (fun i v h => by
  match i, h with
  | 0, h => exact h
  | 1, h => exact h
  | 2, h => exact h
  | 3, h => exact h
  | 4, h => exact h
  | 5, h => exact h
  | 6, h => exact h
  | 7, h => cases h
  | i + 8, h => exact h) k
theorem V_forget8 (k : Vx p l e R s m args below meth c cells slots Q D A nL I pc (a0 :: a1 :: a2 :: a3 :: a4 :: a5 :: a6 :: a7 :: none :: t) st) : Vx p l e R s m args below meth c cells slots Q D A nL I pc (a0 :: a1 :: a2 :: a3 :: a4 :: a5 :: a6 :: a7 :: w :: t) st := V_locals (fun i v h => by
  match i, h with
  | 0, h => exact h
  | 1, h => exact h
  | 2, h => exact h
  | 3, h => exact h
  | 4, h => exact h
  | 5, h => exact h
  | 6, h => exact h
  | 7, h => exact h
  | 8, h => cases h
  | i + 9, h => exact h) k
theorem V_forget9 (k : Vx p l e R s m args below meth c cells slots Q D A nL I pc (a0 :: a1 :: a2 :: a3 :: a4 :: a5 :: a6 :: a7 :: a8 :: none :: t) st) : Vx p l e R s m args below meth c cells slots Q D A nL I pc (a0 :: a1 :: a2 :: a3 :: a4 :: a5 :: a6 :: a7 :: a8 :: w :: t) st := V_locals (fun i v h => by
  match i, h with
  | 0, h => exact h
  | 1, h => exact h
  | 2, h => exact h
  | 3, h => exact h
  | 4, h => exact h
  | 5, h => exact h
  | 6, h => exact h
  | 7, h => exact h
  | 8, h => exact h
  | 9, h => cases h
  | i + 10, h => exact h) k
theorem V_forget10 (k : Vx p l e R s m args below meth c cells slots Q D A nL I pc (a0 :: a1 :: a2 :: a3 :: a4 :: a5 :: a6 :: a7 :: a8 :: a9 :: none :: t) st) : Vx p l e R s m args below meth c cells slots Q D A nL I pc (a0 :: a1 :: a2 :: a3 :: a4 :: a5 :: a6 :: a7 :: a8 :: a9 :: w :: t) st := V_locals (fun i v h => by
  match i, h with
  | 0, h => exact h
  | 1, h => exact h
  | 2, h => exact h
  | 3, h => exact h
  | 4, h => exact h
  | 5, h => exact h
  | 6, h => exact h
  | 7, h => exact h
  | 8, h => exact h
  | 9, h => exact h
  | 10, h => cases h
  | i + 11, h => exact h) k
theorem V_iload0 {z : Int32} (C : Cx p m c cc nL s args Ts own D tys A ee) (d : decode cc pc = .ok (.iload_n 0, 1)) (e0 : pc + 1 = pc') (k : Vx p l e R s m args below meth c cells slots Q D A nL I pc' (some (.int z) :: t) ((.int z) :: st)) : Vx p l e R s m args below meth c cells slots Q D A nL I pc (some (.int z) :: t) st := by
  subst e0
  exact V_of (fun H locs ls hl kk => lv_iload_n C.1.1 C.1.2.1 d rfl (lhas_at hl (i := 0) rfl) kk) k
theorem V_iload1 {z : Int32} (C : Cx p m c cc nL s args Ts own D tys A ee) (d : decode cc pc = .ok (.iload_n 1, 1)) (e0 : pc + 1 = pc') (k : Vx p l e R s m args below meth c cells slots Q D A nL I pc' (a0 :: some (.int z) :: t) ((.int z) :: st)) : Vx p l e R s m args below meth c cells slots Q D A nL I pc (a0 :: some (.int z) :: t) st := by
  subst e0
  exact V_of (fun H locs ls hl kk => lv_iload_n C.1.1 C.1.2.1 d rfl (lhas_at hl (i := 1) rfl) kk) k
theorem V_iload2 {z : Int32} (C : Cx p m c cc nL s args Ts own D tys A ee) (d : decode cc pc = .ok (.iload_n 2, 1)) (e0 : pc + 1 = pc') (k : Vx p l e R s m args below meth c cells slots Q D A nL I pc' (a0 :: a1 :: some (.int z) :: t) ((.int z) :: st)) : Vx p l e R s m args below meth c cells slots Q D A nL I pc (a0 :: a1 :: some (.int z) :: t) st := by
  subst e0
  exact V_of (fun H locs ls hl kk => lv_iload_n C.1.1 C.1.2.1 d rfl (lhas_at hl (i := 2) rfl) kk) k
theorem V_iload3 {z : Int32} (C : Cx p m c cc nL s args Ts own D tys A ee) (d : decode cc pc = .ok (.iload_n 3, 1)) (e0 : pc + 1 = pc') (k : Vx p l e R s m args below meth c cells slots Q D A nL I pc' (a0 :: a1 :: a2 :: some (.int z) :: t) ((.int z) :: st)) : Vx p l e R s m args below meth c cells slots Q D A nL I pc (a0 :: a1 :: a2 :: some (.int z) :: t) st := by
  subst e0
  exact V_of (fun H locs ls hl kk => lv_iload_n C.1.1 C.1.2.1 d rfl (lhas_at hl (i := 3) rfl) kk) k
theorem V_iload4 {z : Int32} (C : Cx p m c cc nL s args Ts own D tys A ee) (d : decode cc pc = .ok (.iload 4, 2)) (e0 : pc + 2 = pc') (k : Vx p l e R s m args below meth c cells slots Q D A nL I pc' (a0 :: a1 :: a2 :: a3 :: some (.int z) :: t) ((.int z) :: st)) : Vx p l e R s m args below meth c cells slots Q D A nL I pc (a0 :: a1 :: a2 :: a3 :: some (.int z) :: t) st := by
  subst e0
  exact V_of (fun H locs ls hl kk => lv_iload C.1.1 C.1.2.1 d (lhas_at hl (i := 4) rfl) kk) k
theorem V_iload5 {z : Int32} (C : Cx p m c cc nL s args Ts own D tys A ee) (d : decode cc pc = .ok (.iload 5, 2)) (e0 : pc + 2 = pc') (k : Vx p l e R s m args below meth c cells slots Q D A nL I pc' (a0 :: a1 :: a2 :: a3 :: a4 :: some (.int z) :: t) ((.int z) :: st)) : Vx p l e R s m args below meth c cells slots Q D A nL I pc (a0 :: a1 :: a2 :: a3 :: a4 :: some (.int z) :: t) st := by
  subst e0
  exact V_of (fun H locs ls hl kk => lv_iload C.1.1 C.1.2.1 d (lhas_at hl (i := 5) rfl) kk) k
theorem V_iload6 {z : Int32} (C : Cx p m c cc nL s args Ts own D tys A ee) (d : decode cc pc = .ok (.iload 6, 2)) (e0 : pc + 2 = pc') (k : Vx p l e R s m args below meth c cells slots Q D A nL I pc' (a0 :: a1 :: a2 :: a3 :: a4 :: a5 :: some (.int z) :: t) ((.int z) :: st)) : Vx p l e R s m args below meth c cells slots Q D A nL I pc (a0 :: a1 :: a2 :: a3 :: a4 :: a5 :: some (.int z) :: t) st := by
  subst e0
  exact V_of (fun H locs ls hl kk => lv_iload C.1.1 C.1.2.1 d (lhas_at hl (i := 6) rfl) kk) k
theorem V_iload7 {z : Int32} (C : Cx p m c cc nL s args Ts own D tys A ee) (d : decode cc pc = .ok (.iload 7, 2)) (e0 : pc + 2 = pc') (k : Vx p l e R s m args below meth c cells slots Q D A nL I pc' (a0 :: a1 :: a2 :: a3 :: a4 :: a5 :: a6 :: some (.int z) :: t) ((.int z) :: st)) : Vx p l e R s m args below meth c cells slots Q D A nL I pc (a0 :: a1 :: a2 :: a3 :: a4 :: a5 :: a6 :: some (.int z) :: t) st := by
  subst e0
  exact V_of (fun H locs ls hl kk => lv_iload C.1.1 C.1.2.1 d (lhas_at hl (i := 7) rfl) kk) k
theorem V_iload8 {z : Int32} (C : Cx p m c cc nL s args Ts own D tys A ee) (d : decode cc pc = .ok (.iload 8, 2)) (e0 : pc + 2 = pc') (k : Vx p l e R s m args below meth c cells slots Q D A nL I pc' (a0 :: a1 :: a2 :: a3 :: a4 :: a5 :: a6 :: a7 :: some (.int z) :: t) ((.int z) :: st)) : Vx p l e R s m args below meth c cells slots Q D A nL I pc (a0 :: a1 :: a2 :: a3 :: a4 :: a5 :: a6 :: a7 :: some (.int z) :: t) st := by
  subst e0
  exact V_of (fun H locs ls hl kk => lv_iload C.1.1 C.1.2.1 d (lhas_at hl (i := 8) rfl) kk) k
theorem V_iload9 {z : Int32} (C : Cx p m c cc nL s args Ts own D tys A ee) (d : decode cc pc = .ok (.iload 9, 2)) (e0 : pc + 2 = pc') (k : Vx p l e R s m args below meth c cells slots Q D A nL I pc' (a0 :: a1 :: a2 :: a3 :: a4 :: a5 :: a6 :: a7 :: a8 :: some (.int z) :: t) ((.int z) :: st)) : Vx p l e R s m args below meth c cells slots Q D A nL I pc (a0 :: a1 :: a2 :: a3 :: a4 :: a5 :: a6 :: a7 :: a8 :: some (.int z) :: t) st := by
  subst e0
  exact V_of (fun H locs ls hl kk => lv_iload C.1.1 C.1.2.1 d (lhas_at hl (i := 9) rfl) kk) k
theorem V_iload10 {z : Int32} (C : Cx p m c cc nL s args Ts own D tys A ee) (d : decode cc pc = .ok (.iload 10, 2)) (e0 : pc + 2 = pc') (k : Vx p l e R s m args below meth c cells slots Q D A nL I pc' (a0 :: a1 :: a2 :: a3 :: a4 :: a5 :: a6 :: a7 :: a8 :: a9 :: some (.int z) :: t) ((.int z) :: st)) : Vx p l e R s m args below meth c cells slots Q D A nL I pc (a0 :: a1 :: a2 :: a3 :: a4 :: a5 :: a6 :: a7 :: a8 :: a9 :: some (.int z) :: t) st := by
  subst e0
  exact V_of (fun H locs ls hl kk => lv_iload C.1.1 C.1.2.1 d (lhas_at hl (i := 10) rfl) kk) k
theorem V_aload0 {z : Nat} (C : Cx p m c cc nL s args Ts own D tys A ee) (d : decode cc pc = .ok (.aload_n 0, 1)) (e0 : pc + 1 = pc') (k : Vx p l e R s m args below meth c cells slots Q D A nL I pc' (some (.ref z) :: t) ((.ref z) :: st)) : Vx p l e R s m args below meth c cells slots Q D A nL I pc (some (.ref z) :: t) st := by
  subst e0
  exact V_of (fun H locs ls hl kk => lv_aload_n C.1.1 C.1.2.1 d rfl (lhas_at hl (i := 0) rfl) kk) k
theorem V_aload1 {z : Nat} (C : Cx p m c cc nL s args Ts own D tys A ee) (d : decode cc pc = .ok (.aload_n 1, 1)) (e0 : pc + 1 = pc') (k : Vx p l e R s m args below meth c cells slots Q D A nL I pc' (a0 :: some (.ref z) :: t) ((.ref z) :: st)) : Vx p l e R s m args below meth c cells slots Q D A nL I pc (a0 :: some (.ref z) :: t) st := by
  subst e0
  exact V_of (fun H locs ls hl kk => lv_aload_n C.1.1 C.1.2.1 d rfl (lhas_at hl (i := 1) rfl) kk) k
theorem V_aload2 {z : Nat} (C : Cx p m c cc nL s args Ts own D tys A ee) (d : decode cc pc = .ok (.aload_n 2, 1)) (e0 : pc + 1 = pc') (k : Vx p l e R s m args below meth c cells slots Q D A nL I pc' (a0 :: a1 :: some (.ref z) :: t) ((.ref z) :: st)) : Vx p l e R s m args below meth c cells slots Q D A nL I pc (a0 :: a1 :: some (.ref z) :: t) st := by
  subst e0
  exact V_of (fun H locs ls hl kk => lv_aload_n C.1.1 C.1.2.1 d rfl (lhas_at hl (i := 2) rfl) kk) k
theorem V_aload3 {z : Nat} (C : Cx p m c cc nL s args Ts own D tys A ee) (d : decode cc pc = .ok (.aload_n 3, 1)) (e0 : pc + 1 = pc') (k : Vx p l e R s m args below meth c cells slots Q D A nL I pc' (a0 :: a1 :: a2 :: some (.ref z) :: t) ((.ref z) :: st)) : Vx p l e R s m args below meth c cells slots Q D A nL I pc (a0 :: a1 :: a2 :: some (.ref z) :: t) st := by
  subst e0
  exact V_of (fun H locs ls hl kk => lv_aload_n C.1.1 C.1.2.1 d rfl (lhas_at hl (i := 3) rfl) kk) k
theorem V_aload4 {z : Nat} (C : Cx p m c cc nL s args Ts own D tys A ee) (d : decode cc pc = .ok (.aload 4, 2)) (e0 : pc + 2 = pc') (k : Vx p l e R s m args below meth c cells slots Q D A nL I pc' (a0 :: a1 :: a2 :: a3 :: some (.ref z) :: t) ((.ref z) :: st)) : Vx p l e R s m args below meth c cells slots Q D A nL I pc (a0 :: a1 :: a2 :: a3 :: some (.ref z) :: t) st := by
  subst e0
  exact V_of (fun H locs ls hl kk => lv_aload C.1.1 C.1.2.1 d (lhas_at hl (i := 4) rfl) kk) k
theorem V_aload5 {z : Nat} (C : Cx p m c cc nL s args Ts own D tys A ee) (d : decode cc pc = .ok (.aload 5, 2)) (e0 : pc + 2 = pc') (k : Vx p l e R s m args below meth c cells slots Q D A nL I pc' (a0 :: a1 :: a2 :: a3 :: a4 :: some (.ref z) :: t) ((.ref z) :: st)) : Vx p l e R s m args below meth c cells slots Q D A nL I pc (a0 :: a1 :: a2 :: a3 :: a4 :: some (.ref z) :: t) st := by
  subst e0
  exact V_of (fun H locs ls hl kk => lv_aload C.1.1 C.1.2.1 d (lhas_at hl (i := 5) rfl) kk) k
theorem V_aload6 {z : Nat} (C : Cx p m c cc nL s args Ts own D tys A ee) (d : decode cc pc = .ok (.aload 6, 2)) (e0 : pc + 2 = pc') (k : Vx p l e R s m args below meth c cells slots Q D A nL I pc' (a0 :: a1 :: a2 :: a3 :: a4 :: a5 :: some (.ref z) :: t) ((.ref z) :: st)) : Vx p l e R s m args below meth c cells slots Q D A nL I pc (a0 :: a1 :: a2 :: a3 :: a4 :: a5 :: some (.ref z) :: t) st := by
  subst e0
  exact V_of (fun H locs ls hl kk => lv_aload C.1.1 C.1.2.1 d (lhas_at hl (i := 6) rfl) kk) k
theorem V_aload7 {z : Nat} (C : Cx p m c cc nL s args Ts own D tys A ee) (d : decode cc pc = .ok (.aload 7, 2)) (e0 : pc + 2 = pc') (k : Vx p l e R s m args below meth c cells slots Q D A nL I pc' (a0 :: a1 :: a2 :: a3 :: a4 :: a5 :: a6 :: some (.ref z) :: t) ((.ref z) :: st)) : Vx p l e R s m args below meth c cells slots Q D A nL I pc (a0 :: a1 :: a2 :: a3 :: a4 :: a5 :: a6 :: some (.ref z) :: t) st := by
  subst e0
  exact V_of (fun H locs ls hl kk => lv_aload C.1.1 C.1.2.1 d (lhas_at hl (i := 7) rfl) kk) k
theorem V_aload8 {z : Nat} (C : Cx p m c cc nL s args Ts own D tys A ee) (d : decode cc pc = .ok (.aload 8, 2)) (e0 : pc + 2 = pc') (k : Vx p l e R s m args below meth c cells slots Q D A nL I pc' (a0 :: a1 :: a2 :: a3 :: a4 :: a5 :: a6 :: a7 :: some (.ref z) :: t) ((.ref z) :: st)) : Vx p l e R s m args below meth c cells slots Q D A nL I pc (a0 :: a1 :: a2 :: a3 :: a4 :: a5 :: a6 :: a7 :: some (.ref z) :: t) st := by
  subst e0
  exact V_of (fun H locs ls hl kk => lv_aload C.1.1 C.1.2.1 d (lhas_at hl (i := 8) rfl) kk) k
theorem V_aload9 {z : Nat} (C : Cx p m c cc nL s args Ts own D tys A ee) (d : decode cc pc = .ok (.aload 9, 2)) (e0 : pc + 2 = pc') (k : Vx p l e R s m args below meth c cells slots Q D A nL I pc' (a0 :: a1 :: a2 :: a3 :: a4 :: a5 :: a6 :: a7 :: a8 :: some (.ref z) :: t) ((.ref z) :: st)) : Vx p l e R s m args below meth c cells slots Q D A nL I pc (a0 :: a1 :: a2 :: a3 :: a4 :: a5 :: a6 :: a7 :: a8 :: some (.ref z) :: t) st := by
  subst e0
  exact V_of (fun H locs ls hl kk => lv_aload C.1.1 C.1.2.1 d (lhas_at hl (i := 9) rfl) kk) k
theorem V_aload10 {z : Nat} (C : Cx p m c cc nL s args Ts own D tys A ee) (d : decode cc pc = .ok (.aload 10, 2)) (e0 : pc + 2 = pc') (k : Vx p l e R s m args below meth c cells slots Q D A nL I pc' (a0 :: a1 :: a2 :: a3 :: a4 :: a5 :: a6 :: a7 :: a8 :: a9 :: some (.ref z) :: t) ((.ref z) :: st)) : Vx p l e R s m args below meth c cells slots Q D A nL I pc (a0 :: a1 :: a2 :: a3 :: a4 :: a5 :: a6 :: a7 :: a8 :: a9 :: some (.ref z) :: t) st := by
  subst e0
  exact V_of (fun H locs ls hl kk => lv_aload C.1.1 C.1.2.1 d (lhas_at hl (i := 10) rfl) kk) k
theorem V_aloadN0 (C : Cx p m c cc nL s args Ts own D tys A ee) (d : decode cc pc = .ok (.aload_n 0, 1)) (e0 : pc + 1 = pc') (k : Vx p l e R s m args below meth c cells slots Q D A nL I pc' (some .null :: t) (.null :: st)) : Vx p l e R s m args below meth c cells slots Q D A nL I pc (some .null :: t) st := by
  subst e0
  exact V_of (fun H locs ls hl kk => lv_aload_nN C.1.1 C.1.2.1 d rfl (lhas_at hl (i := 0) rfl) kk) k
theorem V_aloadN1 (C : Cx p m c cc nL s args Ts own D tys A ee) (d : decode cc pc = .ok (.aload_n 1, 1)) (e0 : pc + 1 = pc') (k : Vx p l e R s m args below meth c cells slots Q D A nL I pc' (a0 :: some .null :: t) (.null :: st)) : Vx p l e R s m args below meth c cells slots Q D A nL I pc (a0 :: some .null :: t) st := by
  subst e0
  exact V_of (fun H locs ls hl kk => lv_aload_nN C.1.1 C.1.2.1 d rfl (lhas_at hl (i := 1) rfl) kk) k
theorem V_aloadN2 (C : Cx p m c cc nL s args Ts own D tys A ee) (d : decode cc pc = .ok (.aload_n 2, 1)) (e0 : pc + 1 = pc') (k : Vx p l e R s m args below meth c cells slots Q D A nL I pc' (a0 :: a1 :: some .null :: t) (.null :: st)) : Vx p l e R s m args below meth c cells slots Q D A nL I pc (a0 :: a1 :: some .null :: t) st := by
  subst e0
  exact V_of (fun H locs ls hl kk => lv_aload_nN C.1.1 C.1.2.1 d rfl (lhas_at hl (i := 2) rfl) kk) k
theorem V_aloadN3 (C : Cx p m c cc nL s args Ts own D tys A ee) (d : decode cc pc = .ok (.aload_n 3, 1)) (e0 : pc + 1 = pc') (k : Vx p l e R s m args below meth c cells slots Q D A nL I pc' (a0 :: a1 :: a2 :: some .null :: t) (.null :: st)) : Vx p l e R s m args below meth c cells slots Q D A nL I pc (a0 :: a1 :: a2 :: some .null :: t) st := by
  subst e0
  exact V_of (fun H locs ls hl kk => lv_aload_nN C.1.1 C.1.2.1 d rfl (lhas_at hl (i := 3) rfl) kk) k
theorem V_aloadN4 (C : Cx p m c cc nL s args Ts own D tys A ee) (d : decode cc pc = .ok (.aload 4, 2)) (e0 : pc + 2 = pc') (k : Vx p l e R s m args below meth c cells slots Q D A nL I pc' (a0 :: a1 :: a2 :: a3 :: some .null :: t) (.null :: st)) : Vx p l e R s m args below meth c cells slots Q D A nL I pc (a0 :: a1 :: a2 :: a3 :: some .null :: t) st := by
  subst e0
  exact V_of (fun H locs ls hl kk => lv_aloadN C.1.1 C.1.2.1 d (lhas_at hl (i := 4) rfl) kk) k
theorem V_aloadN5 (C : Cx p m c cc nL s args Ts own D tys A ee) (d : decode cc pc = .ok (.aload 5, 2)) (e0 : pc + 2 = pc') (k : Vx p l e R s m args below meth c cells slots Q D A nL I pc' (a0 :: a1 :: a2 :: a3 :: a4 :: some .null :: t) (.null :: st)) : Vx p l e R s m args below meth c cells slots Q D A nL I pc (a0 :: a1 :: a2 :: a3 :: a4 :: some .null :: t) st := by
  subst e0
  exact V_of (fun H locs ls hl kk => lv_aloadN C.1.1 C.1.2.1 d (lhas_at hl (i := 5) rfl) kk) k
theorem V_aloadN6 (C : Cx p m c cc nL s args Ts own D tys A ee) (d : decode cc pc = .ok (.aload 6, 2)) (e0 : pc + 2 = pc') (k : Vx p l e R s m args below meth c cells slots Q D A nL I pc' (a0 :: a1 :: a2 :: a3 :: a4 :: a5 :: some .null :: t) (.null :: st)) : Vx p l e R s m args below meth c cells slots Q D A nL I pc (a0 :: a1 :: a2 :: a3 :: a4 :: a5 :: some .null :: t) st := by
  subst e0
  exact V_of (fun H locs ls hl kk => lv_aloadN C.1.1 C.1.2.1 d (lhas_at hl (i := 6) rfl) kk) k
theorem V_aloadN7 (C : Cx p m c cc nL s args Ts own D tys A ee) (d : decode cc pc = .ok (.aload 7, 2)) (e0 : pc + 2 = pc') (k : Vx p l e R s m args below meth c cells slots Q D A nL I pc' (a0 :: a1 :: a2 :: a3 :: a4 :: a5 :: a6 :: some .null :: t) (.null :: st)) : Vx p l e R s m args below meth c cells slots Q D A nL I pc (a0 :: a1 :: a2 :: a3 :: a4 :: a5 :: a6 :: some .null :: t) st := by
  subst e0
  exact V_of (fun H locs ls hl kk => lv_aloadN C.1.1 C.1.2.1 d (lhas_at hl (i := 7) rfl) kk) k
theorem V_aloadN8 (C : Cx p m c cc nL s args Ts own D tys A ee) (d : decode cc pc = .ok (.aload 8, 2)) (e0 : pc + 2 = pc') (k : Vx p l e R s m args below meth c cells slots Q D A nL I pc' (a0 :: a1 :: a2 :: a3 :: a4 :: a5 :: a6 :: a7 :: some .null :: t) (.null :: st)) : Vx p l e R s m args below meth c cells slots Q D A nL I pc (a0 :: a1 :: a2 :: a3 :: a4 :: a5 :: a6 :: a7 :: some .null :: t) st := by
  subst e0
  exact V_of (fun H locs ls hl kk => lv_aloadN C.1.1 C.1.2.1 d (lhas_at hl (i := 8) rfl) kk) k
theorem V_aloadN9 (C : Cx p m c cc nL s args Ts own D tys A ee) (d : decode cc pc = .ok (.aload 9, 2)) (e0 : pc + 2 = pc') (k : Vx p l e R s m args below meth c cells slots Q D A nL I pc' (a0 :: a1 :: a2 :: a3 :: a4 :: a5 :: a6 :: a7 :: a8 :: some .null :: t) (.null :: st)) : Vx p l e R s m args below meth c cells slots Q D A nL I pc (a0 :: a1 :: a2 :: a3 :: a4 :: a5 :: a6 :: a7 :: a8 :: some .null :: t) st := by
  subst e0
  exact V_of (fun H locs ls hl kk => lv_aloadN C.1.1 C.1.2.1 d (lhas_at hl (i := 9) rfl) kk) k
theorem V_aloadN10 (C : Cx p m c cc nL s args Ts own D tys A ee) (d : decode cc pc = .ok (.aload 10, 2)) (e0 : pc + 2 = pc') (k : Vx p l e R s m args below meth c cells slots Q D A nL I pc' (a0 :: a1 :: a2 :: a3 :: a4 :: a5 :: a6 :: a7 :: a8 :: a9 :: some .null :: t) (.null :: st)) : Vx p l e R s m args below meth c cells slots Q D A nL I pc (a0 :: a1 :: a2 :: a3 :: a4 :: a5 :: a6 :: a7 :: a8 :: a9 :: some .null :: t) st := by
  subst e0
  exact V_of (fun H locs ls hl kk => lv_aloadN C.1.1 C.1.2.1 d (lhas_at hl (i := 10) rfl) kk) k
theorem V_fload0 {z : UInt32} (C : Cx p m c cc nL s args Ts own D tys A ee) (d : decode cc pc = .ok (.fload_n 0, 1)) (e0 : pc + 1 = pc') (k : Vx p l e R s m args below meth c cells slots Q D A nL I pc' (some (.float z) :: t) ((.float z) :: st)) : Vx p l e R s m args below meth c cells slots Q D A nL I pc (some (.float z) :: t) st := by
  subst e0
  exact V_of (fun H locs ls hl kk => lv_fload_n C.1.1 C.1.2.1 d rfl (lhas_at hl (i := 0) rfl) kk) k
theorem V_fload1 {z : UInt32} (C : Cx p m c cc nL s args Ts own D tys A ee) (d : decode cc pc = .ok (.fload_n 1, 1)) (e0 : pc + 1 = pc') (k : Vx p l e R s m args below meth c cells slots Q D A nL I pc' (a0 :: some (.float z) :: t) ((.float z) :: st)) : Vx p l e R s m args below meth c cells slots Q D A nL I pc (a0 :: some (.float z) :: t) st := by
  subst e0
  exact V_of (fun H locs ls hl kk => lv_fload_n C.1.1 C.1.2.1 d rfl (lhas_at hl (i := 1) rfl) kk) k
theorem V_fload2 {z : UInt32} (C : Cx p m c cc nL s args Ts own D tys A ee) (d : decode cc pc = .ok (.fload_n 2, 1)) (e0 : pc + 1 = pc') (k : Vx p l e R s m args below meth c cells slots Q D A nL I pc' (a0 :: a1 :: some (.float z) :: t) ((.float z) :: st)) : Vx p l e R s m args below meth c cells slots Q D A nL I pc (a0 :: a1 :: some (.float z) :: t) st := by
  subst e0
  exact V_of (fun H locs ls hl kk => lv_fload_n C.1.1 C.1.2.1 d rfl (lhas_at hl (i := 2) rfl) kk) k
theorem V_fload3 {z : UInt32} (C : Cx p m c cc nL s args Ts own D tys A ee) (d : decode cc pc = .ok (.fload_n 3, 1)) (e0 : pc + 1 = pc') (k : Vx p l e R s m args below meth c cells slots Q D A nL I pc' (a0 :: a1 :: a2 :: some (.float z) :: t) ((.float z) :: st)) : Vx p l e R s m args below meth c cells slots Q D A nL I pc (a0 :: a1 :: a2 :: some (.float z) :: t) st := by
  subst e0
  exact V_of (fun H locs ls hl kk => lv_fload_n C.1.1 C.1.2.1 d rfl (lhas_at hl (i := 3) rfl) kk) k
theorem V_fload4 {z : UInt32} (C : Cx p m c cc nL s args Ts own D tys A ee) (d : decode cc pc = .ok (.fload 4, 2)) (e0 : pc + 2 = pc') (k : Vx p l e R s m args below meth c cells slots Q D A nL I pc' (a0 :: a1 :: a2 :: a3 :: some (.float z) :: t) ((.float z) :: st)) : Vx p l e R s m args below meth c cells slots Q D A nL I pc (a0 :: a1 :: a2 :: a3 :: some (.float z) :: t) st := by
  subst e0
  exact V_of (fun H locs ls hl kk => lv_fload C.1.1 C.1.2.1 d (lhas_at hl (i := 4) rfl) kk) k
theorem V_fload5 {z : UInt32} (C : Cx p m c cc nL s args Ts own D tys A ee) (d : decode cc pc = .ok (.fload 5, 2)) (e0 : pc + 2 = pc') (k : Vx p l e R s m args below meth c cells slots Q D A nL I pc' (a0 :: a1 :: a2 :: a3 :: a4 :: some (.float z) :: t) ((.float z) :: st)) : Vx p l e R s m args below meth c cells slots Q D A nL I pc (a0 :: a1 :: a2 :: a3 :: a4 :: some (.float z) :: t) st := by
  subst e0
  exact V_of (fun H locs ls hl kk => lv_fload C.1.1 C.1.2.1 d (lhas_at hl (i := 5) rfl) kk) k
theorem V_fload6 {z : UInt32} (C : Cx p m c cc nL s args Ts own D tys A ee) (d : decode cc pc = .ok (.fload 6, 2)) (e0 : pc + 2 = pc') (k : Vx p l e R s m args below meth c cells slots Q D A nL I pc' (a0 :: a1 :: a2 :: a3 :: a4 :: a5 :: some (.float z) :: t) ((.float z) :: st)) : Vx p l e R s m args below meth c cells slots Q D A nL I pc (a0 :: a1 :: a2 :: a3 :: a4 :: a5 :: some (.float z) :: t) st := by
  subst e0
  exact V_of (fun H locs ls hl kk => lv_fload C.1.1 C.1.2.1 d (lhas_at hl (i := 6) rfl) kk) k
theorem V_fload7 {z : UInt32} (C : Cx p m c cc nL s args Ts own D tys A ee) (d : decode cc pc = .ok (.fload 7, 2)) (e0 : pc + 2 = pc') (k : Vx p l e R s m args below meth c cells slots Q D A nL I pc' (a0 :: a1 :: a2 :: a3 :: a4 :: a5 :: a6 :: some (.float z) :: t) ((.float z) :: st)) : Vx p l e R s m args below meth c cells slots Q D A nL I pc (a0 :: a1 :: a2 :: a3 :: a4 :: a5 :: a6 :: some (.float z) :: t) st := by
  subst e0
  exact V_of (fun H locs ls hl kk => lv_fload C.1.1 C.1.2.1 d (lhas_at hl (i := 7) rfl) kk) k
theorem V_fload8 {z : UInt32} (C : Cx p m c cc nL s args Ts own D tys A ee) (d : decode cc pc = .ok (.fload 8, 2)) (e0 : pc + 2 = pc') (k : Vx p l e R s m args below meth c cells slots Q D A nL I pc' (a0 :: a1 :: a2 :: a3 :: a4 :: a5 :: a6 :: a7 :: some (.float z) :: t) ((.float z) :: st)) : Vx p l e R s m args below meth c cells slots Q D A nL I pc (a0 :: a1 :: a2 :: a3 :: a4 :: a5 :: a6 :: a7 :: some (.float z) :: t) st := by
  subst e0
  exact V_of (fun H locs ls hl kk => lv_fload C.1.1 C.1.2.1 d (lhas_at hl (i := 8) rfl) kk) k
theorem V_fload9 {z : UInt32} (C : Cx p m c cc nL s args Ts own D tys A ee) (d : decode cc pc = .ok (.fload 9, 2)) (e0 : pc + 2 = pc') (k : Vx p l e R s m args below meth c cells slots Q D A nL I pc' (a0 :: a1 :: a2 :: a3 :: a4 :: a5 :: a6 :: a7 :: a8 :: some (.float z) :: t) ((.float z) :: st)) : Vx p l e R s m args below meth c cells slots Q D A nL I pc (a0 :: a1 :: a2 :: a3 :: a4 :: a5 :: a6 :: a7 :: a8 :: some (.float z) :: t) st := by
  subst e0
  exact V_of (fun H locs ls hl kk => lv_fload C.1.1 C.1.2.1 d (lhas_at hl (i := 9) rfl) kk) k
theorem V_fload10 {z : UInt32} (C : Cx p m c cc nL s args Ts own D tys A ee) (d : decode cc pc = .ok (.fload 10, 2)) (e0 : pc + 2 = pc') (k : Vx p l e R s m args below meth c cells slots Q D A nL I pc' (a0 :: a1 :: a2 :: a3 :: a4 :: a5 :: a6 :: a7 :: a8 :: a9 :: some (.float z) :: t) ((.float z) :: st)) : Vx p l e R s m args below meth c cells slots Q D A nL I pc (a0 :: a1 :: a2 :: a3 :: a4 :: a5 :: a6 :: a7 :: a8 :: a9 :: some (.float z) :: t) st := by
  subst e0
  exact V_of (fun H locs ls hl kk => lv_fload C.1.1 C.1.2.1 d (lhas_at hl (i := 10) rfl) kk) k
theorem V_dload0 {z : UInt64} (C : Cx p m c cc nL s args Ts own D tys A ee) (d : decode cc pc = .ok (.dload_n 0, 1)) (e0 : pc + 1 = pc') (k : Vx p l e R s m args below meth c cells slots Q D A nL I pc' (some (.double z) :: t) ((.double z) :: st)) : Vx p l e R s m args below meth c cells slots Q D A nL I pc (some (.double z) :: t) st := by
  subst e0
  exact V_of (fun H locs ls hl kk => lv_dload_n C.1.1 C.1.2.1 d rfl (lhas_at hl (i := 0) rfl) kk) k
theorem V_dload1 {z : UInt64} (C : Cx p m c cc nL s args Ts own D tys A ee) (d : decode cc pc = .ok (.dload_n 1, 1)) (e0 : pc + 1 = pc') (k : Vx p l e R s m args below meth c cells slots Q D A nL I pc' (a0 :: some (.double z) :: t) ((.double z) :: st)) : Vx p l e R s m args below meth c cells slots Q D A nL I pc (a0 :: some (.double z) :: t) st := by
  subst e0
  exact V_of (fun H locs ls hl kk => lv_dload_n C.1.1 C.1.2.1 d rfl (lhas_at hl (i := 1) rfl) kk) k
theorem V_dload2 {z : UInt64} (C : Cx p m c cc nL s args Ts own D tys A ee) (d : decode cc pc = .ok (.dload_n 2, 1)) (e0 : pc + 1 = pc') (k : Vx p l e R s m args below meth c cells slots Q D A nL I pc' (a0 :: a1 :: some (.double z) :: t) ((.double z) :: st)) : Vx p l e R s m args below meth c cells slots Q D A nL I pc (a0 :: a1 :: some (.double z) :: t) st := by
  subst e0
  exact V_of (fun H locs ls hl kk => lv_dload_n C.1.1 C.1.2.1 d rfl (lhas_at hl (i := 2) rfl) kk) k
theorem V_dload3 {z : UInt64} (C : Cx p m c cc nL s args Ts own D tys A ee) (d : decode cc pc = .ok (.dload_n 3, 1)) (e0 : pc + 1 = pc') (k : Vx p l e R s m args below meth c cells slots Q D A nL I pc' (a0 :: a1 :: a2 :: some (.double z) :: t) ((.double z) :: st)) : Vx p l e R s m args below meth c cells slots Q D A nL I pc (a0 :: a1 :: a2 :: some (.double z) :: t) st := by
  subst e0
  exact V_of (fun H locs ls hl kk => lv_dload_n C.1.1 C.1.2.1 d rfl (lhas_at hl (i := 3) rfl) kk) k
theorem V_dload4 {z : UInt64} (C : Cx p m c cc nL s args Ts own D tys A ee) (d : decode cc pc = .ok (.dload 4, 2)) (e0 : pc + 2 = pc') (k : Vx p l e R s m args below meth c cells slots Q D A nL I pc' (a0 :: a1 :: a2 :: a3 :: some (.double z) :: t) ((.double z) :: st)) : Vx p l e R s m args below meth c cells slots Q D A nL I pc (a0 :: a1 :: a2 :: a3 :: some (.double z) :: t) st := by
  subst e0
  exact V_of (fun H locs ls hl kk => lv_dload C.1.1 C.1.2.1 d (lhas_at hl (i := 4) rfl) kk) k
theorem V_dload5 {z : UInt64} (C : Cx p m c cc nL s args Ts own D tys A ee) (d : decode cc pc = .ok (.dload 5, 2)) (e0 : pc + 2 = pc') (k : Vx p l e R s m args below meth c cells slots Q D A nL I pc' (a0 :: a1 :: a2 :: a3 :: a4 :: some (.double z) :: t) ((.double z) :: st)) : Vx p l e R s m args below meth c cells slots Q D A nL I pc (a0 :: a1 :: a2 :: a3 :: a4 :: some (.double z) :: t) st := by
  subst e0
  exact V_of (fun H locs ls hl kk => lv_dload C.1.1 C.1.2.1 d (lhas_at hl (i := 5) rfl) kk) k
theorem V_dload6 {z : UInt64} (C : Cx p m c cc nL s args Ts own D tys A ee) (d : decode cc pc = .ok (.dload 6, 2)) (e0 : pc + 2 = pc') (k : Vx p l e R s m args below meth c cells slots Q D A nL I pc' (a0 :: a1 :: a2 :: a3 :: a4 :: a5 :: some (.double z) :: t) ((.double z) :: st)) : Vx p l e R s m args below meth c cells slots Q D A nL I pc (a0 :: a1 :: a2 :: a3 :: a4 :: a5 :: some (.double z) :: t) st := by
  subst e0
  exact V_of (fun H locs ls hl kk => lv_dload C.1.1 C.1.2.1 d (lhas_at hl (i := 6) rfl) kk) k
theorem V_dload7 {z : UInt64} (C : Cx p m c cc nL s args Ts own D tys A ee) (d : decode cc pc = .ok (.dload 7, 2)) (e0 : pc + 2 = pc') (k : Vx p l e R s m args below meth c cells slots Q D A nL I pc' (a0 :: a1 :: a2 :: a3 :: a4 :: a5 :: a6 :: some (.double z) :: t) ((.double z) :: st)) : Vx p l e R s m args below meth c cells slots Q D A nL I pc (a0 :: a1 :: a2 :: a3 :: a4 :: a5 :: a6 :: some (.double z) :: t) st := by
  subst e0
  exact V_of (fun H locs ls hl kk => lv_dload C.1.1 C.1.2.1 d (lhas_at hl (i := 7) rfl) kk) k
theorem V_dload8 {z : UInt64} (C : Cx p m c cc nL s args Ts own D tys A ee) (d : decode cc pc = .ok (.dload 8, 2)) (e0 : pc + 2 = pc') (k : Vx p l e R s m args below meth c cells slots Q D A nL I pc' (a0 :: a1 :: a2 :: a3 :: a4 :: a5 :: a6 :: a7 :: some (.double z) :: t) ((.double z) :: st)) : Vx p l e R s m args below meth c cells slots Q D A nL I pc (a0 :: a1 :: a2 :: a3 :: a4 :: a5 :: a6 :: a7 :: some (.double z) :: t) st := by
  subst e0
  exact V_of (fun H locs ls hl kk => lv_dload C.1.1 C.1.2.1 d (lhas_at hl (i := 8) rfl) kk) k
theorem V_dload9 {z : UInt64} (C : Cx p m c cc nL s args Ts own D tys A ee) (d : decode cc pc = .ok (.dload 9, 2)) (e0 : pc + 2 = pc') (k : Vx p l e R s m args below meth c cells slots Q D A nL I pc' (a0 :: a1 :: a2 :: a3 :: a4 :: a5 :: a6 :: a7 :: a8 :: some (.double z) :: t) ((.double z) :: st)) : Vx p l e R s m args below meth c cells slots Q D A nL I pc (a0 :: a1 :: a2 :: a3 :: a4 :: a5 :: a6 :: a7 :: a8 :: some (.double z) :: t) st := by
  subst e0
  exact V_of (fun H locs ls hl kk => lv_dload C.1.1 C.1.2.1 d (lhas_at hl (i := 9) rfl) kk) k
theorem V_dload10 {z : UInt64} (C : Cx p m c cc nL s args Ts own D tys A ee) (d : decode cc pc = .ok (.dload 10, 2)) (e0 : pc + 2 = pc') (k : Vx p l e R s m args below meth c cells slots Q D A nL I pc' (a0 :: a1 :: a2 :: a3 :: a4 :: a5 :: a6 :: a7 :: a8 :: a9 :: some (.double z) :: t) ((.double z) :: st)) : Vx p l e R s m args below meth c cells slots Q D A nL I pc (a0 :: a1 :: a2 :: a3 :: a4 :: a5 :: a6 :: a7 :: a8 :: a9 :: some (.double z) :: t) st := by
  subst e0
  exact V_of (fun H locs ls hl kk => lv_dload C.1.1 C.1.2.1 d (lhas_at hl (i := 10) rfl) kk) k
theorem V_istore0 {z : Int32} (C : Cx p m c cc nL s args Ts own D tys A ee) (d : decode cc pc = .ok (.istore_n 0, 1)) (e0 : pc + 1 = pc') (hn : 0 < nL) (k : Vx p l e R s m args below meth c cells slots Q D A nL I pc' (some (.int z) :: t) st) : Vx p l e R s m args below meth c cells slots Q D A nL I pc (w :: t) ((.int z) :: st) := by
  subst e0
  intro h H locs ls hI hW hS hl
  obtain ⟨lv, h1, h2⟩ := lhas_set (i := 0) (v := (.int z)) hl hn rfl (fun w hne hw => absurd rfl hne)
  exact lv_istore_n C.1.1 C.1.2.1 d rfl h1 hn rfl (fun ls' hl' => k h H locs ls' hI hW hS (h2 ls' hl'))
theorem V_istore1 {z : Int32} (C : Cx p m c cc nL s args Ts own D tys A ee) (d : decode cc pc = .ok (.istore_n 1, 1)) (e0 : pc + 1 = pc') (hn : 1 < nL) (ho : oc1 a0 = true) (k : Vx p l e R s m args below meth c cells slots Q D A nL I pc' (a0 :: some (.int z) :: t) st) : Vx p l e R s m args below meth c cells slots Q D A nL I pc (a0 :: w :: t) ((.int z) :: st) := by
  subst e0
  intro h H locs ls hI hW hS hl
  obtain ⟨lv, h1, h2⟩ := lhas_set (i := 1) (v := (.int z)) hl hn rfl (fun w hne hw => by cases hw; exact ho)
  exact lv_istore_n C.1.1 C.1.2.1 d rfl h1 hn rfl (fun ls' hl' => k h H locs ls' hI hW hS (h2 ls' hl'))
theorem V_istore2 {z : Int32} (C : Cx p m c cc nL s args Ts own D tys A ee) (d : decode cc pc = .ok (.istore_n 2, 1)) (e0 : pc + 1 = pc') (hn : 2 < nL) (ho : oc1 a1 = true) (k : Vx p l e R s m args below meth c cells slots Q D A nL I pc' (a0 :: a1 :: some (.int z) :: t) st) : Vx p l e R s m args below meth c cells slots Q D A nL I pc (a0 :: a1 :: w :: t) ((.int z) :: st) := by
  subst e0
  intro h H locs ls hI hW hS hl
  obtain ⟨lv, h1, h2⟩ := lhas_set (i := 2) (v := (.int z)) hl hn rfl (fun w hne hw => by cases hw; exact ho)
  exact lv_istore_n C.1.1 C.1.2.1 d rfl h1 hn rfl (fun ls' hl' => k h H locs ls' hI hW hS (h2 ls' hl'))
theorem V_istore3 {z : Int32} (C : Cx p m c cc nL s args Ts own D tys A ee) (d : decode cc pc = .ok (.istore_n 3, 1)) (e0 : pc + 1 = pc') (hn : 3 < nL) (ho : oc1 a2 = true) (k : Vx p l e R s m args below meth c cells slots Q D A nL I pc' (a0 :: a1 :: a2 :: some (.int z) :: t) st) : Vx p l e R s m args below meth c cells slots Q D A nL I pc (a0 :: a1 :: a2 :: w :: t) ((.int z) :: st) := by
  subst e0
  intro h H locs ls hI hW hS hl
  obtain ⟨lv, h1, h2⟩ := lhas_set (i := 3) (v := (.int z)) hl hn rfl (fun w hne hw => by cases hw; exact ho)
  exact lv_istore_n C.1.1 C.1.2.1 d rfl h1 hn rfl (fun ls' hl' => k h H locs ls' hI hW hS (h2 ls' hl'))
theorem V_istore4 {z : Int32} (C : Cx p m c cc nL s args Ts own D tys A ee) (d : decode cc pc = .ok (.istore 4, 2)) (e0 : pc + 2 = pc') (hn : 4 < nL) (ho : oc1 a3 = true) (k : Vx p l e R s m args below meth c cells slots Q D A nL I pc' (a0 :: a1 :: a2 :: a3 :: some (.int z) :: t) st) : Vx p l e R s m args below meth c cells slots Q D A nL I pc (a0 :: a1 :: a2 :: a3 :: w :: t) ((.int z) :: st) := by
  subst e0
  intro h H locs ls hI hW hS hl
  obtain ⟨lv, h1, h2⟩ := lhas_set (i := 4) (v := (.int z)) hl hn rfl (fun w hne hw => by cases hw; exact ho)
  exact lv_istore C.1.1 C.1.2.1 d h1 hn rfl (fun ls' hl' => k h H locs ls' hI hW hS (h2 ls' hl'))
theorem V_istore5 {z : Int32} (C : Cx p m c cc nL s args Ts own D tys A ee) (d : decode cc pc = .ok (.istore 5, 2)) (e0 : pc + 2 = pc') (hn : 5 < nL) (ho : oc1 a4 = true) (k : Vx p l e R s m args below meth c cells slots Q D A nL I pc' (a0 :: a1 :: a2 :: a3 :: a4 :: some (.int z) :: t) st) : Vx p l e R s m args below meth c cells slots Q D A nL I pc (a0 :: a1 :: a2 :: a3 :: a4 :: w :: t) ((.int z) :: st) := by
  subst e0
  intro h H locs ls hI hW hS hl
  obtain ⟨lv, h1, h2⟩ := lhas_set (i := 5) (v := (.int z)) hl hn rfl (fun w hne hw => by cases hw; exact ho)
  exact lv_istore C.1.1 C.1.2.1 d h1 hn rfl (fun ls' hl' => k h H locs ls' hI hW hS (h2 ls' hl'))
theorem V_istore6 {z : Int32} (C : Cx p m c cc nL s args Ts own D tys A ee) (d : decode cc pc = .ok (.istore 6, 2)) (e0 : pc + 2 = pc') (hn : 6 < nL) (ho : oc1 a5 = true) (k : Vx p l e R s m args below meth c cells slots Q D A nL I pc' (a0 :: a1 :: a2 :: a3 :: a4 :: a5 :: some (.int z) :: t) st) : Vx p l e R s m args below meth c cells slots Q D A nL I pc (a0 :: a1 :: a2 :: a3 :: a4 :: a5 :: w :: t) ((.int z) :: st) := by
  subst e0
  intro h H locs ls hI hW hS hl
  obtain ⟨lv, h1, h2⟩ := lhas_set (i := 6) (v := (.int z)) hl hn rfl (fun w hne hw => by cases hw; exact ho)
  exact lv_istore C.1.1 C.1.2.1 d h1 hn rfl (fun ls' hl' => k h H locs ls' hI hW hS (h2 ls' hl'))
theorem V_istore7 {z : Int32} (C : Cx p m c cc nL s args Ts own D tys A ee) (d : decode cc pc = .ok (.istore 7, 2)) (e0 : pc + 2 = pc') (hn : 7 < nL) (ho : oc1 a6 = true) (k : Vx p l e R s m args below meth c cells slots Q D A nL I pc' (a0 :: a1 :: a2 :: a3 :: a4 :: a5 :: a6 :: some (.int z) :: t) st) : Vx p l e R s m args below meth c cells slots Q D A nL I pc (a0 :: a1 :: a2 :: a3 :: a4 :: a5 :: a6 :: w :: t) ((.int z) :: st) := by
  subst e0
  intro h H locs ls hI hW hS hl
  obtain ⟨lv, h1, h2⟩ := lhas_set (i := 7) (v := (.int z)) hl hn rfl (fun w hne hw => by cases hw; exact ho)
  exact lv_istore C.1.1 C.1.2.1 d h1 hn rfl (fun ls' hl' => k h H locs ls' hI hW hS (h2 ls' hl'))
theorem V_istore8 {z : Int32} (C : Cx p m c cc nL s args Ts own D tys A ee) (d : decode cc pc = .ok (.istore 8, 2)) (e0 : pc + 2 = pc') (hn : 8 < nL) (ho : oc1 a7 = true) (k : Vx p l e R s m args below meth c cells slots Q D A nL I pc' (a0 :: a1 :: a2 :: a3 :: a4 :: a5 :: a6 :: a7 :: some (.int z) :: t) st) : Vx p l e R s m args below meth c cells slots Q D A nL I pc (a0 :: a1 :: a2 :: a3 :: a4 :: a5 :: a6 :: a7 :: w :: t) ((.int z) :: st) := by
  subst e0
  intro h H locs ls hI hW hS hl
  obtain ⟨lv, h1, h2⟩ := lhas_set (i := 8) (v := (.int z)) hl hn rfl (fun w hne hw => by cases hw; exact ho)
  exact lv_istore C.1.1 C.1.2.1 d h1 hn rfl (fun ls' hl' => k h H locs ls' hI hW hS (h2 ls' hl'))
theorem V_istore9 {z : Int32} (C : Cx p m c cc nL s args Ts own D tys A ee) (d : decode cc pc = .ok (.istore 9, 2)) (e0 : pc + 2 = pc') (hn : 9 < nL) (ho : oc1 a8 = true) (k : Vx p l e R s m args below meth c cells slots Q D A nL I pc' (a0 :: a1 :: a2 :: a3 :: a4 :: a5 :: a6 :: a7 :: a8 :: some (.int z) :: t) st) : Vx p l e R s m args below meth c cells slots Q D A nL I pc (a0 :: a1 :: a2 :: a3 :: a4 :: a5 :: a6 :: a7 :: a8 :: w :: t) ((.int z) :: st) := by
  subst e0
  intro h H locs ls hI hW hS hl
  obtain ⟨lv, h1, h2⟩ := lhas_set (i := 9) (v := (.int z)) hl hn rfl (fun w hne hw => by cases hw; exact ho)
  exact lv_istore C.1.1 C.1.2.1 d h1 hn rfl (fun ls' hl' => k h H locs ls' hI hW hS (h2 ls' hl'))
theorem V_istore10 {z : Int32} (C : Cx p m c cc nL s args Ts own D tys A ee) (d : decode cc pc = .ok (.istore 10, 2)) (e0 : pc + 2 = pc') (hn : 10 < nL) (ho : oc1 a9 = true) (k : Vx p l e R s m args below meth c cells slots Q D A nL I pc' (a0 :: a1 :: a2 :: a3 :: a4 :: a5 :: a6 :: a7 :: a8 :: a9 :: some (.int z) :: t) st) : Vx p l e R s m args below meth c cells slots Q D A nL I pc (a0 :: a1 :: a2 :: a3 :: a4 :: a5 :: a6 :: a7 :: a8 :: a9 :: w :: t) ((.int z) :: st) := by
  subst e0
  intro h H locs ls hI hW hS hl
  obtain ⟨lv, h1, h2⟩ := lhas_set (i := 10) (v := (.int z)) hl hn rfl (fun w hne hw => by cases hw; exact ho)
  exact lv_istore C.1.1 C.1.2.1 d h1 hn rfl (fun ls' hl' => k h H locs ls' hI hW hS (h2 ls' hl'))
theorem V_astore0 {z : Nat} (C : Cx p m c cc nL s args Ts own D tys A ee) (d : decode cc pc = .ok (.astore_n 0, 1)) (e0 : pc + 1 = pc') (hn : 0 < nL) (k : Vx p l e R s m args below meth c cells slots Q D A nL I pc' (some (.ref z) :: t) st) : Vx p l e R s m args below meth c cells slots Q D A nL I pc (w :: t) ((.ref z) :: st) := by
  subst e0
  intro h H locs ls hI hW hS hl
  obtain ⟨lv, h1, h2⟩ := lhas_set (i := 0) (v := (.ref z)) hl hn rfl (fun w hne hw => absurd rfl hne)
  exact lv_astore_n C.1.1 C.1.2.1 d rfl h1 hn rfl (fun ls' hl' => k h H locs ls' hI hW hS (h2 ls' hl'))
theorem V_astore1 {z : Nat} (C : Cx p m c cc nL s args Ts own D tys A ee) (d : decode cc pc = .ok (.astore_n 1, 1)) (e0 : pc + 1 = pc') (hn : 1 < nL) (ho : oc1 a0 = true) (k : Vx p l e R s m args below meth c cells slots Q D A nL I pc' (a0 :: some (.ref z) :: t) st) : Vx p l e R s m args below meth c cells slots Q D A nL I pc (a0 :: w :: t) ((.ref z) :: st) := by
  subst e0
  intro h H locs ls hI hW hS hl
  obtain ⟨lv, h1, h2⟩ := lhas_set (i := 1) (v := (.ref z)) hl hn rfl (fun w hne hw => by cases hw; exact ho)
  exact lv_astore_n C.1.1 C.1.2.1 d rfl h1 hn rfl (fun ls' hl' => k h H locs ls' hI hW hS (h2 ls' hl'))
theorem V_astore2 {z : Nat} (C : Cx p m c cc nL s args Ts own D tys A ee) (d : decode cc pc = .ok (.astore_n 2, 1)) (e0 : pc + 1 = pc') (hn : 2 < nL) (ho : oc1 a1 = true) (k : Vx p l e R s m args below meth c cells slots Q D A nL I pc' (a0 :: a1 :: some (.ref z) :: t) st) : Vx p l e R s m args below meth c cells slots Q D A nL I pc (a0 :: a1 :: w :: t) ((.ref z) :: st) := by
  subst e0
  intro h H locs ls hI hW hS hl
  obtain ⟨lv, h1, h2⟩ := lhas_set (i := 2) (v := (.ref z)) hl hn rfl (fun w hne hw => by cases hw; exact ho)
  exact lv_astore_n C.1.1 C.1.2.1 d rfl h1 hn rfl (fun ls' hl' => k h H locs ls' hI hW hS (h2 ls' hl'))
theorem V_astore3 {z : Nat} (C : Cx p m c cc nL s args Ts own D tys A ee) (d : decode cc pc = .ok (.astore_n 3, 1)) (e0 : pc + 1 = pc') (hn : 3 < nL) (ho : oc1 a2 = true) (k : Vx p l e R s m args below meth c cells slots Q D A nL I pc' (a0 :: a1 :: a2 :: some (.ref z) :: t) st) : Vx p l e R s m args below meth c cells slots Q D A nL I pc (a0 :: a1 :: a2 :: w :: t) ((.ref z) :: st) := by
  subst e0
  intro h H locs ls hI hW hS hl
  obtain ⟨lv, h1, h2⟩ := lhas_set (i := 3) (v := (.ref z)) hl hn rfl (fun w hne hw => by cases hw; exact ho)
  exact lv_astore_n C.1.1 C.1.2.1 d rfl h1 hn rfl (fun ls' hl' => k h H locs ls' hI hW hS (h2 ls' hl'))
theorem V_astore4 {z : Nat} (C : Cx p m c cc nL s args Ts own D tys A ee) (d : decode cc pc = .ok (.astore 4, 2)) (e0 : pc + 2 = pc') (hn : 4 < nL) (ho : oc1 a3 = true) (k : Vx p l e R s m args below meth c cells slots Q D A nL I pc' (a0 :: a1 :: a2 :: a3 :: some (.ref z) :: t) st) : Vx p l e R s m args below meth c cells slots Q D A nL I pc (a0 :: a1 :: a2 :: a3 :: w :: t) ((.ref z) :: st) := by
  subst e0
  intro h H locs ls hI hW hS hl
  obtain ⟨lv, h1, h2⟩ := lhas_set (i := 4) (v := (.ref z)) hl hn rfl (fun w hne hw => by cases hw; exact ho)
  exact lv_astore C.1.1 C.1.2.1 d h1 hn rfl (fun ls' hl' => k h H locs ls' hI hW hS (h2 ls' hl'))
theorem V_astore5 {z : Nat} (C : Cx p m c cc nL s args Ts own D tys A ee) (d : decode cc pc = .ok (.astore 5, 2)) (e0 : pc + 2 = pc') (hn : 5 < nL) (ho : oc1 a4 = true) (k : Vx p l e R s m args below meth c cells slots Q D A nL I pc' (a0 :: a1 :: a2 :: a3 :: a4 :: some (.ref z) :: t) st) : Vx p l e R s m args below meth c cells slots Q D A nL I pc (a0 :: a1 :: a2 :: a3 :: a4 :: w :: t) ((.ref z) :: st) := by
  subst e0
  intro h H locs ls hI hW hS hl
  obtain ⟨lv, h1, h2⟩ := lhas_set (i := 5) (v := (.ref z)) hl hn rfl (fun w hne hw => by cases hw; exact ho)
  exact lv_astore C.1.1 C.1.2.1 d h1 hn rfl (fun ls' hl' => k h H locs ls' hI hW hS (h2 ls' hl'))
theorem V_astore6 {z : Nat} (C : Cx p m c cc nL s args Ts own D tys A ee) (d : decode cc pc = .ok (.astore 6, 2)) (e0 : pc + 2 = pc') (hn : 6 < nL) (ho : oc1 a5 = true) (k : Vx p l e R s m args below meth c cells slots Q D A nL I pc' (a0 :: a1 :: a2 :: a3 :: a4 :: a5 :: some (.ref z) :: t) st) : Vx p l e R s m args below meth c cells slots Q D A nL I pc (a0 :: a1 :: a2 :: a3 :: a4 :: a5 :: w :: t) ((.ref z) :: st) := by
  subst e0
  intro h H locs ls hI hW hS hl
  obtain ⟨lv, h1, h2⟩ := lhas_set (i := 6) (v := (.ref z)) hl hn rfl (fun w hne hw => by cases hw; exact ho)
  exact lv_astore C.1.1 C.1.2.1 d h1 hn rfl (fun ls' hl' => k h H locs ls' hI hW hS (h2 ls' hl'))
theorem V_astore7 {z : Nat} (C : Cx p m c cc nL s args Ts own D tys A ee) (d : decode cc pc = .ok (.astore 7, 2)) (e0 : pc + 2 = pc') (hn : 7 < nL) (ho : oc1 a6 = true) (k : Vx p l e R s m args below meth c cells slots Q D A nL I pc' (a0 :: a1 :: a2 :: a3 :: a4 :: a5 :: a6 :: some (.ref z) :: t) st) : Vx p l e R s m args below meth c cells slots Q D A nL I pc (a0 :: a1 :: a2 :: a3 :: a4 :: a5 :: a6 :: w :: t) ((.ref z) :: st) := by
  subst e0
  intro h H locs ls hI hW hS hl
  obtain ⟨lv, h1, h2⟩ := lhas_set (i := 7) (v := (.ref z)) hl hn rfl (fun w hne hw => by cases hw; exact ho)
  exact lv_astore C.1.1 C.1.2.1 d h1 hn rfl (fun ls' hl' => k h H locs ls' hI hW hS (h2 ls' hl'))
theorem V_astore8 {z : Nat} (C : Cx p m c cc nL s args Ts own D tys A ee) (d : decode cc pc = .ok (.astore 8, 2)) (e0 : pc + 2 = pc') (hn : 8 < nL) (ho : oc1 a7 = true) (k : Vx p l e R s m args below meth c cells slots Q D A nL I pc' (a0 :: a1 :: a2 :: a3 :: a4 :: a5 :: a6 :: a7 :: some (.ref z) :: t) st) : Vx p l e R s m args below meth c cells slots Q D A nL I pc (a0 :: a1 :: a2 :: a3 :: a4 :: a5 :: a6 :: a7 :: w :: t) ((.ref z) :: st) := by
  subst e0
  intro h H locs ls hI hW hS hl
  obtain ⟨lv, h1, h2⟩ := lhas_set (i := 8) (v := (.ref z)) hl hn rfl (fun w hne hw => by cases hw; exact ho)
  exact lv_astore C.1.1 C.1.2.1 d h1 hn rfl (fun ls' hl' => k h H locs ls' hI hW hS (h2 ls' hl'))
theorem V_astore9 {z : Nat} (C : Cx p m c cc nL s args Ts own D tys A ee) (d : decode cc pc = .ok (.astore 9, 2)) (e0 : pc + 2 = pc') (hn : 9 < nL) (ho : oc1 a8 = true) (k : Vx p l e R s m args below meth c cells slots Q D A nL I pc' (a0 :: a1 :: a2 :: a3 :: a4 :: a5 :: a6 :: a7 :: a8 :: some (.ref z) :: t) st) : Vx p l e R s m args below meth c cells slots Q D A nL I pc (a0 :: a1 :: a2 :: a3 :: a4 :: a5 :: a6 :: a7 :: a8 :: w :: t) ((.ref z) :: st) := by
  subst e0
  intro h H locs ls hI hW hS hl
  obtain ⟨lv, h1, h2⟩ := lhas_set (i := 9) (v := (.ref z)) hl hn rfl (fun w hne hw => by cases hw; exact ho)
  exact lv_astore C.1.1 C.1.2.1 d h1 hn rfl (fun ls' hl' => k h H locs ls' hI hW hS (h2 ls' hl'))
theorem V_astore10 {z : Nat} (C : Cx p m c cc nL s args Ts own D tys A ee) (d : decode cc pc = .ok (.astore 10, 2)) (e0 : pc + 2 = pc') (hn : 10 < nL) (ho : oc1 a9 = true) (k : Vx p l e R s m args below meth c cells slots Q D A nL I pc' (a0 :: a1 :: a2 :: a3 :: a4 :: a5 :: a6 :: a7 :: a8 :: a9 :: some (.ref z) :: t) st) : Vx p l e R s m args below meth c cells slots Q D A nL I pc (a0 :: a1 :: a2 :: a3 :: a4 :: a5 :: a6 :: a7 :: a8 :: a9 :: w :: t) ((.ref z) :: st) := by
  subst e0
  intro h H locs ls hI hW hS hl
  obtain ⟨lv, h1, h2⟩ := lhas_set (i := 10) (v := (.ref z)) hl hn rfl (fun w hne hw => by cases hw; exact ho)
  exact lv_astore C.1.1 C.1.2.1 d h1 hn rfl (fun ls' hl' => k h H locs ls' hI hW hS (h2 ls' hl'))
theorem V_astoreN0 (C : Cx p m c cc nL s args Ts own D tys A ee) (d : decode cc pc = .ok (.astore_n 0, 1)) (e0 : pc + 1 = pc') (hn : 0 < nL) (k : Vx p l e R s m args below meth c cells slots Q D A nL I pc' (some .null :: t) st) : Vx p l e R s m args below meth c cells slots Q D A nL I pc (w :: t) (.null :: st) := by
  subst e0
  intro h H locs ls hI hW hS hl
  obtain ⟨lv, h1, h2⟩ := lhas_set (i := 0) (v := .null) hl hn rfl (fun w hne hw => absurd rfl hne)
  exact lv_astore_nN C.1.1 C.1.2.1 d rfl h1 hn rfl (fun ls' hl' => k h H locs ls' hI hW hS (h2 ls' hl'))
theorem V_astoreN1 (C : Cx p m c cc nL s args Ts own D tys A ee) (d : decode cc pc = .ok (.astore_n 1, 1)) (e0 : pc + 1 = pc') (hn : 1 < nL) (ho : oc1 a0 = true) (k : Vx p l e R s m args below meth c cells slots Q D A nL I pc' (a0 :: some .null :: t) st) : Vx p l e R s m args below meth c cells slots Q D A nL I pc (a0 :: w :: t) (.null :: st) := by
  subst e0
  intro h H locs ls hI hW hS hl
  obtain ⟨lv, h1, h2⟩ := lhas_set (i := 1) (v := .null) hl hn rfl (fun w hne hw => by cases hw; exact ho)
  exact lv_astore_nN C.1.1 C.1.2.1 d rfl h1 hn rfl (fun ls' hl' => k h H locs ls' hI hW hS (h2 ls' hl'))
theorem V_astoreN2 (C : Cx p m c cc nL s args Ts own D tys A ee) (d : decode cc pc = .ok (.astore_n 2, 1)) (e0 : pc + 1 = pc') (hn : 2 < nL) (ho : oc1 a1 = true) (k : Vx p l e R s m args below meth c cells slots Q D A nL I pc' (a0 :: a1 :: some .null :: t) st) : Vx p l e R s m args below meth c cells slots Q D A nL I pc (a0 :: a1 :: w :: t) (.null :: st) := by
  subst e0
  intro h H locs ls hI hW hS hl
  obtain ⟨lv, h1, h2⟩ := lhas_set (i := 2) (v := .null) hl hn rfl (fun w hne hw => by cases hw; exact ho)
  exact lv_astore_nN C.1.1 C.1.2.1 d rfl h1 hn rfl (fun ls' hl' => k h H locs ls' hI hW hS (h2 ls' hl'))
theorem V_astoreN3 (C : Cx p m c cc nL s args Ts own D tys A ee) (d : decode cc pc = .ok (.astore_n 3, 1)) (e0 : pc + 1 = pc') (hn : 3 < nL) (ho : oc1 a2 = true) (k : Vx p l e R s m args below meth c cells slots Q D A nL I pc' (a0 :: a1 :: a2 :: some .null :: t) st) : Vx p l e R s m args below meth c cells slots Q D A nL I pc (a0 :: a1 :: a2 :: w :: t) (.null :: st) := by
  subst e0
  intro h H locs ls hI hW hS hl
  obtain ⟨lv, h1, h2⟩ := lhas_set (i := 3) (v := .null) hl hn rfl (fun w hne hw => by cases hw; exact ho)
  exact lv_astore_nN C.1.1 C.1.2.1 d rfl h1 hn rfl (fun ls' hl' => k h H locs ls' hI hW hS (h2 ls' hl'))
theorem V_astoreN4 (C : Cx p m c cc nL s args Ts own D tys A ee) (d : decode cc pc = .ok (.astore 4, 2)) (e0 : pc + 2 = pc') (hn : 4 < nL) (ho : oc1 a3 = true) (k : Vx p l e R s m args below meth c cells slots Q D A nL I pc' (a0 :: a1 :: a2 :: a3 :: some .null :: t) st) : Vx p l e R s m args below meth c cells slots Q D A nL I pc (a0 :: a1 :: a2 :: a3 :: w :: t) (.null :: st) := by
  subst e0
  intro h H locs ls hI hW hS hl
  obtain ⟨lv, h1, h2⟩ := lhas_set (i := 4) (v := .null) hl hn rfl (fun w hne hw => by cases hw; exact ho)
  exact lv_astoreN C.1.1 C.1.2.1 d h1 hn rfl (fun ls' hl' => k h H locs ls' hI hW hS (h2 ls' hl'))
theorem V_astoreN5 (C : Cx p m c cc nL s args Ts own D tys A ee) (d : decode cc pc = .ok (.astore 5, 2)) (e0 : pc + 2 = pc') (hn : 5 < nL) (ho : oc1 a4 = true) (k : Vx p l e R s m args below meth c cells slots Q D A nL I pc' (a0 :: a1 :: a2 :: a3 :: a4 :: some .null :: t) st) : Vx p l e R s m args below meth c cells slots Q D A nL I pc (a0 :: a1 :: a2 :: a3 :: a4 :: w :: t) (.null :: st) := by
  subst e0
  intro h H locs ls hI hW hS hl
  obtain ⟨lv, h1, h2⟩ := lhas_set (i := 5) (v := .null) hl hn rfl (fun w hne hw => by cases hw; exact ho)
  exact lv_astoreN C.1.1 C.1.2.1 d h1 hn rfl (fun ls' hl' => k h H locs ls' hI hW hS (h2 ls' hl'))
theorem V_astoreN6 (C : Cx p m c cc nL s args Ts own D tys A ee) (d : decode cc pc = .ok (.astore 6, 2)) (e0 : pc + 2 = pc') (hn : 6 < nL) (ho : oc1 a5 = true) (k : Vx p l e R s m args below meth c cells slots Q D A nL I pc' (a0 :: a1 :: a2 :: a3 :: a4 :: a5 :: some .null :: t) st) : Vx p l e R s m args below meth c cells slots Q D A nL I pc (a0 :: a1 :: a2 :: a3 :: a4 :: a5 :: w :: t) (.null :: st) := by
  subst e0
  intro h H locs ls hI hW hS hl
  obtain ⟨lv, h1, h2⟩ := lhas_set (i := 6) (v := .null) hl hn rfl (fun w hne hw => by cases hw; exact ho)
  exact lv_astoreN C.1.1 C.1.2.1 d h1 hn rfl (fun ls' hl' => k h H locs ls' hI hW hS (h2 ls' hl'))
theorem V_astoreN7 (C : Cx p m c cc nL s args Ts own D tys A ee) (d : decode cc pc = .ok (.astore 7, 2)) (e0 : pc + 2 = pc') (hn : 7 < nL) (ho : oc1 a6 = true) (k : Vx p l e R s m args below meth c cells slots Q D A nL I pc' (a0 :: a1 :: a2 :: a3 :: a4 :: a5 :: a6 :: some .null :: t) st) : Vx p l e R s m args below meth c cells slots Q D A nL I pc (a0 :: a1 :: a2 :: a3 :: a4 :: a5 :: a6 :: w :: t) (.null :: st) := by
  subst e0
  intro h H locs ls hI hW hS hl
  obtain ⟨lv, h1, h2⟩ := lhas_set (i := 7) (v := .null) hl hn rfl (fun w hne hw => by cases hw; exact ho)
  exact lv_astoreN C.1.1 C.1.2.1 d h1 hn rfl (fun ls' hl' => k h H locs ls' hI hW hS (h2 ls' hl'))
theorem V_astoreN8 (C : Cx p m c cc nL s args Ts own D tys A ee) (d : decode cc pc = .ok (.astore 8, 2)) (e0 : pc + 2 = pc') (hn : 8 < nL) (ho : oc1 a7 = true) (k : Vx p l e R s m args below meth c cells slots Q D A nL I pc' (a0 :: a1 :: a2 :: a3 :: a4 :: a5 :: a6 :: a7 :: some .null :: t) st) : Vx p l e R s m args below meth c cells slots Q D A nL I pc (a0 :: a1 :: a2 :: a3 :: a4 :: a5 :: a6 :: a7 :: w :: t) (.null :: st) := by
  subst e0
  intro h H locs ls hI hW hS hl
  obtain ⟨lv, h1, h2⟩ := lhas_set (i := 8) (v := .null) hl hn rfl (fun w hne hw => by cases hw; exact ho)
  exact lv_astoreN C.1.1 C.1.2.1 d h1 hn rfl (fun ls' hl' => k h H locs ls' hI hW hS (h2 ls' hl'))
theorem V_astoreN9 (C : Cx p m c cc nL s args Ts own D tys A ee) (d : decode cc pc = .ok (.astore 9, 2)) (e0 : pc + 2 = pc') (hn : 9 < nL) (ho : oc1 a8 = true) (k : Vx p l e R s m args below meth c cells slots Q D A nL I pc' (a0 :: a1 :: a2 :: a3 :: a4 :: a5 :: a6 :: a7 :: a8 :: some .null :: t) st) : Vx p l e R s m args below meth c cells slots Q D A nL I pc (a0 :: a1 :: a2 :: a3 :: a4 :: a5 :: a6 :: a7 :: a8 :: w :: t) (.null :: st) := by
  subst e0
  intro h H locs ls hI hW hS hl
  obtain ⟨lv, h1, h2⟩ := lhas_set (i := 9) (v := .null) hl hn rfl (fun w hne hw => by cases hw; exact ho)
  exact lv_astoreN C.1.1 C.1.2.1 d h1 hn rfl (fun ls' hl' => k h H locs ls' hI hW hS (h2 ls' hl'))
theorem V_astoreN10 (C : Cx p m c cc nL s args Ts own D tys A ee) (d : decode cc pc = .ok (.astore 10, 2)) (e0 : pc + 2 = pc') (hn : 10 < nL) (ho : oc1 a9 = true) (k : Vx p l e R s m args below meth c cells slots Q D A nL I pc' (a0 :: a1 :: a2 :: a3 :: a4 :: a5 :: a6 :: a7 :: a8 :: a9 :: some .null :: t) st) : Vx p l e R s m args below meth c cells slots Q D A nL I pc (a0 :: a1 :: a2 :: a3 :: a4 :: a5 :: a6 :: a7 :: a8 :: a9 :: w :: t) (.null :: st) := by
  subst e0
  intro h H locs ls hI hW hS hl
  obtain ⟨lv, h1, h2⟩ := lhas_set (i := 10) (v := .null) hl hn rfl (fun w hne hw => by cases hw; exact ho)
  exact lv_astoreN C.1.1 C.1.2.1 d h1 hn rfl (fun ls' hl' => k h H locs ls' hI hW hS (h2 ls' hl'))
theorem V_fstore0 {z : UInt32} (C : Cx p m c cc nL s args Ts own D tys A ee) (d : decode cc pc = .ok (.fstore_n 0, 1)) (e0 : pc + 1 = pc') (hn : 0 < nL) (k : Vx p l e R s m args below meth c cells slots Q D A nL I pc' (some (.float z) :: t) st) : Vx p l e R s m args below meth c cells slots Q D A nL I pc (w :: t) ((.float z) :: st) := by
  subst e0
  intro h H locs ls hI hW hS hl
  obtain ⟨lv, h1, h2⟩ := lhas_set (i := 0) (v := (.float z)) hl hn rfl (fun w hne hw => absurd rfl hne)
  exact lv_fstore_n C.1.1 C.1.2.1 d rfl h1 hn rfl (fun ls' hl' => k h H locs ls' hI hW hS (h2 ls' hl'))
theorem V_fstore1 {z : UInt32} (C : Cx p m c cc nL s args Ts own D tys A ee) (d : decode cc pc = .ok (.fstore_n 1, 1)) (e0 : pc + 1 = pc') (hn : 1 < nL) (ho : oc1 a0 = true) (k : Vx p l e R s m args below meth c cells slots Q D A nL I pc' (a0 :: some (.float z) :: t) st) : Vx p l e R s m args below meth c cells slots Q D A nL I pc (a0 :: w :: t) ((.float z) :: st) := by
  subst e0
  intro h H locs ls hI hW hS hl
  obtain ⟨lv, h1, h2⟩ := lhas_set (i := 1) (v := (.float z)) hl hn rfl (fun w hne hw => by cases hw; exact ho)
  exact lv_fstore_n C.1.1 C.1.2.1 d rfl h1 hn rfl (fun ls' hl' => k h H locs ls' hI hW hS (h2 ls' hl'))
theorem V_fstore2 {z : UInt32} (C : Cx p m c cc nL s args Ts own D tys A ee) (d : decode cc pc = .ok (.fstore_n 2, 1)) (e0 : pc + 1 = pc') (hn : 2 < nL) (ho : oc1 a1 = true) (k : Vx p l e R s m args below meth c cells slots Q D A nL I pc' (a0 :: a1 :: some (.float z) :: t) st) : Vx p l e R s m args below meth c cells slots Q D A nL I pc (a0 :: a1 :: w :: t) ((.float z) :: st) := by
  subst e0
  intro h H locs ls hI hW hS hl
  obtain ⟨lv, h1, h2⟩ := lhas_set (i := 2) (v := (.float z)) hl hn rfl (fun w hne hw => by cases hw; exact ho)
  exact lv_fstore_n C.1.1 C.1.2.1 d rfl h1 hn rfl (fun ls' hl' => k h H locs ls' hI hW hS (h2 ls' hl'))
theorem V_fstore3 {z : UInt32} (C : Cx p m c cc nL s args Ts own D tys A ee) (d : decode cc pc = .ok (.fstore_n 3, 1)) (e0 : pc + 1 = pc') (hn : 3 < nL) (ho : oc1 a2 = true) (k : Vx p l e R s m args below meth c cells slots Q D A nL I pc' (a0 :: a1 :: a2 :: some (.float z) :: t) st) : Vx p l e R s m args below meth c cells slots Q D A nL I pc (a0 :: a1 :: a2 :: w :: t) ((.float z) :: st) := by
  subst e0
  intro h H locs ls hI hW hS hl
  obtain ⟨lv, h1, h2⟩ := lhas_set (i := 3) (v := (.float z)) hl hn rfl (fun w hne hw => by cases hw; exact ho)
  exact lv_fstore_n C.1.1 C.1.2.1 d rfl h1 hn rfl (fun ls' hl' => k h H locs ls' hI hW hS (h2 ls' hl'))
theorem V_fstore4 {z : UInt32} (C : Cx p m c cc nL s args Ts own D tys A ee) (d : decode cc pc = .ok (.fstore 4, 2)) (e0 : pc + 2 = pc') (hn : 4 < nL) (ho : oc1 a3 = true) (k : Vx p l e R s m args below meth c cells slots Q D A nL I pc' (a0 :: a1 :: a2 :: a3 :: some (.float z) :: t) st) : Vx p l e R s m args below meth c cells slots Q D A nL I pc (a0 :: a1 :: a2 :: a3 :: w :: t) ((.float z) :: st) := by
  subst e0
  intro h H locs ls hI hW hS hl
  obtain ⟨lv, h1, h2⟩ := lhas_set (i := 4) (v := (.float z)) hl hn rfl (fun w hne hw => by cases hw; exact ho)
  exact lv_fstore C.1.1 C.1.2.1 d h1 hn rfl (fun ls' hl' => k h H locs ls' hI hW hS (h2 ls' hl'))
theorem V_fstore5 {z : UInt32} (C : Cx p m c cc nL s args Ts own D tys A ee) (d : decode cc pc = .ok (.fstore 5, 2)) (e0 : pc + 2 = pc') (hn : 5 < nL) (ho : oc1 a4 = true) (k : Vx p l e R s m args below meth c cells slots Q D A nL I pc' (a0 :: a1 :: a2 :: a3 :: a4 :: some (.float z) :: t) st) : Vx p l e R s m args below meth c cells slots Q D A nL I pc (a0 :: a1 :: a2 :: a3 :: a4 :: w :: t) ((.float z) :: st) := by
  subst e0
  intro h H locs ls hI hW hS hl
  obtain ⟨lv, h1, h2⟩ := lhas_set (i := 5) (v := (.float z)) hl hn rfl (fun w hne hw => by cases hw; exact ho)
  exact lv_fstore C.1.1 C.1.2.1 d h1 hn rfl (fun ls' hl' => k h H locs ls' hI hW hS (h2 ls' hl'))
theorem V_fstore6 {z : UInt32} (C : Cx p m c cc nL s args Ts own D tys A ee) (d : decode cc pc = .ok (.fstore 6, 2)) (e0 : pc + 2 = pc') (hn : 6 < nL) (ho : oc1 a5 = true) (k : Vx p l e R s m args below meth c cells slots Q D A nL I pc' (a0 :: a1 :: a2 :: a3 :: a4 :: a5 :: some (.float z) :: t) st) : Vx p l e R s m args below meth c cells slots Q D A nL I pc (a0 :: a1 :: a2 :: a3 :: a4 :: a5 :: w :: t) ((.float z) :: st) := by
  subst e0
  intro h H locs ls hI hW hS hl
  obtain ⟨lv, h1, h2⟩ := lhas_set (i := 6) (v := (.float z)) hl hn rfl (fun w hne hw => by cases hw; exact ho)
  exact lv_fstore C.1.1 C.1.2.1 d h1 hn rfl (fun ls' hl' => k h H locs ls' hI hW hS (h2 ls' hl'))
theorem V_fstore7 {z : UInt32} (C : Cx p m c cc nL s args Ts own D tys A ee) (d : decode cc pc = .ok (.fstore 7, 2)) (e0 : pc + 2 = pc') (hn : 7 < nL) (ho : oc1 a6 = true) (k : Vx p l e R s m args below meth c cells slots Q D A nL I pc' (a0 :: a1 :: a2 :: a3 :: a4 :: a5 :: a6 :: some (.float z) :: t) st) : Vx p l e R s m args below meth c cells slots Q D A nL I pc (a0 :: a1 :: a2 :: a3 :: a4 :: a5 :: a6 :: w :: t) ((.float z) :: st) := by
  subst e0
  intro h H locs ls hI hW hS hl
  obtain ⟨lv, h1, h2⟩ := lhas_set (i := 7) (v := (.float z)) hl hn rfl (fun w hne hw => by cases hw; exact ho)
  exact lv_fstore C.1.1 C.1.2.1 d h1 hn rfl (fun ls' hl' => k h H locs ls' hI hW hS (h2 ls' hl'))
theorem V_fstore8 {z : UInt32} (C : Cx p m c cc nL s args Ts own D tys A ee) (d : decode cc pc = .ok (.fstore 8, 2)) (e0 : pc + 2 = pc') (hn : 8 < nL) (ho : oc1 a7 = true) (k : Vx p l e R s m args below meth c cells slots Q D A nL I pc' (a0 :: a1 :: a2 :: a3 :: a4 :: a5 :: a6 :: a7 :: some (.float z) :: t) st) : Vx p l e R s m args below meth c cells slots Q D A nL I pc (a0 :: a1 :: a2 :: a3 :: a4 :: a5 :: a6 :: a7 :: w :: t) ((.float z) :: st) := by
  subst e0
  intro h H locs ls hI hW hS hl
  obtain ⟨lv, h1, h2⟩ := lhas_set (i := 8) (v := (.float z)) hl hn rfl (fun w hne hw => by cases hw; exact ho)
  exact lv_fstore C.1.1 C.1.2.1 d h1 hn rfl (fun ls' hl' => k h H locs ls' hI hW hS (h2 ls' hl'))
theorem V_fstore9 {z : UInt32} (C : Cx p m c cc nL s args Ts own D tys A ee) (d : decode cc pc = .ok (.fstore 9, 2)) (e0 : pc + 2 = pc') (hn : 9 < nL) (ho : oc1 a8 = true) (k : Vx p l e R s m args below meth c cells slots Q D A nL I pc' (a0 :: a1 :: a2 :: a3 :: a4 :: a5 :: a6 :: a7 :: a8 :: some (.float z) :: t) st) : Vx p l e R s m args below meth c cells slots Q D A nL I pc (a0 :: a1 :: a2 :: a3 :: a4 :: a5 :: a6 :: a7 :: a8 :: w :: t) ((.float z) :: st) := by
  subst e0
  intro h H locs ls hI hW hS hl
  obtain ⟨lv, h1, h2⟩ := lhas_set (i := 9) (v := (.float z)) hl hn rfl (fun w hne hw => by cases hw; exact ho)
  exact lv_fstore C.1.1 C.1.2.1 d h1 hn rfl (fun ls' hl' => k h H locs ls' hI hW hS (h2 ls' hl'))
theorem V_fstore10 {z : UInt32} (C : Cx p m c cc nL s args Ts own D tys A ee) (d : decode cc pc = .ok (.fstore 10, 2)) (e0 : pc + 2 = pc') (hn : 10 < nL) (ho : oc1 a9 = true) (k : Vx p l e R s m args below meth c cells slots Q D A nL I pc' (a0 :: a1 :: a2 :: a3 :: a4 :: a5 :: a6 :: a7 :: a8 :: a9 :: some (.float z) :: t) st) : Vx p l e R s m args below meth c cells slots Q D A nL I pc (a0 :: a1 :: a2 :: a3 :: a4 :: a5 :: a6 :: a7 :: a8 :: a9 :: w :: t) ((.float z) :: st) := by
  subst e0
  intro h H locs ls hI hW hS hl
  obtain ⟨lv, h1, h2⟩ := lhas_set (i := 10) (v := (.float z)) hl hn rfl (fun w hne hw => by cases hw; exact ho)
  exact lv_fstore C.1.1 C.1.2.1 d h1 hn rfl (fun ls' hl' => k h H locs ls' hI hW hS (h2 ls' hl'))
theorem V_iinc0 {z n : Int} (C : Cx p m c cc nL s args Ts own D tys A ee) (d : decode cc pc = .ok (.iinc 0 n, 3)) (e0 : pc + 3 = pc') (hn : 0 < nL) (k : Vx p l e R s m args below meth c cells slots Q D A nL I pc' (some (.int (iI (z + n))) :: t) st) : Vx p l e R s m args below meth c cells slots Q D A nL I pc (some (.int (iI z)) :: t) st := by
  subst e0
  intro h H locs ls hI hW hS hl
  obtain ⟨lv, h1, h2⟩ := lhas_set (i := 0) (v := .int (iI (z + n))) hl hn rfl (fun w hne hw => absurd rfl hne)
  obtain ⟨lv2, h3, h4⟩ := hl
  obtain ⟨j, hj⟩ := List.mem_iff_getElem?.mp (h4 0 (.int (iI z)) rfl)
  refine lv_iinc (v := iI (z + n)) C.1.1 C.1.2.1 d h3 hj (iI_add z n) hn rfl (fun ls' hl' => k h H locs ls' hI hW hS ?_)
  obtain ⟨lv5, h5, h6⟩ := lhas_set (i := 0) (v := .int (iI (z + n))) ⟨lv2, h3, h4⟩ hn rfl (fun w hne hw => absurd rfl hne)
  refine ⟨_, hl', fun i v hv => ?_⟩
  by_cases q : i = 0
  · subst q
    cases hv
    exact List.mem_cons_self
  · refine List.mem_cons_of_mem _ (List.mem_filter.mpr ⟨h4 i v ?_, ?_⟩)
    · match i, hv, q with
      | 0, hv, q => exact absurd rfl q
      | i + 1, hv, q => exact hv
    · have e1 : (i == 0) = false := by simpa using q
      simp only [e1, Bool.not_false, Bool.true_and, Bool.not_eq_true', Bool.and_eq_false_iff, beq_eq_false_iff_ne]
      by_cases z9 : i + 1 = 0
      · refine Or.inr ?_
        omega
      · exact Or.inl z9
theorem V_iinc1 {z n : Int} (C : Cx p m c cc nL s args Ts own D tys A ee) (d : decode cc pc = .ok (.iinc 1 n, 3)) (e0 : pc + 3 = pc') (hn : 1 < nL) (ho : oc1 a0 = true) (k : Vx p l e R s m args below meth c cells slots Q D A nL I pc' (a0 :: some (.int (iI (z + n))) :: t) st) : Vx p l e R s m args below meth c cells slots Q D A nL I pc (a0 :: some (.int (iI z)) :: t) st := by
  subst e0
  intro h H locs ls hI hW hS hl
  obtain ⟨lv, h1, h2⟩ := lhas_set (i := 1) (v := .int (iI (z + n))) hl hn rfl (fun w hne hw => by cases hw; exact ho)
  obtain ⟨lv2, h3, h4⟩ := hl
  obtain ⟨j, hj⟩ := List.mem_iff_getElem?.mp (h4 1 (.int (iI z)) rfl)
  refine lv_iinc (v := iI (z + n)) C.1.1 C.1.2.1 d h3 hj (iI_add z n) hn rfl (fun ls' hl' => k h H locs ls' hI hW hS ?_)
  obtain ⟨lv5, h5, h6⟩ := lhas_set (i := 1) (v := .int (iI (z + n))) ⟨lv2, h3, h4⟩ hn rfl (fun w hne hw => by cases hw; exact ho)
  refine ⟨_, hl', fun i v hv => ?_⟩
  by_cases q : i = 1
  · subst q
    cases hv
    exact List.mem_cons_self
  · refine List.mem_cons_of_mem _ (List.mem_filter.mpr ⟨h4 i v ?_, ?_⟩)
    · match i, hv, q with
      | 0, hv, q => exact hv
      | 1, hv, q => exact absurd rfl q
      | i + 2, hv, q => exact hv
    · have e1 : (i == 1) = false := by simpa using q
      simp only [e1, Bool.not_false, Bool.true_and, Bool.not_eq_true', Bool.and_eq_false_iff, beq_eq_false_iff_ne]
      by_cases z9 : i + 1 = 1
      · refine Or.inr ?_
        have e2 : i = 0 := by omega
        subst e2
        cases hv
        unfold oc1 at ho
        simp only [beq_iff_eq] at ho
        rw [ho]
        decide
      · exact Or.inl z9
theorem V_iinc2 {z n : Int} (C : Cx p m c cc nL s args Ts own D tys A ee) (d : decode cc pc = .ok (.iinc 2 n, 3)) (e0 : pc + 3 = pc') (hn : 2 < nL) (ho : oc1 a1 = true) (k : Vx p l e R s m args below meth c cells slots Q D A nL I pc' (a0 :: a1 :: some (.int (iI (z + n))) :: t) st) : Vx p l e R s m args below meth c cells slots Q D A nL I pc (a0 :: a1 :: some (.int (iI z)) :: t) st := by
  subst e0
  intro h H locs ls hI hW hS hl
  obtain ⟨lv, h1, h2⟩ := lhas_set (i := 2) (v := .int (iI (z + n))) hl hn rfl (fun w hne hw => by cases hw; exact ho)
  obtain ⟨lv2, h3, h4⟩ := hl
  obtain ⟨j, hj⟩ := List.mem_iff_getElem?.mp (h4 2 (.int (iI z)) rfl)
  refine lv_iinc (v := iI (z + n)) C.1.1 C.1.2.1 d h3 hj (iI_add z n) hn rfl (fun ls' hl' => k h H locs ls' hI hW hS ?_)
  obtain ⟨lv5, h5, h6⟩ := lhas_set (i := 2) (v := .int (iI (z + n))) ⟨lv2, h3, h4⟩ hn rfl (fun w hne hw => by cases hw; exact ho)
  refine ⟨_, hl', fun i v hv => ?_⟩
  by_cases q : i = 2
  · subst q
    cases hv
    exact List.mem_cons_self
  · refine List.mem_cons_of_mem _ (List.mem_filter.mpr ⟨h4 i v ?_, ?_⟩)
    · match i, hv, q with
      | 0, hv, q => exact hv
      | 1, hv, q => exact hv
      | 2, hv, q => exact absurd rfl q
      | i + 3, hv, q => exact hv
    · have e1 : (i == 2) = false := by simpa using q
      simp only [e1, Bool.not_false, Bool.true_and, Bool.not_eq_true', Bool.and_eq_false_iff, beq_eq_false_iff_ne]
      by_cases z9 : i + 1 = 2
      · refine Or.inr ?_
        have e2 : i = 1 := by omega
        subst e2
        cases hv
        unfold oc1 at ho
        simp only [beq_iff_eq] at ho
        rw [ho]
        decide
      · exact Or.inl z9
theorem V_iinc3 {z n : Int} (C : Cx p m c cc nL s args Ts own D tys A ee) (d : decode cc pc = .ok (.iinc 3 n, 3)) (e0 : pc + 3 = pc') (hn : 3 < nL) (ho : oc1 a2 = true) (k : Vx p l e R s m args below meth c cells slots Q D A nL I pc' (a0 :: a1 :: a2 :: some (.int (iI (z + n))) :: t) st) : Vx p l e R s m args below meth c cells slots Q D A nL I pc (a0 :: a1 :: a2 :: some (.int (iI z)) :: t) st := by
  subst e0
  intro h H locs ls hI hW hS hl
  obtain ⟨lv, h1, h2⟩ := lhas_set (i := 3) (v := .int (iI (z + n))) hl hn rfl (fun w hne hw => by cases hw; exact ho)
  obtain ⟨lv2, h3, h4⟩ := hl
  obtain ⟨j, hj⟩ := List.mem_iff_getElem?.mp (h4 3 (.int (iI z)) rfl)
  refine lv_iinc (v := iI (z + n)) C.1.1 C.1.2.1 d h3 hj (iI_add z n) hn rfl (fun ls' hl' => k h H locs ls' hI hW hS ?_)
  obtain ⟨lv5, h5, h6⟩ := lhas_set (i := 3) (v := .int (iI (z + n))) ⟨lv2, h3, h4⟩ hn rfl (fun w hne hw => by cases hw; exact ho)
  refine ⟨_, hl', fun i v hv => ?_⟩
  by_cases q : i = 3
  · subst q
    cases hv
    exact List.mem_cons_self
  · refine List.mem_cons_of_mem _ (List.mem_filter.mpr ⟨h4 i v ?_, ?_⟩)
    · match i, hv, q with
      | 0, hv, q => exact hv
      | 1, hv, q => exact hv
      | 2, hv, q => exact hv
      | 3, hv, q => exact absurd rfl q
      | i + 4, hv, q => exact hv
    · have e1 : (i == 3) = false := by simpa using q
      simp only [e1, Bool.not_false, Bool.true_and, Bool.not_eq_true', Bool.and_eq_false_iff, beq_eq_false_iff_ne]
      by_cases z9 : i + 1 = 3
      · refine Or.inr ?_
        have e2 : i = 2 := by omega
        subst e2
        cases hv
        unfold oc1 at ho
        simp only [beq_iff_eq] at ho
        rw [ho]
        decide
      · exact Or.inl z9
theorem V_iinc4 {z n : Int} (C : Cx p m c cc nL s args Ts own D tys A ee) (d : decode cc pc = .ok (.iinc 4 n, 3)) (e0 : pc + 3 = pc') (hn : 4 < nL) (ho : oc1 a3 = true) (k : Vx p l e R s m args below meth c cells slots Q D A nL I pc' (a0 :: a1 :: a2 :: a3 :: some (.int (iI (z + n))) :: t) st) : Vx p l e R s m args below meth c cells slots Q D A nL I pc (a0 :: a1 :: a2 :: a3 :: some (.int (iI z)) :: t) st := by
  subst e0
  intro h H locs ls hI hW hS hl
  obtain ⟨lv, h1, h2⟩ := lhas_set (i := 4) (v := .int (iI (z + n))) hl hn rfl (fun w hne hw => by cases hw; exact ho)
  obtain ⟨lv2, h3, h4⟩ := hl
  obtain ⟨j, hj⟩ := List.mem_iff_getElem?.mp (h4 4 (.int (iI z)) rfl)
  refine lv_iinc (v := iI (z + n)) C.1.1 C.1.2.1 d h3 hj (iI_add z n) hn rfl (fun ls' hl' => k h H locs ls' hI hW hS ?_)
  obtain ⟨lv5, h5, h6⟩ := lhas_set (i := 4) (v := .int (iI (z + n))) ⟨lv2, h3, h4⟩ hn rfl (fun w hne hw => by cases hw; exact ho)
  refine ⟨_, hl', fun i v hv => ?_⟩
  by_cases q : i = 4
  · subst q
    cases hv
    exact List.mem_cons_self
  · refine List.mem_cons_of_mem _ (List.mem_filter.mpr ⟨h4 i v ?_, ?_⟩)
    · match i, hv, q with
      | 0, hv, q => exact hv
      | 1, hv, q => exact hv
      | 2, hv, q => exact hv
      | 3, hv, q => exact hv
      | 4, hv, q => exact absurd rfl q
      | i + 5, hv, q => exact hv
    · have e1 : (i == 4) = false := by simpa using q
      simp only [e1, Bool.not_false, Bool.true_and, Bool.not_eq_true', Bool.and_eq_false_iff, beq_eq_false_iff_ne]
      by_cases z9 : i + 1 = 4
      · refine Or.inr ?_
        have e2 : i = 3 := by omega
        subst e2
        cases hv
        unfold oc1 at ho
        simp only [beq_iff_eq] at ho
        rw [ho]
        decide
      · exact Or.inl z9
theorem V_iinc5 {z n : Int} (C : Cx p m c cc nL s args Ts own D tys A ee) (d : decode cc pc = .ok (.iinc 5 n, 3)) (e0 : pc + 3 = pc') (hn : 5 < nL) (ho : oc1 a4 = true) (k : Vx p l e R s m args below meth c cells slots Q D A nL I pc' (a0 :: a1 :: a2 :: a3 :: a4 :: some (.int (iI (z + n))) :: t) st) : Vx p l e R s m args below meth c cells slots Q D A nL I pc (a0 :: a1 :: a2 :: a3 :: a4 :: some (.int (iI z)) :: t) st := by
  subst e0
  intro h H locs ls hI hW hS hl
  obtain ⟨lv, h1, h2⟩ := lhas_set (i := 5) (v := .int (iI (z + n))) hl hn rfl (fun w hne hw => by cases hw; exact ho)
  obtain ⟨lv2, h3, h4⟩ := hl
  obtain ⟨j, hj⟩ := List.mem_iff_getElem?.mp (h4 5 (.int (iI z)) rfl)
  refine lv_iinc (v := iI (z + n)) C.1.1 C.1.2.1 d h3 hj (iI_add z n) hn rfl (fun ls' hl' => k h H locs ls' hI hW hS ?_)
  obtain ⟨lv5, h5, h6⟩ := lhas_set (i := 5) (v := .int (iI (z + n))) ⟨lv2, h3, h4⟩ hn rfl (fun w hne hw => by cases hw; exact ho)
  refine ⟨_, hl', fun i v hv => ?_⟩
  by_cases q : i = 5
  · subst q
    cases hv
    exact List.mem_cons_self
  · refine List.mem_cons_of_mem _ (List.mem_filter.mpr ⟨h4 i v ?_, ?_⟩)
    · match i, hv, q with
      | 0, hv, q => exact hv
      | 1, hv, q => exact hv
      | 2, hv, q => exact hv
      | 3, hv, q => exact hv
      | 4, hv, q => exact hv
      | 5, hv, q => exact absurd rfl q
      | i + 6, hv, q => exact hv
    · have e1 : (i == 5) = false := by simpa using q
      simp only [e1, Bool.not_false, Bool.true_and, Bool.not_eq_true', Bool.and_eq_false_iff, beq_eq_false_iff_ne]
      by_cases z9 : i + 1 = 5
      · refine Or.inr ?_
        have e2 : i = 4 := by omega
        subst e2
        cases hv
        unfold oc1 at ho
        simp only [beq_iff_eq] at ho
        rw [ho]
        decide
      · exact Or.inl z9
theorem V_iinc6 {z n : Int} (C : Cx p m c cc nL s args Ts own D tys A ee) (d : decode cc pc = .ok (.iinc 6 n, 3)) (e0 : pc + 3 = pc') (hn : 6 < nL) (ho : oc1 a5 = true) (k : Vx p l e R s m args below meth c cells slots Q D A nL I pc' (a0 :: a1 :: a2 :: a3 :: a4 :: a5 :: some (.int (iI (z + n))) :: t) st) : Vx p l e R s m args below meth c cells slots Q D A nL I pc (a0 :: a1 :: a2 :: a3 :: a4 :: a5 :: some (.int (iI z)) :: t) st := by
  subst e0
  intro h H locs ls hI hW hS hl
  obtain ⟨lv, h1, h2⟩ := lhas_set (i := 6) (v := .int (iI (z + n))) hl hn rfl (fun w hne hw => by cases hw; exact ho)
  obtain ⟨lv2, h3, h4⟩ := hl
  obtain ⟨j, hj⟩ := List.mem_iff_getElem?.mp (h4 6 (.int (iI z)) rfl)
  refine lv_iinc (v := iI (z + n)) C.1.1 C.1.2.1 d h3 hj (iI_add z n) hn rfl (fun ls' hl' => k h H locs ls' hI hW hS ?_)
  obtain ⟨lv5, h5, h6⟩ := lhas_set (i := 6) (v := .int (iI (z + n))) ⟨lv2, h3, h4⟩ hn rfl (fun w hne hw => by cases hw; exact ho)
  refine ⟨_, hl', fun i v hv => ?_⟩
  by_cases q : i = 6
  · subst q
    cases hv
    exact List.mem_cons_self
  · refine List.mem_cons_of_mem _ (List.mem_filter.mpr ⟨h4 i v ?_, ?_⟩)
    · match i, hv, q with
      | 0, hv, q => exact hv
      | 1, hv, q => exact hv
      | 2, hv, q => exact hv
      | 3, hv, q => exact hv
      | 4, hv, q => exact hv
      | 5, hv, q => exact hv
      | 6, hv, q => exact absurd rfl q
      | i + 7, hv, q => exact hv
    · have e1 : (i == 6) = false := by simpa using q
      simp only [e1, Bool.not_false, Bool.true_and, Bool.not_eq_true', Bool.and_eq_false_iff, beq_eq_false_iff_ne]
      by_cases z9 : i + 1 = 6
      · refine Or.inr ?_
        have e2 : i = 5 := by omega
        subst e2
        cases hv
        unfold oc1 at ho
        simp only [beq_iff_eq] at ho
        rw [ho]
        decide
      · exact Or.inl z9
theorem V_iinc7 {z n : Int} (C : Cx p m c cc nL s args Ts own D tys A ee) (d : decode cc pc = .ok (.iinc 7 n, 3)) (e0 : pc + 3 = pc') (hn : 7 < nL) (ho : oc1 a6 = true) (k : Vx p l e R s m args below meth c cells slots Q D A nL I pc' (a0 :: a1 :: a2 :: a3 :: a4 :: a5 :: a6 :: some (.int (iI (z + n))) :: t) st) : Vx p l e R s m args below meth c cells slots Q D A nL I pc (a0 :: a1 :: a2 :: a3 :: a4 :: a5 :: a6 :: some (.int (iI z)) :: t) st := by
  subst e0
  intro h H locs ls hI hW hS hl
  obtain ⟨lv, h1, h2⟩ := lhas_set (i := 7) (v := .int (iI (z + n))) hl hn rfl (fun w hne hw => by cases hw; exact ho)
  obtain ⟨lv2, h3, h4⟩ := hl
  obtain ⟨j, hj⟩ := List.mem_iff_getElem?.mp (h4 7 (.int (iI z)) rfl)
  refine lv_iinc (v := iI (z + n)) C.1.1 C.1.2.1 d h3 hj (iI_add z n) hn rfl (fun ls' hl' => k h H locs ls' hI hW hS ?_)
  obtain ⟨lv5, h5, h6⟩ := lhas_set (i := 7) (v := .int (iI (z + n))) ⟨lv2, h3, h4⟩ hn rfl (fun w hne hw => by cases hw; exact ho)
  refine ⟨_, hl', fun i v hv => ?_⟩
  by_cases q : i = 7
  · subst q
    cases hv
    exact List.mem_cons_self
  · refine List.mem_cons_of_mem _ (List.mem_filter.mpr ⟨h4 i v ?_, ?_⟩)
    · match i, hv, q with
      | 0, hv, q => exact hv
      | 1, hv, q => exact hv
      | 2, hv, q => exact hv
      | 3, hv, q => exact hv
      | 4, hv, q => exact hv
      | 5, hv, q => exact hv
      | 6, hv, q => exact hv
      | 7, hv, q => exact absurd rfl q
      | i + 8, hv, q => exact hv
    · have e1 : (i == 7) = false := by simpa using q
      simp only [e1, Bool.not_false, Bool.true_and, Bool.not_eq_true', Bool.and_eq_false_iff, beq_eq_false_iff_ne]
      by_cases z9 : i + 1 = 7
      · refine Or.inr ?_
        have e2 : i = 6 := by omega
        subst e2
        cases hv
        unfold oc1 at ho
        simp only [beq_iff_eq] at ho
        rw [ho]
        decide
      · exact Or.inl z9
theorem V_iinc8 {z n : Int} (C : Cx p m c cc nL s args Ts own D tys A ee) (d : decode cc pc = .ok (.iinc 8 n, 3)) (e0 : pc + 3 = pc') (hn : 8 < nL) (ho : oc1 a7 = true) (k : Vx p l e R s m args below meth c cells slots Q D A nL I pc' (a0 :: a1 :: a2 :: a3 :: a4 :: a5 :: a6 :: a7 :: some (.int (iI (z + n))) :: t) st) : Vx p l e R s m args below meth c cells slots Q D A nL I pc (a0 :: a1 :: a2 :: a3 :: a4 :: a5 :: a6 :: a7 :: some (.int (iI z)) :: t) st := by
  subst e0
  intro h H locs ls hI hW hS hl
  obtain ⟨lv, h1, h2⟩ := lhas_set (i := 8) (v := .int (iI (z + n))) hl hn rfl (fun w hne hw => by cases hw; exact ho)
  obtain ⟨lv2, h3, h4⟩ := hl
  obtain ⟨j, hj⟩ := List.mem_iff_getElem?.mp (h4 8 (.int (iI z)) rfl)
  refine lv_iinc (v := iI (z + n)) C.1.1 C.1.2.1 d h3 hj (iI_add z n) hn rfl (fun ls' hl' => k h H locs ls' hI hW hS ?_)
  obtain ⟨lv5, h5, h6⟩ := lhas_set (i := 8) (v := .int (iI (z + n))) ⟨lv2, h3, h4⟩ hn rfl (fun w hne hw => by cases hw; exact ho)
  refine ⟨_, hl', fun i v hv => ?_⟩
  by_cases q : i = 8
  · subst q
    cases hv
    exact List.mem_cons_self
  · refine List.mem_cons_of_mem _ (List.mem_filter.mpr ⟨h4 i v ?_, ?_⟩)
    · match i, hv, q with
      | 0, hv, q => exact hv
      | 1, hv, q => exact hv
      | 2, hv, q => exact hv
      | 3, hv, q => exact hv
      | 4, hv, q => exact hv
      | 5, hv, q => exact hv
      | 6, hv, q => exact hv
      | 7, hv, q => exact hv
      | 8, hv, q => exact absurd rfl q
      | i + 9, hv, q => exact hv
    · have e1 : (i == 8) = false := by simpa using q
      simp only [e1, Bool.not_false, Bool.true_and, Bool.not_eq_true', Bool.and_eq_false_iff, beq_eq_false_iff_ne]
      by_cases z9 : i + 1 = 8
      · refine Or.inr ?_
        have e2 : i = 7 := by omega
        subst e2
        cases hv
        unfold oc1 at ho
        simp only [beq_iff_eq] at ho
        rw [ho]
        decide
      · exact Or.inl z9
theorem V_iinc9 {z n : Int} (C : Cx p m c cc nL s args Ts own D tys A ee) (d : decode cc pc = .ok (.iinc 9 n, 3)) (e0 : pc + 3 = pc') (hn : 9 < nL) (ho : oc1 a8 = true) (k : Vx p l e R s m args below meth c cells slots Q D A nL I pc' (a0 :: a1 :: a2 :: a3 :: a4 :: a5 :: a6 :: a7 :: a8 :: some (.int (iI (z + n))) :: t) st) : Vx p l e R s m args below meth c cells slots Q D A nL I pc (a0 :: a1 :: a2 :: a3 :: a4 :: a5 :: a6 :: a7 :: a8 :: some (.int (iI z)) :: t) st := by
  subst e0
  intro h H locs ls hI hW hS hl
  obtain ⟨lv, h1, h2⟩ := lhas_set (i := 9) (v := .int (iI (z + n))) hl hn rfl (fun w hne hw => by cases hw; exact ho)
  obtain ⟨lv2, h3, h4⟩ := hl
  obtain ⟨j, hj⟩ := List.mem_iff_getElem?.mp (h4 9 (.int (iI z)) rfl)
  refine lv_iinc (v := iI (z + n)) C.1.1 C.1.2.1 d h3 hj (iI_add z n) hn rfl (fun ls' hl' => k h H locs ls' hI hW hS ?_)
  obtain ⟨lv5, h5, h6⟩ := lhas_set (i := 9) (v := .int (iI (z + n))) ⟨lv2, h3, h4⟩ hn rfl (fun w hne hw => by cases hw; exact ho)
  refine ⟨_, hl', fun i v hv => ?_⟩
  by_cases q : i = 9
  · subst q
    cases hv
    exact List.mem_cons_self
  · refine List.mem_cons_of_mem _ (List.mem_filter.mpr ⟨h4 i v ?_, ?_⟩)
    · match i, hv, q with
      | 0, hv, q => exact hv
      | 1, hv, q => exact hv
      | 2, hv, q => exact hv
      | 3, hv, q => exact hv
      | 4, hv, q => exact hv
      | 5, hv, q => exact hv
      | 6, hv, q => exact hv
      | 7, hv, q => exact hv
      | 8, hv, q => exact hv
      | 9, hv, q => exact absurd rfl q
      | i + 10, hv, q => exact hv
    · have e1 : (i == 9) = false := by simpa using q
      simp only [e1, Bool.not_false, Bool.true_and, Bool.not_eq_true', Bool.and_eq_false_iff, beq_eq_false_iff_ne]
      by_cases z9 : i + 1 = 9
      · refine Or.inr ?_
        have e2 : i = 8 := by omega
        subst e2
        cases hv
        unfold oc1 at ho
        simp only [beq_iff_eq] at ho
        rw [ho]
        decide
      · exact Or.inl z9
theorem V_iinc10 {z n : Int} (C : Cx p m c cc nL s args Ts own D tys A ee) (d : decode cc pc = .ok (.iinc 10 n, 3)) (e0 : pc + 3 = pc') (hn : 10 < nL) (ho : oc1 a9 = true) (k : Vx p l e R s m args below meth c cells slots Q D A nL I pc' (a0 :: a1 :: a2 :: a3 :: a4 :: a5 :: a6 :: a7 :: a8 :: a9 :: some (.int (iI (z + n))) :: t) st) : Vx p l e R s m args below meth c cells slots Q D A nL I pc (a0 :: a1 :: a2 :: a3 :: a4 :: a5 :: a6 :: a7 :: a8 :: a9 :: some (.int (iI z)) :: t) st := by
  subst e0
  intro h H locs ls hI hW hS hl
  obtain ⟨lv, h1, h2⟩ := lhas_set (i := 10) (v := .int (iI (z + n))) hl hn rfl (fun w hne hw => by cases hw; exact ho)
  obtain ⟨lv2, h3, h4⟩ := hl
  obtain ⟨j, hj⟩ := List.mem_iff_getElem?.mp (h4 10 (.int (iI z)) rfl)
  refine lv_iinc (v := iI (z + n)) C.1.1 C.1.2.1 d h3 hj (iI_add z n) hn rfl (fun ls' hl' => k h H locs ls' hI hW hS ?_)
  obtain ⟨lv5, h5, h6⟩ := lhas_set (i := 10) (v := .int (iI (z + n))) ⟨lv2, h3, h4⟩ hn rfl (fun w hne hw => by cases hw; exact ho)
  refine ⟨_, hl', fun i v hv => ?_⟩
  by_cases q : i = 10
  · subst q
    cases hv
    exact List.mem_cons_self
  · refine List.mem_cons_of_mem _ (List.mem_filter.mpr ⟨h4 i v ?_, ?_⟩)
    · match i, hv, q with
      | 0, hv, q => exact hv
      | 1, hv, q => exact hv
      | 2, hv, q => exact hv
      | 3, hv, q => exact hv
      | 4, hv, q => exact hv
      | 5, hv, q => exact hv
      | 6, hv, q => exact hv
      | 7, hv, q => exact hv
      | 8, hv, q => exact hv
      | 9, hv, q => exact hv
      | 10, hv, q => exact absurd rfl q
      | i + 11, hv, q => exact hv
    · have e1 : (i == 10) = false := by simpa using q
      simp only [e1, Bool.not_false, Bool.true_and, Bool.not_eq_true', Bool.and_eq_false_iff, beq_eq_false_iff_ne]
      by_cases z9 : i + 1 = 10
      · refine Or.inr ?_
        have e2 : i = 9 := by omega
        subst e2
        cases hv
        unfold oc1 at ho
        simp only [beq_iff_eq] at ho
        rw [ho]
        decide
      · exact Or.inl z9
theorem V_iconst {n : Int} (C : Cx p m c cc nL s args Ts own D tys A ee) (d : decode cc pc = .ok (.iconst n, 1)) (e0 : pc + 1 = pc') (k : Vx p l e R s m args below meth c cells slots Q D A nL I pc' L (.int (iI n) :: st)) : Vx p l e R s m args below meth c cells slots Q D A nL I pc L st := by
  subst e0
  exact V_of (fun H locs ls hl kk => lv_iconst C.1.1 C.1.2.1 d rfl kk) k
theorem V_bipush {n : Int} (C : Cx p m c cc nL s args Ts own D tys A ee) (d : decode cc pc = .ok (.bipush n, 2)) (e0 : pc + 2 = pc') (hv : (Int8.ofInt n).toInt32 = iI n) (k : Vx p l e R s m args below meth c cells slots Q D A nL I pc' L (.int (iI n) :: st)) : Vx p l e R s m args below meth c cells slots Q D A nL I pc L st := by
  subst e0
  exact V_of (fun H locs ls hl kk => lv_bipush C.1.1 C.1.2.1 d hv kk) k
theorem V_sipush {n : Int} (C : Cx p m c cc nL s args Ts own D tys A ee) (d : decode cc pc = .ok (.sipush n, 3)) (e0 : pc + 3 = pc') (hv : (Int16.ofInt n).toInt32 = iI n) (k : Vx p l e R s m args below meth c cells slots Q D A nL I pc' L (.int (iI n) :: st)) : Vx p l e R s m args below meth c cells slots Q D A nL I pc L st := by
  subst e0
  exact V_of (fun H locs ls hl kk => lv_sipush C.1.1 C.1.2.1 d hv kk) k
theorem V_ldc {n : Int} {v : Int32} {index : Nat} (C : Cx p m c cc nL s args Ts own D tys A ee) (hw : Cond.constant own index v ∈ Ts) (d : decode cc pc = .ok (.ldc index, 2)) (e0 : pc + 2 = pc') (hv : v = iI n) (k : Vx p l e R s m args below meth c cells slots Q D A nL I pc' L (.int (iI n) :: st)) : Vx p l e R s m args below meth c cells slots Q D A nL I pc L st := by
  subst e0
  subst hv
  exact V_of (fun H locs ls hl kk => lv_ldc C.1.1 C.1.2.1 C.1.2.2.2.1 (C.1.2.2.2.2 _ hw) d kk) k
theorem V_null (C : Cx p m c cc nL s args Ts own D tys A ee) (d : decode cc pc = .ok (.aconst_null, 1)) (e0 : pc + 1 = pc') (k : Vx p l e R s m args below meth c cells slots Q D A nL I pc' L (.null :: st)) : Vx p l e R s m args below meth c cells slots Q D A nL I pc L st := by
  subst e0
  exact V_of (fun H locs ls hl kk => lv_null C.1.1 C.1.2.1 d kk) k
theorem V_iadd {x y : Int} (C : Cx p m c cc nL s args Ts own D tys A ee) (d : decode cc pc = .ok (.iadd, 1)) (e0 : pc + 1 = pc') (k : Vx p l e R s m args below meth c cells slots Q D A nL I pc' L (.int (iI (x + y)) :: st)) : Vx p l e R s m args below meth c cells slots Q D A nL I pc L (.int (iI y) :: .int (iI x) :: st) := by
  subst e0
  exact V_of (fun H locs ls hl kk => lv_iadd C.1.1 C.1.2.1 d (by rw [iI_add]; exact kk)) k
theorem V_isub {x y : Int} (C : Cx p m c cc nL s args Ts own D tys A ee) (d : decode cc pc = .ok (.isub, 1)) (e0 : pc + 1 = pc') (k : Vx p l e R s m args below meth c cells slots Q D A nL I pc' L (.int (iI (x - y)) :: st)) : Vx p l e R s m args below meth c cells slots Q D A nL I pc L (.int (iI y) :: .int (iI x) :: st) := by
  subst e0
  exact V_of (fun H locs ls hl kk => lv_isub C.1.1 C.1.2.1 d (by rw [iI_sub]; exact kk)) k
theorem V_imul {x y : Int} (C : Cx p m c cc nL s args Ts own D tys A ee) (d : decode cc pc = .ok (.imul, 1)) (e0 : pc + 1 = pc') (k : Vx p l e R s m args below meth c cells slots Q D A nL I pc' L (.int (iI (x * y)) :: st)) : Vx p l e R s m args below meth c cells slots Q D A nL I pc L (.int (iI y) :: .int (iI x) :: st) := by
  subst e0
  exact V_of (fun H locs ls hl kk => lv_imul C.1.1 C.1.2.1 d (by rw [iI_mul]; exact kk)) k
theorem V_ineg {x : Int} (C : Cx p m c cc nL s args Ts own D tys A ee) (d : decode cc pc = .ok (.ineg, 1)) (e0 : pc + 1 = pc') (k : Vx p l e R s m args below meth c cells slots Q D A nL I pc' L (.int (iI (-x)) :: st)) : Vx p l e R s m args below meth c cells slots Q D A nL I pc L (.int (iI x) :: st) := by
  subst e0
  exact V_of (fun H locs ls hl kk => lv_ineg C.1.1 C.1.2.1 d (by rw [iI_neg]; exact kk)) k
theorem V_idiv {x y : Int} (C : Cx p m c cc nL s args Ts own D tys A ee) (hr : 0 ≤ x ∧ x ≤ 2147483647 ∧ 0 < y ∧ y ≤ 2147483647) (d : decode cc pc = .ok (.idiv, 1)) (e0 : pc + 1 = pc') (k : Vx p l e R s m args below meth c cells slots Q D A nL I pc' L (.int (iI (x / y)) :: st)) : Vx p l e R s m args below meth c cells slots Q D A nL I pc L (.int (iI y) :: .int (iI x) :: st) := by
  subst e0
  obtain ⟨h1, h2, h3, h4⟩ := hr
  have hy : rI y := ⟨by omega, h4⟩
  have hx : rI x := ⟨by omega, h2⟩
  exact V_of (fun H locs ls hl kk => lv_idiv C.1.1 C.1.2.1 d (by rw [← iI_0, iI_eq hy (by decide)]; omega) (by rw [iI_div h1 hx h3 hy]; exact kk)) k
theorem V_irem {x y : Int} (C : Cx p m c cc nL s args Ts own D tys A ee) (hr : 0 ≤ x ∧ x ≤ 2147483647 ∧ 0 < y ∧ y ≤ 2147483647) (d : decode cc pc = .ok (.irem, 1)) (e0 : pc + 1 = pc') (k : Vx p l e R s m args below meth c cells slots Q D A nL I pc' L (.int (iI (x % y)) :: st)) : Vx p l e R s m args below meth c cells slots Q D A nL I pc L (.int (iI y) :: .int (iI x) :: st) := by
  subst e0
  obtain ⟨h1, h2, h3, h4⟩ := hr
  have hy : rI y := ⟨by omega, h4⟩
  have hx : rI x := ⟨by omega, h2⟩
  exact V_of (fun H locs ls hl kk => lv_irem C.1.1 C.1.2.1 d (by rw [← iI_0, iI_eq hy (by decide)]; omega) (by rw [iI_rem h1 hx h3 hy]; exact kk)) k
theorem V_ior {x y : Bool} (C : Cx p m c cc nL s args Ts own D tys A ee) (d : decode cc pc = .ok (.ior, 1)) (e0 : pc + 1 = pc') (k : Vx p l e R s m args below meth c cells slots Q D A nL I pc' L (.int (iI (bI (x || y))) :: st)) : Vx p l e R s m args below meth c cells slots Q D A nL I pc L (.int (iI (bI y)) :: .int (iI (bI x)) :: st) := by
  subst e0
  refine V_of (fun H locs ls hl kk => lv_ior C.1.1 C.1.2.1 d ?_) k
  rw [show iI (bI x) ||| iI (bI y) = iI (bI (x || y)) by cases x <;> cases y <;> decide]
  exact kk
theorem V_iand31 {x : Int32} (C : Cx p m c cc nL s args Ts own D tys A ee) (d : decode cc pc = .ok (.iand, 1)) (e0 : pc + 1 = pc') (k : ∀ z : Int, 0 ≤ z → z < 32 → Vx p l e R s m args below meth c cells slots Q D A nL I pc' L (.int (iI z) :: st)) : Vx p l e R s m args below meth c cells slots Q D A nL I pc L (.int (iI 31) :: .int x :: st) := by
  subst e0
  obtain ⟨j, hj, e⟩ := pk_andE x (m := iI 31) 5 (by decide)
  exact V_of (fun H locs ls hl kk => lv_iand C.1.1 C.1.2.1 d (by rw [e]; exact kk)) (k (j : Int) (by omega) (by omega))
theorem V_i2c {x : Int} (C : Cx p m c cc nL s args Ts own D tys A ee) (hr : 0 ≤ x ∧ x < 65536) (d : decode cc pc = .ok (.i2c, 1)) (e0 : pc + 1 = pc') (k : Vx p l e R s m args below meth c cells slots Q D A nL I pc' L (.int (iI x) :: st)) : Vx p l e R s m args below meth c cells slots Q D A nL I pc L (.int (iI x) :: st) := by
  subst e0
  refine V_of (fun H locs ls hl kk => lv_i2c (v := iI x) C.1.1 C.1.2.1 d ?_ kk) k
  have e1 : iI x = nI x.toNat := by
    unfold iI nI
    rw [show x = (x.toNat : Int) by omega]
    rfl
  rw [e1, pk_char, pk_tn (by omega), Nat.mod_eq_of_lt (by omega)]
theorem V_dup {v : Value} (C : Cx p m c cc nL s args Ts own D tys A ee) (hv : v.category = 1) (d : decode cc pc = .ok (.dup, 1)) (e0 : pc + 1 = pc') (k : Vx p l e R s m args below meth c cells slots Q D A nL I pc' L (v :: v :: st)) : Vx p l e R s m args below meth c cells slots Q D A nL I pc L (v :: st) := by
  subst e0
  exact V_of (fun H locs ls hl kk => lv_dup C.1.1 C.1.2.1 d hv kk) k
theorem V_pop {v : Value} (C : Cx p m c cc nL s args Ts own D tys A ee) (hv : v.category = 1) (d : decode cc pc = .ok (.pop, 1)) (e0 : pc + 1 = pc') (k : Vx p l e R s m args below meth c cells slots Q D A nL I pc' L st) : Vx p l e R s m args below meth c cells slots Q D A nL I pc L (v :: st) := by
  subst e0
  exact V_of (fun H locs ls hl kk => lv_pop C.1.1 C.1.2.1 d hv kk) k
theorem V_dup2 {v w : Value} (C : Cx p m c cc nL s args Ts own D tys A ee) (hv : v.category = 1) (hw : w.category = 1) (d : decode cc pc = .ok (.dup2, 1)) (e0 : pc + 1 = pc') (k : Vx p l e R s m args below meth c cells slots Q D A nL I pc' L (v :: w :: v :: w :: st)) : Vx p l e R s m args below meth c cells slots Q D A nL I pc L (v :: w :: st) := by
  subst e0
  exact V_of (fun H locs ls hl kk => lv_dup2_11 C.1.1 C.1.2.1 d hv hw kk) k
theorem V_dup_x1 {v w : Value} (C : Cx p m c cc nL s args Ts own D tys A ee) (hv : v.category = 1) (hw : w.category = 1) (d : decode cc pc = .ok (.dup_x1, 1)) (e0 : pc + 1 = pc') (k : Vx p l e R s m args below meth c cells slots Q D A nL I pc' L (v :: w :: v :: st)) : Vx p l e R s m args below meth c cells slots Q D A nL I pc L (v :: w :: st) := by
  subst e0
  exact V_of (fun H locs ls hl kk => lv_dup_x1 C.1.1 C.1.2.1 d hv hw kk) k
theorem V_goto {off : Int} {tgt : Nat} (C : Cx p m c cc nL s args Ts own D tys A ee) (d : decode cc pc = .ok (.goto off, 3)) (ht : (pc : Int) + off = (tgt : Int)) (k : Vx p l e R s m args below meth c cells slots Q D A nL I tgt L st) : Vx p l e R s m args below meth c cells slots Q D A nL I pc L st := V_of (fun H locs ls hl kk => lv_goto C.1.1 C.1.2.1 d ht kk) k
theorem V_ifeq {x : Int} {off : Int} {tgt : Nat} (C : Cx p m c cc nL s args Ts own D tys A ee) (hr : rI x) (d : decode cc pc = .ok (.ifCond .eq off, 3)) (ht : (pc : Int) + off = (tgt : Int)) (e0 : pc + 3 = pc') (k1 : x = 0 → Vx p l e R s m args below meth c cells slots Q D A nL I tgt L st) (k2 : ¬ (x = 0) → Vx p l e R s m args below meth c cells slots Q D A nL I pc' L st) : Vx p l e R s m args below meth c cells slots Q D A nL I pc L (.int (iI x) :: st) := by
  subst e0
  have h0 : rI 0 := by decide
  have key := (iI_eq hr h0)
  rw [iI_0] at key
  intro h H locs ls hI hW hS hl
  exact lv_if_eq C.1.1 C.1.2.1 d ht (fun q => k1 (key.mp q) h H locs ls hI hW hS hl) (fun q => k2 (fun q2 => q (key.mpr q2)) h H locs ls hI hW hS hl)
theorem V_icmpeq {x y : Int} {off : Int} {tgt : Nat} (C : Cx p m c cc nL s args Ts own D tys A ee) (hr : rI x ∧ rI y) (d : decode cc pc = .ok (.if_icmp .eq off, 3)) (ht : (pc : Int) + off = (tgt : Int)) (e0 : pc + 3 = pc') (k1 : x = y → Vx p l e R s m args below meth c cells slots Q D A nL I tgt L st) (k2 : ¬ (x = y) → Vx p l e R s m args below meth c cells slots Q D A nL I pc' L st) : Vx p l e R s m args below meth c cells slots Q D A nL I pc L (.int (iI y) :: .int (iI x) :: st) := by
  subst e0
  obtain ⟨hr, h0⟩ := hr
  have key := (iI_eq hr h0)
  intro h H locs ls hI hW hS hl
  exact lv_icmp_eq C.1.1 C.1.2.1 d ht (fun q => k1 (key.mp q) h H locs ls hI hW hS hl) (fun q => k2 (fun q2 => q (key.mpr q2)) h H locs ls hI hW hS hl)
theorem V_ifne {x : Int} {off : Int} {tgt : Nat} (C : Cx p m c cc nL s args Ts own D tys A ee) (hr : rI x) (d : decode cc pc = .ok (.ifCond .ne off, 3)) (ht : (pc : Int) + off = (tgt : Int)) (e0 : pc + 3 = pc') (k1 : x ≠ 0 → Vx p l e R s m args below meth c cells slots Q D A nL I tgt L st) (k2 : ¬ (x ≠ 0) → Vx p l e R s m args below meth c cells slots Q D A nL I pc' L st) : Vx p l e R s m args below meth c cells slots Q D A nL I pc L (.int (iI x) :: st) := by
  subst e0
  have h0 : rI 0 := by decide
  have key := (not_congr (iI_eq hr h0))
  rw [iI_0] at key
  intro h H locs ls hI hW hS hl
  exact lv_if_ne C.1.1 C.1.2.1 d ht (fun q => k1 (key.mp q) h H locs ls hI hW hS hl) (fun q => k2 (fun q2 => (key.mpr q2) q) h H locs ls hI hW hS hl)
theorem V_icmpne {x y : Int} {off : Int} {tgt : Nat} (C : Cx p m c cc nL s args Ts own D tys A ee) (hr : rI x ∧ rI y) (d : decode cc pc = .ok (.if_icmp .ne off, 3)) (ht : (pc : Int) + off = (tgt : Int)) (e0 : pc + 3 = pc') (k1 : x ≠ y → Vx p l e R s m args below meth c cells slots Q D A nL I tgt L st) (k2 : ¬ (x ≠ y) → Vx p l e R s m args below meth c cells slots Q D A nL I pc' L st) : Vx p l e R s m args below meth c cells slots Q D A nL I pc L (.int (iI y) :: .int (iI x) :: st) := by
  subst e0
  obtain ⟨hr, h0⟩ := hr
  have key := (not_congr (iI_eq hr h0))
  intro h H locs ls hI hW hS hl
  exact lv_icmp_ne C.1.1 C.1.2.1 d ht (fun q => k1 (key.mp q) h H locs ls hI hW hS hl) (fun q => k2 (fun q2 => (key.mpr q2) q) h H locs ls hI hW hS hl)
theorem V_iflt {x : Int} {off : Int} {tgt : Nat} (C : Cx p m c cc nL s args Ts own D tys A ee) (hr : rI x) (d : decode cc pc = .ok (.ifCond .lt off, 3)) (ht : (pc : Int) + off = (tgt : Int)) (e0 : pc + 3 = pc') (k1 : x < 0 → Vx p l e R s m args below meth c cells slots Q D A nL I tgt L st) (k2 : ¬ (x < 0) → Vx p l e R s m args below meth c cells slots Q D A nL I pc' L st) : Vx p l e R s m args below meth c cells slots Q D A nL I pc L (.int (iI x) :: st) := by
  subst e0
  have h0 : rI 0 := by decide
  have key := (iI_lt hr h0)
  rw [iI_0] at key
  intro h H locs ls hI hW hS hl
  exact lv_if_lt C.1.1 C.1.2.1 d ht (fun q => k1 (key.mp q) h H locs ls hI hW hS hl) (fun q => k2 (fun q2 => q (key.mpr q2)) h H locs ls hI hW hS hl)
theorem V_icmplt {x y : Int} {off : Int} {tgt : Nat} (C : Cx p m c cc nL s args Ts own D tys A ee) (hr : rI x ∧ rI y) (d : decode cc pc = .ok (.if_icmp .lt off, 3)) (ht : (pc : Int) + off = (tgt : Int)) (e0 : pc + 3 = pc') (k1 : x < y → Vx p l e R s m args below meth c cells slots Q D A nL I tgt L st) (k2 : ¬ (x < y) → Vx p l e R s m args below meth c cells slots Q D A nL I pc' L st) : Vx p l e R s m args below meth c cells slots Q D A nL I pc L (.int (iI y) :: .int (iI x) :: st) := by
  subst e0
  obtain ⟨hr, h0⟩ := hr
  have key := (iI_lt hr h0)
  intro h H locs ls hI hW hS hl
  exact lv_icmp_lt C.1.1 C.1.2.1 d ht (fun q => k1 (key.mp q) h H locs ls hI hW hS hl) (fun q => k2 (fun q2 => q (key.mpr q2)) h H locs ls hI hW hS hl)
theorem V_ifge {x : Int} {off : Int} {tgt : Nat} (C : Cx p m c cc nL s args Ts own D tys A ee) (hr : rI x) (d : decode cc pc = .ok (.ifCond .ge off, 3)) (ht : (pc : Int) + off = (tgt : Int)) (e0 : pc + 3 = pc') (k1 : 0 ≤ x → Vx p l e R s m args below meth c cells slots Q D A nL I tgt L st) (k2 : ¬ (0 ≤ x) → Vx p l e R s m args below meth c cells slots Q D A nL I pc' L st) : Vx p l e R s m args below meth c cells slots Q D A nL I pc L (.int (iI x) :: st) := by
  subst e0
  have h0 : rI 0 := by decide
  have key := (iI_le h0 hr)
  rw [iI_0] at key
  intro h H locs ls hI hW hS hl
  exact lv_if_ge C.1.1 C.1.2.1 d ht (fun q => k1 (key.mp q) h H locs ls hI hW hS hl) (fun q => k2 (fun q2 => q (key.mpr q2)) h H locs ls hI hW hS hl)
theorem V_icmpge {x y : Int} {off : Int} {tgt : Nat} (C : Cx p m c cc nL s args Ts own D tys A ee) (hr : rI x ∧ rI y) (d : decode cc pc = .ok (.if_icmp .ge off, 3)) (ht : (pc : Int) + off = (tgt : Int)) (e0 : pc + 3 = pc') (k1 : y ≤ x → Vx p l e R s m args below meth c cells slots Q D A nL I tgt L st) (k2 : ¬ (y ≤ x) → Vx p l e R s m args below meth c cells slots Q D A nL I pc' L st) : Vx p l e R s m args below meth c cells slots Q D A nL I pc L (.int (iI y) :: .int (iI x) :: st) := by
  subst e0
  obtain ⟨hr, h0⟩ := hr
  have key := (iI_le h0 hr)
  intro h H locs ls hI hW hS hl
  exact lv_icmp_ge C.1.1 C.1.2.1 d ht (fun q => k1 (key.mp q) h H locs ls hI hW hS hl) (fun q => k2 (fun q2 => q (key.mpr q2)) h H locs ls hI hW hS hl)
theorem V_ifgt {x : Int} {off : Int} {tgt : Nat} (C : Cx p m c cc nL s args Ts own D tys A ee) (hr : rI x) (d : decode cc pc = .ok (.ifCond .gt off, 3)) (ht : (pc : Int) + off = (tgt : Int)) (e0 : pc + 3 = pc') (k1 : 0 < x → Vx p l e R s m args below meth c cells slots Q D A nL I tgt L st) (k2 : ¬ (0 < x) → Vx p l e R s m args below meth c cells slots Q D A nL I pc' L st) : Vx p l e R s m args below meth c cells slots Q D A nL I pc L (.int (iI x) :: st) := by
  subst e0
  have h0 : rI 0 := by decide
  have key := (iI_lt h0 hr)
  rw [iI_0] at key
  intro h H locs ls hI hW hS hl
  exact lv_if_gt C.1.1 C.1.2.1 d ht (fun q => k1 (key.mp q) h H locs ls hI hW hS hl) (fun q => k2 (fun q2 => q (key.mpr q2)) h H locs ls hI hW hS hl)
theorem V_icmpgt {x y : Int} {off : Int} {tgt : Nat} (C : Cx p m c cc nL s args Ts own D tys A ee) (hr : rI x ∧ rI y) (d : decode cc pc = .ok (.if_icmp .gt off, 3)) (ht : (pc : Int) + off = (tgt : Int)) (e0 : pc + 3 = pc') (k1 : y < x → Vx p l e R s m args below meth c cells slots Q D A nL I tgt L st) (k2 : ¬ (y < x) → Vx p l e R s m args below meth c cells slots Q D A nL I pc' L st) : Vx p l e R s m args below meth c cells slots Q D A nL I pc L (.int (iI y) :: .int (iI x) :: st) := by
  subst e0
  obtain ⟨hr, h0⟩ := hr
  have key := (iI_lt h0 hr)
  intro h H locs ls hI hW hS hl
  exact lv_icmp_gt C.1.1 C.1.2.1 d ht (fun q => k1 (key.mp q) h H locs ls hI hW hS hl) (fun q => k2 (fun q2 => q (key.mpr q2)) h H locs ls hI hW hS hl)
theorem V_ifle {x : Int} {off : Int} {tgt : Nat} (C : Cx p m c cc nL s args Ts own D tys A ee) (hr : rI x) (d : decode cc pc = .ok (.ifCond .le off, 3)) (ht : (pc : Int) + off = (tgt : Int)) (e0 : pc + 3 = pc') (k1 : x ≤ 0 → Vx p l e R s m args below meth c cells slots Q D A nL I tgt L st) (k2 : ¬ (x ≤ 0) → Vx p l e R s m args below meth c cells slots Q D A nL I pc' L st) : Vx p l e R s m args below meth c cells slots Q D A nL I pc L (.int (iI x) :: st) := by
  subst e0
  have h0 : rI 0 := by decide
  have key := (iI_le hr h0)
  rw [iI_0] at key
  intro h H locs ls hI hW hS hl
  exact lv_if_le C.1.1 C.1.2.1 d ht (fun q => k1 (key.mp q) h H locs ls hI hW hS hl) (fun q => k2 (fun q2 => q (key.mpr q2)) h H locs ls hI hW hS hl)
theorem V_icmple {x y : Int} {off : Int} {tgt : Nat} (C : Cx p m c cc nL s args Ts own D tys A ee) (hr : rI x ∧ rI y) (d : decode cc pc = .ok (.if_icmp .le off, 3)) (ht : (pc : Int) + off = (tgt : Int)) (e0 : pc + 3 = pc') (k1 : x ≤ y → Vx p l e R s m args below meth c cells slots Q D A nL I tgt L st) (k2 : ¬ (x ≤ y) → Vx p l e R s m args below meth c cells slots Q D A nL I pc' L st) : Vx p l e R s m args below meth c cells slots Q D A nL I pc L (.int (iI y) :: .int (iI x) :: st) := by
  subst e0
  obtain ⟨hr, h0⟩ := hr
  have key := (iI_le hr h0)
  intro h H locs ls hI hW hS hl
  exact lv_icmp_le C.1.1 C.1.2.1 d ht (fun q => k1 (key.mp q) h H locs ls hI hW hS hl) (fun q => k2 (fun q2 => q (key.mpr q2)) h H locs ls hI hW hS hl)
theorem V_ifeqB {x : Bool} {off : Int} {tgt : Nat} (C : Cx p m c cc nL s args Ts own D tys A ee) (d : decode cc pc = .ok (.ifCond .eq off, 3)) (ht : (pc : Int) + off = (tgt : Int)) (e0 : pc + 3 = pc') (k1 : x = false → Vx p l e R s m args below meth c cells slots Q D A nL I tgt L st) (k2 : x = true → Vx p l e R s m args below meth c cells slots Q D A nL I pc' L st) : Vx p l e R s m args below meth c cells slots Q D A nL I pc L (.int (iI (bI x)) :: st) := V_ifeq C (bI_r x) d ht e0 (fun q => k1 ((bI_0 x).mp q)) (fun q => k2 (by cases x with | true => rfl | false => exact absurd rfl q))
theorem V_ifneB {x : Bool} {off : Int} {tgt : Nat} (C : Cx p m c cc nL s args Ts own D tys A ee) (d : decode cc pc = .ok (.ifCond .ne off, 3)) (ht : (pc : Int) + off = (tgt : Int)) (e0 : pc + 3 = pc') (k1 : x = true → Vx p l e R s m args below meth c cells slots Q D A nL I tgt L st) (k2 : x = false → Vx p l e R s m args below meth c cells slots Q D A nL I pc' L st) : Vx p l e R s m args below meth c cells slots Q D A nL I pc L (.int (iI (bI x)) :: st) := V_ifne C (bI_r x) d ht e0 (fun q => k1 (by cases x with | true => rfl | false => exact absurd rfl q)) (fun q => k2 (by cases x with | false => rfl | true => exact absurd (by decide) q))
theorem V_ifnull {x : Nat} {off : Int} (C : Cx p m c cc nL s args Ts own D tys A ee) (d : decode cc pc = .ok (.ifnull off, 3)) (e0 : pc + 3 = pc') (k : Vx p l e R s m args below meth c cells slots Q D A nL I pc' L st) : Vx p l e R s m args below meth c cells slots Q D A nL I pc L (.ref x :: st) := by
  subst e0
  exact V_of (fun H locs ls hl kk => lv_ifnull C.1.1 C.1.2.1 d kk) k
theorem V_ifnullN {off : Int} {tgt : Nat} (C : Cx p m c cc nL s args Ts own D tys A ee) (d : decode cc pc = .ok (.ifnull off, 3)) (ht : (pc : Int) + off = (tgt : Int)) (k : Vx p l e R s m args below meth c cells slots Q D A nL I tgt L st) : Vx p l e R s m args below meth c cells slots Q D A nL I pc L (.null :: st) := V_of (fun H locs ls hl kk => lv_ifnullN C.1.1 C.1.2.1 d ht kk) k
theorem V_ifnonnull {x : Nat} {off : Int} {tgt : Nat} (C : Cx p m c cc nL s args Ts own D tys A ee) (d : decode cc pc = .ok (.ifnonnull off, 3)) (ht : (pc : Int) + off = (tgt : Int)) (k : Vx p l e R s m args below meth c cells slots Q D A nL I tgt L st) : Vx p l e R s m args below meth c cells slots Q D A nL I pc L (.ref x :: st) := V_of (fun H locs ls hl kk => lv_ifnonnull C.1.1 C.1.2.1 d ht kk) k
theorem V_ifnonnullN {off : Int} (C : Cx p m c cc nL s args Ts own D tys A ee) (d : decode cc pc = .ok (.ifnonnull off, 3)) (e0 : pc + 3 = pc') (k : Vx p l e R s m args below meth c cells slots Q D A nL I pc' L st) : Vx p l e R s m args below meth c cells slots Q D A nL I pc L (.null :: st) := by
  subst e0
  exact V_of (fun H locs ls hl kk => lv_ifnonnullN C.1.1 C.1.2.1 d kk) k
theorem V_getf {Cn : String} {T : u_T} {N ci index a : Nat} {v : Value} (C : Cx p m c cc nL s args Ts own D tys A ee) (hin : ∀ w ∈ u_ws Cn T N, w ∈ Ts) (hc : vwCl[ci]? = some (Cn, T, N)) (k : Nat) (hk : k < N) (hl : Cond.fieldLink own index (T k).1 (T k).2.1 (T k).2.2.1 ∈ Ts) (he : ∀ h, I h → ∃ t fs, h a = some (t, .inr (ci, fs)) ∧ fs[k]? = some v) (d : decode cc pc = .ok (.getfield index, 3)) (e0 : pc + 3 = pc') (kk : Vx p l e R s m args below meth c cells slots Q D A nL I pc' L (v :: st)) : Vx p l e R s m args below meth c cells slots Q D A nL I pc L (.ref a :: st) := by
  subst e0
  intro h H locs ls hI hW hS hL
  obtain ⟨t, fs, h1, h2⟩ := he h hI
  obtain ⟨ws, hP, hD, hw⟩ := id hW
  obtain ⟨q0, hq⟩ := hw a t _ h1
  exact va_get C.1.1 C.1.2.1 C.1.2.2.2.2 hin C.1.2.2.2.1 C.2.1 hP q0 hq hc k hk (C.1.2.2.2.2 _ hl) (fun _ h9 => h9) h2 d (kk h H locs ls hI hW hS hL)
theorem V_putf {Cn : String} {T : u_T} {N ci index a : Nat} {v : Value} {I2 : Hp → Prop} {ty0 : Nat → FieldType} (C : Cx p m c cc nL s args Ts own D tys A ee) (hin : ∀ w ∈ u_ws Cn T N, w ∈ Ts) (hty : ∀ k, k < N → parseFieldDescriptor (T k).2.2.1 = some (ty0 k)) (hnm : ∀ a, a < N → ∀ b, b < N → a ≠ b → (T a).2.1 ≠ (T b).2.1) (hc : vwCl[ci]? = some (Cn, T, N)) (k : Nat) (hk : k < N) (hl : Cond.fieldLink own index (T k).1 (T k).2.1 (T k).2.2.1 ∈ Ts) (hfin : (T k).2.2.2 = false) (hn : narrow (ty0 k) v = v) (hfit : fits (ty0 k) v = true) (he : ∀ h, I h → ∃ t fs, h a = some (t, .inr (ci, fs)) ∧ k < fs.length ∧ I2 (hup h a (t, .inr (ci, fs.set k v)))) (d : decode cc pc = .ok (.putfield index, 3)) (e0 : pc + 3 = pc') (kk : Vx p l e R s m args below meth c cells slots Q D A nL I2 pc' L st) : Vx p l e R s m args below meth c cells slots Q D A nL I pc L (v :: .ref a :: st) := by
  subst e0
  intro h H locs ls hI hW hS hL
  obtain ⟨t, fs, h1, h2, h3⟩ := he h hI
  obtain ⟨ws, hP, hD, hw⟩ := id hW
  obtain ⟨q0, hq⟩ := hw a t _ h1
  exact va_put C.1.1 C.1.2.1 C.1.2.2.2.2 hin ty0 hty hnm C.1.2.2.2.1 C.2.1 hP hD hS q0 hq hc k hk (C.1.2.2.2.2 _ hl) (fun _ h9 => h9) hfin (hty k hk) hn hfit h2 d (fun H1 locs1 p1 d1 s1 => kk _ H1 locs1 ls h3 ⟨_, p1, d1, hpW_set hD hw hq⟩ s1 hL)
theorem V_putF {Cn : String} {T : u_T} {N ci index a : Nat} {v : Value} {I2 : Hp → Prop} {ty0 : Nat → FieldType} (C : Cx p m c cc nL s args Ts own D tys A ee) (hin : ∀ w ∈ u_ws Cn T N, w ∈ Ts) (hty : ∀ k, k < N → parseFieldDescriptor (T k).2.2.1 = some (ty0 k)) (hnm : ∀ a, a < N → ∀ b, b < N → a ≠ b → (T a).2.1 ≠ (T b).2.1) (hc : vwCl[ci]? = some (Cn, T, N)) (k : Nat) (hk : k < N) (hl : Cond.fieldLink own index (T k).1 (T k).2.1 (T k).2.2.1 ∈ Ts) (hfin : (T k).2.2.2 = true) (hin2 : meth.name = "<init>") (hdecl : (T k).1 = own) (hn : narrow (ty0 k) v = v) (hfit : fits (ty0 k) v = true) (he : ∀ h, I h → ∃ t fs, h a = some (t, .inr (ci, fs)) ∧ k < fs.length ∧ I2 (hup h a (t, .inr (ci, fs.set k v)))) (d : decode cc pc = .ok (.putfield index, 3)) (e0 : pc + 3 = pc') (kk : Vx p l e R s m args below meth c cells slots Q D A nL I2 pc' L st) : Vx p l e R s m args below meth c cells slots Q D A nL I pc L (v :: .ref a :: st) := by
  subst e0
  intro h H locs ls hI hW hS hL
  obtain ⟨t, fs, h1, h2, h3⟩ := he h hI
  obtain ⟨ws, hP, hD, hw⟩ := id hW
  obtain ⟨q0, hq⟩ := hw a t _ h1
  exact va_putF C.1.1 C.1.2.1 C.1.2.2.2.2 hin ty0 hty hnm C.1.2.2.2.1 C.2.1 hP hD hS q0 hq hc k hk (C.1.2.2.2.2 _ hl) (fun _ h9 => h9) hfin hin2 hdecl (hty k hk) hn hfit h2 d (fun H1 locs1 p1 d1 s1 => kk _ H1 locs1 ls h3 ⟨_, p1, d1, hpW_set hD hw hq⟩ s1 hL)
theorem V_iald {cA : ClassId} {a n : Nat} {f : Int → Int} {z : Int} (C : Cx p m c cc nL s args Ts own D tys A ee) (t0 : Nat) (ht : tys[t0]? = some (cA, .int)) (he : ∀ h, I h → ∃ t, h a = some (t, .inl (cA, n, .inl (iF f)))) (hz : 0 ≤ z ∧ z < n ∧ z ≤ 2147483647) (d : decode cc pc = .ok (.iaload, 1)) (e0 : pc + 1 = pc') (kk : Vx p l e R s m args below meth c cells slots Q D A nL I pc' L (.int (iI (f z)) :: st)) : Vx p l e R s m args below meth c cells slots Q D A nL I pc L (.int (iI z) :: .ref a :: st) := by
  subst e0
  intro h H locs ls hI hW hS hL
  obtain ⟨t, h1⟩ := he h hI
  obtain ⟨ws, hP, hD, hw⟩ := id hW
  obtain ⟨q0, hq⟩ := hw a t _ h1
  obtain ⟨z0, z1, z2⟩ := hz
  have hr : rI z := ⟨by omega, z2⟩
  refine va_iald C.1.1 C.1.2.1 C.2.1 hP q0 t0 hq ht (iI_in z0 z1 hr) d ?_
  rw [iF_at z0 hr]
  exact kk h H locs ls hI hW hS hL
theorem V_cald {cA : ClassId} {a n : Nat} {f : Int → Int} {z : Int} (C : Cx p m c cc nL s args Ts own D tys A ee) (t0 : Nat) (ht : tys[t0]? = some (cA, .char)) (he : ∀ h, I h → ∃ t, h a = some (t, .inl (cA, n, .inl (iF f)))) (hz : 0 ≤ z ∧ z < n ∧ z ≤ 2147483647) (d : decode cc pc = .ok (.caload, 1)) (e0 : pc + 1 = pc') (kk : Vx p l e R s m args below meth c cells slots Q D A nL I pc' L (.int (iI (f z)) :: st)) : Vx p l e R s m args below meth c cells slots Q D A nL I pc L (.int (iI z) :: .ref a :: st) := by
  subst e0
  intro h H locs ls hI hW hS hL
  obtain ⟨t, h1⟩ := he h hI
  obtain ⟨ws, hP, hD, hw⟩ := id hW
  obtain ⟨q0, hq⟩ := hw a t _ h1
  obtain ⟨z0, z1, z2⟩ := hz
  have hr : rI z := ⟨by omega, z2⟩
  refine va_cald C.1.1 C.1.2.1 C.2.1 hP q0 t0 hq ht (iI_in z0 z1 hr) d ?_
  rw [iF_at z0 hr]
  exact kk h H locs ls hI hW hS hL
theorem V_bald {cA : ClassId} {a n : Nat} {f : Int → Int} {z : Int} (C : Cx p m c cc nL s args Ts own D tys A ee) (t0 : Nat) (ht : tys[t0]? = some (cA, .byte)) (he : ∀ h, I h → ∃ t, h a = some (t, .inl (cA, n, .inl (iF f)))) (hz : 0 ≤ z ∧ z < n ∧ z ≤ 2147483647) (d : decode cc pc = .ok (.baload, 1)) (e0 : pc + 1 = pc') (kk : Vx p l e R s m args below meth c cells slots Q D A nL I pc' L (.int (iI (f z)) :: st)) : Vx p l e R s m args below meth c cells slots Q D A nL I pc L (.int (iI z) :: .ref a :: st) := by
  subst e0
  intro h H locs ls hI hW hS hL
  obtain ⟨t, h1⟩ := he h hI
  obtain ⟨ws, hP, hD, hw⟩ := id hW
  obtain ⟨q0, hq⟩ := hw a t _ h1
  obtain ⟨z0, z1, z2⟩ := hz
  have hr : rI z := ⟨by omega, z2⟩
  refine va_bald C.1.1 C.1.2.1 C.2.1 hP q0 t0 hq ht (iI_in z0 z1 hr) d ?_
  rw [iF_at z0 hr]
  exact kk h H locs ls hI hW hS hL
theorem V_iast {cA : ClassId} {a n : Nat} {f : Int → Int} {z v : Int} {I2 : Hp → Prop} (C : Cx p m c cc nL s args Ts own D tys A ee) (t0 : Nat) (ht : tys[t0]? = some (cA, .int)) (he : ∀ h, I h → ∃ t, h a = some (t, .inl (cA, n, .inl (iF f))) ∧ I2 (hup h a (t, .inl (cA, n, .inl (iF (upZ f z v)))))) (hz : 0 ≤ z ∧ z < n ∧ z ≤ 2147483647) (d : decode cc pc = .ok (.iastore, 1)) (e0 : pc + 1 = pc') (kk : Vx p l e R s m args below meth c cells slots Q D A nL I2 pc' L st) : Vx p l e R s m args below meth c cells slots Q D A nL I pc L (.int (iI v) :: .int (iI z) :: .ref a :: st) := by
  subst e0
  intro h H locs ls hI hW hS hL
  obtain ⟨t, h1, h2⟩ := he h hI
  obtain ⟨ws, hP, hD, hw⟩ := id hW
  obtain ⟨q0, hq⟩ := hw a t _ h1
  obtain ⟨z0, z1, z2⟩ := hz
  have hr : rI z := ⟨by omega, z2⟩
  refine va_iast C.1.1 C.1.2.1 C.2.1 hP hD hS q0 t0 hq ht (iI_in z0 z1 hr) d (fun H1 locs1 p1 d1 s1 => ?_)
  rw [iF_up z0 hr] at p1 d1
  exact kk _ H1 locs1 ls h2 ⟨_, p1, d1, hpW_set hD hw hq⟩ s1 hL
theorem V_cast {cA : ClassId} {a n : Nat} {f : Int → Int} {z v : Int} {I2 : Hp → Prop} (C : Cx p m c cc nL s args Ts own D tys A ee) (t0 : Nat) (ht : tys[t0]? = some (cA, .char)) (hnar : vp_nar .char (iI v) = iI v) (he : ∀ h, I h → ∃ t, h a = some (t, .inl (cA, n, .inl (iF f))) ∧ I2 (hup h a (t, .inl (cA, n, .inl (iF (upZ f z v)))))) (hz : 0 ≤ z ∧ z < n ∧ z ≤ 2147483647) (d : decode cc pc = .ok (.castore, 1)) (e0 : pc + 1 = pc') (kk : Vx p l e R s m args below meth c cells slots Q D A nL I2 pc' L st) : Vx p l e R s m args below meth c cells slots Q D A nL I pc L (.int (iI v) :: .int (iI z) :: .ref a :: st) := by
  subst e0
  intro h H locs ls hI hW hS hL
  obtain ⟨t, h1, h2⟩ := he h hI
  obtain ⟨ws, hP, hD, hw⟩ := id hW
  obtain ⟨q0, hq⟩ := hw a t _ h1
  obtain ⟨z0, z1, z2⟩ := hz
  have hr : rI z := ⟨by omega, z2⟩
  refine va_cast C.1.1 C.1.2.1 C.2.1 hP hD hS q0 t0 hq ht (iI_in z0 z1 hr) d (fun H1 locs1 p1 d1 s1 => ?_)
  rw [hnar, iF_up z0 hr] at p1 d1
  exact kk _ H1 locs1 ls h2 ⟨_, p1, d1, hpW_set hD hw hq⟩ s1 hL
theorem V_bast {cA : ClassId} {a n : Nat} {f : Int → Int} {z v : Int} {I2 : Hp → Prop} (C : Cx p m c cc nL s args Ts own D tys A ee) (t0 : Nat) (ht : tys[t0]? = some (cA, .byte)) (hnar : vp_nar .byte (iI v) = iI v) (he : ∀ h, I h → ∃ t, h a = some (t, .inl (cA, n, .inl (iF f))) ∧ I2 (hup h a (t, .inl (cA, n, .inl (iF (upZ f z v)))))) (hz : 0 ≤ z ∧ z < n ∧ z ≤ 2147483647) (d : decode cc pc = .ok (.bastore, 1)) (e0 : pc + 1 = pc') (kk : Vx p l e R s m args below meth c cells slots Q D A nL I2 pc' L st) : Vx p l e R s m args below meth c cells slots Q D A nL I pc L (.int (iI v) :: .int (iI z) :: .ref a :: st) := by
  subst e0
  intro h H locs ls hI hW hS hL
  obtain ⟨t, h1, h2⟩ := he h hI
  obtain ⟨ws, hP, hD, hw⟩ := id hW
  obtain ⟨q0, hq⟩ := hw a t _ h1
  obtain ⟨z0, z1, z2⟩ := hz
  have hr : rI z := ⟨by omega, z2⟩
  refine va_bast C.1.1 C.1.2.1 C.2.1 hP hD hS q0 t0 hq ht (iI_in z0 z1 hr) d (fun H1 locs1 p1 d1 s1 => ?_)
  rw [hnar, iF_up z0 hr] at p1 d1
  exact kk _ H1 locs1 ls h2 ⟨_, p1, d1, hpW_set hD hw hq⟩ s1 hL
theorem V_alen {cA : ClassId} {a n : Nat} {x : _} {ty : FieldType} (C : Cx p m c cc nL s args Ts own D tys A ee) (t0 : Nat) (ht : tys[t0]? = some (cA, ty)) (he : ∀ h, I h → ∃ t, h a = some (t, .inl (cA, n, x))) (d : decode cc pc = .ok (.arraylength, 1)) (e0 : pc + 1 = pc') (kk : Vx p l e R s m args below meth c cells slots Q D A nL I pc' L (.int (iI n) :: st)) : Vx p l e R s m args below meth c cells slots Q D A nL I pc L (.ref a :: st) := by
  subst e0
  intro h H locs ls hI hW hS hL
  obtain ⟨t, h1⟩ := he h hI
  obtain ⟨ws, hP, hD, hw⟩ := id hW
  obtain ⟨q0, hq⟩ := hw a t _ h1
  exact va_alen C.1.1 C.1.2.1 C.2.1 hP q0 t0 hq ht rfl d (kk h H locs ls hI hW hS hL)
theorem V_for {N : Nat} (J : Nat → Hp → Prop) (Lf : Nat → List (Option Value)) (inv : Nat → Prop) (step : ∀ j : Nat, j < N → inv j → (inv (j + 1) → Vx p l e R s m args below meth c cells slots Q D A nL (J (j + 1)) pc (Lf (j + 1)) st) → Vx p l e R s m args below meth c cells slots Q D A nL (J j) pc (Lf j) st) (exit : inv N → Vx p l e R s m args below meth c cells slots Q D A nL (J N) pc (Lf N) st) : ∀ j : Nat, j ≤ N → inv j → Vx p l e R s m args below meth c cells slots Q D A nL (J j) pc (Lf j) st := by
  have key : ∀ d j : Nat, N - j = d → j ≤ N → inv j → Vx p l e R s m args below meth c cells slots Q D A nL (J j) pc (Lf j) st := by
    intro d
    induction d with
    | zero =>
      intro j h1 h2 hj
      obtain rfl : j = N := by omega
      exact exit hj
    | succ d ih =>
      intro j h1 h2 hj
      exact step j (by omega) hj (fun h => ih (j + 1) (by omega) (by omega) h)
  exact fun j h1 h2 => key _ j rfl h1 h2
theorem V_conv {I2 : Hp → Prop} {L2 : List (Option Value)} (hI : ∀ h, I h → I2 h) (hL : L = L2) (k : Vx p l e R s m args below meth c cells slots Q D A nL I2 pc L2 st) : Vx p l e R s m args below meth c cells slots Q D A nL I pc L st := by
  subst hL
  exact V_weak hI k
theorem V_for0 {N : Nat} (J : Nat → Hp → Prop) (Lf : Nat → List (Option Value)) (inv : Nat → Prop) (h0 : inv 0) (hI : ∀ h, I h → J 0 h) (hL : L = Lf 0) (step : ∀ j : Nat, j < N → inv j → (inv (j + 1) → Vx p l e R s m args below meth c cells slots Q D A nL (J (j + 1)) pc (Lf (j + 1)) st) → Vx p l e R s m args below meth c cells slots Q D A nL (J j) pc (Lf j) st) (exit : inv N → Vx p l e R s m args below meth c cells slots Q D A nL (J N) pc (Lf N) st) : Vx p l e R s m args below meth c cells slots Q D A nL I pc L st :=
  V_conv hI hL (V_for J Lf inv step exit 0 (Nat.zero_le N) h0)
end VX

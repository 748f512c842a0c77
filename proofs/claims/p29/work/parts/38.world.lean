/-! the class's world: its objects by their tags (P: where each lies), the reference's state S, and what the class alone has (X: arrays X.1 5 the trial, 7..10 the audit's, 12 the history's, 13 the depths; numbers X.2 20 the action's start, 25 the audit's count, 26 its length, 27 the history's count) -/
abbrev iV (z : Int) : Value := .int (iI z)
def mnF (P : Nat → Nat) (S X : MSt) : List Value := [.ref (P 2), .ref (P 4), .ref (P 16), .ref (P 18), .ref (P 6), .ref (P 11), .ref (P 14), .ref (P 13), iV (X.2 20), iV (S.2 27), iV (S.2 28 % 6), iV (S.2 28 / 6), iV (S.2 26)]
def rgF (a b : Int) : List Value := [iV (a % 6), iV (a / 6), iV (b % 6), iV (b / 6)]
def stF (S : MSt) (k : Int) : List Value := [iV (S.1 5 k), iV (S.1 6 k), iV (S.1 7 k), iV (S.1 8 k)]
/-- the first n of the objects with tags from b on -/
def fstP (P : Nat → Nat) (b : Nat) (n : Int) : Nat → Option Nat := fun i => if (i : Int) < n then some (P (b + i)) else none
def MacL (cO : ClassId) (ee : Nat × Nat) (P : Nat → Nat) (S : MSt) (h : Hp) : Prop := ∃ md ar, LH cO ee (P 16) 16 md ar (S.2 22) (fstP P 100 (S.2 22)) h
def RulL (cO : ClassId) (ee : Nat × Nat) (P : Nat → Nat) (S : MSt) (h : Hp) : Prop := ∃ md ar, LH cO ee (P 18) 18 md ar (S.2 23) (fstP P 400 (S.2 23)) h
def Mac1 (cO : ClassId) (ee : Nat × Nat) (P : Nat → Nat) (S : MSt) (m : Nat) (h : Hp) : Prop := MaH (P (100 + m)) (100 + m) m (P (110 + m)) (P (130 + m)) h
  ∧ (∃ md ar, LH cO ee (P (110 + m)) (110 + m) md ar (S.1 4 m) (fstP P (200 + 10 * m) (S.1 4 m)) h)
  ∧ (∀ k : Nat, (k : Int) < S.1 4 m → h (P (200 + 10 * m + k)) = some (200 + 10 * m + k, .inr (11, stF S (10 * m + k))))
  ∧ (∃ md ar, LH cO ee (P (130 + m)) (130 + m) md ar (S.1 9 m) (fstP P (300 + 4 * m) (S.1 9 m)) h)
  ∧ (∀ g : Nat, (g : Int) < S.1 9 m → h (P (300 + 4 * m + g)) = some (300 + 4 * m + g, .inr (9, rgF (S.1 10 (4 * m + g)) (S.1 11 (4 * m + g)))))
def Rul1 (P : Nat → Nat) (S : MSt) (r : Nat) (h : Hp) : Prop := h (P (400 + r)) = some (400 + r, .inr (10, [.ref (P (410 + r)), .ref (P (100 + (S.1 14 r).toNat)), iV (S.1 15 r)])) ∧ h (P (410 + r)) = some (410 + r, .inr (9, rgF (S.1 12 r) (S.1 13 r)))
def MnH (P : Nat → Nat) (S X : MSt) (h : Hp) : Prop := h (P 1) = some (1, .inr (12, mnF P S X))
def AuX (cI : ClassId) (P : Nat → Nat) (X : MSt) (h : Hp) : Prop := AuH cI (P 6) (fun k => P (7 + k)) 6 (fun k => X.1 (7 + k)) (X.2 25) (X.2 26).toNat h
def DpX (cI : ClassId) (P : Nat → Nat) (X : MSt) (h : Hp) : Prop := h (P 13) = some (13, .inl (cI, 210, .inl (iF (X.1 13))))
/-- macros and rules -/
def MrH (cO : ClassId) (ee : Nat × Nat) (P : Nat → Nat) (S : MSt) (h : Hp) : Prop := MacL cO ee P S h ∧ (∀ m : Nat, (m : Int) < S.2 22 → Mac1 cO ee P S m h) ∧ RulL cO ee P S h ∧ ∀ r : Nat, (r : Int) < S.2 23 → Rul1 P S r h
/-- the world: Tx9 tells the text's part -/
def CW (cI cO : ClassId) (ee : Nat × Nat) (Tx9 : (Nat → Nat) → MSt → Hp → Prop) (P : Nat → Nat) (S X : MSt) (h : Hp) : Prop := MnH P S X h ∧ CeH cI (P 2) (P 3) 2 (S.1 0) h ∧ CeH cI (P 4) (P 5) 4 (X.1 5) h ∧ AuX cI P X h ∧ HiH cI (P 11) (P 12) 11 (X.1 12) (X.2 27) h ∧ DpX cI P X h ∧ Tx9 P S h ∧ MrH cO ee P S h
/-- the class's tags -/
def tK : Nat → Prop := fun u => u < 1000
theorem Mac1.fr {cO : ClassId} {ee : Nat × Nat} {P : Nat → Nat} {S : MSt} {m : Nat} {h h' : Hp} {T : Nat → Prop} (H : Mac1 cO ee P S m h) (hF : Fr T h h') (hT : ∀ u, 100 ≤ u → u < 400 → ¬ T u) (hm : m < 6) (h4 : S.1 4 m ≤ 10) (h9 : S.1 9 m ≤ 4) : Mac1 cO ee P S m h' := by
  obtain ⟨h1, ⟨md, ar, h2⟩, h3, ⟨md', ar', h5⟩, h6⟩ := H
  exact ⟨hF _ _ _ h1 (hT _ (by omega) (by omega)), ⟨md, ar, h2.fr hF (hT _ (by omega) (by omega)) (hT _ (by omega) (by omega))⟩, fun k hk => hF _ _ _ (h3 k hk) (hT _ (by omega) (by omega)), ⟨md', ar', h5.fr hF (hT _ (by omega) (by omega)) (hT _ (by omega) (by omega))⟩, fun g hg => hF _ _ _ (h6 g hg) (hT _ (by omega) (by omega))⟩
theorem MrH.fr {cO : ClassId} {ee : Nat × Nat} {P : Nat → Nat} {S : MSt} {h h' : Hp} {T : Nat → Prop} (H : MrH cO ee P S h) (hw : WFp S) (hF : Fr T h h') (hT : ∀ u, 16 ≤ u → u < 1000 → ¬ T u) : MrH cO ee P S h' := by
  obtain ⟨⟨md, ar, h1⟩, h2, ⟨md', ar', h3⟩, h4⟩ := H
  obtain ⟨w1, w2, w3, w4, w5, w6⟩ := hw
  refine ⟨⟨md, ar, h1.fr hF (hT _ (by omega) (by omega)) (hT _ (by omega) (by omega))⟩, fun m hm => ?_, ⟨md', ar', h3.fr hF (hT _ (by omega) (by omega)) (hT _ (by omega) (by omega))⟩, fun r hr => ?_⟩
  · have hm9 := w2 m (by omega) (by omega)
    exact (h2 m hm).fr hF (fun u a b => hT u (by omega) (by omega)) (by omega) hm9.2.1 hm9.2.2.2
  · obtain ⟨a, b⟩ := h4 r hr
    exact ⟨hF _ _ _ a (hT _ (by omega) (by omega)), hF _ _ _ b (hT _ (by omega) (by omega))⟩
theorem MnH.fr {P : Nat → Nat} {S X : MSt} {h h' : Hp} {T : Nat → Prop} (H : MnH P S X h) (hF : Fr T h h') (hT : ¬ T 1) : MnH P S X h' := hF _ _ _ H hT
theorem DpX.fr {cI : ClassId} {P : Nat → Nat} {X : MSt} {h h' : Hp} {T : Nat → Prop} (H : DpX cI P X h) (hF : Fr T h h') (hT : ¬ T 13) : DpX cI P X h' := hF _ _ _ H hT
theorem AuX.fr {cI : ClassId} {P : Nat → Nat} {X : MSt} {h h' : Hp} {T : Nat → Prop} (H : AuX cI P X h) (hF : Fr T h h') (hT : ∀ u, 6 ≤ u → u < 11 → ¬ T u) : AuX cI P X h' := AuH.fr H hF (fun u a b => hT u a (by omega))
theorem fstP_at {P : Nat → Nat} {b i : Nat} {n : Int} (h : (i : Int) < n) : fstP P b n i = some (P (b + i)) := if_pos h
/-- a macro's grants, as its test reads them -/
def grG (S : MSt) (m : Nat) : Nat → Nat → Int := fun k i => if k = 0 then S.1 10 (4 * m + i) % 6 else if k = 1 then S.1 10 (4 * m + i) / 6 else if k = 2 then S.1 11 (4 * m + i) % 6 else S.1 11 (4 * m + i) / 6
theorem holds_within {a b x : Int} : holdsB (a % 6) (a / 6) (b % 6) (b / 6) (x % 6) (x / 6) = isWithinB x a b := by
  unfold holdsB isWithinB isInB
  rw [Bool.and_assoc, Bool.and_assoc]
theorem myN_gr (S : MSt) (m : Nat) (x : Int) : ∀ j, myN (grG S m) (x % 6) (x / 6) j = grN S m x j
  | 0 => rfl
  | j + 1 => by
    rw [myN, grN, myN_gr S m x j]
    congr 1
    exact holds_within
section VN9
variable {p : Program} {l : Launch} {e : Env} {R : Room} {s : State} {m : MethodId} {args : Array Value} {below : List Frame} {meth : Method} {c : Code} {cells slots : Nat} {Q : State → Prop} {D : va_G} {tys : List (ClassId × FieldType)} {A : Nat → Prop} {nL : Nat} {cc : ByteArray} {Ts : List Cond} {own : String} {ee : Nat × Nat}
variable {I : Hp → Prop} {pc pc' : Nat} {L : List (Option Value)} {st : List Value} {h0 : Hp} {sz mc ms : Nat} {E0 : String} {JX : Hp → Hp → Prop} {Qc : Array Value → State → Outcome → State → Prop}
/-- a nest mate's private field -/
theorem V_getfN {Cn : String} {T : u_T} {N ci index a : Nat} {v : Value} (C : Cx p m c cc nL s args Ts RX7 D tys A ee) (hin : ∀ w ∈ u_ws Cn T N, w ∈ Ts) (hc : vwCl[ci]? = some (Cn, T, N)) (k : Nat) (hk : k < N) (hl : (index, (T k).1, (T k).2.1, (T k).2.2.1) ∈ evNf) (he : ∀ h, I h → ∃ t fs, h a = some (t, .inr (ci, fs)) ∧ fs[k]? = some v) (d : decode cc pc = .ok (.getfield index, 3)) (e0 : pc + 3 = pc') (kk : Vx p l e R s m args below meth c cells slots Q D A nL I pc' L (v :: st)) : Vx p l e R s m args below meth c cells slots Q D A nL I pc L (.ref a :: st) := by
  subst e0
  intro h H locs ls hI hW hS hL
  obtain ⟨t, fs, h1, h2⟩ := he h hI
  obtain ⟨ws, hP, hD, hw⟩ := id hW
  obtain ⟨q0, hq⟩ := hw a t _ h1
  exact va_getN C.1.1 C.1.2.1 C.1.2.2.2.2 hin C.1.2.2.2.1 C.2.1 hP q0 hq hc k hk (va_Nw.use (A := args) rfl (C.2.2.2.2.2.2.2.2.2.2.2.2.2.2.1 _ hl)) (fun _ h9 => h9) h2 d (kk h H locs ls hI hW hS hL)
theorem V_putfN {Cn : String} {T : u_T} {N ci index a : Nat} {v : Value} {I2 : Hp → Prop} {ty0 : Nat → FieldType} (C : Cx p m c cc nL s args Ts RX7 D tys A ee) (hin : ∀ w ∈ u_ws Cn T N, w ∈ Ts) (hty : ∀ k, k < N → parseFieldDescriptor (T k).2.2.1 = some (ty0 k)) (hnm : ∀ a, a < N → ∀ b, b < N → a ≠ b → (T a).2.1 ≠ (T b).2.1) (hc : vwCl[ci]? = some (Cn, T, N)) (k : Nat) (hk : k < N) (hl : (index, (T k).1, (T k).2.1, (T k).2.2.1) ∈ evNf) (hfin : (T k).2.2.2 = false) (hn : narrow (ty0 k) v = v) (hfit : fits (ty0 k) v = true) (he : ∀ h, I h → ∃ t fs, h a = some (t, .inr (ci, fs)) ∧ k < fs.length ∧ I2 (hup h a (t, .inr (ci, fs.set k v)))) (d : decode cc pc = .ok (.putfield index, 3)) (e0 : pc + 3 = pc') (kk : Vx p l e R s m args below meth c cells slots Q D A nL I2 pc' L st) : Vx p l e R s m args below meth c cells slots Q D A nL I pc L (v :: .ref a :: st) := by
  subst e0
  intro h H locs ls hI hW hS hL
  obtain ⟨t, fs, h1, h2, h3⟩ := he h hI
  obtain ⟨ws, hP, hD, hw⟩ := id hW
  obtain ⟨q0, hq⟩ := hw a t _ h1
  exact va_putN C.1.1 C.1.2.1 C.1.2.2.2.2 hin ty0 hty hnm C.1.2.2.2.1 C.2.1 hP hD hS q0 hq hc k hk (va_Nw.use (A := args) rfl (C.2.2.2.2.2.2.2.2.2.2.2.2.2.2.1 _ hl)) (fun _ h9 => h9) hfin (hty k hk) hn hfit h2 d (fun H1 locs1 p1 d1 s1 => kk _ H1 locs1 ls h3 ⟨_, p1, d1, hpW_set hD hw hq⟩ s1 hL)
end VN9

/-! V: the walk of a method. Its heap is an abstract map from addresses to cells, each with a tag (a ghost: which part of the system it belongs to); its ints are Ints. -/
abbrev Hp : Type := Nat → Option (Nat × va_E)
def hup (h : Hp) (a : Nat) (x : Nat × va_E) : Hp := fun b => if b = a then some x else h b
theorem hup_s {h : Hp} {a : Nat} {x : Nat × va_E} : hup h a x a = some x := if_pos rfl
theorem hup_n {h : Hp} {a b : Nat} {x : Nat × va_E} (n : b ≠ a) : hup h a x b = h b := if_neg n
def hpW (D : va_G) (A : Nat → Prop) (h : Hp) (H : Heap) : Prop := ∃ ws : va_W, va_P D vwCl ws H ∧ va_D A ws ∧ ∀ (a t : Nat) (e : va_E), h a = some (t, e) → ∃ k : Nat, ws[k]? = some (a, e)
theorem hpW_set {A : Nat → Prop} {h : Hp} {ws : va_W} {a k t' : Nat} {e e' : va_E} (hD : va_D A ws) (hw : ∀ (a t : Nat) (e : va_E), h a = some (t, e) → ∃ k : Nat, ws[k]? = some (a, e)) (hk : ws[k]? = some (a, e)) : ∀ (b u : Nat) (f : va_E), hup h a (t', e') b = some (u, f) → ∃ j : Nat, (ws.set k (a, e'))[j]? = some (b, f) := by
  intro b u f hb
  have hlt : k < ws.length := (List.getElem?_eq_some_iff.mp hk).1
  by_cases n : b = a
  · subst n
    rw [hup_s] at hb
    cases hb
    exact ⟨k, by rw [List.getElem?_set_self hlt]⟩
  · rw [hup_n n] at hb
    obtain ⟨j, hj⟩ := hw b u f hb
    refine ⟨j, ?_⟩
    rw [List.getElem?_set_ne, hj]
    intro q
    subst q
    rw [hk] at hj
    cases hj
    exact n rfl
theorem hpW_push {h : Hp} {ws : va_W} {a t' : Nat} {e' : va_E} (hw : ∀ (a t : Nat) (e : va_E), h a = some (t, e) → ∃ k : Nat, ws[k]? = some (a, e)) : ∀ (b u : Nat) (f : va_E), hup h a (t', e') b = some (u, f) → ∃ j : Nat, (ws ++ [(a, e')])[j]? = some (b, f) := by
  intro b u f hb
  by_cases n : b = a
  · subst n
    rw [hup_s] at hb
    cases hb
    exact ⟨ws.length, by simp⟩
  · rw [hup_n n] at hb
    obtain ⟨j, hj⟩ := hw b u f hb
    exact ⟨j, by rw [List.getElem?_append_left (List.getElem?_eq_some_iff.mp hj).1]; exact hj⟩
theorem hpW_lt {D : va_G} {A : Nat → Prop} {h : Hp} {H : Heap} (hW : hpW D A h H) {a t : Nat} {e : va_E} (ha : h a = some (t, e)) : a < H.size := by
  obtain ⟨ws, hP, -, hw⟩ := hW
  obtain ⟨k, hk⟩ := hw a t e ha
  exact (hP k _ hk).lt
theorem hpW_A {D : va_G} {A : Nat → Prop} {h : Hp} {H : Heap} (hW : hpW D A h H) {a t : Nat} {e : va_E} (ha : h a = some (t, e)) : A a := by
  obtain ⟨ws, -, hD, hw⟩ := hW
  obtain ⟨k, hk⟩ := hw a t e ha
  exact hD.2 k _ hk
/-- the cells that a method may change: those of its map, and those that it makes -/
def hA (h : Hp) (sz : Nat) : Nat → Prop := fun q => h q ≠ none ∨ sz ≤ q
theorem hA_new {h : Hp} {sz q : Nat} (hq : sz ≤ q) : hA h sz q := Or.inr hq
-- the map alone, its own cells as what may be changed
theorem hpW_self {D : va_G} {A : Nat → Prop} {h : Hp} {H : Heap} {sz : Nat} (hW : hpW D A h H) : hpW D (hA h sz) h H := by
  obtain ⟨ws, hP, hD, hw⟩ := hW
  refine ⟨ws.filter (fun q => (h q.1).isSome), fun k q hk => ?_, ⟨fun i j x y hx hy hxy => ?_, fun k q hk => ?_⟩, fun a t e ha => ?_⟩
  · obtain ⟨k', hk'⟩ := List.mem_iff_getElem?.mp (List.mem_filter.mp (List.mem_of_getElem? hk)).1
    exact hP k' q hk'
  · have nd : (ws.map (fun q => q.1)).Nodup := by
      rw [List.nodup_iff_pairwise_ne, List.pairwise_iff_getElem]
      intro i j hi hj hij
      simp only [List.getElem_map]
      intro q
      have hi' : i < ws.length := by simpa using hi
      have hj' : j < ws.length := by simpa using hj
      have := hD.1 i j ws[i] ws[j] (List.getElem?_eq_getElem hi') (List.getElem?_eq_getElem hj') q
      omega
    have nd2 : ((ws.filter (fun q => (h q.1).isSome)).map (fun q => q.1)).Nodup := List.Sublist.nodup (List.Sublist.map _ List.filter_sublist) nd
    have hi := (List.getElem?_eq_some_iff.mp hx).1
    have hj := (List.getElem?_eq_some_iff.mp hy).1
    have e1 : ((ws.filter (fun q => (h q.1).isSome)).map (fun q => q.1))[i]? = some x.1 := by rw [List.getElem?_map, hx]; rfl
    have e2 : ((ws.filter (fun q => (h q.1).isSome)).map (fun q => q.1))[j]? = some x.1 := by rw [List.getElem?_map, hy, hxy]; rfl
    rw [List.nodup_iff_pairwise_ne, List.pairwise_iff_getElem] at nd2
    rcases Nat.lt_trichotomy i j with q | q | q
    · refine absurd ?_ (nd2 i j (by simpa using hi) (by simpa using hj) q)
      rw [List.getElem?_eq_some_iff] at e1 e2
      obtain ⟨_, e1⟩ := e1
      obtain ⟨_, e2⟩ := e2
      rw [e1, e2]
    · exact q
    · refine absurd ?_ (nd2 j i (by simpa using hj) (by simpa using hi) q)
      rw [List.getElem?_eq_some_iff] at e1 e2
      obtain ⟨_, e1⟩ := e1
      obtain ⟨_, e2⟩ := e2
      rw [e1, e2]
  · have := (List.mem_filter.mp (List.mem_of_getElem? hk)).2
    exact Or.inl (fun q => by rw [q] at this; cases this)
  · obtain ⟨k, hk⟩ := hw a t e ha
    have : (a, e) ∈ ws.filter (fun q => (h q.1).isSome) := List.mem_filter.mpr ⟨List.mem_of_getElem? hk, by rw [ha]; rfl⟩
    exact List.mem_iff_getElem?.mp this
-- ints
def iI (z : Int) : Int32 := Int32.ofInt z
abbrev rI (z : Int) : Prop := -2147483648 ≤ z ∧ z ≤ 2147483647
theorem iI_toInt {z : Int} (h : rI z) : (iI z).toInt = z := by
  unfold iI
  rw [Int32.toInt_ofInt]
  obtain ⟨h1, h2⟩ := h
  have hs : (Int32.size : Int) = 4294967296 := rfl
  exact Int.bmod_eq_of_le (by omega) (by omega)
theorem iI_of (x : Int32) : iI x.toInt = x := by unfold iI; exact Int32.ofInt_toInt x
theorem rI_of (x : Int32) : rI x.toInt := by
  have h1 := x.le_toInt
  have h2 := x.toInt_lt
  exact ⟨by omega, by omega⟩
theorem iI_add (x y : Int) : iI x + iI y = iI (x + y) := (Int32.ofInt_add x y).symm
theorem iI_sub (x y : Int) : iI x - iI y = iI (x - y) := (Int32.ofInt_sub x y).symm
theorem iI_mul (x y : Int) : iI x * iI y = iI (x * y) := (Int32.ofInt_mul x y).symm
theorem iI_neg (x : Int) : -iI x = iI (-x) := (Int32.ofInt_neg x).symm
theorem iI_lt {x y : Int} (hx : rI x) (hy : rI y) : iI x < iI y ↔ x < y := by rw [Int32.lt_iff_toInt_lt, iI_toInt hx, iI_toInt hy]
theorem iI_le {x y : Int} (hx : rI x) (hy : rI y) : iI x ≤ iI y ↔ x ≤ y := by rw [Int32.le_iff_toInt_le, iI_toInt hx, iI_toInt hy]
theorem iI_eq {x y : Int} (hx : rI x) (hy : rI y) : iI x = iI y ↔ x = y := ⟨fun h => by rw [← iI_toInt hx, ← iI_toInt hy, h], fun h => by rw [h]⟩
theorem iI_0 : iI 0 = 0 := by decide
theorem iI_cl {z : Int} (h : rI z) : (iI z).toNatClampNeg = z.toNat := by
  rw [Int32.toNatClampNeg, iI_toInt h]
theorem iI_in {z : Int} {n : Nat} (h0 : 0 ≤ z) (h1 : z < n) (hr : rI z) : vp_in (iI z) n := vp_in_iff.mpr (by rw [iI_toInt hr]; exact ⟨h0, h1⟩)
theorem iI_div {a b : Int} (ha : 0 ≤ a) (hra : rI a) (hb : 0 < b) (hrb : rI b) : iI a / iI b = iI (a / b) := by
  apply Int32.toInt_inj.mp
  rw [Int32.toInt_div, iI_toInt hra, iI_toInt hrb, iI_toInt]
  · rw [Int.tdiv_eq_ediv_of_nonneg ha]
    exact Int.bmod_eq_of_le (by have := Int.ediv_nonneg ha (by omega : 0 ≤ b); omega) (by have := Int.ediv_le_self b ha; have := hra.2; omega)
  · exact ⟨by have := Int.ediv_nonneg ha (by omega : 0 ≤ b); omega, by have := Int.ediv_le_self b ha; have := hra.2; omega⟩
theorem iI_rem {a b : Int} (ha : 0 ≤ a) (hra : rI a) (hb : 0 < b) (hrb : rI b) : iI a - iI a / iI b * iI b = iI (a % b) := by
  rw [iI_div ha hra hb hrb, iI_mul, iI_sub]
  congr 1
  have := Int.emod_add_mul_ediv a b
  rw [Int.mul_comm] at this
  omega
def bI (b : Bool) : Int := if b = true then 1 else 0
theorem bI_t : bI true = 1 := rfl
theorem bI_f : bI false = 0 := rfl
theorem bI_r (b : Bool) : rI (bI b) := by cases b <;> decide
theorem bI_0 (b : Bool) : bI b = 0 ↔ b = false := by cases b <;> decide
/-- an array's content by Ints -/
def iF (f : Int → Int) : Nat → Int32 := fun k => iI (f k)
def upZ (f : Int → Int) (i v : Int) : Int → Int := fun j => if j = i then v else f j
theorem upZ_s {f : Int → Int} {i v : Int} : upZ f i v i = v := if_pos rfl
theorem upZ_n {f : Int → Int} {i v j : Int} (n : j ≠ i) : upZ f i v j = f j := if_neg n
theorem iF_at {f : Int → Int} {z : Int} (h0 : 0 ≤ z) (hr : rI z) : iF f (iI z).toNatClampNeg = iI (f z) := by
  rw [iI_cl hr]
  unfold iF
  rw [Int.toNat_of_nonneg h0]
theorem iF_up {f : Int → Int} {z v : Int} (h0 : 0 ≤ z) (hr : rI z) : upd (iF f) (iI z).toNatClampNeg (iI v) = iF (upZ f z v) := by
  rw [iI_cl hr]
  funext k
  unfold upd iF upZ
  by_cases q : k = z.toNat
  · rw [if_pos q, if_pos (by omega)]
  · rw [if_neg q, if_neg (by omega)]
-- locals
def lhas (ls : Array Slot) (nL : Nat) (L : List (Option Value)) : Prop := ∃ l : List (Nat × Value), lv_has ls nL l ∧ ∀ (i : Nat) (v : Value), L[i]? = some (some v) → (i, v) ∈ l
theorem lhas_at {ls : Array Slot} {nL : Nat} {L : List (Option Value)} (h : lhas ls nL L) {i : Nat} {v : Value} (hi : L[i]? = some (some v)) : ls[i]? = some (.val v) := by
  obtain ⟨l, h1, h2⟩ := h
  exact h1.2.2 (i, v) (h2 i v hi)
theorem lhas_sub {ls : Array Slot} {nL : Nat} {L L' : List (Option Value)} (h : lhas ls nL L) (hs : ∀ (i : Nat) (v : Value), L'[i]? = some (some v) → L[i]? = some (some v)) : lhas ls nL L' := by
  obtain ⟨l, h1, h2⟩ := h
  exact ⟨l, h1, fun i v q => h2 i v (hs i v q)⟩
/-- an entry that a store behind it does not kill -/
def oc1 : Option Value → Bool
  | some v => v.category == 1
  | none => true
def lset1 (L : List (Option Value)) (i : Nat) (v : Value) : List (Option Value) := L.set i (some v)
theorem lhas_set {ls : Array Slot} {nL : Nat} {L : List (Option Value)} {i : Nat} {v : Value} (h : lhas ls nL L) (hi : i < nL) (hc : v.category = 1) (hp : ∀ w, i ≠ 0 → L[i - 1]? = some w → oc1 w = true) : ∃ l : List (Nat × Value), lv_has ls nL l ∧ ∀ ls' : Array Slot, lv_has ls' nL ((i, v) :: l.filter (fun q => !(q.1 == i) && !(q.1 + 1 == i && q.2.category == 2))) → lhas ls' nL (L.set i (some v)) := by
  obtain ⟨l, h1, h2⟩ := h
  refine ⟨l, h1, fun ls' h' => ⟨_, h', fun j w hj => ?_⟩⟩
  by_cases q : j = i
  · subst q
    rw [List.getElem?_set_self' ] at hj
    cases hL : L[j]? with
    | none => rw [hL] at hj; cases hj
    | some x => rw [hL] at hj; simp at hj; subst hj; exact List.mem_cons_self
  · rw [List.getElem?_set_ne (fun z => q z.symm)] at hj
    refine List.mem_cons_of_mem _ (List.mem_filter.mpr ⟨h2 j w hj, ?_⟩)
    have e1 : (j == i) = false := by simpa using q
    simp only [e1, Bool.not_false, Bool.true_and, Bool.not_eq_true', Bool.and_eq_false_iff, beq_eq_false_iff_ne]
    by_cases z : j + 1 = i
    · refine Or.inr ?_
      have := hp (some w) (by omega) (by rw [← z]; exact hj)
      unfold oc1 at this
      simp only [beq_iff_eq] at this
      rw [this]
      decide
    · exact Or.inl z
/-- the locals with which a method begins -/
theorem argL (as : List Value) (n : Nat) (hc : as.all (fun v => v.category == 1) = true) : ∀ (i : Nat) (v : Value), (as.map some ++ List.replicate n none)[i]? = some (some v) → (i, v) ∈ lv_args 0 as := by
  have key : ∀ (as : List Value) (b : Nat), as.all (fun v => v.category == 1) = true → ∀ (i : Nat) (v : Value), (as.map some ++ List.replicate n none)[i]? = some (some v) → (b + i, v) ∈ lv_args b as := by
    intro as
    induction as with
    | nil =>
      intro b _ i v h
      simp only [List.map_nil, List.nil_append] at h
      have := List.eq_of_mem_replicate (List.mem_of_getElem? h)
      cases this
    | cons x xs ih =>
      intro b hc i v h
      simp only [List.all_cons, Bool.and_eq_true, beq_iff_eq] at hc
      unfold lv_args
      rw [if_neg (by omega)]
      cases i with
      | zero =>
        simp at h
        subst h
        exact List.mem_cons_self
      | succ i =>
        refine List.mem_cons_of_mem _ ?_
        have := ih (b + 1) hc.2 i v (by simpa using h)
        rw [show b + (i + 1) = b + 1 + i by omega]
        exact this
  intro i v h
  have := key as 0 hc i v h
  rwa [Nat.zero_add] at this

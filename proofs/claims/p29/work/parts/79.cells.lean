/-! the law's look at all cells -/
def smG (e : Int → Int) : Nat → Int
  | 0 => 0
  | n + 1 => smG e n + e n
theorem sm48 (e : Int → Int) : smG e 48 = 0 + e 0 + e 1 + e 2 + e 3 + e 4 + e 5 + e 6 + e 7 + e 8 + e 9 + e 10 + e 11 + e 12 + e 13 + e 14 + e 15 + e 16 + e 17 + e 18 + e 19 + e 20 + e 21 + e 22 + e 23 + e 24 + e 25 + e 26 + e 27 + e 28 + e 29 + e 30 + e 31 + e 32 + e 33 + e 34 + e 35 + e 36 + e 37 + e 38 + e 39 + e 40 + e 41 + e 42 + e 43 + e 44 + e 45 + e 46 + e 47 := rfl
set_option maxRecDepth 20000 in
set_option maxHeartbeats 4000000 in
theorem perm48 (d e : Int → Int) (h : ∀ c r, 0 ≤ c → c < 6 → 0 ≤ r → r < 8 → d (8 * c + r) = e (6 * r + c)) : smG d 48 = smG e 48 := by
  rw [sm48, sm48]
  have h0 : d 0 = e 0 := h 0 0 (by decide) (by decide) (by decide) (by decide)
  have h1 : d 1 = e 6 := h 0 1 (by decide) (by decide) (by decide) (by decide)
  have h2 : d 2 = e 12 := h 0 2 (by decide) (by decide) (by decide) (by decide)
  have h3 : d 3 = e 18 := h 0 3 (by decide) (by decide) (by decide) (by decide)
  have h4 : d 4 = e 24 := h 0 4 (by decide) (by decide) (by decide) (by decide)
  have h5 : d 5 = e 30 := h 0 5 (by decide) (by decide) (by decide) (by decide)
  have h6 : d 6 = e 36 := h 0 6 (by decide) (by decide) (by decide) (by decide)
  have h7 : d 7 = e 42 := h 0 7 (by decide) (by decide) (by decide) (by decide)
  have h8 : d 8 = e 1 := h 1 0 (by decide) (by decide) (by decide) (by decide)
  have h9 : d 9 = e 7 := h 1 1 (by decide) (by decide) (by decide) (by decide)
  have h10 : d 10 = e 13 := h 1 2 (by decide) (by decide) (by decide) (by decide)
  have h11 : d 11 = e 19 := h 1 3 (by decide) (by decide) (by decide) (by decide)
  have h12 : d 12 = e 25 := h 1 4 (by decide) (by decide) (by decide) (by decide)
  have h13 : d 13 = e 31 := h 1 5 (by decide) (by decide) (by decide) (by decide)
  have h14 : d 14 = e 37 := h 1 6 (by decide) (by decide) (by decide) (by decide)
  have h15 : d 15 = e 43 := h 1 7 (by decide) (by decide) (by decide) (by decide)
  have h16 : d 16 = e 2 := h 2 0 (by decide) (by decide) (by decide) (by decide)
  have h17 : d 17 = e 8 := h 2 1 (by decide) (by decide) (by decide) (by decide)
  have h18 : d 18 = e 14 := h 2 2 (by decide) (by decide) (by decide) (by decide)
  have h19 : d 19 = e 20 := h 2 3 (by decide) (by decide) (by decide) (by decide)
  have h20 : d 20 = e 26 := h 2 4 (by decide) (by decide) (by decide) (by decide)
  have h21 : d 21 = e 32 := h 2 5 (by decide) (by decide) (by decide) (by decide)
  have h22 : d 22 = e 38 := h 2 6 (by decide) (by decide) (by decide) (by decide)
  have h23 : d 23 = e 44 := h 2 7 (by decide) (by decide) (by decide) (by decide)
  have h24 : d 24 = e 3 := h 3 0 (by decide) (by decide) (by decide) (by decide)
  have h25 : d 25 = e 9 := h 3 1 (by decide) (by decide) (by decide) (by decide)
  have h26 : d 26 = e 15 := h 3 2 (by decide) (by decide) (by decide) (by decide)
  have h27 : d 27 = e 21 := h 3 3 (by decide) (by decide) (by decide) (by decide)
  have h28 : d 28 = e 27 := h 3 4 (by decide) (by decide) (by decide) (by decide)
  have h29 : d 29 = e 33 := h 3 5 (by decide) (by decide) (by decide) (by decide)
  have h30 : d 30 = e 39 := h 3 6 (by decide) (by decide) (by decide) (by decide)
  have h31 : d 31 = e 45 := h 3 7 (by decide) (by decide) (by decide) (by decide)
  have h32 : d 32 = e 4 := h 4 0 (by decide) (by decide) (by decide) (by decide)
  have h33 : d 33 = e 10 := h 4 1 (by decide) (by decide) (by decide) (by decide)
  have h34 : d 34 = e 16 := h 4 2 (by decide) (by decide) (by decide) (by decide)
  have h35 : d 35 = e 22 := h 4 3 (by decide) (by decide) (by decide) (by decide)
  have h36 : d 36 = e 28 := h 4 4 (by decide) (by decide) (by decide) (by decide)
  have h37 : d 37 = e 34 := h 4 5 (by decide) (by decide) (by decide) (by decide)
  have h38 : d 38 = e 40 := h 4 6 (by decide) (by decide) (by decide) (by decide)
  have h39 : d 39 = e 46 := h 4 7 (by decide) (by decide) (by decide) (by decide)
  have h40 : d 40 = e 5 := h 5 0 (by decide) (by decide) (by decide) (by decide)
  have h41 : d 41 = e 11 := h 5 1 (by decide) (by decide) (by decide) (by decide)
  have h42 : d 42 = e 17 := h 5 2 (by decide) (by decide) (by decide) (by decide)
  have h43 : d 43 = e 23 := h 5 3 (by decide) (by decide) (by decide) (by decide)
  have h44 : d 44 = e 29 := h 5 4 (by decide) (by decide) (by decide) (by decide)
  have h45 : d 45 = e 35 := h 5 5 (by decide) (by decide) (by decide) (by decide)
  have h46 : d 46 = e 41 := h 5 6 (by decide) (by decide) (by decide) (by decide)
  have h47 : d 47 = e 47 := h 5 7 (by decide) (by decide) (by decide) (by decide)
  omega
theorem smN_G (S : MSt) : ∀ n, smN S n = smG (S.1 0) n
  | 0 => rfl
  | n + 1 => by rw [smN, smG, smN_G S n]
theorem cnN_G (S : MSt) : ∀ n, cnN S n = smG (fun z => if S.1 0 z = 0 then 0 else 1) n
  | 0 => rfl
  | n + 1 => by rw [cnN, smG, cnN_G S n]
theorem smG_in {e : Int → Int} {a b : Int} : ∀ n : Nat, (∀ j : Nat, j < n → a ≤ e j ∧ e j ≤ b) → a * n ≤ smG e n ∧ smG e n ≤ b * n
  | 0, _ => by simp [smG]
  | n + 1, h => by
    have h1 := smG_in n (fun j hj => h j (by omega))
    have h2 := h n (by omega)
    have e1 : a * ((n + 1 : Nat) : Int) = a * n + a := by rw [Int.natCast_succ, Int.mul_add, Int.mul_one]
    have e2 : b * ((n + 1 : Nat) : Int) = b * n + b := by rw [Int.natCast_succ, Int.mul_add, Int.mul_one]
    rw [smG, e1, e2]
    omega
def ruL (S : MSt) (x : Int) : Int := if ruledI S x < 0 then -900002 else ruledI S x
section
variable {l : Launch} {D : va_G} {cB cC cI cO cJ cD : ClassId} {ee : Nat × Nat} {P : Nat → Nat} {S X : MSt} {b : Int}
theorem KQ_ok {y : MethodName} {ws : List Cond} {As : List Value} {rm : Room} {mc ms : Nat} {V : Int} (z : Int) (hM : Ct l y ws rm D (tyL cB cC cI cO cJ cD) ee As (CW cI cO ee (TxH cB) P S X) (Ji (fun h z9 h' => z9 = V ∧ h' = h)) mc ms) (hV : V = z) (hf : rm.frames ≤ 20) (hl : rm.locals ≤ 500) (hc : rm.cells ≤ 12) (hs : rm.slots ≤ 40) (hm : mc ≤ 12 ∧ ms ≤ 40) : Ct l y ws ({ frames := 20, cells := 12, slots := 40, locals := 500 } : Room) D (tyL cB cC cI cO cJ cD) ee As (CW cI cO ee (TxH cB) P S X) (fun h v h' => v = some (.int (iI z)) ∧ h' = h) 12 40 := by
  refine Ct_room (Ct_mono hM (fun h hh => hh) (fun h v h' hh hj => ?_)) hf hl hc hs hm
  obtain ⟨w, rfl, rfl, rfl⟩ := hj
  exact ⟨by rw [hV], rfl⟩
theorem KQ_er {y : MethodName} {ws : List Cond} {As : List Value} {rm : Room} {mc ms : Nat} {z : Int} (hM : Ct l y ws rm D (tyL cB cC cI cO cJ cD) ee As (CW cI cO ee (TxH cB) P S X) (fun h v h' => v = some (.int (iI z)) ∧ h' = h) mc ms) (hf : rm.frames ≤ 20) (hl : rm.locals ≤ 500) (hc : rm.cells ≤ 12) (hs : rm.slots ≤ 40) (hm : mc ≤ 12 ∧ ms ≤ 40) : Ct l y ws ({ frames := 20, cells := 12, slots := 40, locals := 500 } : Room) D (tyL cB cC cI cO cJ cD) ee As (CW cI cO ee (TxH cB) P S X) (fun h v h' => v = some (.int (iI z)) ∧ h' = h) 12 40 := Ct_room hM hf hl hc hs hm
theorem KQ_cell (hI : INV S X b) {c r : Int} (hc9 : 0 ≤ c ∧ c < 6) (hr9 : 0 ≤ r ∧ r < 8) : Ct l yL_cell_ wsL_cell_ ({ frames := 20, cells := 12, slots := 40, locals := 500 } : Room) D (tyL cB cC cI cO cJ cD) ee [.ref (P 1), .int (iI c), .int (iI r)] (CW cI cO ee (TxH cB) P S X) (fun h v h' => v = some (.int (iI (S.1 0 (6 * r + c)))) ∧ h' = h) 12 40 :=
  KQ_ok _ (kW_cell_ (kX7_cell (P := P) (S := S) (X := X) ⟨⟨by omega, by omega⟩, by omega, by omega⟩ (cell_t hc9 hr9)) ⟨rfl, rfl⟩ (fun h hh => CW_1 hh) JI) rfl (Nat.le_of_ble_eq_true rfl) (Nat.le_of_ble_eq_true rfl) (Nat.le_of_ble_eq_true rfl) (Nat.le_of_ble_eq_true rfl) ⟨Nat.le_of_ble_eq_true rfl, Nat.le_of_ble_eq_true rfl⟩
theorem KQ_cellByAudit (hI : INV S X b) {c r : Int} (hc9 : 0 ≤ c ∧ c < 6) (hr9 : 0 ≤ r ∧ r < 8) : Ct l yL_cellByAudit wsL_cellByAudit ({ frames := 20, cells := 12, slots := 40, locals := 500 } : Room) D (tyL cB cC cI cO cJ cD) ee [.ref (P 1), .int (iI c), .int (iI r)] (CW cI cO ee (TxH cB) P S X) (fun h v h' => v = some (.int (iI (S.1 0 (6 * r + c)))) ∧ h' = h) 12 40 :=
  KQ_ok _ (kW_cellByAudit (kX7_cellByAudit (P := P) (S := S) (X := X) ⟨⟨by omega, by omega⟩, by omega, by omega⟩ (cell_t hc9 hr9) (hF_of hI)) ⟨rfl, rfl⟩ (fun h hh => CW_1 hh) JI) (hI.1.2.2.2.1.2.2.2.1 (6 * r + c) (by omega) (by omega)) (Nat.le_of_ble_eq_true rfl) (Nat.le_of_ble_eq_true rfl) (Nat.le_of_ble_eq_true rfl) (Nat.le_of_ble_eq_true rfl) ⟨Nat.le_of_ble_eq_true rfl, Nat.le_of_ble_eq_true rfl⟩
theorem KQ_granted (hI : INV S X b) {c r : Int} (hc9 : 0 ≤ c ∧ c < 6) (hr9 : 0 ≤ r ∧ r < 8) : Ct l yL_granted wsL_granted ({ frames := 20, cells := 12, slots := 40, locals := 500 } : Room) D (tyL cB cC cI cO cJ cD) ee [.ref (P 1), .int (iI c), .int (iI r)] (CW cI cO ee (TxH cB) P S X) (fun h v h' => v = some (.int (iI (gcN S (6 * r + c) (S.2 22).toNat))) ∧ h' = h) 12 40 :=
  KQ_ok _ (kW_granted (kX7_granted (P := P) (S := S) (X := X) hI.1.1.1 ⟨⟨by omega, by omega⟩, by omega, by omega⟩ (cell_t hc9 hr9)) ⟨rfl, rfl⟩ (fun h hh => CW_1 hh) JI) rfl (Nat.le_of_ble_eq_true rfl) (Nat.le_of_ble_eq_true rfl) (Nat.le_of_ble_eq_true rfl) (Nat.le_of_ble_eq_true rfl) ⟨Nat.le_of_ble_eq_true rfl, Nat.le_of_ble_eq_true rfl⟩
theorem KQ_rule (hI : INV S X b) (hst : l.stackTraces = false) {c r : Int} (hc9 : 0 ≤ c ∧ c < 6) (hr9 : 0 ≤ r ∧ r < 8) : Ct l yL_rule wsL_rule ({ frames := 20, cells := 12, slots := 40, locals := 500 } : Room) D (tyL cB cC cI cO cJ cD) ee [.ref (P 1), .int (iI c), .int (iI r)] (CW cI cO ee (TxH cB) P S X) (fun h v h' => v = some (.int (iI (ruL S (6 * r + c)))) ∧ h' = h) 12 40 := by
  have hr8 := ruledI_in (S := S) (x := atI c r) ⟨hI.1.1.1.2.2.2.2.1.2.2.1, hI.1.1.1.2.2.2.2.1.2.2.2.1⟩
  by_cases hl : ruledI S (6 * r + c) < 0
  · rw [show ruL S (6 * r + c) = -900002 from if_pos hl]
    exact KQ_er (kW_rule_2 (xX7_rule_n (P := P) (S := S) (X := X) hI.1.1.1 ⟨⟨by omega, by omega⟩, by omega, by omega⟩ (cell_t hc9 hr9) (by have : ruledI S (atI c r) < 0 := hl; omega) hst) ⟨rfl, rfl⟩ (fun h hh => CW_1 hh)) (Nat.le_of_ble_eq_true rfl) (Nat.le_of_ble_eq_true rfl) (Nat.le_of_ble_eq_true rfl) (Nat.le_of_ble_eq_true rfl) ⟨Nat.le_of_ble_eq_true rfl, Nat.le_of_ble_eq_true rfl⟩
  · rw [show ruL S (6 * r + c) = ruledI S (6 * r + c) from if_neg hl]
    exact KQ_ok _ (kW_rule (kX7_rule (P := P) (S := S) (X := X) hI.1.1.1 ⟨⟨by omega, by omega⟩, by omega, by omega⟩ (cell_t hc9 hr9) (by have : ¬ ruledI S (atI c r) < 0 := hl; omega)) ⟨rfl, rfl⟩ (fun h hh => CW_1 hh) JI) rfl (Nat.le_of_ble_eq_true rfl) (Nat.le_of_ble_eq_true rfl) (Nat.le_of_ble_eq_true rfl) (Nat.le_of_ble_eq_true rfl) ⟨Nat.le_of_ble_eq_true rfl, Nat.le_of_ble_eq_true rfl⟩
end
section
variable {p : Program} {l : Launch} {e : Env} {R : Room} {s : State} {m : MethodId} {args : Array Value} {below : List Frame} {meth : Method} {c : Code} {cells slots : Nat} {Q : State → Prop} {D : va_G} {tys : List (ClassId × FieldType)} {A : Nat → Prop} {nL : Nat} {cc : ByteArray} {Ts : List Cond} {own : String} {ee : Nat × Nat}
variable {I : Hp → Prop} {pc pc' : Nat} {L : List (Option Value)} {st : List Value}
theorem V_sameNE {x y : Int} {off : Int} {tgt : Nat} (C : Cx p m c cc nL s args Ts own D tys A ee) (hv : x = y) (d : decode cc pc = .ok (.if_icmp .ne off, 3)) (ht : (pc : Int) + off = (tgt : Int)) (e0 : pc + 3 = pc') (k : Vx p l e R s m args below meth c cells slots Q D A nL I pc' L st) : Vx p l e R s m args below meth c cells slots Q D A nL I pc L (.int (iI y) :: .int (iI x) :: st) := by
  subst hv
  exact V_sameN C d ht e0 k
theorem V_iand11 (C : Cx p m c cc nL s args Ts own D tys A ee) (d : decode cc pc = .ok (.iand, 1)) (e0 : pc + 1 = pc') (k : Vx p l e R s m args below meth c cells slots Q D A nL I pc' L (.int (iI 1) :: st)) : Vx p l e R s m args below meth c cells slots Q D A nL I pc L (.int (iI 1) :: .int (iI 1) :: st) := by
  subst e0
  refine V_of (fun H locs ls hl kk => lv_iand C.1.1 C.1.2.1 d ?_) k
  rw [show iI 1 &&& iI 1 = iI 1 by decide]
  exact kk
end
theorem ydL_areCells : yL_areCells.cls ≠ "java/lang/invoke/MethodHandle" ∧ yL_areCells.cls ≠ "java/lang/invoke/VarHandle" ∧ (parseMethodDescriptor yL_areCells.desc).map (fun d => d.parameters.length) = some 2 := by decide +kernel
section
variable {l : Launch} {D : va_G} {cB cC cI cO cJ cD : ClassId} {ee : Nat × Nat} {na nb : Nat} {P : Nat → Nat} {S X : MSt} {f g : Int → Int} {k : Nat}
set_option maxHeartbeats 8000000 in
set_option maxRecDepth 100000 in
theorem kL_areCells (hst : l.stackTraces = false) (hW : WS k S X f g) : Ct l yL_areCells wsL_areCells ({ frames := 21, cells := 2400, slots := 8000, locals := 800 } : Room) D (tyL cB cC cI cO cJ cD) ee [.ref (P 1), .ref na] (WD cB cI cO ee na nb P S X f g) (fun h v9 h' => v9 = some (.int (iI 1)) ∧ h' = h) (2400) (8000) := by
  refine Ct_of (cc := cL_areCells) (own := RL) [some (.ref (P 1)), some (.ref na), none, none, none, none, none, none] (by decide) rfl rfl (Nat.le_of_ble_eq_true rfl) (fun i9 v9 h9 => argL [.ref (P 1), .ref na] 6 rfl i9 v9 h9) ?_
  intro p e s m9 args below meth c9 h0 sz hI C hr hlk hinit
  obtain ⟨hIv, hnr, h55, hk9, h31, hlx⟩ := hW
  have hwp := hIv.1.1.1
  have w5 := hwp.2.2.2.2.1
  obtain ⟨n50, n51, n52, n53, n54, n56, n57⟩ := id hnr.2.2.2.2.1
  have hA := hI.2.1
  refine V_iconst (pc' := 1) C dL_areCells_0 rfl ?_
  refine V_istore2 (pc' := 2) C dL_areCells_1 rfl (by decide) rfl ?_
  refine V_iconst (pc' := 3) C dL_areCells_2 rfl ?_
  refine V_istore3 (pc' := 4) C dL_areCells_3 rfl (by decide) rfl ?_
  refine V_iconst (pc' := 5) C dL_areCells_4 rfl ?_
  refine V_istore4 (pc' := 7) C dL_areCells_5 rfl (by decide) rfl ?_
  refine V_forC (N := 48) (fun _ => fun x => x = h0) (fun j => [some (.ref (P 1)), some (.ref na), some (.int (iI (smG f j))), some (.int (iI (smG (fun z => if f z = 0 then 0 else 1) j))), some (.int (iI j)), none, none, none]) (fun _ => True) (fun j => 48 * j) (fun j => 160 * j) trivial (fun x hx => hx) rfl ⟨Nat.zero_le _, Nat.zero_le _⟩ (fun j hj hv hk => ?_) (fun hv => ?_)
  · obtain ⟨cc, hcc⟩ : ∃ z : Int, z = (j : Int) / 8 := ⟨_, rfl⟩
    obtain ⟨rr, hrr⟩ : ∃ z : Int, z = (j : Int) % 8 := ⟨_, rfl⟩
    have hc8 : 0 ≤ cc ∧ cc < 6 := by omega
    have hr8 : 0 ≤ rr ∧ rr < 8 := by omega
    have hej : (j : Int) = 8 * cc + rr := by omega
    have hfj : f (j : Int) = S.1 0 (6 * rr + cc) := by rw [hej]; exact hnr.c hc8 hr8
    have hcj := hwp.2.2.2.2.2 (6 * rr + cc) (by omega) (by omega)
    have hru := ruledI_in (S := S) (x := 6 * rr + cc) ⟨w5.2.2.1, w5.2.2.2.1⟩
    refine V_iload4 (pc' := 9) C dL_areCells_7 rfl ?_
    refine V_bipush (pc' := 11) C dL_areCells_9 rfl (by decide) ?_
    refine V_icmpge (tgt := 200) C (by omega) dL_areCells_11 (by decide) rfl (fun c_11 => ?_) (fun c_11 => ?_)
    · exact absurd c_11 (by omega)
    · refine V_aload1 (pc' := 15) C dL_areCells_14 rfl ?_
      refine V_iload4 (pc' := 17) C dL_areCells_15 rfl ?_
      refine V_bipush (pc' := 19) C dL_areCells_17 rfl (by decide) ?_
      refine V_idivE (pc' := 20) (v := cc) C ⟨by omega, by omega, by decide, by decide⟩ (by omega) dL_areCells_19 rfl ?_
      refine V_iload4 (pc' := 22) C dL_areCells_20 rfl ?_
      refine V_bipush (pc' := 24) C dL_areCells_22 rfl (by decide) ?_
      refine V_iremE (pc' := 25) (v := rr) C ⟨by omega, by omega, by decide, by decide⟩ (by omega) dL_areCells_24 rfl ?_
      refine V_callS (n := 3) [.ref na, .int (iI cc), .int (iI rr)] C (kL_rule_ (S := S) (c := cc) (r := rr) (f := f) hnr.1.1 hnr.2.2.2.1 n51 hwp hc8 hr8) gL_areCells_L_rule_ rfl ydL_rule_ ⟨Nat.le_of_ble_eq_true rfl, Nat.le_of_ble_eq_true rfl⟩ ⟨rfl, rfl⟩ rfl (fun h hh => by rw [hh]; exact hA) rfl (Nat.le_of_ble_eq_true rfl) dL_areCells_25 ⟨by dsimp only; omega, by dsimp only; omega⟩ (fun h v h' hh hj9 => ?_)
      obtain ⟨r9, rfl, rfl, rfl⟩ := hj9
      refine V_weak (I2 := fun x => x = h0) (fun x hx => by rw [hx]; exact hh) ?_
      refine V_istore5 (pc' := 30) C dL_areCells_28 rfl (by decide) rfl ?_
      refine V_iconst (pc' := 31) C dL_areCells_30 rfl ?_
      refine V_istore6 (pc' := 33) C dL_areCells_31 rfl (by decide) rfl ?_
      refine V_iconst (pc' := 34) C dL_areCells_33 rfl ?_
      refine V_istore7 (pc' := 36) C dL_areCells_34 rfl (by decide) rfl ?_
      refine V_for0 (N := (S.2 22).toNat) (fun _ => fun x => x = h0) (fun q => [some (.ref (P 1)), some (.ref na), some (.int (iI (smG f j))), some (.int (iI (smG (fun z => if f z = 0 then 0 else 1) j))), some (.int (iI j)), some (.int (iI (ruledI S (6 * rr + cc)))), some (.int (iI (gcN S (6 * rr + cc) q))), some (.int (iI q))]) (fun _ => True) trivial (fun h q => q) rfl (fun q hj hv hk => ?_) (fun hv => ?_)
      · refine V_iload7 (pc' := 38) C dL_areCells_36 rfl ?_
        refine V_aload1 (pc' := 39) C dL_areCells_38 rfl ?_
        refine V_bipush (pc' := 41) C dL_areCells_39 rfl (by decide) ?_
        refine V_ialdE (pc' := 42) (n := 540) (f := f) (v := S.2 22) C 2 rfl (fun h hh => ⟨901, by rw [hh]; exact hA⟩) ⟨by omega, by omega, by omega⟩ (n50) dL_areCells_41 rfl ?_
        refine V_icmpge (tgt := 80) C ⟨by omega, by omega⟩ dL_areCells_42 (by decide) rfl (fun c_42 => ?_) (fun c_42 => ?_)
        · exact absurd c_42 (by omega)
        · refine V_iload6 (pc' := 47) C dL_areCells_45 rfl ?_
          refine V_aload1 (pc' := 48) C dL_areCells_47 rfl ?_
          refine V_iload7 (pc' := 50) C dL_areCells_48 rfl ?_
          refine V_iload4 (pc' := 52) C dL_areCells_50 rfl ?_
          refine V_bipush (pc' := 54) C dL_areCells_52 rfl (by decide) ?_
          refine V_idivE (pc' := 55) (v := cc) C ⟨by omega, by omega, by decide, by decide⟩ (by omega) dL_areCells_54 rfl ?_
          refine V_iload4 (pc' := 57) C dL_areCells_55 rfl ?_
          refine V_bipush (pc' := 59) C dL_areCells_57 rfl (by decide) ?_
          refine V_iremE (pc' := 60) (v := rr) C ⟨by omega, by omega, by decide, by decide⟩ (by omega) dL_areCells_59 rfl ?_
          refine V_callS (n := 4) [.ref na, .int (iI q), .int (iI cc), .int (iI rr)] C (kL_isGranted (S := S) (q := (q : Int)) (c := cc) (r := rr) (f := f) hnr.1.1 hnr.2.2.1 hwp (by omega) hc8 hr8) gL_areCells_L_isGranted rfl ydL_isGranted ⟨Nat.le_of_ble_eq_true rfl, Nat.le_of_ble_eq_true rfl⟩ ⟨rfl, rfl⟩ rfl (fun h hh => by rw [hh]; exact hA) rfl (Nat.le_of_ble_eq_true rfl) dL_areCells_60 ⟨by dsimp only; omega, by dsimp only; omega⟩ (fun h v h' hh hj9 => ?_)
          obtain ⟨r9, rfl, rfl, rfl⟩ := hj9
          refine V_weak (I2 := fun x => x = h0) (fun x hx => by rw [hx]; exact hh) ?_
          refine V_ifeqB (tgt := 70) C dL_areCells_63 (by decide) rfl (fun c_63 => ?_) (fun c_63 => ?_)
          · refine V_iconst (pc' := 71) C dL_areCells_70 rfl ?_
            refine V_iadd (pc' := 72) C dL_areCells_71 rfl ?_
            refine V_istore6 (pc' := 74) C dL_areCells_72 rfl (by decide) rfl ?_
            refine V_iinc7 (pc' := 77) C dL_areCells_74 rfl (by decide) rfl ?_
            refine V_goto (tgt := 36) C dL_areCells_77 (by decide) ?_
            have hgs : gcN S (6 * rr + cc) (q + 1) = gcN S (6 * rr + cc) q + (if isGrantedB S q (6 * rr + cc) = true then 1 else 0) := rfl
            exact V_conv (fun h q => q) (by rw [hgs]; first | (rw [if_pos (by exact c_63)]; simp; done) | (rw [if_neg (by rw [c_63]; decide)]; simp; done)) (hk trivial)
          · refine V_iconst (pc' := 67) C dL_areCells_66 rfl ?_
            refine V_goto (tgt := 71) C dL_areCells_67 (by decide) ?_
            refine V_iadd (pc' := 72) C dL_areCells_71 rfl ?_
            refine V_istore6 (pc' := 74) C dL_areCells_72 rfl (by decide) rfl ?_
            refine V_iinc7 (pc' := 77) C dL_areCells_74 rfl (by decide) rfl ?_
            refine V_goto (tgt := 36) C dL_areCells_77 (by decide) ?_
            have hgs : gcN S (6 * rr + cc) (q + 1) = gcN S (6 * rr + cc) q + (if isGrantedB S q (6 * rr + cc) = true then 1 else 0) := rfl
            exact V_conv (fun h q => q) (by rw [hgs]; first | (rw [if_pos (by exact c_63)]; simp; done) | (rw [if_neg (by rw [c_63]; decide)]; simp; done)) (hk trivial)
      · refine V_iload7 (pc' := 38) C dL_areCells_36 rfl ?_
        refine V_aload1 (pc' := 39) C dL_areCells_38 rfl ?_
        refine V_bipush (pc' := 41) C dL_areCells_39 rfl (by decide) ?_
        refine V_ialdE (pc' := 42) (n := 540) (f := f) (v := S.2 22) C 2 rfl (fun h hh => ⟨901, by rw [hh]; exact hA⟩) ⟨by omega, by omega, by omega⟩ (n50) dL_areCells_41 rfl ?_
        refine V_icmpge (tgt := 80) C ⟨by omega, by omega⟩ dL_areCells_42 (by decide) rfl (fun c_42 => ?_) (fun c_42 => ?_)
        · refine V_iload2 (pc' := 81) C dL_areCells_80 rfl ?_
          refine V_aload1 (pc' := 82) C dL_areCells_81 rfl ?_
          refine V_iload4 (pc' := 84) C dL_areCells_82 rfl ?_
          refine V_iald (pc' := 85) (n := 540) (f := f) C 2 rfl (fun h hh => ⟨901, by rw [hh]; exact hA⟩) ⟨by omega, by omega, by omega⟩ dL_areCells_84 rfl ?_
          refine V_iadd (pc' := 86) C dL_areCells_85 rfl ?_
          refine V_istore2 (pc' := 87) C dL_areCells_86 rfl (by decide) rfl ?_
          refine V_iload3 (pc' := 88) C dL_areCells_87 rfl ?_
          refine V_aload1 (pc' := 89) C dL_areCells_88 rfl ?_
          refine V_iload4 (pc' := 91) C dL_areCells_89 rfl ?_
          refine V_iald (pc' := 92) (n := 540) (f := f) C 2 rfl (fun h hh => ⟨901, by rw [hh]; exact hA⟩) ⟨by omega, by omega, by omega⟩ dL_areCells_91 rfl ?_
          refine V_ifne (tgt := 99) C (by rw [hfj]; omega) dL_areCells_92 (by decide) rfl (fun c_92 => ?_) (fun c_92 => ?_)
          · refine V_iconst (pc' := 100) C dL_areCells_99 rfl ?_
            refine V_iadd (pc' := 101) C dL_areCells_100 rfl ?_
            refine V_istore3 (pc' := 102) C dL_areCells_101 rfl (by decide) rfl ?_
            refine V_aload0 (pc' := 103) C dL_areCells_102 rfl ?_
            refine V_iload4 (pc' := 105) C dL_areCells_103 rfl ?_
            refine V_bipush (pc' := 107) C dL_areCells_105 rfl (by decide) ?_
            refine V_idivE (pc' := 108) (v := cc) C ⟨by omega, by omega, by decide, by decide⟩ (by omega) dL_areCells_107 rfl ?_
            refine V_iload4 (pc' := 110) C dL_areCells_108 rfl ?_
            refine V_bipush (pc' := 112) C dL_areCells_110 rfl (by decide) ?_
            refine V_iremE (pc' := 113) (v := rr) C ⟨by omega, by omega, by decide, by decide⟩ (by omega) dL_areCells_112 rfl ?_
            refine V_callSW (n := 3) [.ref (P 1), .int (iI cc), .int (iI rr)] C (KQ_cell (P := P) hIv hc8 hr8) gL_areCells_L_cell_ rfl ydL_cell_ ⟨Nat.le_of_ble_eq_true rfl, Nat.le_of_ble_eq_true rfl⟩ ⟨rfl, rfl⟩ rfl (fun h hh => by rw [hh]; exact hI.1) rfl (Nat.le_of_ble_eq_true rfl) dL_areCells_113 ⟨by dsimp only; omega, by dsimp only; omega⟩ (fun h v h' hh hj9 => ?_)
            obtain ⟨rfl, rfl⟩ := hj9
            refine V_weak (I2 := fun x => x = h0) (fun x hx => by rw [hx]; exact hh) ?_
            refine V_aload1 (pc' := 117) C dL_areCells_116 rfl ?_
            refine V_iload4 (pc' := 119) C dL_areCells_117 rfl ?_
            refine V_iald (pc' := 120) (n := 540) (f := f) C 2 rfl (fun h hh => ⟨901, by rw [hh]; exact hA⟩) ⟨by omega, by omega, by omega⟩ dL_areCells_119 rfl ?_
            refine V_sameNE (pc' := 123) (tgt := 192) C (hfj.symm) dL_areCells_120 (by decide) rfl ?_
            refine V_aload0 (pc' := 124) C dL_areCells_123 rfl ?_
            refine V_iload4 (pc' := 126) C dL_areCells_124 rfl ?_
            refine V_bipush (pc' := 128) C dL_areCells_126 rfl (by decide) ?_
            refine V_idivE (pc' := 129) (v := cc) C ⟨by omega, by omega, by decide, by decide⟩ (by omega) dL_areCells_128 rfl ?_
            refine V_iload4 (pc' := 131) C dL_areCells_129 rfl ?_
            refine V_bipush (pc' := 133) C dL_areCells_131 rfl (by decide) ?_
            refine V_iremE (pc' := 134) (v := rr) C ⟨by omega, by omega, by decide, by decide⟩ (by omega) dL_areCells_133 rfl ?_
            refine V_callSW (n := 3) [.ref (P 1), .int (iI cc), .int (iI rr)] C (KQ_cellByAudit (P := P) hIv hc8 hr8) gL_areCells_L_cellByAudit rfl ydL_cellByAudit ⟨Nat.le_of_ble_eq_true rfl, Nat.le_of_ble_eq_true rfl⟩ ⟨rfl, rfl⟩ rfl (fun h hh => by rw [hh]; exact hI.1) rfl (Nat.le_of_ble_eq_true rfl) dL_areCells_134 ⟨by dsimp only; omega, by dsimp only; omega⟩ (fun h v h' hh hj9 => ?_)
            obtain ⟨rfl, rfl⟩ := hj9
            refine V_weak (I2 := fun x => x = h0) (fun x hx => by rw [hx]; exact hh) ?_
            refine V_aload1 (pc' := 138) C dL_areCells_137 rfl ?_
            refine V_iload4 (pc' := 140) C dL_areCells_138 rfl ?_
            refine V_iald (pc' := 141) (n := 540) (f := f) C 2 rfl (fun h hh => ⟨901, by rw [hh]; exact hA⟩) ⟨by omega, by omega, by omega⟩ dL_areCells_140 rfl ?_
            refine V_sameNE (pc' := 144) (tgt := 192) C (hfj.symm) dL_areCells_141 (by decide) rfl ?_
            refine V_aload0 (pc' := 145) C dL_areCells_144 rfl ?_
            refine V_iload4 (pc' := 147) C dL_areCells_145 rfl ?_
            refine V_bipush (pc' := 149) C dL_areCells_147 rfl (by decide) ?_
            refine V_idivE (pc' := 150) (v := cc) C ⟨by omega, by omega, by decide, by decide⟩ (by omega) dL_areCells_149 rfl ?_
            refine V_iload4 (pc' := 152) C dL_areCells_150 rfl ?_
            refine V_bipush (pc' := 154) C dL_areCells_152 rfl (by decide) ?_
            refine V_iremE (pc' := 155) (v := rr) C ⟨by omega, by omega, by decide, by decide⟩ (by omega) dL_areCells_154 rfl ?_
            refine V_callSW (n := 3) [.ref (P 1), .int (iI cc), .int (iI rr)] C (KQ_granted (P := P) hIv hc8 hr8) gL_areCells_L_granted rfl ydL_granted ⟨Nat.le_of_ble_eq_true rfl, Nat.le_of_ble_eq_true rfl⟩ ⟨rfl, rfl⟩ rfl (fun h hh => by rw [hh]; exact hI.1) rfl (Nat.le_of_ble_eq_true rfl) dL_areCells_155 ⟨by dsimp only; omega, by dsimp only; omega⟩ (fun h v h' hh hj9 => ?_)
            obtain ⟨rfl, rfl⟩ := hj9
            refine V_weak (I2 := fun x => x = h0) (fun x hx => by rw [hx]; exact hh) ?_
            refine V_iload6 (pc' := 160) C dL_areCells_158 rfl ?_
            refine V_sameNE (pc' := 163) (tgt := 192) C (rfl) dL_areCells_160 (by decide) rfl ?_
            refine V_aload0 (pc' := 164) C dL_areCells_163 rfl ?_
            refine V_iload4 (pc' := 166) C dL_areCells_164 rfl ?_
            refine V_bipush (pc' := 168) C dL_areCells_166 rfl (by decide) ?_
            refine V_idivE (pc' := 169) (v := cc) C ⟨by omega, by omega, by decide, by decide⟩ (by omega) dL_areCells_168 rfl ?_
            refine V_iload4 (pc' := 171) C dL_areCells_169 rfl ?_
            refine V_bipush (pc' := 173) C dL_areCells_171 rfl (by decide) ?_
            refine V_iremE (pc' := 174) (v := rr) C ⟨by omega, by omega, by decide, by decide⟩ (by omega) dL_areCells_173 rfl ?_
            refine V_callSW (n := 3) [.ref (P 1), .int (iI cc), .int (iI rr)] C (KQ_rule (P := P) hIv hst hc8 hr8) gL_areCells_L_rule rfl ydL_rule ⟨Nat.le_of_ble_eq_true rfl, Nat.le_of_ble_eq_true rfl⟩ ⟨rfl, rfl⟩ rfl (fun h hh => by rw [hh]; exact hI.1) rfl (Nat.le_of_ble_eq_true rfl) dL_areCells_174 ⟨by dsimp only; omega, by dsimp only; omega⟩ (fun h v h' hh hj9 => ?_)
            obtain ⟨rfl, rfl⟩ := hj9
            refine V_weak (I2 := fun x => x = h0) (fun x hx => by rw [hx]; exact hh) ?_
            refine V_iload5 (pc' := 179) C dL_areCells_177 rfl ?_
            refine V_ifge (tgt := 187) C (by omega) dL_areCells_179 (by decide) rfl (fun c_179 => ?_) (fun c_179 => ?_)
            · refine V_iload5 (pc' := 189) C dL_areCells_187 rfl ?_
              refine V_icmpeq (tgt := 194) C ⟨by unfold ruL; split <;> omega, by omega⟩ dL_areCells_189 (by decide) rfl (fun c_189 => ?_) (fun c_189 => ?_)
              · refine V_iinc4 (pc' := 197) C dL_areCells_194 rfl (by decide) rfl ?_
                refine V_goto (tgt := 7) C dL_areCells_197 (by decide) ?_
                have hs9 : smG f (j + 1) = smG f j + f j := rfl
                have hc9 : smG (fun z => if f z = 0 then 0 else 1) (j + 1) = smG (fun z => if f z = 0 then 0 else 1) j + (if f j = 0 then 0 else 1) := rfl
                refine V_widen (k := 48 * (j + 1)) (n := 160 * (j + 1)) (by omega) (by omega) ?_
                refine V_locals (L2 := [some (.ref (P 1)), some (.ref na), some (.int (iI (smG f (j + 1)))), some (.int (iI (smG (fun z => if f z = 0 then 0 else 1) (j + 1)))), some (.int (iI ((j + 1 : Nat) : Int))), none, none, none]) (fun i v hv => ?_) (hk trivial)
                · rcases i with _ | _ | _ | _ | _ | _ | _ | _ | i
                  all_goals (first | exact hv | (rw [hs9] at hv; exact hv) | (rw [hc9, if_pos (by first | exact c_92 | exact Classical.not_not.mp c_92)] at hv; exact hv) | (rw [hc9, if_neg (by exact c_92)] at hv; exact hv) | (simpa using hv; done) | (cases hv; done))
              · exact absurd c_189 (fun z => z (by unfold ruL; first | (rw [if_neg (by omega)]; done) | (rw [if_pos (by omega)]; done)))
            · refine V_ldc (pc' := 184) (n := (-900002)) (v := (-900002)) C (by decide +kernel) dL_areCells_182 rfl (by decide) ?_
              refine V_goto (tgt := 189) C dL_areCells_184 (by decide) ?_
              refine V_icmpeq (tgt := 194) C ⟨by unfold ruL; split <;> omega, by omega⟩ dL_areCells_189 (by decide) rfl (fun c_189 => ?_) (fun c_189 => ?_)
              · refine V_iinc4 (pc' := 197) C dL_areCells_194 rfl (by decide) rfl ?_
                refine V_goto (tgt := 7) C dL_areCells_197 (by decide) ?_
                have hs9 : smG f (j + 1) = smG f j + f j := rfl
                have hc9 : smG (fun z => if f z = 0 then 0 else 1) (j + 1) = smG (fun z => if f z = 0 then 0 else 1) j + (if f j = 0 then 0 else 1) := rfl
                refine V_widen (k := 48 * (j + 1)) (n := 160 * (j + 1)) (by omega) (by omega) ?_
                refine V_locals (L2 := [some (.ref (P 1)), some (.ref na), some (.int (iI (smG f (j + 1)))), some (.int (iI (smG (fun z => if f z = 0 then 0 else 1) (j + 1)))), some (.int (iI ((j + 1 : Nat) : Int))), none, none, none]) (fun i v hv => ?_) (hk trivial)
                · rcases i with _ | _ | _ | _ | _ | _ | _ | _ | i
                  all_goals (first | exact hv | (rw [hs9] at hv; exact hv) | (rw [hc9, if_pos (by first | exact c_92 | exact Classical.not_not.mp c_92)] at hv; exact hv) | (rw [hc9, if_neg (by exact c_92)] at hv; exact hv) | (simpa using hv; done) | (cases hv; done))
              · exact absurd c_189 (fun z => z (by unfold ruL; first | (rw [if_neg (by omega)]; done) | (rw [if_pos (by omega)]; done)))
          · refine V_iconst (pc' := 96) C dL_areCells_95 rfl ?_
            refine V_goto (tgt := 100) C dL_areCells_96 (by decide) ?_
            refine V_iadd (pc' := 101) C dL_areCells_100 rfl ?_
            refine V_istore3 (pc' := 102) C dL_areCells_101 rfl (by decide) rfl ?_
            refine V_aload0 (pc' := 103) C dL_areCells_102 rfl ?_
            refine V_iload4 (pc' := 105) C dL_areCells_103 rfl ?_
            refine V_bipush (pc' := 107) C dL_areCells_105 rfl (by decide) ?_
            refine V_idivE (pc' := 108) (v := cc) C ⟨by omega, by omega, by decide, by decide⟩ (by omega) dL_areCells_107 rfl ?_
            refine V_iload4 (pc' := 110) C dL_areCells_108 rfl ?_
            refine V_bipush (pc' := 112) C dL_areCells_110 rfl (by decide) ?_
            refine V_iremE (pc' := 113) (v := rr) C ⟨by omega, by omega, by decide, by decide⟩ (by omega) dL_areCells_112 rfl ?_
            refine V_callSW (n := 3) [.ref (P 1), .int (iI cc), .int (iI rr)] C (KQ_cell (P := P) hIv hc8 hr8) gL_areCells_L_cell_ rfl ydL_cell_ ⟨Nat.le_of_ble_eq_true rfl, Nat.le_of_ble_eq_true rfl⟩ ⟨rfl, rfl⟩ rfl (fun h hh => by rw [hh]; exact hI.1) rfl (Nat.le_of_ble_eq_true rfl) dL_areCells_113 ⟨by dsimp only; omega, by dsimp only; omega⟩ (fun h v h' hh hj9 => ?_)
            obtain ⟨rfl, rfl⟩ := hj9
            refine V_weak (I2 := fun x => x = h0) (fun x hx => by rw [hx]; exact hh) ?_
            refine V_aload1 (pc' := 117) C dL_areCells_116 rfl ?_
            refine V_iload4 (pc' := 119) C dL_areCells_117 rfl ?_
            refine V_iald (pc' := 120) (n := 540) (f := f) C 2 rfl (fun h hh => ⟨901, by rw [hh]; exact hA⟩) ⟨by omega, by omega, by omega⟩ dL_areCells_119 rfl ?_
            refine V_sameNE (pc' := 123) (tgt := 192) C (hfj.symm) dL_areCells_120 (by decide) rfl ?_
            refine V_aload0 (pc' := 124) C dL_areCells_123 rfl ?_
            refine V_iload4 (pc' := 126) C dL_areCells_124 rfl ?_
            refine V_bipush (pc' := 128) C dL_areCells_126 rfl (by decide) ?_
            refine V_idivE (pc' := 129) (v := cc) C ⟨by omega, by omega, by decide, by decide⟩ (by omega) dL_areCells_128 rfl ?_
            refine V_iload4 (pc' := 131) C dL_areCells_129 rfl ?_
            refine V_bipush (pc' := 133) C dL_areCells_131 rfl (by decide) ?_
            refine V_iremE (pc' := 134) (v := rr) C ⟨by omega, by omega, by decide, by decide⟩ (by omega) dL_areCells_133 rfl ?_
            refine V_callSW (n := 3) [.ref (P 1), .int (iI cc), .int (iI rr)] C (KQ_cellByAudit (P := P) hIv hc8 hr8) gL_areCells_L_cellByAudit rfl ydL_cellByAudit ⟨Nat.le_of_ble_eq_true rfl, Nat.le_of_ble_eq_true rfl⟩ ⟨rfl, rfl⟩ rfl (fun h hh => by rw [hh]; exact hI.1) rfl (Nat.le_of_ble_eq_true rfl) dL_areCells_134 ⟨by dsimp only; omega, by dsimp only; omega⟩ (fun h v h' hh hj9 => ?_)
            obtain ⟨rfl, rfl⟩ := hj9
            refine V_weak (I2 := fun x => x = h0) (fun x hx => by rw [hx]; exact hh) ?_
            refine V_aload1 (pc' := 138) C dL_areCells_137 rfl ?_
            refine V_iload4 (pc' := 140) C dL_areCells_138 rfl ?_
            refine V_iald (pc' := 141) (n := 540) (f := f) C 2 rfl (fun h hh => ⟨901, by rw [hh]; exact hA⟩) ⟨by omega, by omega, by omega⟩ dL_areCells_140 rfl ?_
            refine V_sameNE (pc' := 144) (tgt := 192) C (hfj.symm) dL_areCells_141 (by decide) rfl ?_
            refine V_aload0 (pc' := 145) C dL_areCells_144 rfl ?_
            refine V_iload4 (pc' := 147) C dL_areCells_145 rfl ?_
            refine V_bipush (pc' := 149) C dL_areCells_147 rfl (by decide) ?_
            refine V_idivE (pc' := 150) (v := cc) C ⟨by omega, by omega, by decide, by decide⟩ (by omega) dL_areCells_149 rfl ?_
            refine V_iload4 (pc' := 152) C dL_areCells_150 rfl ?_
            refine V_bipush (pc' := 154) C dL_areCells_152 rfl (by decide) ?_
            refine V_iremE (pc' := 155) (v := rr) C ⟨by omega, by omega, by decide, by decide⟩ (by omega) dL_areCells_154 rfl ?_
            refine V_callSW (n := 3) [.ref (P 1), .int (iI cc), .int (iI rr)] C (KQ_granted (P := P) hIv hc8 hr8) gL_areCells_L_granted rfl ydL_granted ⟨Nat.le_of_ble_eq_true rfl, Nat.le_of_ble_eq_true rfl⟩ ⟨rfl, rfl⟩ rfl (fun h hh => by rw [hh]; exact hI.1) rfl (Nat.le_of_ble_eq_true rfl) dL_areCells_155 ⟨by dsimp only; omega, by dsimp only; omega⟩ (fun h v h' hh hj9 => ?_)
            obtain ⟨rfl, rfl⟩ := hj9
            refine V_weak (I2 := fun x => x = h0) (fun x hx => by rw [hx]; exact hh) ?_
            refine V_iload6 (pc' := 160) C dL_areCells_158 rfl ?_
            refine V_sameNE (pc' := 163) (tgt := 192) C (rfl) dL_areCells_160 (by decide) rfl ?_
            refine V_aload0 (pc' := 164) C dL_areCells_163 rfl ?_
            refine V_iload4 (pc' := 166) C dL_areCells_164 rfl ?_
            refine V_bipush (pc' := 168) C dL_areCells_166 rfl (by decide) ?_
            refine V_idivE (pc' := 169) (v := cc) C ⟨by omega, by omega, by decide, by decide⟩ (by omega) dL_areCells_168 rfl ?_
            refine V_iload4 (pc' := 171) C dL_areCells_169 rfl ?_
            refine V_bipush (pc' := 173) C dL_areCells_171 rfl (by decide) ?_
            refine V_iremE (pc' := 174) (v := rr) C ⟨by omega, by omega, by decide, by decide⟩ (by omega) dL_areCells_173 rfl ?_
            refine V_callSW (n := 3) [.ref (P 1), .int (iI cc), .int (iI rr)] C (KQ_rule (P := P) hIv hst hc8 hr8) gL_areCells_L_rule rfl ydL_rule ⟨Nat.le_of_ble_eq_true rfl, Nat.le_of_ble_eq_true rfl⟩ ⟨rfl, rfl⟩ rfl (fun h hh => by rw [hh]; exact hI.1) rfl (Nat.le_of_ble_eq_true rfl) dL_areCells_174 ⟨by dsimp only; omega, by dsimp only; omega⟩ (fun h v h' hh hj9 => ?_)
            obtain ⟨rfl, rfl⟩ := hj9
            refine V_weak (I2 := fun x => x = h0) (fun x hx => by rw [hx]; exact hh) ?_
            refine V_iload5 (pc' := 179) C dL_areCells_177 rfl ?_
            refine V_ifge (tgt := 187) C (by omega) dL_areCells_179 (by decide) rfl (fun c_179 => ?_) (fun c_179 => ?_)
            · refine V_iload5 (pc' := 189) C dL_areCells_187 rfl ?_
              refine V_icmpeq (tgt := 194) C ⟨by unfold ruL; split <;> omega, by omega⟩ dL_areCells_189 (by decide) rfl (fun c_189 => ?_) (fun c_189 => ?_)
              · refine V_iinc4 (pc' := 197) C dL_areCells_194 rfl (by decide) rfl ?_
                refine V_goto (tgt := 7) C dL_areCells_197 (by decide) ?_
                have hs9 : smG f (j + 1) = smG f j + f j := rfl
                have hc9 : smG (fun z => if f z = 0 then 0 else 1) (j + 1) = smG (fun z => if f z = 0 then 0 else 1) j + (if f j = 0 then 0 else 1) := rfl
                refine V_widen (k := 48 * (j + 1)) (n := 160 * (j + 1)) (by omega) (by omega) ?_
                refine V_locals (L2 := [some (.ref (P 1)), some (.ref na), some (.int (iI (smG f (j + 1)))), some (.int (iI (smG (fun z => if f z = 0 then 0 else 1) (j + 1)))), some (.int (iI ((j + 1 : Nat) : Int))), none, none, none]) (fun i v hv => ?_) (hk trivial)
                · rcases i with _ | _ | _ | _ | _ | _ | _ | _ | i
                  all_goals (first | exact hv | (rw [hs9] at hv; exact hv) | (rw [hc9, if_pos (by first | exact c_92 | exact Classical.not_not.mp c_92)] at hv; exact hv) | (rw [hc9, if_neg (by exact c_92)] at hv; exact hv) | (simpa using hv; done) | (cases hv; done))
              · exact absurd c_189 (fun z => z (by unfold ruL; first | (rw [if_neg (by omega)]; done) | (rw [if_pos (by omega)]; done)))
            · refine V_ldc (pc' := 184) (n := (-900002)) (v := (-900002)) C (by decide +kernel) dL_areCells_182 rfl (by decide) ?_
              refine V_goto (tgt := 189) C dL_areCells_184 (by decide) ?_
              refine V_icmpeq (tgt := 194) C ⟨by unfold ruL; split <;> omega, by omega⟩ dL_areCells_189 (by decide) rfl (fun c_189 => ?_) (fun c_189 => ?_)
              · refine V_iinc4 (pc' := 197) C dL_areCells_194 rfl (by decide) rfl ?_
                refine V_goto (tgt := 7) C dL_areCells_197 (by decide) ?_
                have hs9 : smG f (j + 1) = smG f j + f j := rfl
                have hc9 : smG (fun z => if f z = 0 then 0 else 1) (j + 1) = smG (fun z => if f z = 0 then 0 else 1) j + (if f j = 0 then 0 else 1) := rfl
                refine V_widen (k := 48 * (j + 1)) (n := 160 * (j + 1)) (by omega) (by omega) ?_
                refine V_locals (L2 := [some (.ref (P 1)), some (.ref na), some (.int (iI (smG f (j + 1)))), some (.int (iI (smG (fun z => if f z = 0 then 0 else 1) (j + 1)))), some (.int (iI ((j + 1 : Nat) : Int))), none, none, none]) (fun i v hv => ?_) (hk trivial)
                · rcases i with _ | _ | _ | _ | _ | _ | _ | _ | i
                  all_goals (first | exact hv | (rw [hs9] at hv; exact hv) | (rw [hc9, if_pos (by first | exact c_92 | exact Classical.not_not.mp c_92)] at hv; exact hv) | (rw [hc9, if_neg (by exact c_92)] at hv; exact hv) | (simpa using hv; done) | (cases hv; done))
              · exact absurd c_189 (fun z => z (by unfold ruL; first | (rw [if_neg (by omega)]; done) | (rw [if_pos (by omega)]; done)))
        · exact absurd c_42 (by omega)
  · have hsm : smG f 48 = smG (S.1 0) 48 := perm48 _ _ (fun c r c0 c1 r0 r1 => hnr.c ⟨c0, c1⟩ ⟨r0, r1⟩)
    have hcn : smG (fun z => if f z = 0 then 0 else 1) 48 = smG (fun z => if S.1 0 z = 0 then 0 else 1) 48 := perm48 _ _ (fun c r c0 c1 r0 r1 => by
      show (if f (8 * c + r) = 0 then (0 : Int) else 1) = _
      rw [hnr.c ⟨c0, c1⟩ ⟨r0, r1⟩])
    have hs1 := smN_in hwp 48 (Nat.le_refl _)
    have hs2 := cnN_in S 48
    rw [smN_G, ← hsm] at hs1
    rw [cnN_G, ← hcn] at hs2
    have h25 : X.2 25 = S.2 29 + S.2 24 := hIv.1.2.2.2.1.1.1
    refine V_iload4 (pc' := 9) C dL_areCells_7 rfl ?_
    refine V_bipush (pc' := 11) C dL_areCells_9 rfl (by decide) ?_
    refine V_icmpge (tgt := 200) C (by omega) dL_areCells_11 (by decide) rfl (fun c_11 => ?_) (fun c_11 => ?_)
    · refine V_aload0 (pc' := 201) C dL_areCells_200 rfl ?_
      refine V_callV (ci := 12) (n := 0) [] C (kX7_skipped (Tx9 := TxH cB) (P := P) (S := S) (X := X)) gL_areCells_X7_skipped rfl ydX7_skipped ⟨Nat.le_of_ble_eq_true rfl, Nat.le_of_ble_eq_true rfl⟩ ⟨rfl, rfl⟩ rfl rfl (fun h hh => by rw [hh]; exact CW_1 hI.1) (fun h hh => by rw [hh]; exact hI.1) rfl (Nat.le_of_ble_eq_true rfl) dL_areCells_201 ⟨by dsimp only; omega, by dsimp only; omega⟩ (fun h v h' hh hj9 => ?_)
      obtain ⟨r9, rfl, rfl, rfl⟩ := hj9
      refine V_weak (I2 := fun x => x = h0) (fun x hx => by rw [hx]; exact hh) ?_
      refine V_aload1 (pc' := 205) C dL_areCells_204 rfl ?_
      refine V_bipush (pc' := 207) C dL_areCells_205 rfl (by decide) ?_
      refine V_ialdE (pc' := 208) (n := 540) (f := f) (v := S.2 26) C 2 rfl (fun h hh => ⟨901, by rw [hh]; exact hA⟩) ⟨by omega, by omega, by omega⟩ (n54) dL_areCells_207 rfl ?_
      refine V_sameNE (pc' := 211) (tgt := 249) C (rfl) dL_areCells_208 (by decide) rfl ?_
      refine V_aload0 (pc' := 212) C dL_areCells_211 rfl ?_
      refine V_callV (ci := 12) (n := 0) [] C (kX7_entries (Tx9 := TxH cB) (P := P) (S := S) (X := X)) gL_areCells_X7_entries rfl ydX7_entries ⟨Nat.le_of_ble_eq_true rfl, Nat.le_of_ble_eq_true rfl⟩ ⟨rfl, rfl⟩ rfl rfl (fun h hh => by rw [hh]; exact CW_1 hI.1) (fun h hh => by rw [hh]; exact hI.1) rfl (Nat.le_of_ble_eq_true rfl) dL_areCells_212 ⟨by dsimp only; omega, by dsimp only; omega⟩ (fun h v h' hh hj9 => ?_)
      obtain ⟨r9, rfl, rfl, rfl⟩ := hj9
      refine V_weak (I2 := fun x => x = h0) (fun x hx => by rw [hx]; exact hh) ?_
      refine V_aload1 (pc' := 216) C dL_areCells_215 rfl ?_
      refine V_bipush (pc' := 218) C dL_areCells_216 rfl (by decide) ?_
      refine V_ialdE (pc' := 219) (n := 540) (f := f) (v := (S.2 29 + S.2 24)) C 2 rfl (fun h hh => ⟨901, by rw [hh]; exact hA⟩) ⟨by omega, by omega, by omega⟩ (n56) dL_areCells_218 rfl ?_
      refine V_sameNE (pc' := 222) (tgt := 249) C (h25) dL_areCells_219 (by decide) rfl ?_
      refine V_aload0 (pc' := 223) C dL_areCells_222 rfl ?_
      refine V_callSW (n := 1) [.ref (P 1)] C (KL_meanValue (P := P) hIv hst) gL_areCells_L_meanValue rfl ydL_meanValue ⟨Nat.le_of_ble_eq_true rfl, Nat.le_of_ble_eq_true rfl⟩ ⟨rfl, rfl⟩ rfl (fun h hh => by rw [hh]; exact hI.1) rfl (Nat.le_of_ble_eq_true rfl) dL_areCells_223 ⟨by dsimp only; omega, by dsimp only; omega⟩ (fun h v h' hh hj9 => ?_)
      obtain ⟨rfl, rfl⟩ := hj9
      refine V_weak (I2 := fun x => x = h0) (fun x hx => by rw [hx]; exact hh) ?_
      refine V_iload3 (pc' := 227) C dL_areCells_226 rfl ?_
      refine V_ifne (tgt := 236) C ⟨by omega, by omega⟩ dL_areCells_227 (by decide) rfl (fun c_227 => ?_) (fun c_227 => ?_)
      · have hme : meanL S = meanD (smG f 48) (smG (fun z => if f z = 0 then 0 else 1) 48) := by
          unfold meanL
          rw [smN_G, cnN_G, ← hsm, ← hcn]
          exact if_neg (by exact c_227)
        refine V_iload2 (pc' := 237) C dL_areCells_236 rfl ?_
        refine V_i2d (pc' := 238) C dL_areCells_237 rfl ?_
        refine V_iload3 (pc' := 239) C dL_areCells_238 rfl ?_
        refine V_i2d (pc' := 240) C dL_areCells_239 rfl ?_
        refine V_ddiv (pc' := 241) C ⟨⟨by omega, by omega⟩, ⟨by omega, by omega⟩, by exact c_227⟩ dL_areCells_240 rfl ?_
        rw [← hme]
        refine V_dcmp (pc' := 242) C dL_areCells_241 rfl ?_
        refine V_eq (st2 := [.int (iI 0)]) (by rw [mean_eq hIv]; rfl) ?_
        refine V_ifne (tgt := 249) C (by decide) dL_areCells_242 (by decide) rfl (fun c_242 => ?_) (fun c_242 => ?_)
        · exact absurd c_242 (by decide)
        · refine V_iconst (pc' := 246) C dL_areCells_245 rfl ?_
          refine V_goto (tgt := 250) C dL_areCells_246 (by decide) ?_
          exact V_endz (z := 1) C hr hlk (nar_z true) (fun h' hh => ⟨rfl, hh⟩) ⟨by omega, by omega⟩ dL_areCells_250
      · refine V_ldc2d (pc' := 233) (v := CM9) C (by decide +kernel) dL_areCells_230 rfl ?_
        have hme : meanL S = CM9 := by
          unfold meanL
          rw [smN_G, cnN_G, ← hsm, ← hcn]
          exact if_pos (by first | exact c_227 | exact Classical.not_not.mp c_227)
        refine V_goto (tgt := 241) C dL_areCells_233 (by decide) ?_
        rw [← hme]
        refine V_dcmp (pc' := 242) C dL_areCells_241 rfl ?_
        refine V_eq (st2 := [.int (iI 0)]) (by rw [mean_eq hIv]; rfl) ?_
        refine V_ifne (tgt := 249) C (by decide) dL_areCells_242 (by decide) rfl (fun c_242 => ?_) (fun c_242 => ?_)
        · exact absurd c_242 (by decide)
        · refine V_iconst (pc' := 246) C dL_areCells_245 rfl ?_
          refine V_goto (tgt := 250) C dL_areCells_246 (by decide) ?_
          exact V_endz (z := 1) C hr hlk (nar_z true) (fun h' hh => ⟨rfl, hh⟩) ⟨by omega, by omega⟩ dL_areCells_250
    · exact absurd c_11 (by omega)
end

/-! the reference's constructor -/
def mFc (P : Nat → Nat) (k : Nat) : List Value := (List.range 32).map (fun j => if j < 22 then (if j < k then Value.ref (P j) else .null) else .int 0)
theorem mFc_set (P : Nat → Nat) (k q : Nat) (hk : k < 22) : (mFc P k).set k (.ref q) = mFc (fun j => if j = k then q else P j) (k + 1) := by
  apply List.ext_getElem?
  intro i
  unfold mFc
  by_cases hi : i < 32
  · by_cases e : i = k
    · subst e
      rw [List.getElem?_set_self (by simpa using hi)]
      simp [hi, hk]
    · rw [List.getElem?_set_ne (fun z => e z.symm)]
      simp only [List.getElem?_map, List.getElem?_range hi, Option.map_some, if_neg e]
      by_cases h1 : i < k
      · rw [if_pos h1, if_pos (show i < k + 1 by omega)]
      · rw [if_neg h1, if_neg (show ¬ i < k + 1 by omega)]
  · rw [List.getElem?_eq_none (by simp; omega), List.getElem?_eq_none (by simp; omega)]
theorem mFc_len (P : Nat → Nat) (k : Nat) : (mFc P k).length = 32 := by simp [mFc]
def Sz : MSt := (fun _ _ => 0, fun _ => 0)
def st2N : Nat → MSt
  | 0 => uG Sz 27 (-1)
  | j + 1 => uA (st2N j) 2 j (-2)
/-- the reference's state when it is new -/
def S0 : MSt := st2N 48
def MC (cC cI : ClassId) (mo : Nat) (P : Nat → Nat) (k : Nat) (h : Hp) : Prop := h mo = some (1000, .inr (13, mFc P k)) ∧ ∀ j, j < k → h (P j) = some (1001 + j, .inl (mCl cC cI j, mLen j, .inl (iF fun _ => 0)))
theorem Fr.new {T : Nat → Prop} {h0 h : Hp} {q : Nat} {x : Nat × va_E} (f : Fr T h0 h) (hq : h q = none) : Fr T h0 (hup h q x) := fun b u g hb n => by
  have h1 := f b u g hb n
  rw [hup_n, h1]
  intro z
  rw [z, hq] at h1
  cases h1
theorem MC_step {cC cI : ClassId} {mo k q : Nat} {P : Nat → Nat} {h : Hp} (hk : k < 22) (H : MC cC cI mo P k h) (hq : h q = none) : MC cC cI mo (fun j => if j = k then q else P j) (k + 1) (hup (hup h q (1001 + k, .inl (mCl cC cI k, mLen k, .inl (iF fun _ => 0)))) mo (1000, .inr (13, (mFc P k).set k (.ref q)))) := by
  have hm : mo ≠ q := fun e => by rw [← e, H.1] at hq; cases hq
  refine ⟨by rw [hup_s, mFc_set P k q hk], fun j hj => ?_⟩
  by_cases e : j = k
  · subst e
    dsimp only
    rw [if_pos rfl, hup_n (fun z => hm z.symm), hup_s]
  · dsimp only
    rw [if_neg e]
    have hj2 := H.2 j (by omega)
    rw [hup_n, hup_n]
    · exact hj2
    · intro z
      rw [z, hq] at hj2
      cases hj2
    · intro z
      rw [z, H.1] at hj2
      have := (Prod.mk.inj (Option.some.inj hj2)).1
      omega
theorem MC_end {cC cI : ClassId} {mo : Nat} {P : Nat → Nat} {h : Hp} (H : MC cC cI mo P 22 h) : MS cC cI mo P Sz h := ⟨H.1, H.2⟩
section VK
variable {p : Program} {l : Launch} {e : Env} {R : Room} {s : State} {m : MethodId} {args : Array Value} {below : List Frame} {meth : Method} {c : Code} {cells slots : Nat} {Q : State → Prop} {D : va_G} {A : Nat → Prop} {nL : Nat} {cc : ByteArray} {Ts : List Cond} {ee : Nat}
variable {pc pc' : Nat} {L : List (Option Value)} {st : List Value} {cB cC cI cO cJ cD : ClassId} {mo : Nat} {P : Nat → Nat} {h0 : Hp}
def MCI (cC cI : ClassId) (h0 : Hp) (mo : Nat) (P : Nat → Nat) (k : Nat) : Hp → Prop := fun h => MC cC cI mo P k h ∧ Fr tM h0 h
theorem mNewA {index N : Nat} {atype : ArrayType} {ty : FieldType} (k : Nat) (C : Cx p m c cc nL s args Ts RX8 D (tyL cB cC cI cO cJ cD) A ee) (hk : k < 22) (hin : ∀ w ∈ wsX80, w ∈ Ts) (harr : Cond.arrayClass ty ∈ Ts) (hty : newarray.typeOf atype = ty) (t0 : Nat) (ht : (tyL cB cC cI cO cJ cD)[t0]? = some (mCl cC cI k, ty)) (hdef : defaultValue ty = .int 0) (hN : mLen k = N ∧ N ≤ 33554432) (hl : Cond.fieldLink RX8 index (TX8 k).1 (TX8 k).2.1 (TX8 k).2.2.1 ∈ Ts) (hinit : meth.name = "<init>") (hdecl : (TX8 k).1 = RX8) (hfin : (TX8 k).2.2.2 = true) (hnar : ∀ q : Nat, narrow (tyX8 k) (.ref q) = .ref q ∧ fits (tyX8 k) (.ref q) = true) (hcells : cells + 1 ≤ R.cells) (hslots : slots + N ≤ R.slots) (d1 : decode cc pc = .ok (.newarray atype, 2)) (d2 : decode cc (pc + 2) = .ok (.putfield index, 3)) (e0 : pc + 5 = pc') (kk : ∀ P' : Nat → Nat, Vx p l e R s m args below meth c (cells + 1) (slots + N) Q D A nL (MCI cC cI h0 mo P' (k + 1)) pc' L st) : Vx p l e R s m args below meth c cells slots Q D A nL (MCI cC cI h0 mo P k) pc L (.int (iI (N : Int)) :: .ref mo :: st) := by
  subst e0
  obtain ⟨hN1, hN2⟩ := hN
  subst hN1
  refine V_newarr (N := mLen k) (a0 := (mLen k, .inl (iF fun _ => 0))) (1001 + k) C harr hty t0 ht (fun cA => ?_) ⟨rfl, hN2⟩ hcells hslots d1 rfl (fun q => ?_)
  · rw [hdef, vp_cell_i]
    rfl
  refine V_putF (T := TX8) (N := 32) (ci := 13) (I2 := MCI cC cI h0 mo (fun j => if j = k then q else P j) (k + 1)) C hin tyX8_ok nmX8 rfl k (by omega) hl hfin hinit hdecl (hnar q).1 (hnar q).2 (fun h' hh => ?_) d2 rfl (kk _)
  obtain ⟨h, hI, hq, rfl⟩ := hh
  have hm : mo ≠ q := fun z => by rw [← z, hI.1.1] at hq; cases hq
  refine ⟨1000, mFc P k, by rw [hup_n hm]; exact hI.1.1, by rw [mFc_len]; omega, MC_step hk hI.1 hq, ?_⟩
  exact (hI.2.new hq).up (by rw [hup_n hm]; exact hI.1.1) (by show 1000 ≤ 1000; omega)
end VK
section
variable {l : Launch} {D : va_G} {cB cC cI cO cJ cD : ClassId} {ee mo : Nat} {Pm : Nat → Nat} {S : MSt} {b : Int}
set_option maxHeartbeats 4000000 in
set_option maxRecDepth 100000 in
theorem kX8_init (P0 : Nat → Nat) : Ct l yX8_init wsX8_init ({ frames := 1, cells := 22, slots := 8924, locals := 60 } : Room) D (tyL cB cC cI cO cJ cD) ee [.ref mo] (MC cC cI mo P0 0) (fun h v h' => v = none ∧ (∃ Pm, MS cC cI mo Pm S0 h') ∧ Fr tM h h') 22 8924 := by
  refine Ct_of (cc := cX8_init) (own := RX8) [some (.ref mo), none] (by decide) rfl rfl (Nat.le_of_ble_eq_true rfl) (fun i9 v9 h9 => argL [.ref mo] 1 rfl i9 v9 h9) ?_
  intro p e s m9 args below meth c9 h0 sz hI C hr hlk hinit
  have hin : ∀ w ∈ wsX80, w ∈ wsX8_init := by decide +kernel
  refine V_weak (I2 := MCI cC cI h0 mo P0 0) (fun x hx => by subst hx; exact ⟨hI, Fr.refl⟩) ?_
  refine V_aload0 (pc' := 1) C dX8_init_0 rfl ?_
  refine V_objInit (pc' := 4) C (by decide +kernel) (by decide +kernel) (by decide +kernel) ⟨Nat.le_of_ble_eq_true rfl, Nat.le_of_ble_eq_true rfl⟩ dX8_init_1 rfl ?_
  refine V_aload0 (pc' := 5) C dX8_init_4 rfl ?_
  refine V_bipush (pc' := 7) C dX8_init_5 rfl (by decide) ?_
  refine mNewA (pc' := 12) (N := 48) (atype := .int) (ty := .int) 0 C (by decide) hin (by decide +kernel) rfl 2 rfl rfl ⟨by decide, by decide⟩ (by decide +kernel) (hinit rfl) rfl rfl (fun q => ⟨rfl, rfl⟩) (Nat.le_of_ble_eq_true rfl) (Nat.le_of_ble_eq_true rfl) dX8_init_7 dX8_init_9 rfl (fun P1 => ?_)
  refine V_aload0 (pc' := 13) C dX8_init_12 rfl ?_
  refine V_bipush (pc' := 15) C dX8_init_13 rfl (by decide) ?_
  refine mNewA (pc' := 20) (N := 48) (atype := .int) (ty := .int) 1 C (by decide) hin (by decide +kernel) rfl 2 rfl rfl ⟨by decide, by decide⟩ (by decide +kernel) (hinit rfl) rfl rfl (fun q => ⟨rfl, rfl⟩) (Nat.le_of_ble_eq_true rfl) (Nat.le_of_ble_eq_true rfl) dX8_init_15 dX8_init_17 rfl (fun P2 => ?_)
  refine V_aload0 (pc' := 21) C dX8_init_20 rfl ?_
  refine V_bipush (pc' := 23) C dX8_init_21 rfl (by decide) ?_
  refine mNewA (pc' := 28) (N := 48) (atype := .int) (ty := .int) 2 C (by decide) hin (by decide +kernel) rfl 2 rfl rfl ⟨by decide, by decide⟩ (by decide +kernel) (hinit rfl) rfl rfl (fun q => ⟨rfl, rfl⟩) (Nat.le_of_ble_eq_true rfl) (Nat.le_of_ble_eq_true rfl) dX8_init_23 dX8_init_25 rfl (fun P3 => ?_)
  refine V_aload0 (pc' := 29) C dX8_init_28 rfl ?_
  refine V_bipush (pc' := 31) C dX8_init_29 rfl (by decide) ?_
  refine mNewA (pc' := 36) (N := 7) (atype := .int) (ty := .int) 3 C (by decide) hin (by decide +kernel) rfl 2 rfl rfl ⟨by decide, by decide⟩ (by decide +kernel) (hinit rfl) rfl rfl (fun q => ⟨rfl, rfl⟩) (Nat.le_of_ble_eq_true rfl) (Nat.le_of_ble_eq_true rfl) dX8_init_31 dX8_init_33 rfl (fun P4 => ?_)
  refine V_aload0 (pc' := 37) C dX8_init_36 rfl ?_
  refine V_bipush (pc' := 39) C dX8_init_37 rfl (by decide) ?_
  refine mNewA (pc' := 44) (N := 6) (atype := .int) (ty := .int) 4 C (by decide) hin (by decide +kernel) rfl 2 rfl rfl ⟨by decide, by decide⟩ (by decide +kernel) (hinit rfl) rfl rfl (fun q => ⟨rfl, rfl⟩) (Nat.le_of_ble_eq_true rfl) (Nat.le_of_ble_eq_true rfl) dX8_init_39 dX8_init_41 rfl (fun P5 => ?_)
  refine V_aload0 (pc' := 45) C dX8_init_44 rfl ?_
  refine V_bipush (pc' := 47) C dX8_init_45 rfl (by decide) ?_
  refine mNewA (pc' := 52) (N := 60) (atype := .int) (ty := .int) 5 C (by decide) hin (by decide +kernel) rfl 2 rfl rfl ⟨by decide, by decide⟩ (by decide +kernel) (hinit rfl) rfl rfl (fun q => ⟨rfl, rfl⟩) (Nat.le_of_ble_eq_true rfl) (Nat.le_of_ble_eq_true rfl) dX8_init_47 dX8_init_49 rfl (fun P6 => ?_)
  refine V_aload0 (pc' := 53) C dX8_init_52 rfl ?_
  refine V_bipush (pc' := 55) C dX8_init_53 rfl (by decide) ?_
  refine mNewA (pc' := 60) (N := 60) (atype := .int) (ty := .int) 6 C (by decide) hin (by decide +kernel) rfl 2 rfl rfl ⟨by decide, by decide⟩ (by decide +kernel) (hinit rfl) rfl rfl (fun q => ⟨rfl, rfl⟩) (Nat.le_of_ble_eq_true rfl) (Nat.le_of_ble_eq_true rfl) dX8_init_55 dX8_init_57 rfl (fun P7 => ?_)
  refine V_aload0 (pc' := 61) C dX8_init_60 rfl ?_
  refine V_bipush (pc' := 63) C dX8_init_61 rfl (by decide) ?_
  refine mNewA (pc' := 68) (N := 60) (atype := .int) (ty := .int) 7 C (by decide) hin (by decide +kernel) rfl 2 rfl rfl ⟨by decide, by decide⟩ (by decide +kernel) (hinit rfl) rfl rfl (fun q => ⟨rfl, rfl⟩) (Nat.le_of_ble_eq_true rfl) (Nat.le_of_ble_eq_true rfl) dX8_init_63 dX8_init_65 rfl (fun P8 => ?_)
  refine V_aload0 (pc' := 69) C dX8_init_68 rfl ?_
  refine V_bipush (pc' := 71) C dX8_init_69 rfl (by decide) ?_
  refine mNewA (pc' := 76) (N := 60) (atype := .int) (ty := .int) 8 C (by decide) hin (by decide +kernel) rfl 2 rfl rfl ⟨by decide, by decide⟩ (by decide +kernel) (hinit rfl) rfl rfl (fun q => ⟨rfl, rfl⟩) (Nat.le_of_ble_eq_true rfl) (Nat.le_of_ble_eq_true rfl) dX8_init_71 dX8_init_73 rfl (fun P9 => ?_)
  refine V_aload0 (pc' := 77) C dX8_init_76 rfl ?_
  refine V_bipush (pc' := 79) C dX8_init_77 rfl (by decide) ?_
  refine mNewA (pc' := 84) (N := 6) (atype := .int) (ty := .int) 9 C (by decide) hin (by decide +kernel) rfl 2 rfl rfl ⟨by decide, by decide⟩ (by decide +kernel) (hinit rfl) rfl rfl (fun q => ⟨rfl, rfl⟩) (Nat.le_of_ble_eq_true rfl) (Nat.le_of_ble_eq_true rfl) dX8_init_79 dX8_init_81 rfl (fun P10 => ?_)
  refine V_aload0 (pc' := 85) C dX8_init_84 rfl ?_
  refine V_bipush (pc' := 87) C dX8_init_85 rfl (by decide) ?_
  refine mNewA (pc' := 92) (N := 24) (atype := .int) (ty := .int) 10 C (by decide) hin (by decide +kernel) rfl 2 rfl rfl ⟨by decide, by decide⟩ (by decide +kernel) (hinit rfl) rfl rfl (fun q => ⟨rfl, rfl⟩) (Nat.le_of_ble_eq_true rfl) (Nat.le_of_ble_eq_true rfl) dX8_init_87 dX8_init_89 rfl (fun P11 => ?_)
  refine V_aload0 (pc' := 93) C dX8_init_92 rfl ?_
  refine V_bipush (pc' := 95) C dX8_init_93 rfl (by decide) ?_
  refine mNewA (pc' := 100) (N := 24) (atype := .int) (ty := .int) 11 C (by decide) hin (by decide +kernel) rfl 2 rfl rfl ⟨by decide, by decide⟩ (by decide +kernel) (hinit rfl) rfl rfl (fun q => ⟨rfl, rfl⟩) (Nat.le_of_ble_eq_true rfl) (Nat.le_of_ble_eq_true rfl) dX8_init_95 dX8_init_97 rfl (fun P12 => ?_)
  refine V_aload0 (pc' := 101) C dX8_init_100 rfl ?_
  refine V_bipush (pc' := 103) C dX8_init_101 rfl (by decide) ?_
  refine mNewA (pc' := 108) (N := 6) (atype := .int) (ty := .int) 12 C (by decide) hin (by decide +kernel) rfl 2 rfl rfl ⟨by decide, by decide⟩ (by decide +kernel) (hinit rfl) rfl rfl (fun q => ⟨rfl, rfl⟩) (Nat.le_of_ble_eq_true rfl) (Nat.le_of_ble_eq_true rfl) dX8_init_103 dX8_init_105 rfl (fun P13 => ?_)
  refine V_aload0 (pc' := 109) C dX8_init_108 rfl ?_
  refine V_bipush (pc' := 111) C dX8_init_109 rfl (by decide) ?_
  refine mNewA (pc' := 116) (N := 6) (atype := .int) (ty := .int) 13 C (by decide) hin (by decide +kernel) rfl 2 rfl rfl ⟨by decide, by decide⟩ (by decide +kernel) (hinit rfl) rfl rfl (fun q => ⟨rfl, rfl⟩) (Nat.le_of_ble_eq_true rfl) (Nat.le_of_ble_eq_true rfl) dX8_init_111 dX8_init_113 rfl (fun P14 => ?_)
  refine V_aload0 (pc' := 117) C dX8_init_116 rfl ?_
  refine V_bipush (pc' := 119) C dX8_init_117 rfl (by decide) ?_
  refine mNewA (pc' := 124) (N := 6) (atype := .int) (ty := .int) 14 C (by decide) hin (by decide +kernel) rfl 2 rfl rfl ⟨by decide, by decide⟩ (by decide +kernel) (hinit rfl) rfl rfl (fun q => ⟨rfl, rfl⟩) (Nat.le_of_ble_eq_true rfl) (Nat.le_of_ble_eq_true rfl) dX8_init_119 dX8_init_121 rfl (fun P15 => ?_)
  refine V_aload0 (pc' := 125) C dX8_init_124 rfl ?_
  refine V_bipush (pc' := 127) C dX8_init_125 rfl (by decide) ?_
  refine mNewA (pc' := 132) (N := 6) (atype := .int) (ty := .int) 15 C (by decide) hin (by decide +kernel) rfl 2 rfl rfl ⟨by decide, by decide⟩ (by decide +kernel) (hinit rfl) rfl rfl (fun q => ⟨rfl, rfl⟩) (Nat.le_of_ble_eq_true rfl) (Nat.le_of_ble_eq_true rfl) dX8_init_127 dX8_init_129 rfl (fun P16 => ?_)
  refine V_aload0 (pc' := 133) C dX8_init_132 rfl ?_
  refine V_sipush (pc' := 136) C dX8_init_133 rfl (by decide) ?_
  refine mNewA (pc' := 141) (N := 2100) (atype := .int) (ty := .int) 16 C (by decide) hin (by decide +kernel) rfl 2 rfl rfl ⟨by decide, by decide⟩ (by decide +kernel) (hinit rfl) rfl rfl (fun q => ⟨rfl, rfl⟩) (Nat.le_of_ble_eq_true rfl) (Nat.le_of_ble_eq_true rfl) dX8_init_136 dX8_init_138 rfl (fun P17 => ?_)
  refine V_aload0 (pc' := 142) C dX8_init_141 rfl ?_
  refine V_sipush (pc' := 145) C dX8_init_142 rfl (by decide) ?_
  refine mNewA (pc' := 150) (N := 2100) (atype := .int) (ty := .int) 17 C (by decide) hin (by decide +kernel) rfl 2 rfl rfl ⟨by decide, by decide⟩ (by decide +kernel) (hinit rfl) rfl rfl (fun q => ⟨rfl, rfl⟩) (Nat.le_of_ble_eq_true rfl) (Nat.le_of_ble_eq_true rfl) dX8_init_145 dX8_init_147 rfl (fun P18 => ?_)
  refine V_aload0 (pc' := 151) C dX8_init_150 rfl ?_
  refine V_sipush (pc' := 154) C dX8_init_151 rfl (by decide) ?_
  refine mNewA (pc' := 159) (N := 2100) (atype := .int) (ty := .int) 18 C (by decide) hin (by decide +kernel) rfl 2 rfl rfl ⟨by decide, by decide⟩ (by decide +kernel) (hinit rfl) rfl rfl (fun q => ⟨rfl, rfl⟩) (Nat.le_of_ble_eq_true rfl) (Nat.le_of_ble_eq_true rfl) dX8_init_154 dX8_init_156 rfl (fun P19 => ?_)
  refine V_aload0 (pc' := 160) C dX8_init_159 rfl ?_
  refine V_sipush (pc' := 163) C dX8_init_160 rfl (by decide) ?_
  refine mNewA (pc' := 168) (N := 2100) (atype := .int) (ty := .int) 19 C (by decide) hin (by decide +kernel) rfl 2 rfl rfl ⟨by decide, by decide⟩ (by decide +kernel) (hinit rfl) rfl rfl (fun q => ⟨rfl, rfl⟩) (Nat.le_of_ble_eq_true rfl) (Nat.le_of_ble_eq_true rfl) dX8_init_163 dX8_init_165 rfl (fun P20 => ?_)
  refine V_aload0 (pc' := 169) C dX8_init_168 rfl ?_
  refine V_bipush (pc' := 171) C dX8_init_169 rfl (by decide) ?_
  refine mNewA (pc' := 176) (N := 9) (atype := .int) (ty := .int) 20 C (by decide) hin (by decide +kernel) rfl 2 rfl rfl ⟨by decide, by decide⟩ (by decide +kernel) (hinit rfl) rfl rfl (fun q => ⟨rfl, rfl⟩) (Nat.le_of_ble_eq_true rfl) (Nat.le_of_ble_eq_true rfl) dX8_init_171 dX8_init_173 rfl (fun P21 => ?_)
  refine V_aload0 (pc' := 177) C dX8_init_176 rfl ?_
  refine V_bipush (pc' := 179) C dX8_init_177 rfl (by decide) ?_
  refine mNewA (pc' := 184) (N := 40) (atype := .char) (ty := .char) 21 C (by decide) hin (by decide +kernel) rfl 1 rfl rfl ⟨by decide, by decide⟩ (by decide +kernel) (hinit rfl) rfl rfl (fun q => ⟨rfl, rfl⟩) (Nat.le_of_ble_eq_true rfl) (Nat.le_of_ble_eq_true rfl) dX8_init_179 dX8_init_181 rfl (fun P22 => ?_)
  refine V_weak (I2 := MI cC cI h0 mo P22 Sz) (fun h q => ⟨MC_end q.1, q.2⟩) ?_
  refine V_aload0 (pc' := 185) C dX8_init_184 rfl ?_
  refine V_iconst (pc' := 186) C dX8_init_185 rfl ?_
  refine mPutI (pc' := 189) 27 C hin (by decide) (by decide +kernel) dX8_init_186 rfl ?_
  refine V_iconst (pc' := 190) C dX8_init_189 rfl ?_
  refine V_istore1 (pc' := 191) C dX8_init_190 rfl (by decide) rfl ?_
  refine V_for0 (N := 48) (fun j => MI cC cI h0 mo P22 (st2N j)) (fun j => [some (.ref mo), some (.int (iI j))]) (fun _ => True) trivial (fun h q => q) rfl (fun j hj hv hk => ?_) (fun hv => ?_)
  · refine V_iload1 (pc' := 192) C dX8_init_191 rfl ?_
    refine V_bipush (pc' := 194) C dX8_init_192 rfl (by decide) ?_
    refine V_icmpge (tgt := 211) C (by first | omega | (simp [uA, uG] <;> omega)) dX8_init_194 (by decide) rfl (fun c_194 => ?_) (fun c_194 => ?_)
    · exact absurd c_194 (by omega)
    · refine V_aload0 (pc' := 198) C dX8_init_197 rfl ?_
      refine mGetA (pc' := 201) 2 C hin (by decide) (by decide +kernel) dX8_init_198 rfl ?_
      refine V_iload1 (pc' := 202) C dX8_init_201 rfl ?_
      refine V_bipush (pc' := 204) C dX8_init_202 rfl (by decide) ?_
      refine mSt (pc' := 205) (n := 48) 2 C (by decide) rfl (by first | omega | (simp [uA, uG] <;> omega)) dX8_init_204 rfl ?_
      refine V_iinc1 (pc' := 208) C dX8_init_205 rfl (by decide) rfl ?_
      refine V_goto (tgt := 191) C dX8_init_208 (by decide) ?_
      exact hk trivial
  · refine V_iload1 (pc' := 192) C dX8_init_191 rfl ?_
    refine V_bipush (pc' := 194) C dX8_init_192 rfl (by decide) ?_
    refine V_icmpge (tgt := 211) C (by first | omega | (simp [uA, uG] <;> omega)) dX8_init_194 (by decide) rfl (fun c_194 => ?_) (fun c_194 => ?_)
    · exact V_endv C hr hlk (fun h' q => ⟨rfl, ⟨_, q.1⟩, q.2⟩) ⟨Nat.le_of_ble_eq_true rfl, Nat.le_of_ble_eq_true rfl⟩ dX8_init_211
    · exact absurd c_194 (by omega)
end

/-! the law: one deed of a script -/
theorem ydL_isSet : yL_isSet.cls ≠ "java/lang/invoke/MethodHandle" ∧ yL_isSet.cls ≠ "java/lang/invoke/VarHandle" ∧ (parseMethodDescriptor yL_isSet.desc).map (fun d => d.parameters.length) = some 7 := by decide +kernel
theorem ydL_isRecorded : yL_isRecorded.cls ≠ "java/lang/invoke/MethodHandle" ∧ yL_isRecorded.cls ≠ "java/lang/invoke/VarHandle" ∧ (parseMethodDescriptor yL_isRecorded.desc).map (fun d => d.parameters.length) = some 5 := by decide +kernel
theorem ydL_isStopped : yL_isStopped.cls ≠ "java/lang/invoke/MethodHandle" ∧ yL_isStopped.cls ≠ "java/lang/invoke/VarHandle" ∧ (parseMethodDescriptor yL_isStopped.desc).map (fun d => d.parameters.length) = some 2 := by decide +kernel
theorem ydL_isRange : yL_isRange.cls ≠ "java/lang/invoke/MethodHandle" ∧ yL_isRange.cls ≠ "java/lang/invoke/VarHandle" ∧ (parseMethodDescriptor yL_isRange.desc).map (fun d => d.parameters.length) = some 7 := by decide +kernel
theorem ydL_isRule : yL_isRule.cls ≠ "java/lang/invoke/MethodHandle" ∧ yL_isRule.cls ≠ "java/lang/invoke/VarHandle" ∧ (parseMethodDescriptor yL_isRule.desc).map (fun d => d.parameters.length) = some 8 := by decide +kernel
theorem ydL_isUndone : yL_isUndone.cls ≠ "java/lang/invoke/MethodHandle" ∧ yL_isUndone.cls ≠ "java/lang/invoke/VarHandle" ∧ (parseMethodDescriptor yL_isUndone.desc).map (fun d => d.parameters.length) = some 3 := by decide +kernel
theorem ydL_isRun : yL_isRun.cls ≠ "java/lang/invoke/MethodHandle" ∧ yL_isRun.cls ≠ "java/lang/invoke/VarHandle" ∧ (parseMethodDescriptor yL_isRun.desc).map (fun d => d.parameters.length) = some 6 := by decide +kernel
theorem ydL_isDone : yL_isDone.cls ≠ "java/lang/invoke/MethodHandle" ∧ yL_isDone.cls ≠ "java/lang/invoke/VarHandle" ∧ (parseMethodDescriptor yL_isDone.desc).map (fun d => d.parameters.length) = some 5 := by decide +kernel
section
variable {l : Launch} {D : va_G} {cB cC cI cO cJ cD : ClassId} {ee : Nat × Nat} {na nb : Nat} {P : Nat → Nat} {S X : MSt} {f g : Int → Int} {k : Nat}
set_option maxHeartbeats 16000000 in
set_option maxRecDepth 100000 in
theorem kL_isDone {i : Int} (hi : 0 ≤ i ∧ i ≤ 1000) (hst : l.stackTraces = false) (hW : WS k S X f g) (hk : k ≤ 57) (h22 : 0 < S.2 22) : Ct l yL_isDone wsL_isDone ({ frames := 22, cells := 300, slots := 70000, locals := 900 } : Room) D (tyL cB cC cI cO cJ cD) ee [.ref (P 1), .ref na, .ref nb, .ref ee.2, .int (iI i)] (WD cB cI cO ee na nb P S X f g) (LOf cB cI cO ee na nb P S k) 300 70000 := by
  obtain ⟨hIv, hnr, h55, hk9, h31, hlx⟩ := id hW
  have h0s : uG S 31 0 = S := by rw [← h31]; exact uG_id S 31
  have hwp := hIv.1.1.1
  have hmw := hIv.1.1
  have w5 := hwp.2.2.2.2.1
  obtain ⟨n50, n51, n52, n53, n54, n56, n57⟩ := id hnr.2.2.2.2.1
  refine Ct_of (cc := cL_isDone) (own := RL) [some (.ref (P 1)), some (.ref na), some (.ref nb), some (.ref ee.2), some (.int (iI i)), none, none, none, none, none, none] (by decide) rfl rfl (Nat.le_of_ble_eq_true rfl) (fun i9 v9 h9 => argL [.ref (P 1), .ref na, .ref nb, .ref ee.2, .int (iI i)] 6 rfl i9 v9 h9) ?_
  intro p e s m9 args below meth c9 h0 sz hI C hr hlk hinit
  refine V_weak (I2 := WD cB cI cO ee na nb P S X f g) (fun x hx => by rw [hx]; exact hI) ?_
  have key : ∀ (c r q n : Int), 0 ≤ c ∧ c < 6 → 0 ≤ r ∧ r < 8 → 0 ≤ q ∧ q < S.2 22 → -20000 ≤ n ∧ n ≤ 20000 → Vx p l e ({ frames := 22, cells := 300, slots := 70000, locals := 900 } : Room) s m9 args below meth c9 10 10 (MQ below (ctQ D h0 sz (LOf cB cI cO ee na nb P S k)) args s 300 70000 (hA h0 sz)) D (hA h0 sz) 11 (WD cB cI cO ee na nb P S X f g) 118 [some (.ref (P 1)), some (.ref na), some (.ref nb), some (.ref ee.2), some (.int (iI i)), some (.int (iI c)), some (.int (iI r)), some (.int (iI q)), some (.int (iI n)), none, none] [] := by
    intro c r q n hc9 hr9 hq9 hn9
    refine V_aload3 (pc' := 119) C dL_isDone_118 rfl ?_
    refine V_iload4 (pc' := 121) C dL_isDone_119 rfl ?_
    refine V_bipush (pc' := 123) C dL_isDone_121 rfl (by decide) ?_
    refine V_callS (n := 3) [.ref ee.2, .int (iI i), .int (iI 16)] C (kL_in (by omega) (by omega)) gL_isDone_L_in rfl ydL_in ⟨Nat.le_of_ble_eq_true rfl, Nat.le_of_ble_eq_true rfl⟩ ⟨rfl, rfl⟩ rfl (fun h hh => trivial) rfl (Nat.le_of_ble_eq_true rfl) dL_isDone_123 ⟨by dsimp only; omega, by dsimp only; omega⟩ (fun h v h' hh hj9 => ?_)
    obtain ⟨⟨z123, hz123, rfl⟩, rfl⟩ := hj9
    refine V_weak (I2 := WD cB cI cO ee na nb P S X f g) (fun x hx => by rw [hx]; exact hh) ?_
    have hrz : rI z123 := ⟨by omega, by omega⟩
    have hv9 : z123 = 0 ∨ z123 = 1 ∨ z123 = 2 ∨ z123 = 3 ∨ z123 = 4 ∨ z123 = 5 ∨ z123 = 6 ∨ z123 = 7 ∨ z123 = 8 ∨ z123 = 9 ∨ z123 = 10 ∨ z123 = 11 ∨ z123 = 12 ∨ 12 < z123 := by omega
    rcases hv9 with hv9 | hv9 | hv9 | hv9 | hv9 | hv9 | hv9 | hv9 | hv9 | hv9 | hv9 | hv9 | hv9 | hv9
    · refine V_tabIn (off := 66) (tgt := 192) C hrz dL_isDone_126 ⟨by omega, by omega⟩ (by rw [hv9]; rfl) (by decide) ?_
      refine V_aload0 (pc' := 193) C dL_isDone_192 rfl ?_
      refine V_aload1 (pc' := 194) C dL_isDone_193 rfl ?_
      refine V_aload2 (pc' := 195) C dL_isDone_194 rfl ?_
      refine V_bipush (pc' := 197) C dL_isDone_195 rfl (by decide) ?_
      refine V_iload5 (pc' := 199) C dL_isDone_197 rfl ?_
      refine V_iload6 (pc' := 201) C dL_isDone_199 rfl ?_
      refine V_iload8 (pc' := 203) C dL_isDone_201 rfl ?_
      refine V_callS (n := 7) [.ref (P 1), .ref na, .ref nb, .int (iI 115), .int (iI c), .int (iI r), .int (iI n)] C (kO_isSet (P := P) (S := S) (X := X) (f := f) (g := g) (k := k) (by omega) (by omega) (by omega) (by omega) hst hW (by omega)) gL_isDone_L_isSet rfl ydL_isSet ⟨Nat.le_of_ble_eq_true rfl, Nat.le_of_ble_eq_true rfl⟩ ⟨rfl, rfl⟩ rfl (fun h hh => hh) rfl (Nat.le_of_ble_eq_true rfl) dL_isDone_203 ⟨by dsimp only; omega, by dsimp only; omega⟩ (fun h v h' hh hj9 => ?_)
      obtain ⟨rfl, P203, S203, X203, f203, g203, hD203, hp203, hW203, hs203⟩ := hj9
      refine V_weak (I2 := WD cB cI cO ee na nb P203 S203 X203 f203 g203) (fun x hx => by rw [hx]; exact hD203) ?_
      exact V_endz (z := 1) C hr hlk (nar_z true) (fun h' hh => ⟨rfl, P203, S203, X203, f203, g203, hh, hp203, hW203, hs203⟩) ⟨by omega, by omega⟩ dL_isDone_206
    · refine V_tabIn (off := 66) (tgt := 192) C hrz dL_isDone_126 ⟨by omega, by omega⟩ (by rw [hv9]; rfl) (by decide) ?_
      refine V_aload0 (pc' := 193) C dL_isDone_192 rfl ?_
      refine V_aload1 (pc' := 194) C dL_isDone_193 rfl ?_
      refine V_aload2 (pc' := 195) C dL_isDone_194 rfl ?_
      refine V_bipush (pc' := 197) C dL_isDone_195 rfl (by decide) ?_
      refine V_iload5 (pc' := 199) C dL_isDone_197 rfl ?_
      refine V_iload6 (pc' := 201) C dL_isDone_199 rfl ?_
      refine V_iload8 (pc' := 203) C dL_isDone_201 rfl ?_
      refine V_callS (n := 7) [.ref (P 1), .ref na, .ref nb, .int (iI 115), .int (iI c), .int (iI r), .int (iI n)] C (kO_isSet (P := P) (S := S) (X := X) (f := f) (g := g) (k := k) (by omega) (by omega) (by omega) (by omega) hst hW (by omega)) gL_isDone_L_isSet rfl ydL_isSet ⟨Nat.le_of_ble_eq_true rfl, Nat.le_of_ble_eq_true rfl⟩ ⟨rfl, rfl⟩ rfl (fun h hh => hh) rfl (Nat.le_of_ble_eq_true rfl) dL_isDone_203 ⟨by dsimp only; omega, by dsimp only; omega⟩ (fun h v h' hh hj9 => ?_)
      obtain ⟨rfl, P203, S203, X203, f203, g203, hD203, hp203, hW203, hs203⟩ := hj9
      refine V_weak (I2 := WD cB cI cO ee na nb P203 S203 X203 f203 g203) (fun x hx => by rw [hx]; exact hD203) ?_
      exact V_endz (z := 1) C hr hlk (nar_z true) (fun h' hh => ⟨rfl, P203, S203, X203, f203, g203, hh, hp203, hW203, hs203⟩) ⟨by omega, by omega⟩ dL_isDone_206
    · refine V_tabIn (off := 81) (tgt := 207) C hrz dL_isDone_126 ⟨by omega, by omega⟩ (by rw [hv9]; rfl) (by decide) ?_
      refine V_aload0 (pc' := 208) C dL_isDone_207 rfl ?_
      refine V_aload1 (pc' := 209) C dL_isDone_208 rfl ?_
      refine V_aload2 (pc' := 210) C dL_isDone_209 rfl ?_
      refine V_bipush (pc' := 212) C dL_isDone_210 rfl (by decide) ?_
      refine V_iload5 (pc' := 214) C dL_isDone_212 rfl ?_
      refine V_iload6 (pc' := 216) C dL_isDone_214 rfl ?_
      refine V_iload8 (pc' := 218) C dL_isDone_216 rfl ?_
      refine V_callS (n := 7) [.ref (P 1), .ref na, .ref nb, .int (iI 97), .int (iI c), .int (iI r), .int (iI n)] C (kO_isSet (P := P) (S := S) (X := X) (f := f) (g := g) (k := k) (by omega) (by omega) (by omega) (by omega) hst hW (by omega)) gL_isDone_L_isSet rfl ydL_isSet ⟨Nat.le_of_ble_eq_true rfl, Nat.le_of_ble_eq_true rfl⟩ ⟨rfl, rfl⟩ rfl (fun h hh => hh) rfl (Nat.le_of_ble_eq_true rfl) dL_isDone_218 ⟨by dsimp only; omega, by dsimp only; omega⟩ (fun h v h' hh hj9 => ?_)
      obtain ⟨rfl, P218, S218, X218, f218, g218, hD218, hp218, hW218, hs218⟩ := hj9
      refine V_weak (I2 := WD cB cI cO ee na nb P218 S218 X218 f218 g218) (fun x hx => by rw [hx]; exact hD218) ?_
      exact V_endz (z := 1) C hr hlk (nar_z true) (fun h' hh => ⟨rfl, P218, S218, X218, f218, g218, hh, hp218, hW218, hs218⟩) ⟨by omega, by omega⟩ dL_isDone_221
    · refine V_tabIn (off := 81) (tgt := 207) C hrz dL_isDone_126 ⟨by omega, by omega⟩ (by rw [hv9]; rfl) (by decide) ?_
      refine V_aload0 (pc' := 208) C dL_isDone_207 rfl ?_
      refine V_aload1 (pc' := 209) C dL_isDone_208 rfl ?_
      refine V_aload2 (pc' := 210) C dL_isDone_209 rfl ?_
      refine V_bipush (pc' := 212) C dL_isDone_210 rfl (by decide) ?_
      refine V_iload5 (pc' := 214) C dL_isDone_212 rfl ?_
      refine V_iload6 (pc' := 216) C dL_isDone_214 rfl ?_
      refine V_iload8 (pc' := 218) C dL_isDone_216 rfl ?_
      refine V_callS (n := 7) [.ref (P 1), .ref na, .ref nb, .int (iI 97), .int (iI c), .int (iI r), .int (iI n)] C (kO_isSet (P := P) (S := S) (X := X) (f := f) (g := g) (k := k) (by omega) (by omega) (by omega) (by omega) hst hW (by omega)) gL_isDone_L_isSet rfl ydL_isSet ⟨Nat.le_of_ble_eq_true rfl, Nat.le_of_ble_eq_true rfl⟩ ⟨rfl, rfl⟩ rfl (fun h hh => hh) rfl (Nat.le_of_ble_eq_true rfl) dL_isDone_218 ⟨by dsimp only; omega, by dsimp only; omega⟩ (fun h v h' hh hj9 => ?_)
      obtain ⟨rfl, P218, S218, X218, f218, g218, hD218, hp218, hW218, hs218⟩ := hj9
      refine V_weak (I2 := WD cB cI cO ee na nb P218 S218 X218 f218 g218) (fun x hx => by rw [hx]; exact hD218) ?_
      exact V_endz (z := 1) C hr hlk (nar_z true) (fun h' hh => ⟨rfl, P218, S218, X218, f218, g218, hh, hp218, hW218, hs218⟩) ⟨by omega, by omega⟩ dL_isDone_221
    · refine V_tabIn (off := 96) (tgt := 222) C hrz dL_isDone_126 ⟨by omega, by omega⟩ (by rw [hv9]; rfl) (by decide) ?_
      refine V_aload0 (pc' := 223) C dL_isDone_222 rfl ?_
      refine V_aload1 (pc' := 224) C dL_isDone_223 rfl ?_
      refine V_aload2 (pc' := 225) C dL_isDone_224 rfl ?_
      refine V_bipush (pc' := 227) C dL_isDone_225 rfl (by decide) ?_
      refine V_iload5 (pc' := 229) C dL_isDone_227 rfl ?_
      refine V_iload6 (pc' := 231) C dL_isDone_229 rfl ?_
      refine V_iconst (pc' := 232) C dL_isDone_231 rfl ?_
      refine V_callS (n := 7) [.ref (P 1), .ref na, .ref nb, .int (iI 99), .int (iI c), .int (iI r), .int (iI 0)] C (kO_isSet (P := P) (S := S) (X := X) (f := f) (g := g) (k := k) (by omega) (by omega) (by omega) (by omega) hst hW (by omega)) gL_isDone_L_isSet rfl ydL_isSet ⟨Nat.le_of_ble_eq_true rfl, Nat.le_of_ble_eq_true rfl⟩ ⟨rfl, rfl⟩ rfl (fun h hh => hh) rfl (Nat.le_of_ble_eq_true rfl) dL_isDone_232 ⟨by dsimp only; omega, by dsimp only; omega⟩ (fun h v h' hh hj9 => ?_)
      obtain ⟨rfl, P232, S232, X232, f232, g232, hD232, hp232, hW232, hs232⟩ := hj9
      refine V_weak (I2 := WD cB cI cO ee na nb P232 S232 X232 f232 g232) (fun x hx => by rw [hx]; exact hD232) ?_
      exact V_endz (z := 1) C hr hlk (nar_z true) (fun h' hh => ⟨rfl, P232, S232, X232, f232, g232, hh, hp232, hW232, hs232⟩) ⟨by omega, by omega⟩ dL_isDone_235
    · refine V_tabIn (off := 110) (tgt := 236) C hrz dL_isDone_126 ⟨by omega, by omega⟩ (by rw [hv9]; rfl) (by decide) ?_
      refine V_aload0 (pc' := 237) C dL_isDone_236 rfl ?_
      refine V_aload1 (pc' := 238) C dL_isDone_237 rfl ?_
      refine V_iload7 (pc' := 240) C dL_isDone_238 rfl ?_
      refine V_iload5 (pc' := 242) C dL_isDone_240 rfl ?_
      refine V_iload6 (pc' := 244) C dL_isDone_242 rfl ?_
      refine V_callS (n := 5) [.ref (P 1), .ref na, .int (iI q), .int (iI c), .int (iI r)] C (kO_isRecorded (P := P) (S := S) (X := X) (f := f) (g := g) (k := k) (by omega) (by omega) (by omega) hst hW (by omega)) gL_isDone_L_isRecorded rfl ydL_isRecorded ⟨Nat.le_of_ble_eq_true rfl, Nat.le_of_ble_eq_true rfl⟩ ⟨rfl, rfl⟩ rfl (fun h hh => hh) rfl (Nat.le_of_ble_eq_true rfl) dL_isDone_244 ⟨by dsimp only; omega, by dsimp only; omega⟩ (fun h v h' hh hj9 => ?_)
      obtain ⟨rfl, P244, S244, X244, f244, g244, hD244, hp244, hW244, hs244⟩ := hj9
      refine V_weak (I2 := WD cB cI cO ee na nb P244 S244 X244 f244 g244) (fun x hx => by rw [hx]; exact hD244) ?_
      exact V_endz (z := 1) C hr hlk (nar_z true) (fun h' hh => ⟨rfl, P244, S244, X244, f244, g244, hh, hp244, hW244, hs244⟩) ⟨by omega, by omega⟩ dL_isDone_247
    · refine V_tabIn (off := 122) (tgt := 248) C hrz dL_isDone_126 ⟨by omega, by omega⟩ (by rw [hv9]; rfl) (by decide) ?_
      refine V_aload0 (pc' := 249) C dL_isDone_248 rfl ?_
      refine V_aload1 (pc' := 250) C dL_isDone_249 rfl ?_
      refine V_callS (n := 2) [.ref (P 1), .ref na] C (kO_isStopped (P := P) (S := S) (X := X) (f := f) (g := g) (k := k)  hst hW (by omega)) gL_isDone_L_isStopped rfl ydL_isStopped ⟨Nat.le_of_ble_eq_true rfl, Nat.le_of_ble_eq_true rfl⟩ ⟨rfl, rfl⟩ rfl (fun h hh => hh) rfl (Nat.le_of_ble_eq_true rfl) dL_isDone_250 ⟨by dsimp only; omega, by dsimp only; omega⟩ (fun h v h' hh hj9 => ?_)
      obtain ⟨rfl, P250, S250, X250, f250, g250, hD250, hp250, hW250, hs250⟩ := hj9
      refine V_weak (I2 := WD cB cI cO ee na nb P250 S250 X250 f250 g250) (fun x hx => by rw [hx]; exact hD250) ?_
      exact V_endz (z := 1) C hr hlk (nar_z true) (fun h' hh => ⟨rfl, P250, S250, X250, f250, g250, hh, hp250, hW250, hs250⟩) ⟨by omega, by omega⟩ dL_isDone_253
    · refine V_tabIn (off := 128) (tgt := 254) C hrz dL_isDone_126 ⟨by omega, by omega⟩ (by rw [hv9]; rfl) (by decide) ?_
      refine V_aload0 (pc' := 255) C dL_isDone_254 rfl ?_
      refine V_aload1 (pc' := 256) C dL_isDone_255 rfl ?_
      refine V_iload7 (pc' := 258) C dL_isDone_256 rfl ?_
      refine V_aload3 (pc' := 259) C dL_isDone_258 rfl ?_
      refine V_iload4 (pc' := 261) C dL_isDone_259 rfl ?_
      refine V_iconst (pc' := 262) C dL_isDone_261 rfl ?_
      refine V_iadd (pc' := 263) C dL_isDone_262 rfl ?_
      refine V_iconst (pc' := 264) C dL_isDone_263 rfl ?_
      refine V_callS (n := 3) [.ref ee.2, .int (iI (i + 4)), .int (iI 3)] C (kL_in (by omega) (by omega)) gL_isDone_L_in rfl ydL_in ⟨Nat.le_of_ble_eq_true rfl, Nat.le_of_ble_eq_true rfl⟩ ⟨rfl, rfl⟩ rfl (fun h hh => trivial) rfl (Nat.le_of_ble_eq_true rfl) dL_isDone_264 ⟨by dsimp only; omega, by dsimp only; omega⟩ (fun h v h' hh hj9 => ?_)
      obtain ⟨⟨z264, hz264, rfl⟩, rfl⟩ := hj9
      refine V_weak (I2 := WD cB cI cO ee na nb P S X f g) (fun x hx => by rw [hx]; exact hh) ?_
      refine V_aload3 (pc' := 268) C dL_isDone_267 rfl ?_
      refine V_iload4 (pc' := 270) C dL_isDone_268 rfl ?_
      refine V_iconst (pc' := 271) C dL_isDone_270 rfl ?_
      refine V_iadd (pc' := 272) C dL_isDone_271 rfl ?_
      refine V_iconst (pc' := 273) C dL_isDone_272 rfl ?_
      refine V_callS (n := 3) [.ref ee.2, .int (iI (i + 5)), .int (iI 3)] C (kL_in (by omega) (by omega)) gL_isDone_L_in rfl ydL_in ⟨Nat.le_of_ble_eq_true rfl, Nat.le_of_ble_eq_true rfl⟩ ⟨rfl, rfl⟩ rfl (fun h hh => trivial) rfl (Nat.le_of_ble_eq_true rfl) dL_isDone_273 ⟨by dsimp only; omega, by dsimp only; omega⟩ (fun h v h' hh hj9 => ?_)
      obtain ⟨⟨z273, hz273, rfl⟩, rfl⟩ := hj9
      refine V_weak (I2 := WD cB cI cO ee na nb P S X f g) (fun x hx => by rw [hx]; exact hh) ?_
      refine V_iload5 (pc' := 278) C dL_isDone_276 rfl ?_
      refine V_iload6 (pc' := 280) C dL_isDone_278 rfl ?_
      refine V_callS (n := 7) [.ref (P 1), .ref na, .int (iI q), .int (iI z264), .int (iI z273), .int (iI c), .int (iI r)] C (kO_isRange (P := P) (S := S) (X := X) (f := f) (g := g) (k := k) (by omega) (by omega) (by omega) (by omega) (by omega) hst hW (by omega)) gL_isDone_L_isRange rfl ydL_isRange ⟨Nat.le_of_ble_eq_true rfl, Nat.le_of_ble_eq_true rfl⟩ ⟨rfl, rfl⟩ rfl (fun h hh => hh) rfl (Nat.le_of_ble_eq_true rfl) dL_isDone_280 ⟨by dsimp only; omega, by dsimp only; omega⟩ (fun h v h' hh hj9 => ?_)
      obtain ⟨rfl, P280, S280, X280, f280, g280, hD280, hp280, hW280, hs280⟩ := hj9
      refine V_weak (I2 := WD cB cI cO ee na nb P280 S280 X280 f280 g280) (fun x hx => by rw [hx]; exact hD280) ?_
      exact V_endz (z := 1) C hr hlk (nar_z true) (fun h' hh => ⟨rfl, P280, S280, X280, f280, g280, hh, hp280, hW280, hs280⟩) ⟨by omega, by omega⟩ dL_isDone_283
    · refine V_tabIn (off := 158) (tgt := 284) C hrz dL_isDone_126 ⟨by omega, by omega⟩ (by rw [hv9]; rfl) (by decide) ?_
      obtain ⟨h1m, h2m, h3m, h4m⟩ := hnr.2.2.1 q (by omega) (by omega)
      have w9q := hwp.2.1 q (by omega) (by omega)
      refine V_aload1 (pc' := 285) C dL_isDone_284 rfl ?_
      refine V_iload7 (pc' := 287) C dL_isDone_285 rfl ?_
      refine V_callS (n := 1) [.int (iI q)] C (kL_macroAt (q := q)) gL_isDone_L_macroAt rfl ydL_macroAt ⟨Nat.le_of_ble_eq_true rfl, Nat.le_of_ble_eq_true rfl⟩ ⟨rfl, rfl⟩ rfl (fun h hh => trivial) rfl (Nat.le_of_ble_eq_true rfl) dL_isDone_287 ⟨by dsimp only; omega, by dsimp only; omega⟩ (fun h v h' hh hj9 => ?_)
      obtain ⟨r9, rfl, rfl, rfl⟩ := hj9
      refine V_weak (I2 := WD cB cI cO ee na nb P S X f g) (fun x hx => by rw [hx]; exact hh) ?_
      refine V_iconst (pc' := 291) C dL_isDone_290 rfl ?_
      refine V_iadd (pc' := 292) C dL_isDone_291 rfl ?_
      refine V_ialdE (pc' := 293) (n := 540) (f := f) (v := S.1 9 q) C 2 rfl (fun h hh => ⟨901, hh.2.1⟩) ⟨by omega, by omega, by omega⟩ (h2m) dL_isDone_292 rfl ?_
      refine V_istore9 (pc' := 295) C dL_isDone_293 rfl (by decide) rfl ?_
      refine V_aload3 (pc' := 296) C dL_isDone_295 rfl ?_
      refine V_iload4 (pc' := 298) C dL_isDone_296 rfl ?_
      refine V_iconst (pc' := 299) C dL_isDone_298 rfl ?_
      refine V_iadd (pc' := 300) C dL_isDone_299 rfl ?_
      refine V_iconst (pc' := 301) C dL_isDone_300 rfl ?_
      refine V_callS (n := 3) [.ref ee.2, .int (iI (i + 4)), .int (iI 4)] C (kL_in (by omega) (by omega)) gL_isDone_L_in rfl ydL_in ⟨Nat.le_of_ble_eq_true rfl, Nat.le_of_ble_eq_true rfl⟩ ⟨rfl, rfl⟩ rfl (fun h hh => trivial) rfl (Nat.le_of_ble_eq_true rfl) dL_isDone_301 ⟨by dsimp only; omega, by dsimp only; omega⟩ (fun h v h' hh hj9 => ?_)
      obtain ⟨⟨z301, hz301, rfl⟩, rfl⟩ := hj9
      refine V_weak (I2 := WD cB cI cO ee na nb P S X f g) (fun x hx => by rw [hx]; exact hh) ?_
      refine V_ifne (tgt := 311) C (by omega) dL_isDone_304 (by decide) rfl (fun c_304 => ?_) (fun c_304 => ?_)
      · refine V_iconst (pc' := 312) C dL_isDone_311 rfl ?_
        refine V_istore10 (pc' := 314) C dL_isDone_312 rfl (by decide) rfl ?_
        refine V_aload1 (pc' := 315) C dL_isDone_314 rfl ?_
        refine V_iload7 (pc' := 317) C dL_isDone_315 rfl ?_
        refine V_callS (n := 1) [.int (iI q)] C (kL_macroAt (q := q)) gL_isDone_L_macroAt rfl ydL_macroAt ⟨Nat.le_of_ble_eq_true rfl, Nat.le_of_ble_eq_true rfl⟩ ⟨rfl, rfl⟩ rfl (fun h hh => trivial) rfl (Nat.le_of_ble_eq_true rfl) dL_isDone_317 ⟨by dsimp only; omega, by dsimp only; omega⟩ (fun h v h' hh hj9 => ?_)
        obtain ⟨r9, rfl, rfl, rfl⟩ := hj9
        refine V_weak (I2 := WD cB cI cO ee na nb P S X f g) (fun x hx => by rw [hx]; exact hh) ?_
        refine V_iconst (pc' := 321) C dL_isDone_320 rfl ?_
        refine V_iadd (pc' := 322) C dL_isDone_321 rfl ?_
        refine V_iload10 (pc' := 324) C dL_isDone_322 rfl ?_
        refine V_ifeq (tgt := 331) C (by decide) dL_isDone_324 (by decide) rfl (fun c_324 => ?_) (fun c_324 => ?_)
        · refine V_iload9 (pc' := 333) C dL_isDone_331 rfl ?_
          refine V_iast (pc' := 334) (n := 540) (f := f) (I2 := WD cB cI cO ee na nb P S X (upZ f ((60 + 60 * q) + 1) (S.1 9 q)) g) C 2 rfl (fun h hh => ⟨901, hh.2.1, hh.a hIv⟩) ⟨by omega, by omega, by omega⟩ dL_isDone_333 rfl ?_
          refine V_iload10 (pc' := 336) C dL_isDone_334 rfl ?_
          refine V_ifeq (tgt := 350) C (by decide) dL_isDone_336 (by decide) rfl (fun c_336 => ?_) (fun c_336 => ?_)
          · refine V_iconst (pc' := 351) C dL_isDone_350 rfl ?_
            refine V_goto (tgt := 355) C dL_isDone_351 (by decide) ?_
            exact V_endz (z := 1) C hr hlk (nar_z true) (fun h' hh => LO_mk (by rw [show upZ f (60 + 60 * q + 1) (S.1 9 q) = f by rw [← h2m]; exact upZ_self f _] at hh; exact hh) rfl hIv (by omega) hlx (by omega) hk hnr rfl) ⟨by omega, by omega⟩ dL_isDone_355
          · exact absurd c_336 (by decide)
        · exact absurd c_324 (by decide)
      · refine V_iconst (pc' := 308) C dL_isDone_307 rfl ?_
        refine V_goto (tgt := 312) C dL_isDone_308 (by decide) ?_
        refine V_istore10 (pc' := 314) C dL_isDone_312 rfl (by decide) rfl ?_
        refine V_aload1 (pc' := 315) C dL_isDone_314 rfl ?_
        refine V_iload7 (pc' := 317) C dL_isDone_315 rfl ?_
        refine V_callS (n := 1) [.int (iI q)] C (kL_macroAt (q := q)) gL_isDone_L_macroAt rfl ydL_macroAt ⟨Nat.le_of_ble_eq_true rfl, Nat.le_of_ble_eq_true rfl⟩ ⟨rfl, rfl⟩ rfl (fun h hh => trivial) rfl (Nat.le_of_ble_eq_true rfl) dL_isDone_317 ⟨by dsimp only; omega, by dsimp only; omega⟩ (fun h v h' hh hj9 => ?_)
        obtain ⟨r9, rfl, rfl, rfl⟩ := hj9
        refine V_weak (I2 := WD cB cI cO ee na nb P S X f g) (fun x hx => by rw [hx]; exact hh) ?_
        refine V_iconst (pc' := 321) C dL_isDone_320 rfl ?_
        refine V_iadd (pc' := 322) C dL_isDone_321 rfl ?_
        refine V_iload10 (pc' := 324) C dL_isDone_322 rfl ?_
        refine V_ifeq (tgt := 331) C (by decide) dL_isDone_324 (by decide) rfl (fun c_324 => ?_) (fun c_324 => ?_)
        · exact absurd c_324 (by decide)
        · refine V_iconst (pc' := 328) C dL_isDone_327 rfl ?_
          refine V_goto (tgt := 333) C dL_isDone_328 (by decide) ?_
          refine V_iast (pc' := 334) (n := 540) (f := f) (I2 := WD cB cI cO ee na nb P S X (upZ f ((60 + 60 * q) + 1) 0) g) C 2 rfl (fun h hh => ⟨901, hh.2.1, hh.a hIv⟩) ⟨by omega, by omega, by omega⟩ dL_isDone_333 rfl ?_
          refine V_iload10 (pc' := 336) C dL_isDone_334 rfl ?_
          refine V_ifeq (tgt := 350) C (by decide) dL_isDone_336 (by decide) rfl (fun c_336 => ?_) (fun c_336 => ?_)
          · exact absurd c_336 (by decide)
          · have hq9 : isMacB S q = true := isMac_t.mpr ⟨by omega, by omega⟩
            have hT : takeX S q = (S.1 9 q, uA S 9 q 0) := by
              rw [show takeX S q = _ from if_neg (by rw [hq9]; decide), h0s]
            have hans : ansL (takeX S q) = S.1 9 q := by rw [hT]; exact ansL_0 h31
            have hR2 := hnr.take (m := q) hwp (by omega)
            obtain ⟨ms9, len9, h8, h9, hM⟩ := KL_takeGrants (D := D) (cB := cB) (cC := cC) (cI := cI) (cO := cO) (cJ := cJ) (cD := cD) (ee := ee) (P := P) hIv hst (m := q) ⟨by omega, by omega⟩
            have hlb := len_b hIv (by omega) hlx h9
            refine V_aload0 (pc' := 340) C dL_isDone_339 rfl ?_
            refine V_iload7 (pc' := 342) C dL_isDone_340 rfl ?_
            refine V_callSW (n := 2) [.ref (P 1), .int (iI q)] C hM gL_isDone_L_takeGrants rfl ydL_takeGrants ⟨Nat.le_of_ble_eq_true rfl, Nat.le_of_ble_eq_true rfl⟩ ⟨rfl, rfl⟩ rfl (fun h hh => hh.1) rfl (Nat.le_of_ble_eq_true rfl) dL_isDone_342 ⟨by dsimp only; omega, by dsimp only; omega⟩ (fun h v h' hh hj9 => ?_)
            obtain ⟨rfl, ⟨P2, X2, hc2, hp2, hi2, hx2⟩, hF2⟩ := hj9
            refine V_weak (I2 := WD cB cI cO ee na nb P2 ((takeX S q).2) X2 (upZ f ((60 + 60 * q) + 1) 0) g) (fun x hx => by rw [hx]; exact hh.k hF2 hc2) ?_
            refine V_iload9 (pc' := 347) C dL_isDone_345 rfl ?_
            refine V_sameNE (pc' := 350) (tgt := 354) C (hans) dL_isDone_347 (by decide) rfl ?_
            refine V_iconst (pc' := 351) C dL_isDone_350 rfl ?_
            refine V_goto (tgt := 355) C dL_isDone_351 (by decide) ?_
            exact V_endz (z := 1) C hr hlk (nar_z true) (fun h' hh => LO_mk hh hp2 hi2 (by omega) (by omega) (by rw [upZ_n (by omega)]; omega) hk (by rw [hT]; exact hR2) (by rw [hT]; rfl)) ⟨by omega, by omega⟩ dL_isDone_355
    · refine V_tabIn (off := 230) (tgt := 356) C hrz dL_isDone_126 ⟨by omega, by omega⟩ (by rw [hv9]; rfl) (by decide) ?_
      refine V_aload0 (pc' := 357) C dL_isDone_356 rfl ?_
      refine V_aload1 (pc' := 358) C dL_isDone_357 rfl ?_
      refine V_iload7 (pc' := 360) C dL_isDone_358 rfl ?_
      refine V_aload3 (pc' := 361) C dL_isDone_360 rfl ?_
      refine V_iload4 (pc' := 363) C dL_isDone_361 rfl ?_
      refine V_bipush (pc' := 365) C dL_isDone_363 rfl (by decide) ?_
      refine V_iadd (pc' := 366) C dL_isDone_365 rfl ?_
      refine V_bipush (pc' := 368) C dL_isDone_366 rfl (by decide) ?_
      refine V_callS (n := 3) [.ref ee.2, .int (iI (i + 6)), .int (iI 10)] C (kL_in (by omega) (by omega)) gL_isDone_L_in rfl ydL_in ⟨Nat.le_of_ble_eq_true rfl, Nat.le_of_ble_eq_true rfl⟩ ⟨rfl, rfl⟩ rfl (fun h hh => trivial) rfl (Nat.le_of_ble_eq_true rfl) dL_isDone_368 ⟨by dsimp only; omega, by dsimp only; omega⟩ (fun h v h' hh hj9 => ?_)
      obtain ⟨⟨z368, hz368, rfl⟩, rfl⟩ := hj9
      refine V_weak (I2 := WD cB cI cO ee na nb P S X f g) (fun x hx => by rw [hx]; exact hh) ?_
      refine V_aload3 (pc' := 372) C dL_isDone_371 rfl ?_
      refine V_iload4 (pc' := 374) C dL_isDone_372 rfl ?_
      refine V_iconst (pc' := 375) C dL_isDone_374 rfl ?_
      refine V_iadd (pc' := 376) C dL_isDone_375 rfl ?_
      refine V_iconst (pc' := 377) C dL_isDone_376 rfl ?_
      refine V_callS (n := 3) [.ref ee.2, .int (iI (i + 4)), .int (iI 3)] C (kL_in (by omega) (by omega)) gL_isDone_L_in rfl ydL_in ⟨Nat.le_of_ble_eq_true rfl, Nat.le_of_ble_eq_true rfl⟩ ⟨rfl, rfl⟩ rfl (fun h hh => trivial) rfl (Nat.le_of_ble_eq_true rfl) dL_isDone_377 ⟨by dsimp only; omega, by dsimp only; omega⟩ (fun h v h' hh hj9 => ?_)
      obtain ⟨⟨z377, hz377, rfl⟩, rfl⟩ := hj9
      refine V_weak (I2 := WD cB cI cO ee na nb P S X f g) (fun x hx => by rw [hx]; exact hh) ?_
      refine V_aload3 (pc' := 381) C dL_isDone_380 rfl ?_
      refine V_iload4 (pc' := 383) C dL_isDone_381 rfl ?_
      refine V_iconst (pc' := 384) C dL_isDone_383 rfl ?_
      refine V_iadd (pc' := 385) C dL_isDone_384 rfl ?_
      refine V_iconst (pc' := 386) C dL_isDone_385 rfl ?_
      refine V_callS (n := 3) [.ref ee.2, .int (iI (i + 5)), .int (iI 3)] C (kL_in (by omega) (by omega)) gL_isDone_L_in rfl ydL_in ⟨Nat.le_of_ble_eq_true rfl, Nat.le_of_ble_eq_true rfl⟩ ⟨rfl, rfl⟩ rfl (fun h hh => trivial) rfl (Nat.le_of_ble_eq_true rfl) dL_isDone_386 ⟨by dsimp only; omega, by dsimp only; omega⟩ (fun h v h' hh hj9 => ?_)
      obtain ⟨⟨z386, hz386, rfl⟩, rfl⟩ := hj9
      refine V_weak (I2 := WD cB cI cO ee na nb P S X f g) (fun x hx => by rw [hx]; exact hh) ?_
      refine V_iload5 (pc' := 391) C dL_isDone_389 rfl ?_
      refine V_iload6 (pc' := 393) C dL_isDone_391 rfl ?_
      refine V_callS (n := 8) [.ref (P 1), .ref na, .int (iI q), .int (iI z368), .int (iI z377), .int (iI z386), .int (iI c), .int (iI r)] C (kO_isRule (P := P) (S := S) (X := X) (f := f) (g := g) (k := k) (by omega) (by omega) (by omega) (by omega) (by omega) (by omega) hst hW (by omega)) gL_isDone_L_isRule rfl ydL_isRule ⟨Nat.le_of_ble_eq_true rfl, Nat.le_of_ble_eq_true rfl⟩ ⟨rfl, rfl⟩ rfl (fun h hh => hh) rfl (Nat.le_of_ble_eq_true rfl) dL_isDone_393 ⟨by dsimp only; omega, by dsimp only; omega⟩ (fun h v h' hh hj9 => ?_)
      obtain ⟨rfl, P393, S393, X393, f393, g393, hD393, hp393, hW393, hs393⟩ := hj9
      refine V_weak (I2 := WD cB cI cO ee na nb P393 S393 X393 f393 g393) (fun x hx => by rw [hx]; exact hD393) ?_
      exact V_endz (z := 1) C hr hlk (nar_z true) (fun h' hh => ⟨rfl, P393, S393, X393, f393, g393, hh, hp393, hW393, hs393⟩) ⟨by omega, by omega⟩ dL_isDone_396
    · refine V_tabIn (off := 271) (tgt := 397) C hrz dL_isDone_126 ⟨by omega, by omega⟩ (by rw [hv9]; rfl) (by decide) ?_
      refine V_aload1 (pc' := 398) C dL_isDone_397 rfl ?_
      refine V_bipush (pc' := 400) C dL_isDone_398 rfl (by decide) ?_
      refine V_ialdE (pc' := 401) (n := 540) (f := f) (v := S.2 23) C 2 rfl (fun h hh => ⟨901, hh.2.1⟩) ⟨by omega, by omega, by omega⟩ (n51) dL_isDone_400 rfl ?_
      refine V_ifne (tgt := 421) C (by omega) dL_isDone_401 (by decide) rfl (fun c_401 => ?_) (fun c_401 => ?_)
      · refine V_sipush (pc' := 424) C dL_isDone_421 rfl (by decide) ?_
        refine V_bipush (pc' := 426) C dL_isDone_424 rfl (by decide) ?_
        refine V_aload3 (pc' := 427) C dL_isDone_426 rfl ?_
        refine V_iload4 (pc' := 429) C dL_isDone_427 rfl ?_
        refine V_iconst (pc' := 430) C dL_isDone_429 rfl ?_
        refine V_iadd (pc' := 431) C dL_isDone_430 rfl ?_
        refine V_aload1 (pc' := 432) C dL_isDone_431 rfl ?_
        refine V_bipush (pc' := 434) C dL_isDone_432 rfl (by decide) ?_
        refine V_ialdE (pc' := 435) (n := 540) (f := f) (v := S.2 23) C 2 rfl (fun h hh => ⟨901, hh.2.1⟩) ⟨by omega, by omega, by omega⟩ (n51) dL_isDone_434 rfl ?_
        refine V_callS (n := 3) [.ref ee.2, .int (iI (i + 1)), .int (iI (S.2 23))] C (kL_in (by omega) (by omega)) gL_isDone_L_in rfl ydL_in ⟨Nat.le_of_ble_eq_true rfl, Nat.le_of_ble_eq_true rfl⟩ ⟨rfl, rfl⟩ rfl (fun h hh => trivial) rfl (Nat.le_of_ble_eq_true rfl) dL_isDone_435 ⟨by dsimp only; omega, by dsimp only; omega⟩ (fun h v h' hh hj9 => ?_)
        obtain ⟨⟨z435, hz435, rfl⟩, rfl⟩ := hj9
        refine V_weak (I2 := WD cB cI cO ee na nb P S X f g) (fun x hx => by rw [hx]; exact hh) ?_
        refine V_imul (pc' := 439) C dL_isDone_438 rfl ?_
        refine V_iadd (pc' := 440) C dL_isDone_439 rfl ?_
        refine V_istore9 (pc' := 442) C dL_isDone_440 rfl (by decide) rfl ?_
        refine V_aload1 (pc' := 443) C dL_isDone_442 rfl ?_
        refine V_iload9 (pc' := 445) C dL_isDone_443 rfl ?_
        refine V_ialdE (pc' := 446) (n := 540) (f := f) (v := S.1 15 z435) C 2 rfl (fun h hh => ⟨901, hh.2.1⟩) ⟨by omega, by omega, by omega⟩ ((by have := (hnr.2.2.2.1 z435 (by omega) (by omega)).2.2.2.2.2; rw [show 420 + 6 * z435 + 5 = 425 + 6 * z435 by omega] at this; exact this)) dL_isDone_445 rfl ?_
        refine V_istore10 (pc' := 448) C dL_isDone_446 rfl (by decide) rfl ?_
        refine V_aload1 (pc' := 449) C dL_isDone_448 rfl ?_
        refine V_iload9 (pc' := 451) C dL_isDone_449 rfl ?_
        refine V_aload3 (pc' := 452) C dL_isDone_451 rfl ?_
        refine V_iload4 (pc' := 454) C dL_isDone_452 rfl ?_
        refine V_iconst (pc' := 455) C dL_isDone_454 rfl ?_
        refine V_iadd (pc' := 456) C dL_isDone_455 rfl ?_
        refine V_bipush (pc' := 458) C dL_isDone_456 rfl (by decide) ?_
        refine V_callS (n := 3) [.ref ee.2, .int (iI (i + 2)), .int (iI 10)] C (kL_in (by omega) (by omega)) gL_isDone_L_in rfl ydL_in ⟨Nat.le_of_ble_eq_true rfl, Nat.le_of_ble_eq_true rfl⟩ ⟨rfl, rfl⟩ rfl (fun h hh => trivial) rfl (Nat.le_of_ble_eq_true rfl) dL_isDone_458 ⟨by dsimp only; omega, by dsimp only; omega⟩ (fun h v h' hh hj9 => ?_)
        obtain ⟨⟨z458, hz458, rfl⟩, rfl⟩ := hj9
        refine V_weak (I2 := WD cB cI cO ee na nb P S X f g) (fun x hx => by rw [hx]; exact hh) ?_
        refine V_iast (pc' := 462) (n := 540) (f := f) (I2 := WD cB cI cO ee na nb P S X (upZ f (425 + (6 * z435)) z458) g) C 2 rfl (fun h hh => ⟨901, hh.2.1, hh.a hIv⟩) ⟨by omega, by omega, by omega⟩ dL_isDone_461 rfl ?_
        have hT : setRankX S z435 z458 = (S.1 15 z435, uA S 15 z435 z458) := by
          rw [show setRankX S z435 z458 = _ from (if_neg (by simp [isInB]; omega)).trans (if_neg (by simp [isInB]; omega)), h0s]
        have hans : ansL (setRankX S z435 z458) = S.1 15 z435 := by rw [hT]; exact ansL_0 h31
        have hR2 := hnr.rank (q := z435) (k := z458) hwp (by omega) (by omega)
        obtain ⟨ms9, len9, h8, h9, hM⟩ := KL_setRank (D := D) (cB := cB) (cC := cC) (cI := cI) (cO := cO) (cJ := cJ) (cD := cD) (ee := ee) (P := P) hIv hst (q := z435) (k := z458) ⟨by omega, by omega⟩ ⟨by omega, by omega⟩
        have hlb := len_b hIv (by omega) hlx h9
        refine V_aload0 (pc' := 463) C dL_isDone_462 rfl ?_
        refine V_iload9 (pc' := 465) C dL_isDone_463 rfl ?_
        refine V_sipush (pc' := 468) C dL_isDone_465 rfl (by decide) ?_
        refine V_isubE (pc' := 469) (v := 6 * z435) C (by omega) dL_isDone_468 rfl ?_
        refine V_bipush (pc' := 471) C dL_isDone_469 rfl (by decide) ?_
        refine V_idivE (pc' := 472) (v := z435) C ⟨by omega, by omega, by decide, by decide⟩ (by omega) dL_isDone_471 rfl ?_
        refine V_aload1 (pc' := 473) C dL_isDone_472 rfl ?_
        refine V_iload9 (pc' := 475) C dL_isDone_473 rfl ?_
        refine V_ialdE (pc' := 476) (n := 540) (f := upZ f (425 + (6 * z435)) z458) (v := z458) C 2 rfl (fun h hh => ⟨901, hh.2.1⟩) ⟨by omega, by omega, by omega⟩ (upZ_s) dL_isDone_475 rfl ?_
        refine V_callSW (n := 3) [.ref (P 1), .int (iI z435), .int (iI z458)] C hM gL_isDone_L_setRank rfl ydL_setRank ⟨Nat.le_of_ble_eq_true rfl, Nat.le_of_ble_eq_true rfl⟩ ⟨rfl, rfl⟩ rfl (fun h hh => hh.1) rfl (Nat.le_of_ble_eq_true rfl) dL_isDone_476 ⟨by dsimp only; omega, by dsimp only; omega⟩ (fun h v h' hh hj9 => ?_)
        obtain ⟨rfl, ⟨P2, X2, hc2, hp2, hi2, hx2⟩, hF2⟩ := hj9
        refine V_weak (I2 := WD cB cI cO ee na nb P2 ((setRankX S z435 z458).2) X2 (upZ f (425 + (6 * z435)) z458) g) (fun x hx => by rw [hx]; exact hh.k hF2 hc2) ?_
        refine V_iload10 (pc' := 481) C dL_isDone_479 rfl ?_
        refine V_sameNE (pc' := 484) (tgt := 488) C (hans) dL_isDone_481 (by decide) rfl ?_
        refine V_iconst (pc' := 485) C dL_isDone_484 rfl ?_
        refine V_goto (tgt := 489) C dL_isDone_485 (by decide) ?_
        exact V_endz (z := 1) C hr hlk (nar_z true) (fun h' hh => LO_mk hh hp2 hi2 (by omega) (by omega) (by rw [upZ_n (by omega)]; omega) hk (by rw [hT]; rw [show 420 + 6 * z435 + 5 = 425 + 6 * z435 by omega] at hR2; exact hR2) (by rw [hT]; rfl)) ⟨by omega, by omega⟩ dL_isDone_489
      · have hT : setRankX S 0 0 = (0, uG S 31 1) := if_pos (by simp [isInB]; omega)
        have hans : ansL (setRankX S 0 0) = -900001 := by rw [hT]; exact ansL_k (k := 1) (uG_s _ _ _) (by decide)
        obtain ⟨ms9, len9, h8, h9, hM⟩ := KL_setRank (D := D) (cB := cB) (cC := cC) (cI := cI) (cO := cO) (cJ := cJ) (cD := cD) (ee := ee) (P := P) hIv hst (q := 0) (k := 0) (by decide) (by decide)
        have hlb := len_b hIv (by omega) hlx h9
        refine V_aload0 (pc' := 405) C dL_isDone_404 rfl ?_
        refine V_iconst (pc' := 406) C dL_isDone_405 rfl ?_
        refine V_iconst (pc' := 407) C dL_isDone_406 rfl ?_
        refine V_callSW (n := 3) [.ref (P 1), .int (iI 0), .int (iI 0)] C hM gL_isDone_L_setRank rfl ydL_setRank ⟨Nat.le_of_ble_eq_true rfl, Nat.le_of_ble_eq_true rfl⟩ ⟨rfl, rfl⟩ rfl (fun h hh => hh.1) rfl (Nat.le_of_ble_eq_true rfl) dL_isDone_407 ⟨by dsimp only; omega, by dsimp only; omega⟩ (fun h v h' hh hj9 => ?_)
        obtain ⟨rfl, ⟨P2, X2, hc2, hp2, hi2, hx2⟩, hF2⟩ := hj9
        refine V_weak (I2 := WD cB cI cO ee na nb P2 ((setRankX S 0 0).2) X2 f g) (fun x hx => by rw [hx]; exact hh.k hF2 hc2) ?_
        refine V_ldc (pc' := 412) (n := (-900001)) (v := (-900001)) C (by decide +kernel) dL_isDone_410 rfl (by decide) ?_
        refine V_sameNE (pc' := 415) (tgt := 419) C (hans) dL_isDone_412 (by decide) rfl ?_
        refine V_iconst (pc' := 416) C dL_isDone_415 rfl ?_
        refine V_goto (tgt := 420) C dL_isDone_416 (by decide) ?_
        exact V_endz (z := 1) C hr hlk (nar_z true) (fun h' hh => LO_mk hh hp2 hi2 (by omega) (by omega) (by omega) hk (by rw [hT]; exact hnr) (by rw [hT]; rfl)) ⟨by omega, by omega⟩ dL_isDone_420
    · refine V_tabIn (off := 364) (tgt := 490) C hrz dL_isDone_126 ⟨by omega, by omega⟩ (by rw [hv9]; rfl) (by decide) ?_
      refine V_aload0 (pc' := 491) C dL_isDone_490 rfl ?_
      refine V_aload1 (pc' := 492) C dL_isDone_491 rfl ?_
      refine V_aload2 (pc' := 493) C dL_isDone_492 rfl ?_
      refine V_callS (n := 3) [.ref (P 1), .ref na, .ref nb] C (kO_isUndone (P := P) (S := S) (X := X) (f := f) (g := g) (k := k)  hst hW (by omega)) gL_isDone_L_isUndone rfl ydL_isUndone ⟨Nat.le_of_ble_eq_true rfl, Nat.le_of_ble_eq_true rfl⟩ ⟨rfl, rfl⟩ rfl (fun h hh => hh) rfl (Nat.le_of_ble_eq_true rfl) dL_isDone_493 ⟨by dsimp only; omega, by dsimp only; omega⟩ (fun h v h' hh hj9 => ?_)
      obtain ⟨rfl, P493, S493, X493, f493, g493, hD493, hp493, hW493, hs493⟩ := hj9
      refine V_weak (I2 := WD cB cI cO ee na nb P493 S493 X493 f493 g493) (fun x hx => by rw [hx]; exact hD493) ?_
      exact V_endz (z := 1) C hr hlk (nar_z true) (fun h' hh => ⟨rfl, P493, S493, X493, f493, g493, hh, hp493, hW493, hs493⟩) ⟨by omega, by omega⟩ dL_isDone_496
    · refine V_tabIn (off := 364) (tgt := 490) C hrz dL_isDone_126 ⟨by omega, by omega⟩ (by rw [hv9]; rfl) (by decide) ?_
      refine V_aload0 (pc' := 491) C dL_isDone_490 rfl ?_
      refine V_aload1 (pc' := 492) C dL_isDone_491 rfl ?_
      refine V_aload2 (pc' := 493) C dL_isDone_492 rfl ?_
      refine V_callS (n := 3) [.ref (P 1), .ref na, .ref nb] C (kO_isUndone (P := P) (S := S) (X := X) (f := f) (g := g) (k := k)  hst hW (by omega)) gL_isDone_L_isUndone rfl ydL_isUndone ⟨Nat.le_of_ble_eq_true rfl, Nat.le_of_ble_eq_true rfl⟩ ⟨rfl, rfl⟩ rfl (fun h hh => hh) rfl (Nat.le_of_ble_eq_true rfl) dL_isDone_493 ⟨by dsimp only; omega, by dsimp only; omega⟩ (fun h v h' hh hj9 => ?_)
      obtain ⟨rfl, P493, S493, X493, f493, g493, hD493, hp493, hW493, hs493⟩ := hj9
      refine V_weak (I2 := WD cB cI cO ee na nb P493 S493 X493 f493 g493) (fun x hx => by rw [hx]; exact hD493) ?_
      exact V_endz (z := 1) C hr hlk (nar_z true) (fun h' hh => ⟨rfl, P493, S493, X493, f493, g493, hh, hp493, hW493, hs493⟩) ⟨by omega, by omega⟩ dL_isDone_496
    · refine V_tabOut (tgt := 497) C hrz dL_isDone_126 (Or.inr hv9) (by decide) ?_
      refine V_aload0 (pc' := 498) C dL_isDone_497 rfl ?_
      refine V_aload1 (pc' := 499) C dL_isDone_498 rfl ?_
      refine V_aload2 (pc' := 500) C dL_isDone_499 rfl ?_
      refine V_iload7 (pc' := 502) C dL_isDone_500 rfl ?_
      refine V_iload5 (pc' := 504) C dL_isDone_502 rfl ?_
      refine V_iload6 (pc' := 506) C dL_isDone_504 rfl ?_
      refine V_callS (n := 6) [.ref (P 1), .ref na, .ref nb, .int (iI q), .int (iI c), .int (iI r)] C (kO_isRun (P := P) (S := S) (X := X) (f := f) (g := g) (k := k) (by omega) (by omega) (by omega) hst hW (by omega)) gL_isDone_L_isRun rfl ydL_isRun ⟨Nat.le_of_ble_eq_true rfl, Nat.le_of_ble_eq_true rfl⟩ ⟨rfl, rfl⟩ rfl (fun h hh => hh) rfl (Nat.le_of_ble_eq_true rfl) dL_isDone_506 ⟨by dsimp only; omega, by dsimp only; omega⟩ (fun h v h' hh hj9 => ?_)
      obtain ⟨rfl, P506, S506, X506, f506, g506, hD506, hp506, hW506, hs506⟩ := hj9
      refine V_weak (I2 := WD cB cI cO ee na nb P506 S506 X506 f506 g506) (fun x hx => by rw [hx]; exact hD506) ?_
      exact V_endz (z := 1) C hr hlk (nar_z true) (fun h' hh => ⟨rfl, P506, S506, X506, f506, g506, hh, hp506, hW506, hs506⟩) ⟨by omega, by omega⟩ dL_isDone_509
  refine V_aload3 (pc' := 1) C dL_isDone_0 rfl ?_
  refine V_iload4 (pc' := 3) C dL_isDone_1 rfl ?_
  refine V_iconst (pc' := 4) C dL_isDone_3 rfl ?_
  refine V_iadd (pc' := 5) C dL_isDone_4 rfl ?_
  refine V_aload3 (pc' := 6) C dL_isDone_5 rfl ?_
  refine V_iload4 (pc' := 8) C dL_isDone_6 rfl ?_
  refine V_bipush (pc' := 10) C dL_isDone_8 rfl (by decide) ?_
  refine V_iadd (pc' := 11) C dL_isDone_10 rfl ?_
  refine V_iconst (pc' := 12) C dL_isDone_11 rfl ?_
  refine V_callS (n := 3) [.ref ee.2, .int (iI (i + 6)), .int (iI 2)] C (kL_in (by omega) (by omega)) gL_isDone_L_in rfl ydL_in ⟨Nat.le_of_ble_eq_true rfl, Nat.le_of_ble_eq_true rfl⟩ ⟨rfl, rfl⟩ rfl (fun h hh => trivial) rfl (Nat.le_of_ble_eq_true rfl) dL_isDone_12 ⟨by dsimp only; omega, by dsimp only; omega⟩ (fun h v h' hh hj9 => ?_)
  obtain ⟨⟨z12, hz12, rfl⟩, rfl⟩ := hj9
  refine V_weak (I2 := WD cB cI cO ee na nb P S X f g) (fun x hx => by rw [hx]; exact hh) ?_
  refine V_ifne (tgt := 22) C (by omega) dL_isDone_15 (by decide) rfl (fun c_15 => ?_) (fun c_15 => ?_)
  · refine V_bipush (pc' := 24) C dL_isDone_22 rfl (by decide) ?_
    refine V_callS (n := 3) [.ref ee.2, .int (iI (i + 1)), .int (iI 6)] C (kL_in (by omega) (by omega)) gL_isDone_L_in rfl ydL_in ⟨Nat.le_of_ble_eq_true rfl, Nat.le_of_ble_eq_true rfl⟩ ⟨rfl, rfl⟩ rfl (fun h hh => trivial) rfl (Nat.le_of_ble_eq_true rfl) dL_isDone_24 ⟨by dsimp only; omega, by dsimp only; omega⟩ (fun h v h' hh hj9 => ?_)
    obtain ⟨⟨z24, hz24, rfl⟩, rfl⟩ := hj9
    refine V_weak (I2 := WD cB cI cO ee na nb P S X f g) (fun x hx => by rw [hx]; exact hh) ?_
    refine V_istore5 (pc' := 29) C dL_isDone_27 rfl (by decide) rfl ?_
    refine V_aload3 (pc' := 30) C dL_isDone_29 rfl ?_
    refine V_iload4 (pc' := 32) C dL_isDone_30 rfl ?_
    refine V_iconst (pc' := 33) C dL_isDone_32 rfl ?_
    refine V_iadd (pc' := 34) C dL_isDone_33 rfl ?_
    refine V_aload3 (pc' := 35) C dL_isDone_34 rfl ?_
    refine V_iload4 (pc' := 37) C dL_isDone_35 rfl ?_
    refine V_bipush (pc' := 39) C dL_isDone_37 rfl (by decide) ?_
    refine V_iadd (pc' := 40) C dL_isDone_39 rfl ?_
    refine V_iconst (pc' := 41) C dL_isDone_40 rfl ?_
    refine V_callS (n := 3) [.ref ee.2, .int (iI (i + 6)), .int (iI 2)] C (kL_in (by omega) (by omega)) gL_isDone_L_in rfl ydL_in ⟨Nat.le_of_ble_eq_true rfl, Nat.le_of_ble_eq_true rfl⟩ ⟨rfl, rfl⟩ rfl (fun h hh => trivial) rfl (Nat.le_of_ble_eq_true rfl) dL_isDone_41 ⟨by dsimp only; omega, by dsimp only; omega⟩ (fun h v h' hh hj9 => ?_)
    obtain ⟨⟨z41, hz41, rfl⟩, rfl⟩ := hj9
    refine V_weak (I2 := WD cB cI cO ee na nb P S X f g) (fun x hx => by rw [hx]; exact hh) ?_
    refine V_ifne (tgt := 51) C (by omega) dL_isDone_44 (by decide) rfl (fun c_44 => ?_) (fun c_44 => ?_)
    · refine V_bipush (pc' := 53) C dL_isDone_51 rfl (by decide) ?_
      refine V_callS (n := 3) [.ref ee.2, .int (iI (i + 2)), .int (iI 8)] C (kL_in (by omega) (by omega)) gL_isDone_L_in rfl ydL_in ⟨Nat.le_of_ble_eq_true rfl, Nat.le_of_ble_eq_true rfl⟩ ⟨rfl, rfl⟩ rfl (fun h hh => trivial) rfl (Nat.le_of_ble_eq_true rfl) dL_isDone_53 ⟨by dsimp only; omega, by dsimp only; omega⟩ (fun h v h' hh hj9 => ?_)
      obtain ⟨⟨z53, hz53, rfl⟩, rfl⟩ := hj9
      refine V_weak (I2 := WD cB cI cO ee na nb P S X f g) (fun x hx => by rw [hx]; exact hh) ?_
      refine V_istore6 (pc' := 58) C dL_isDone_56 rfl (by decide) rfl ?_
      refine V_aload3 (pc' := 59) C dL_isDone_58 rfl ?_
      refine V_iload4 (pc' := 61) C dL_isDone_59 rfl ?_
      refine V_iconst (pc' := 62) C dL_isDone_61 rfl ?_
      refine V_iadd (pc' := 63) C dL_isDone_62 rfl ?_
      refine V_aload1 (pc' := 64) C dL_isDone_63 rfl ?_
      refine V_bipush (pc' := 66) C dL_isDone_64 rfl (by decide) ?_
      refine V_ialdE (pc' := 67) (n := 540) (f := f) (v := S.2 22) C 2 rfl (fun h hh => ⟨901, hh.2.1⟩) ⟨by omega, by omega, by omega⟩ (n50) dL_isDone_66 rfl ?_
      refine V_callS (n := 3) [.ref ee.2, .int (iI (i + 3)), .int (iI (S.2 22))] C (kL_in (by omega) (by omega)) gL_isDone_L_in rfl ydL_in ⟨Nat.le_of_ble_eq_true rfl, Nat.le_of_ble_eq_true rfl⟩ ⟨rfl, rfl⟩ rfl (fun h hh => trivial) rfl (Nat.le_of_ble_eq_true rfl) dL_isDone_67 ⟨by dsimp only; omega, by dsimp only; omega⟩ (fun h v h' hh hj9 => ?_)
      obtain ⟨⟨z67, hz67, rfl⟩, rfl⟩ := hj9
      refine V_weak (I2 := WD cB cI cO ee na nb P S X f g) (fun x hx => by rw [hx]; exact hh) ?_
      refine V_istore7 (pc' := 72) C dL_isDone_70 rfl (by decide) rfl ?_
      refine V_aload3 (pc' := 73) C dL_isDone_72 rfl ?_
      refine V_iload4 (pc' := 75) C dL_isDone_73 rfl ?_
      refine V_bipush (pc' := 77) C dL_isDone_75 rfl (by decide) ?_
      refine V_iadd (pc' := 78) C dL_isDone_77 rfl ?_
      refine V_bipush (pc' := 80) C dL_isDone_78 rfl (by decide) ?_
      refine V_callS (n := 3) [.ref ee.2, .int (iI (i + 6)), .int (iI 9)] C (kL_in (by omega) (by omega)) gL_isDone_L_in rfl ydL_in ⟨Nat.le_of_ble_eq_true rfl, Nat.le_of_ble_eq_true rfl⟩ ⟨rfl, rfl⟩ rfl (fun h hh => trivial) rfl (Nat.le_of_ble_eq_true rfl) dL_isDone_80 ⟨by dsimp only; omega, by dsimp only; omega⟩ (fun h v h' hh hj9 => ?_)
      obtain ⟨⟨z80, hz80, rfl⟩, rfl⟩ := hj9
      refine V_weak (I2 := WD cB cI cO ee na nb P S X f g) (fun x hx => by rw [hx]; exact hh) ?_
      refine V_ifne (tgt := 104) C (by omega) dL_isDone_83 (by decide) rfl (fun c_83 => ?_) (fun c_83 => ?_)
      · refine V_aload3 (pc' := 105) C dL_isDone_104 rfl ?_
        refine V_iload4 (pc' := 107) C dL_isDone_105 rfl ?_
        refine V_iconst (pc' := 108) C dL_isDone_107 rfl ?_
        refine V_iadd (pc' := 109) C dL_isDone_108 rfl ?_
        refine V_bipush (pc' := 111) C dL_isDone_109 rfl (by decide) ?_
        refine V_callS (n := 3) [.ref ee.2, .int (iI (i + 5)), .int (iI 9)] C (kL_in (by omega) (by omega)) gL_isDone_L_in rfl ydL_in ⟨Nat.le_of_ble_eq_true rfl, Nat.le_of_ble_eq_true rfl⟩ ⟨rfl, rfl⟩ rfl (fun h hh => trivial) rfl (Nat.le_of_ble_eq_true rfl) dL_isDone_111 ⟨by dsimp only; omega, by dsimp only; omega⟩ (fun h v h' hh hj9 => ?_)
        obtain ⟨⟨z111, hz111, rfl⟩, rfl⟩ := hj9
        refine V_weak (I2 := WD cB cI cO ee na nb P S X f g) (fun x hx => by rw [hx]; exact hh) ?_
        refine V_iconst (pc' := 115) C dL_isDone_114 rfl ?_
        refine V_isub (pc' := 116) C dL_isDone_115 rfl ?_
        refine V_istore8 (pc' := 118) C dL_isDone_116 rfl (by decide) rfl ?_
        exact V_widen (by omega) (by omega) (V_locals (fun i v hv => hv) (key z24 z53 z67 (z111 - 4) (by omega) (by omega) (by omega) (by omega)))
      · refine V_aload3 (pc' := 87) C dL_isDone_86 rfl ?_
        refine V_iload4 (pc' := 89) C dL_isDone_87 rfl ?_
        refine V_iconst (pc' := 90) C dL_isDone_89 rfl ?_
        refine V_iadd (pc' := 91) C dL_isDone_90 rfl ?_
        refine V_sipush (pc' := 94) C dL_isDone_91 rfl (by decide) ?_
        refine V_callS (n := 3) [.ref ee.2, .int (iI (i + 5)), .int (iI 20100)] C (kL_in (by omega) (by omega)) gL_isDone_L_in rfl ydL_in ⟨Nat.le_of_ble_eq_true rfl, Nat.le_of_ble_eq_true rfl⟩ ⟨rfl, rfl⟩ rfl (fun h hh => trivial) rfl (Nat.le_of_ble_eq_true rfl) dL_isDone_94 ⟨by dsimp only; omega, by dsimp only; omega⟩ (fun h v h' hh hj9 => ?_)
        obtain ⟨⟨z94, hz94, rfl⟩, rfl⟩ := hj9
        refine V_weak (I2 := WD cB cI cO ee na nb P S X f g) (fun x hx => by rw [hx]; exact hh) ?_
        refine V_sipush (pc' := 100) C dL_isDone_97 rfl (by decide) ?_
        refine V_isub (pc' := 101) C dL_isDone_100 rfl ?_
        refine V_goto (tgt := 116) C dL_isDone_101 (by decide) ?_
        refine V_istore8 (pc' := 118) C dL_isDone_116 rfl (by decide) rfl ?_
        exact V_widen (by omega) (by omega) (V_locals (fun i v hv => hv) (key z24 z53 z67 (z94 - 10050) (by omega) (by omega) (by omega) (by omega)))
    · refine V_iconst (pc' := 48) C dL_isDone_47 rfl ?_
      refine V_goto (tgt := 53) C dL_isDone_48 (by decide) ?_
      refine V_callS (n := 3) [.ref ee.2, .int (iI (i + 2)), .int (iI 3)] C (kL_in (by omega) (by omega)) gL_isDone_L_in rfl ydL_in ⟨Nat.le_of_ble_eq_true rfl, Nat.le_of_ble_eq_true rfl⟩ ⟨rfl, rfl⟩ rfl (fun h hh => trivial) rfl (Nat.le_of_ble_eq_true rfl) dL_isDone_53 ⟨by dsimp only; omega, by dsimp only; omega⟩ (fun h v h' hh hj9 => ?_)
      obtain ⟨⟨z53, hz53, rfl⟩, rfl⟩ := hj9
      refine V_weak (I2 := WD cB cI cO ee na nb P S X f g) (fun x hx => by rw [hx]; exact hh) ?_
      refine V_istore6 (pc' := 58) C dL_isDone_56 rfl (by decide) rfl ?_
      refine V_aload3 (pc' := 59) C dL_isDone_58 rfl ?_
      refine V_iload4 (pc' := 61) C dL_isDone_59 rfl ?_
      refine V_iconst (pc' := 62) C dL_isDone_61 rfl ?_
      refine V_iadd (pc' := 63) C dL_isDone_62 rfl ?_
      refine V_aload1 (pc' := 64) C dL_isDone_63 rfl ?_
      refine V_bipush (pc' := 66) C dL_isDone_64 rfl (by decide) ?_
      refine V_ialdE (pc' := 67) (n := 540) (f := f) (v := S.2 22) C 2 rfl (fun h hh => ⟨901, hh.2.1⟩) ⟨by omega, by omega, by omega⟩ (n50) dL_isDone_66 rfl ?_
      refine V_callS (n := 3) [.ref ee.2, .int (iI (i + 3)), .int (iI (S.2 22))] C (kL_in (by omega) (by omega)) gL_isDone_L_in rfl ydL_in ⟨Nat.le_of_ble_eq_true rfl, Nat.le_of_ble_eq_true rfl⟩ ⟨rfl, rfl⟩ rfl (fun h hh => trivial) rfl (Nat.le_of_ble_eq_true rfl) dL_isDone_67 ⟨by dsimp only; omega, by dsimp only; omega⟩ (fun h v h' hh hj9 => ?_)
      obtain ⟨⟨z67, hz67, rfl⟩, rfl⟩ := hj9
      refine V_weak (I2 := WD cB cI cO ee na nb P S X f g) (fun x hx => by rw [hx]; exact hh) ?_
      refine V_istore7 (pc' := 72) C dL_isDone_70 rfl (by decide) rfl ?_
      refine V_aload3 (pc' := 73) C dL_isDone_72 rfl ?_
      refine V_iload4 (pc' := 75) C dL_isDone_73 rfl ?_
      refine V_bipush (pc' := 77) C dL_isDone_75 rfl (by decide) ?_
      refine V_iadd (pc' := 78) C dL_isDone_77 rfl ?_
      refine V_bipush (pc' := 80) C dL_isDone_78 rfl (by decide) ?_
      refine V_callS (n := 3) [.ref ee.2, .int (iI (i + 6)), .int (iI 9)] C (kL_in (by omega) (by omega)) gL_isDone_L_in rfl ydL_in ⟨Nat.le_of_ble_eq_true rfl, Nat.le_of_ble_eq_true rfl⟩ ⟨rfl, rfl⟩ rfl (fun h hh => trivial) rfl (Nat.le_of_ble_eq_true rfl) dL_isDone_80 ⟨by dsimp only; omega, by dsimp only; omega⟩ (fun h v h' hh hj9 => ?_)
      obtain ⟨⟨z80, hz80, rfl⟩, rfl⟩ := hj9
      refine V_weak (I2 := WD cB cI cO ee na nb P S X f g) (fun x hx => by rw [hx]; exact hh) ?_
      refine V_ifne (tgt := 104) C (by omega) dL_isDone_83 (by decide) rfl (fun c_83 => ?_) (fun c_83 => ?_)
      · refine V_aload3 (pc' := 105) C dL_isDone_104 rfl ?_
        refine V_iload4 (pc' := 107) C dL_isDone_105 rfl ?_
        refine V_iconst (pc' := 108) C dL_isDone_107 rfl ?_
        refine V_iadd (pc' := 109) C dL_isDone_108 rfl ?_
        refine V_bipush (pc' := 111) C dL_isDone_109 rfl (by decide) ?_
        refine V_callS (n := 3) [.ref ee.2, .int (iI (i + 5)), .int (iI 9)] C (kL_in (by omega) (by omega)) gL_isDone_L_in rfl ydL_in ⟨Nat.le_of_ble_eq_true rfl, Nat.le_of_ble_eq_true rfl⟩ ⟨rfl, rfl⟩ rfl (fun h hh => trivial) rfl (Nat.le_of_ble_eq_true rfl) dL_isDone_111 ⟨by dsimp only; omega, by dsimp only; omega⟩ (fun h v h' hh hj9 => ?_)
        obtain ⟨⟨z111, hz111, rfl⟩, rfl⟩ := hj9
        refine V_weak (I2 := WD cB cI cO ee na nb P S X f g) (fun x hx => by rw [hx]; exact hh) ?_
        refine V_iconst (pc' := 115) C dL_isDone_114 rfl ?_
        refine V_isub (pc' := 116) C dL_isDone_115 rfl ?_
        refine V_istore8 (pc' := 118) C dL_isDone_116 rfl (by decide) rfl ?_
        exact V_widen (by omega) (by omega) (V_locals (fun i v hv => hv) (key z24 z53 z67 (z111 - 4) (by omega) (by omega) (by omega) (by omega)))
      · refine V_aload3 (pc' := 87) C dL_isDone_86 rfl ?_
        refine V_iload4 (pc' := 89) C dL_isDone_87 rfl ?_
        refine V_iconst (pc' := 90) C dL_isDone_89 rfl ?_
        refine V_iadd (pc' := 91) C dL_isDone_90 rfl ?_
        refine V_sipush (pc' := 94) C dL_isDone_91 rfl (by decide) ?_
        refine V_callS (n := 3) [.ref ee.2, .int (iI (i + 5)), .int (iI 20100)] C (kL_in (by omega) (by omega)) gL_isDone_L_in rfl ydL_in ⟨Nat.le_of_ble_eq_true rfl, Nat.le_of_ble_eq_true rfl⟩ ⟨rfl, rfl⟩ rfl (fun h hh => trivial) rfl (Nat.le_of_ble_eq_true rfl) dL_isDone_94 ⟨by dsimp only; omega, by dsimp only; omega⟩ (fun h v h' hh hj9 => ?_)
        obtain ⟨⟨z94, hz94, rfl⟩, rfl⟩ := hj9
        refine V_weak (I2 := WD cB cI cO ee na nb P S X f g) (fun x hx => by rw [hx]; exact hh) ?_
        refine V_sipush (pc' := 100) C dL_isDone_97 rfl (by decide) ?_
        refine V_isub (pc' := 101) C dL_isDone_100 rfl ?_
        refine V_goto (tgt := 116) C dL_isDone_101 (by decide) ?_
        refine V_istore8 (pc' := 118) C dL_isDone_116 rfl (by decide) rfl ?_
        exact V_widen (by omega) (by omega) (V_locals (fun i v hv => hv) (key z24 z53 z67 (z94 - 10050) (by omega) (by omega) (by omega) (by omega)))
  · refine V_iconst (pc' := 19) C dL_isDone_18 rfl ?_
    refine V_goto (tgt := 24) C dL_isDone_19 (by decide) ?_
    refine V_callS (n := 3) [.ref ee.2, .int (iI (i + 1)), .int (iI 3)] C (kL_in (by omega) (by omega)) gL_isDone_L_in rfl ydL_in ⟨Nat.le_of_ble_eq_true rfl, Nat.le_of_ble_eq_true rfl⟩ ⟨rfl, rfl⟩ rfl (fun h hh => trivial) rfl (Nat.le_of_ble_eq_true rfl) dL_isDone_24 ⟨by dsimp only; omega, by dsimp only; omega⟩ (fun h v h' hh hj9 => ?_)
    obtain ⟨⟨z24, hz24, rfl⟩, rfl⟩ := hj9
    refine V_weak (I2 := WD cB cI cO ee na nb P S X f g) (fun x hx => by rw [hx]; exact hh) ?_
    refine V_istore5 (pc' := 29) C dL_isDone_27 rfl (by decide) rfl ?_
    refine V_aload3 (pc' := 30) C dL_isDone_29 rfl ?_
    refine V_iload4 (pc' := 32) C dL_isDone_30 rfl ?_
    refine V_iconst (pc' := 33) C dL_isDone_32 rfl ?_
    refine V_iadd (pc' := 34) C dL_isDone_33 rfl ?_
    refine V_aload3 (pc' := 35) C dL_isDone_34 rfl ?_
    refine V_iload4 (pc' := 37) C dL_isDone_35 rfl ?_
    refine V_bipush (pc' := 39) C dL_isDone_37 rfl (by decide) ?_
    refine V_iadd (pc' := 40) C dL_isDone_39 rfl ?_
    refine V_iconst (pc' := 41) C dL_isDone_40 rfl ?_
    refine V_callS (n := 3) [.ref ee.2, .int (iI (i + 6)), .int (iI 2)] C (kL_in (by omega) (by omega)) gL_isDone_L_in rfl ydL_in ⟨Nat.le_of_ble_eq_true rfl, Nat.le_of_ble_eq_true rfl⟩ ⟨rfl, rfl⟩ rfl (fun h hh => trivial) rfl (Nat.le_of_ble_eq_true rfl) dL_isDone_41 ⟨by dsimp only; omega, by dsimp only; omega⟩ (fun h v h' hh hj9 => ?_)
    obtain ⟨⟨z41, hz41, rfl⟩, rfl⟩ := hj9
    refine V_weak (I2 := WD cB cI cO ee na nb P S X f g) (fun x hx => by rw [hx]; exact hh) ?_
    refine V_ifne (tgt := 51) C (by omega) dL_isDone_44 (by decide) rfl (fun c_44 => ?_) (fun c_44 => ?_)
    · refine V_bipush (pc' := 53) C dL_isDone_51 rfl (by decide) ?_
      refine V_callS (n := 3) [.ref ee.2, .int (iI (i + 2)), .int (iI 8)] C (kL_in (by omega) (by omega)) gL_isDone_L_in rfl ydL_in ⟨Nat.le_of_ble_eq_true rfl, Nat.le_of_ble_eq_true rfl⟩ ⟨rfl, rfl⟩ rfl (fun h hh => trivial) rfl (Nat.le_of_ble_eq_true rfl) dL_isDone_53 ⟨by dsimp only; omega, by dsimp only; omega⟩ (fun h v h' hh hj9 => ?_)
      obtain ⟨⟨z53, hz53, rfl⟩, rfl⟩ := hj9
      refine V_weak (I2 := WD cB cI cO ee na nb P S X f g) (fun x hx => by rw [hx]; exact hh) ?_
      refine V_istore6 (pc' := 58) C dL_isDone_56 rfl (by decide) rfl ?_
      refine V_aload3 (pc' := 59) C dL_isDone_58 rfl ?_
      refine V_iload4 (pc' := 61) C dL_isDone_59 rfl ?_
      refine V_iconst (pc' := 62) C dL_isDone_61 rfl ?_
      refine V_iadd (pc' := 63) C dL_isDone_62 rfl ?_
      refine V_aload1 (pc' := 64) C dL_isDone_63 rfl ?_
      refine V_bipush (pc' := 66) C dL_isDone_64 rfl (by decide) ?_
      refine V_ialdE (pc' := 67) (n := 540) (f := f) (v := S.2 22) C 2 rfl (fun h hh => ⟨901, hh.2.1⟩) ⟨by omega, by omega, by omega⟩ (n50) dL_isDone_66 rfl ?_
      refine V_callS (n := 3) [.ref ee.2, .int (iI (i + 3)), .int (iI (S.2 22))] C (kL_in (by omega) (by omega)) gL_isDone_L_in rfl ydL_in ⟨Nat.le_of_ble_eq_true rfl, Nat.le_of_ble_eq_true rfl⟩ ⟨rfl, rfl⟩ rfl (fun h hh => trivial) rfl (Nat.le_of_ble_eq_true rfl) dL_isDone_67 ⟨by dsimp only; omega, by dsimp only; omega⟩ (fun h v h' hh hj9 => ?_)
      obtain ⟨⟨z67, hz67, rfl⟩, rfl⟩ := hj9
      refine V_weak (I2 := WD cB cI cO ee na nb P S X f g) (fun x hx => by rw [hx]; exact hh) ?_
      refine V_istore7 (pc' := 72) C dL_isDone_70 rfl (by decide) rfl ?_
      refine V_aload3 (pc' := 73) C dL_isDone_72 rfl ?_
      refine V_iload4 (pc' := 75) C dL_isDone_73 rfl ?_
      refine V_bipush (pc' := 77) C dL_isDone_75 rfl (by decide) ?_
      refine V_iadd (pc' := 78) C dL_isDone_77 rfl ?_
      refine V_bipush (pc' := 80) C dL_isDone_78 rfl (by decide) ?_
      refine V_callS (n := 3) [.ref ee.2, .int (iI (i + 6)), .int (iI 9)] C (kL_in (by omega) (by omega)) gL_isDone_L_in rfl ydL_in ⟨Nat.le_of_ble_eq_true rfl, Nat.le_of_ble_eq_true rfl⟩ ⟨rfl, rfl⟩ rfl (fun h hh => trivial) rfl (Nat.le_of_ble_eq_true rfl) dL_isDone_80 ⟨by dsimp only; omega, by dsimp only; omega⟩ (fun h v h' hh hj9 => ?_)
      obtain ⟨⟨z80, hz80, rfl⟩, rfl⟩ := hj9
      refine V_weak (I2 := WD cB cI cO ee na nb P S X f g) (fun x hx => by rw [hx]; exact hh) ?_
      refine V_ifne (tgt := 104) C (by omega) dL_isDone_83 (by decide) rfl (fun c_83 => ?_) (fun c_83 => ?_)
      · refine V_aload3 (pc' := 105) C dL_isDone_104 rfl ?_
        refine V_iload4 (pc' := 107) C dL_isDone_105 rfl ?_
        refine V_iconst (pc' := 108) C dL_isDone_107 rfl ?_
        refine V_iadd (pc' := 109) C dL_isDone_108 rfl ?_
        refine V_bipush (pc' := 111) C dL_isDone_109 rfl (by decide) ?_
        refine V_callS (n := 3) [.ref ee.2, .int (iI (i + 5)), .int (iI 9)] C (kL_in (by omega) (by omega)) gL_isDone_L_in rfl ydL_in ⟨Nat.le_of_ble_eq_true rfl, Nat.le_of_ble_eq_true rfl⟩ ⟨rfl, rfl⟩ rfl (fun h hh => trivial) rfl (Nat.le_of_ble_eq_true rfl) dL_isDone_111 ⟨by dsimp only; omega, by dsimp only; omega⟩ (fun h v h' hh hj9 => ?_)
        obtain ⟨⟨z111, hz111, rfl⟩, rfl⟩ := hj9
        refine V_weak (I2 := WD cB cI cO ee na nb P S X f g) (fun x hx => by rw [hx]; exact hh) ?_
        refine V_iconst (pc' := 115) C dL_isDone_114 rfl ?_
        refine V_isub (pc' := 116) C dL_isDone_115 rfl ?_
        refine V_istore8 (pc' := 118) C dL_isDone_116 rfl (by decide) rfl ?_
        exact V_widen (by omega) (by omega) (V_locals (fun i v hv => hv) (key z24 z53 z67 (z111 - 4) (by omega) (by omega) (by omega) (by omega)))
      · refine V_aload3 (pc' := 87) C dL_isDone_86 rfl ?_
        refine V_iload4 (pc' := 89) C dL_isDone_87 rfl ?_
        refine V_iconst (pc' := 90) C dL_isDone_89 rfl ?_
        refine V_iadd (pc' := 91) C dL_isDone_90 rfl ?_
        refine V_sipush (pc' := 94) C dL_isDone_91 rfl (by decide) ?_
        refine V_callS (n := 3) [.ref ee.2, .int (iI (i + 5)), .int (iI 20100)] C (kL_in (by omega) (by omega)) gL_isDone_L_in rfl ydL_in ⟨Nat.le_of_ble_eq_true rfl, Nat.le_of_ble_eq_true rfl⟩ ⟨rfl, rfl⟩ rfl (fun h hh => trivial) rfl (Nat.le_of_ble_eq_true rfl) dL_isDone_94 ⟨by dsimp only; omega, by dsimp only; omega⟩ (fun h v h' hh hj9 => ?_)
        obtain ⟨⟨z94, hz94, rfl⟩, rfl⟩ := hj9
        refine V_weak (I2 := WD cB cI cO ee na nb P S X f g) (fun x hx => by rw [hx]; exact hh) ?_
        refine V_sipush (pc' := 100) C dL_isDone_97 rfl (by decide) ?_
        refine V_isub (pc' := 101) C dL_isDone_100 rfl ?_
        refine V_goto (tgt := 116) C dL_isDone_101 (by decide) ?_
        refine V_istore8 (pc' := 118) C dL_isDone_116 rfl (by decide) rfl ?_
        exact V_widen (by omega) (by omega) (V_locals (fun i v hv => hv) (key z24 z53 z67 (z94 - 10050) (by omega) (by omega) (by omega) (by omega)))
    · refine V_iconst (pc' := 48) C dL_isDone_47 rfl ?_
      refine V_goto (tgt := 53) C dL_isDone_48 (by decide) ?_
      refine V_callS (n := 3) [.ref ee.2, .int (iI (i + 2)), .int (iI 3)] C (kL_in (by omega) (by omega)) gL_isDone_L_in rfl ydL_in ⟨Nat.le_of_ble_eq_true rfl, Nat.le_of_ble_eq_true rfl⟩ ⟨rfl, rfl⟩ rfl (fun h hh => trivial) rfl (Nat.le_of_ble_eq_true rfl) dL_isDone_53 ⟨by dsimp only; omega, by dsimp only; omega⟩ (fun h v h' hh hj9 => ?_)
      obtain ⟨⟨z53, hz53, rfl⟩, rfl⟩ := hj9
      refine V_weak (I2 := WD cB cI cO ee na nb P S X f g) (fun x hx => by rw [hx]; exact hh) ?_
      refine V_istore6 (pc' := 58) C dL_isDone_56 rfl (by decide) rfl ?_
      refine V_aload3 (pc' := 59) C dL_isDone_58 rfl ?_
      refine V_iload4 (pc' := 61) C dL_isDone_59 rfl ?_
      refine V_iconst (pc' := 62) C dL_isDone_61 rfl ?_
      refine V_iadd (pc' := 63) C dL_isDone_62 rfl ?_
      refine V_aload1 (pc' := 64) C dL_isDone_63 rfl ?_
      refine V_bipush (pc' := 66) C dL_isDone_64 rfl (by decide) ?_
      refine V_ialdE (pc' := 67) (n := 540) (f := f) (v := S.2 22) C 2 rfl (fun h hh => ⟨901, hh.2.1⟩) ⟨by omega, by omega, by omega⟩ (n50) dL_isDone_66 rfl ?_
      refine V_callS (n := 3) [.ref ee.2, .int (iI (i + 3)), .int (iI (S.2 22))] C (kL_in (by omega) (by omega)) gL_isDone_L_in rfl ydL_in ⟨Nat.le_of_ble_eq_true rfl, Nat.le_of_ble_eq_true rfl⟩ ⟨rfl, rfl⟩ rfl (fun h hh => trivial) rfl (Nat.le_of_ble_eq_true rfl) dL_isDone_67 ⟨by dsimp only; omega, by dsimp only; omega⟩ (fun h v h' hh hj9 => ?_)
      obtain ⟨⟨z67, hz67, rfl⟩, rfl⟩ := hj9
      refine V_weak (I2 := WD cB cI cO ee na nb P S X f g) (fun x hx => by rw [hx]; exact hh) ?_
      refine V_istore7 (pc' := 72) C dL_isDone_70 rfl (by decide) rfl ?_
      refine V_aload3 (pc' := 73) C dL_isDone_72 rfl ?_
      refine V_iload4 (pc' := 75) C dL_isDone_73 rfl ?_
      refine V_bipush (pc' := 77) C dL_isDone_75 rfl (by decide) ?_
      refine V_iadd (pc' := 78) C dL_isDone_77 rfl ?_
      refine V_bipush (pc' := 80) C dL_isDone_78 rfl (by decide) ?_
      refine V_callS (n := 3) [.ref ee.2, .int (iI (i + 6)), .int (iI 9)] C (kL_in (by omega) (by omega)) gL_isDone_L_in rfl ydL_in ⟨Nat.le_of_ble_eq_true rfl, Nat.le_of_ble_eq_true rfl⟩ ⟨rfl, rfl⟩ rfl (fun h hh => trivial) rfl (Nat.le_of_ble_eq_true rfl) dL_isDone_80 ⟨by dsimp only; omega, by dsimp only; omega⟩ (fun h v h' hh hj9 => ?_)
      obtain ⟨⟨z80, hz80, rfl⟩, rfl⟩ := hj9
      refine V_weak (I2 := WD cB cI cO ee na nb P S X f g) (fun x hx => by rw [hx]; exact hh) ?_
      refine V_ifne (tgt := 104) C (by omega) dL_isDone_83 (by decide) rfl (fun c_83 => ?_) (fun c_83 => ?_)
      · refine V_aload3 (pc' := 105) C dL_isDone_104 rfl ?_
        refine V_iload4 (pc' := 107) C dL_isDone_105 rfl ?_
        refine V_iconst (pc' := 108) C dL_isDone_107 rfl ?_
        refine V_iadd (pc' := 109) C dL_isDone_108 rfl ?_
        refine V_bipush (pc' := 111) C dL_isDone_109 rfl (by decide) ?_
        refine V_callS (n := 3) [.ref ee.2, .int (iI (i + 5)), .int (iI 9)] C (kL_in (by omega) (by omega)) gL_isDone_L_in rfl ydL_in ⟨Nat.le_of_ble_eq_true rfl, Nat.le_of_ble_eq_true rfl⟩ ⟨rfl, rfl⟩ rfl (fun h hh => trivial) rfl (Nat.le_of_ble_eq_true rfl) dL_isDone_111 ⟨by dsimp only; omega, by dsimp only; omega⟩ (fun h v h' hh hj9 => ?_)
        obtain ⟨⟨z111, hz111, rfl⟩, rfl⟩ := hj9
        refine V_weak (I2 := WD cB cI cO ee na nb P S X f g) (fun x hx => by rw [hx]; exact hh) ?_
        refine V_iconst (pc' := 115) C dL_isDone_114 rfl ?_
        refine V_isub (pc' := 116) C dL_isDone_115 rfl ?_
        refine V_istore8 (pc' := 118) C dL_isDone_116 rfl (by decide) rfl ?_
        exact V_widen (by omega) (by omega) (V_locals (fun i v hv => hv) (key z24 z53 z67 (z111 - 4) (by omega) (by omega) (by omega) (by omega)))
      · refine V_aload3 (pc' := 87) C dL_isDone_86 rfl ?_
        refine V_iload4 (pc' := 89) C dL_isDone_87 rfl ?_
        refine V_iconst (pc' := 90) C dL_isDone_89 rfl ?_
        refine V_iadd (pc' := 91) C dL_isDone_90 rfl ?_
        refine V_sipush (pc' := 94) C dL_isDone_91 rfl (by decide) ?_
        refine V_callS (n := 3) [.ref ee.2, .int (iI (i + 5)), .int (iI 20100)] C (kL_in (by omega) (by omega)) gL_isDone_L_in rfl ydL_in ⟨Nat.le_of_ble_eq_true rfl, Nat.le_of_ble_eq_true rfl⟩ ⟨rfl, rfl⟩ rfl (fun h hh => trivial) rfl (Nat.le_of_ble_eq_true rfl) dL_isDone_94 ⟨by dsimp only; omega, by dsimp only; omega⟩ (fun h v h' hh hj9 => ?_)
        obtain ⟨⟨z94, hz94, rfl⟩, rfl⟩ := hj9
        refine V_weak (I2 := WD cB cI cO ee na nb P S X f g) (fun x hx => by rw [hx]; exact hh) ?_
        refine V_sipush (pc' := 100) C dL_isDone_97 rfl (by decide) ?_
        refine V_isub (pc' := 101) C dL_isDone_100 rfl ?_
        refine V_goto (tgt := 116) C dL_isDone_101 (by decide) ?_
        refine V_istore8 (pc' := 118) C dL_isDone_116 rfl (by decide) rfl ?_
        exact V_widen (by omega) (by omega) (V_locals (fun i v hv => hv) (key z24 z53 z67 (z94 - 10050) (by omega) (by omega) (by omega) (by omega)))
end

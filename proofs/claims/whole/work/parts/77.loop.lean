/-! the law: its loop  -/
section
variable {p : Program} {l : Launch} {e : Env} {s : State} {m : MethodId} {args : Array Value} {below : List Frame} {meth : Method} {c : Code} {Q : State → Prop} {D : va_G} {A : Nat → Prop} {cB cC cI cO cJ cD : ClassId} {ee b N mo ou od : Nat} {xs' : Int → Int} {Pm : Nat → Nat}

set_option maxHeartbeats 4000000 in
set_option maxRecDepth 100000 in
theorem law_loop {x : Nat} (C : Cx p m c code 9 s args wsL_law RL D (tyL cB cC cI cO cJ cD) A ee) (hX : va_X b N (iF xs') s s.heap) (hbl : b < s.heap.size) (hbA : ¬ A b) (hst : l.stackTraces = false) (hxs : ∀ z, rI (xs' z)) (hN : N ≤ 3584)
    (hend : ∀ (I : Hp → Prop) (L : List (Option Value)), Vx p l e room_1 s m args below meth c (603072) (7215210) Q D A 9 (I) 1849 L []) : ∀ (n k : Nat) (P : Nat → Nat) (S X : MSt) (c9 s9 : Nat), 512 ≤ k + n → k ≤ 512 → INV S X (210 * (k : Int)) → P 1 = x → c9 ≤ 100 + 12 * k → s9 ≤ 20000 + 40 * k + 8 * (X.2 26).toNat → Vx p l e room_1 s m args below meth c (c9) (s9) Q D A 9 (LJ cB cC cI cO ee mo Pm P S X S (ON cJ cD ou od)) 28 [some (.ref b), some (.ref x), some (.ref mo), some (.ref ou), some (.ref od), some (.int (iI (7 * (k : Int)))), none, none, none] [] := by
  intro n
  induction n with
  | zero =>
    intro k P S X c9 s9 hn hk hI hP h1 h2
    have hn9 := INV_len hI
    refine V_iload5 (pc' := 30) C dL_law_28 rfl ?_
    refine V_aload0 (pc' := 31) C dL_law_30 rfl ?_
    refine V_slen (pc' := 32) C hX hbl hbA dL_law_31 rfl ?_
    refine V_bipush (pc' := 34) C dL_law_32 rfl (by decide) ?_
    refine V_isub (pc' := 35) C dL_law_34 rfl ?_
    refine V_icmpgt (tgt := 1849) C ⟨⟨by omega, by omega⟩, by omega, by omega⟩ dL_law_35 (by decide) rfl (fun c_35 => ?_) (fun c_35 => ?_)
    · exact V_widen (by omega) (by omega) (hend _ _)
    · exact absurd c_35 (by omega)
  | succ n ih =>
    intro k P S X c9 s9 hn hk hI hP h1 h2
    subst hP
    have hn9 := INV_len hI
    refine V_iload5 (pc' := 30) C dL_law_28 rfl ?_
    refine V_aload0 (pc' := 31) C dL_law_30 rfl ?_
    refine V_slen (pc' := 32) C hX hbl hbA dL_law_31 rfl ?_
    refine V_bipush (pc' := 34) C dL_law_32 rfl (by decide) ?_
    refine V_isub (pc' := 35) C dL_law_34 rfl ?_
    refine V_icmpgt (tgt := 1849) C ⟨⟨by omega, by omega⟩, by omega, by omega⟩ dL_law_35 (by decide) rfl (fun c_35 => ?_) (fun c_35 => ?_)
    · exact V_widen (by omega) (by omega) (hend _ _)
    · have hk7 : 7 * (k : Int) + 7 ≤ N := by omega
      have e7 : 7 * (k : Int) + 7 = 7 * ((k + 1 : Nat) : Int) := by omega
      have e2 : 210 * (k : Int) + 210 = 210 * ((k + 1 : Nat) : Int) := by omega
      have next : ∀ (P' : Nat → Nat) (S' X' : MSt) (c' s' : Nat), INV S' X' (210 * (k : Int) + 210) → P' 1 = P 1 → c' ≤ 100 + 12 * (k + 1) → s' ≤ 20000 + 40 * (k + 1) + 8 * (X'.2 26).toNat → Vx p l e room_1 s m args below meth c (c') (s') Q D A 9 (LJ cB cC cI cO ee mo Pm P' S' X' S' (ON cJ cD ou od)) 1843 [some (.ref b), some (.ref (P 1)), some (.ref mo), some (.ref ou), some (.ref od), some (.int (iI (7 * (k : Int)))), none, none, none] [] := by
        intro P' S' X' c' s' hI' hP' hc' hs'
        refine V_iinc5 (pc' := 1846) C dL_law_1843 rfl (by decide) rfl ?_
        refine V_goto (tgt := 28) C dL_law_1846 (by decide) ?_
        rw [e7]
        rw [e2] at hI'
        exact ih (k + 1) P' S' X' c' s' (by omega) (by omega) hI' hP' (by omega) (by omega)
      refine V_aload0 (pc' := 39) C dL_law_38 rfl ?_
      refine V_iload5 (pc' := 41) C dL_law_39 rfl ?_
      refine V_sld (pc' := 42) C hX hbl hbA ⟨by omega, by omega, by omega⟩ dL_law_41 rfl ?_
      refine V_bipush (pc' := 44) C dL_law_42 rfl (by decide) ?_
      refine V_iand31L (pc' := 45) C (hxs _) dL_law_44 rfl ?_
      have hr : rI (xs' (7 * (k : Int)) % 32) := ⟨by omega, by omega⟩
      have hv : xs' (7 * (k : Int)) % 32 = 0 ∨ xs' (7 * (k : Int)) % 32 = 1 ∨ xs' (7 * (k : Int)) % 32 = 2 ∨ xs' (7 * (k : Int)) % 32 = 3 ∨ xs' (7 * (k : Int)) % 32 = 4 ∨ xs' (7 * (k : Int)) % 32 = 5 ∨ xs' (7 * (k : Int)) % 32 = 6 ∨ xs' (7 * (k : Int)) % 32 = 7 ∨ xs' (7 * (k : Int)) % 32 = 8 ∨ xs' (7 * (k : Int)) % 32 = 9 ∨ xs' (7 * (k : Int)) % 32 = 10 ∨ xs' (7 * (k : Int)) % 32 = 11 ∨ xs' (7 * (k : Int)) % 32 = 12 ∨ xs' (7 * (k : Int)) % 32 = 13 ∨ xs' (7 * (k : Int)) % 32 = 14 ∨ xs' (7 * (k : Int)) % 32 = 15 ∨ xs' (7 * (k : Int)) % 32 = 16 ∨ xs' (7 * (k : Int)) % 32 = 17 ∨ xs' (7 * (k : Int)) % 32 = 18 ∨ xs' (7 * (k : Int)) % 32 = 19 ∨ xs' (7 * (k : Int)) % 32 = 20 ∨ xs' (7 * (k : Int)) % 32 = 21 ∨ xs' (7 * (k : Int)) % 32 = 22 ∨ xs' (7 * (k : Int)) % 32 = 23 ∨ xs' (7 * (k : Int)) % 32 = 24 ∨ xs' (7 * (k : Int)) % 32 = 25 ∨ 25 < xs' (7 * (k : Int)) % 32 := by omega
      rcases hv with hv | hv | hv | hv | hv | hv | hv | hv | hv | hv | hv | hv | hv | hv | hv | hv | hv | hv | hv | hv | hv | hv | hv | hv | hv | hv | hv
      · exact V_tabIn (off := 119) (tgt := 164) C hr dL_law_45 ⟨by omega, by omega⟩ (by rw [hv]; rfl) (by decide) (law_0 C hX hbl hbA hst hxs hI hk7 hN h1 h2 next)
      · exact V_tabIn (off := 199) (tgt := 244) C hr dL_law_45 ⟨by omega, by omega⟩ (by rw [hv]; rfl) (by decide) (law_1 C hX hbl hbA hst hxs hI hk7 hN h1 h2 next)
      · exact V_tabIn (off := 279) (tgt := 324) C hr dL_law_45 ⟨by omega, by omega⟩ (by rw [hv]; rfl) (by decide) (law_2 C hX hbl hbA hst hxs hI hk7 hN h1 h2 next)
      · exact V_tabIn (off := 347) (tgt := 392) C hr dL_law_45 ⟨by omega, by omega⟩ (by rw [hv]; rfl) (by decide) (law_3 C hX hbl hbA hst hxs hI hk7 hN h1 h2 next)
      · exact V_tabIn (off := 415) (tgt := 460) C hr dL_law_45 ⟨by omega, by omega⟩ (by rw [hv]; rfl) (by decide) (law_4 C hX hbl hbA hst hxs hI hk7 hN h1 h2 next)
      · exact V_tabIn (off := 483) (tgt := 528) C hr dL_law_45 ⟨by omega, by omega⟩ (by rw [hv]; rfl) (by decide) (law_5 C hX hbl hbA hst hxs hI hk7 hN h1 h2 next)
      · exact V_tabIn (off := 527) (tgt := 572) C hr dL_law_45 ⟨by omega, by omega⟩ (by rw [hv]; rfl) (by decide) (law_6 C hX hbl hbA hst hxs hI hk7 hN h1 h2 next)
      · exact V_tabIn (off := 607) (tgt := 652) C hr dL_law_45 ⟨by omega, by omega⟩ (by rw [hv]; rfl) (by decide) (law_7 C hX hbl hbA hst hxs hI hk7 hN h1 h2 next)
      · exact V_tabIn (off := 651) (tgt := 696) C hr dL_law_45 ⟨by omega, by omega⟩ (by rw [hv]; rfl) (by decide) (law_8 C hX hbl hbA hst hxs hI hk7 hN h1 h2 next)
      · exact V_tabIn (off := 707) (tgt := 752) C hr dL_law_45 ⟨by omega, by omega⟩ (by rw [hv]; rfl) (by decide) (law_9 C hX hbl hbA hst hxs hI hk7 hN h1 h2 next)
      · exact V_tabIn (off := 811) (tgt := 856) C hr dL_law_45 ⟨by omega, by omega⟩ (by rw [hv]; rfl) (by decide) (law_10 C hX hbl hbA hst hxs hI hk7 hN h1 h2 next)
      · exact V_tabIn (off := 867) (tgt := 912) C hr dL_law_45 ⟨by omega, by omega⟩ (by rw [hv]; rfl) (by decide) (law_11 C hX hbl hbA hst hxs hI hk7 hN h1 h2 next)
      · exact V_tabIn (off := 935) (tgt := 980) C hr dL_law_45 ⟨by omega, by omega⟩ (by rw [hv]; rfl) (by decide) (law_12 C hX hbl hbA hst hxs hI hk7 hN h1 h2 next)
      · exact V_tabIn (off := 1015) (tgt := 1060) C hr dL_law_45 ⟨by omega, by omega⟩ (by rw [hv]; rfl) (by decide) (law_13 C hX hbl hbA hst hxs hI hk7 hN h1 h2 next)
      · exact V_tabIn (off := 1095) (tgt := 1140) C hr dL_law_45 ⟨by omega, by omega⟩ (by rw [hv]; rfl) (by decide) (law_14 C hX hbl hbA hst hxs hI hk7 hN h1 h2 next)
      · exact V_tabIn (off := 1213) (tgt := 1258) C hr dL_law_45 ⟨by omega, by omega⟩ (by rw [hv]; rfl) (by decide) (law_15 C hX hbl hbA hst hxs hI hk7 hN h1 h2 next)
      · exact V_tabIn (off := 1281) (tgt := 1326) C hr dL_law_45 ⟨by omega, by omega⟩ (by rw [hv]; rfl) (by decide) (law_16 C hX hbl hbA hst hxs hI hk7 hN h1 h2 next)
      · exact V_tabIn (off := 1349) (tgt := 1394) C hr dL_law_45 ⟨by omega, by omega⟩ (by rw [hv]; rfl) (by decide) (law_17 C hX hbl hbA hst hxs hI hk7 hN h1 h2 next)
      · exact V_tabIn (off := 1362) (tgt := 1407) C hr dL_law_45 ⟨by omega, by omega⟩ (by rw [hv]; rfl) (by decide) (law_18 C hX hbl hbA hst hxs hI hk7 hN h1 h2 next)
      · exact V_tabIn (off := 1406) (tgt := 1451) C hr dL_law_45 ⟨by omega, by omega⟩ (by rw [hv]; rfl) (by decide) (law_19 C hX hbl hbA hst hxs hI hk7 hN h1 h2 next)
      · exact V_tabIn (off := 1419) (tgt := 1464) C hr dL_law_45 ⟨by omega, by omega⟩ (by rw [hv]; rfl) (by decide) (law_20 C hX hbl hbA hst hxs hI hk7 hN h1 h2 next)
      · exact V_tabIn (off := 1475) (tgt := 1520) C hr dL_law_45 ⟨by omega, by omega⟩ (by rw [hv]; rfl) (by decide) (law_21 C hX hbl hbA hst hxs hI hk7 hN h1 h2 next)
      · exact V_tabIn (off := 1543) (tgt := 1588) C hr dL_law_45 ⟨by omega, by omega⟩ (by rw [hv]; rfl) (by decide) (law_22 C hX hbl hbA hst hxs hI hk7 hN h1 h2 next)
      · exact V_tabIn (off := 1611) (tgt := 1656) C hr dL_law_45 ⟨by omega, by omega⟩ (by rw [hv]; rfl) (by decide) (law_23 C hX hbl hbA hst hxs hI hk7 hN h1 h2 next)
      · exact V_tabIn (off := 1667) (tgt := 1712) C hr dL_law_45 ⟨by omega, by omega⟩ (by rw [hv]; rfl) (by decide) (law_24 C hX hbl hbA hst hxs hI hk7 hN h1 h2 next)
      · exact V_tabIn (off := 1733) (tgt := 1778) C hr dL_law_45 ⟨by omega, by omega⟩ (by rw [hv]; rfl) (by decide) (law_25 C hX hbl hbA hst hxs hI hk7 hN h1 h2 next)
      · exact V_tabOut (tgt := 1843) C hr dL_law_45 (Or.inr hv) (by decide) (next P S X c9 s9 (INV_b hI (by omega) (by omega)) rfl (by omega) (by omega))
end

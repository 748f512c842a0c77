set_option maxRecDepth 20000 in
theorem wsL_law0_r1_in : ∀ w ∈ wsL_law0_r1, w ∈ lw_tb2 := fun w h => (goodIn_p wsL_law0_r1 [742, 746, 70] (by decide +kernel) (by decide +kernel) w h).1
set_option maxRecDepth 20000 in
theorem wsL_law0_r2_in : ∀ w ∈ wsL_law0_r2, w ∈ lw_tb2 := fun w h => (goodIn_p wsL_law0_r2 [751] (by decide +kernel) (by decide +kernel) w h).1
set_option maxRecDepth 20000 in
theorem wsL_law0_r3_in : ∀ w ∈ wsL_law0_r3, w ∈ lw_tb2 := fun w h => (goodIn_p wsL_law0_r3 [760, 763, 766, 784, 806] (by decide +kernel) (by decide +kernel) w h).1
set_option maxRecDepth 20000 in
theorem wsL_law0_r4_in : ∀ w ∈ wsL_law0_r4, w ∈ lw_tb2 := fun w h => (goodIn_p wsL_law0_r4 [819, 822, 828, 831] (by decide +kernel) (by decide +kernel) w h).1
set_option maxRecDepth 20000 in
theorem wsL_law0_r5_in : ∀ w ∈ wsL_law0_r5, w ∈ lw_tb2 := fun w h => (goodIn_p wsL_law0_r5 [605, 608, 890, 210] (by decide +kernel) (by decide +kernel) w h).1
set_option maxRecDepth 20000 in
theorem wsL_law0_r6_in : ∀ w ∈ wsL_law0_r6, w ∈ lw_tb2 := fun w h => (goodIn_p wsL_law0_r6 [895, 234, 239, 243] (by decide +kernel) (by decide +kernel) w h).1
set_option maxRecDepth 20000 in
theorem wsL_law0_r7_in : ∀ w ∈ wsL_law0_r7, w ∈ lw_tb2 := fun w h => (goodIn_p wsL_law0_r7 [247, 255, 252, 259, 262] (by decide +kernel) (by decide +kernel) w h).1
set_option maxRecDepth 20000 in
theorem wsL_law0_r8_in : ∀ w ∈ wsL_law0_r8, w ∈ lw_tb2 := fun w h => (goodIn_p wsL_law0_r8 [286, 292, 682, 623] (by decide +kernel) (by decide +kernel) w h).1
set_option maxRecDepth 20000 in
theorem wsL_law0_r9_in : ∀ w ∈ wsL_law0_r9, w ∈ lw_tb2 := fun w h => (goodIn_p wsL_law0_r9 [689, 486, 206] (by decide +kernel) (by decide +kernel) w h).1

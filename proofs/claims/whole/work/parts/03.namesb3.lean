set_option maxRecDepth 20000 in
theorem wsL_law0_r29_in : ∀ w ∈ wsL_law0_r29, w ∈ lw_tb2 := fun w h => (goodIn_p wsL_law0_r29 [814, 817, 823, 1499] (by decide +kernel) (by decide +kernel) w h).1
set_option maxRecDepth 20000 in
theorem wsL_law0_r30_in : ∀ w ∈ wsL_law0_r30, w ∈ lw_tb2 := fun w h => (goodIn_p wsL_law0_r30 [844, 1503, 854, 1507] (by decide +kernel) (by decide +kernel) w h).1
set_option maxRecDepth 20000 in
theorem wsL_law0_r31_in : ∀ w ∈ wsL_law0_r31, w ∈ lw_tb2 := fun w h => (goodIn_p wsL_law0_r31 [237, 1511, 877, 881, 886] (by decide +kernel) (by decide +kernel) w h).1
set_option maxRecDepth 20000 in
theorem wsL_law0_r32_in : ∀ w ∈ wsL_law0_r32, w ∈ lw_tb2 := fun w h => (goodIn_p wsL_law0_r32 [890, 1515, 241, 1519, 897] (by decide +kernel) (by decide +kernel) w h).1
set_option maxRecDepth 20000 in
theorem wsL_law0_r33_in : ∀ w ∈ wsL_law0_r33, w ∈ lw_tb2 := fun w h => (goodIn_p wsL_law0_r33 [901, 1523, 1527, 908, 912, 917] (by decide +kernel) (by decide +kernel) w h).1
set_option maxRecDepth 20000 in
theorem wsL_law0_r34_in : ∀ w ∈ wsL_law0_r34, w ∈ lw_tb2 := fun w h => (goodIn_p wsL_law0_r34 [1531, 924, 929, 932] (by decide +kernel) (by decide +kernel) w h).1
set_option maxRecDepth 20000 in
theorem wsL_law0_r35_in : ∀ w ∈ wsL_law0_r35, w ∈ lw_tb2 := fun w h => (goodIn_p wsL_law0_r35 [955, 959, 964] (by decide +kernel) (by decide +kernel) w h).1
set_option maxRecDepth 20000 in
theorem wsL_law0_r36_in : ∀ w ∈ wsL_law0_r36, w ∈ lw_tb2 := fun w h => (goodIn_p wsL_law0_r36 [974, 1142, 1145, 1148, 1164, 1169] (by decide +kernel) (by decide +kernel) w h).1
set_option maxRecDepth 20000 in
theorem wsL_law0_r37_in : ∀ w ∈ wsL_law0_r37, w ∈ lw_tb2 := fun w h => (goodIn_p wsL_law0_r37 [1172, 1175, 1022, 1025, 1028, 1031, 983] (by decide +kernel) (by decide +kernel) w h).1
set_option maxRecDepth 20000 in
theorem wsL_law0_r38_in : ∀ w ∈ wsL_law0_r38, w ∈ lw_tb2 := fun w h => (goodIn_p wsL_law0_r38 [1034, 1037, 994, 1178, 1181, 1184] (by decide +kernel) (by decide +kernel) w h).1
set_option maxRecDepth 20000 in
theorem wsL_law0_r39_in : ∀ w ∈ wsL_law0_r39, w ∈ lw_tb2 := fun w h => (goodIn_p wsL_law0_r39 [1189, 1192, 1047, 1050, 1053, 1056] (by decide +kernel) (by decide +kernel) w h).1
set_option maxRecDepth 20000 in
theorem wsL_law0_r40_in : ∀ w ∈ wsL_law0_r40, w ∈ lw_tb2 := fun w h => (goodIn_p wsL_law0_r40 [1063, 980, 986, 991, 1066, 1091, 1093] (by decide +kernel) (by decide +kernel) w h).1
set_option maxRecDepth 20000 in
theorem wsL_law0_r41_in : ∀ w ∈ wsL_law0_r41, w ∈ lw_tb2 := fun w h => (goodIn_p wsL_law0_r41 [1535, 1539, 1544, 1201] (by decide +kernel) (by decide +kernel) w h).1
set_option maxRecDepth 20000 in
theorem wsL_law0_r42_in : ∀ w ∈ wsL_law0_r42, w ∈ lw_tb2 := fun w h => (goodIn_p wsL_law0_r42 [1206, 1209, 1120, 1548, 1233] (by decide +kernel) (by decide +kernel) w h).1
set_option maxRecDepth 20000 in
theorem wsL_law0_r43_in : ∀ w ∈ wsL_law0_r43, w ∈ lw_tb2 := fun w h => (goodIn_p wsL_law0_r43 [1552, 1243, 1556] (by decide +kernel) (by decide +kernel) w h).1
theorem app_in {P : Cond → Prop} {a b : List Cond} (ha : ∀ w ∈ a, P w) (hb : ∀ w ∈ b, P w) : ∀ w ∈ a ++ b, P w := fun w h => (List.mem_append.mp h).elim (ha w) (hb w)

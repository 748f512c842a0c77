set_option maxRecDepth 20000 in
theorem wsL_law0_r10_in : ∀ w ∈ wsL_law0_r10, w ∈ lw_tb2 := fun w h => (goodIn_p wsL_law0_r10 [214, 217, 220, 224, 141, 144, 523] (by decide +kernel) (by decide +kernel) w h).1
set_option maxRecDepth 20000 in
theorem wsL_law0_r11_in : ∀ w ∈ wsL_law0_r11, w ∈ lw_tb2 := fun w h => (goodIn_p wsL_law0_r11 [694, 534, 699, 653] (by decide +kernel) (by decide +kernel) w h).1
set_option maxRecDepth 20000 in
theorem wsL_law0_r12_in : ∀ w ∈ wsL_law0_r12, w ∈ lw_tb2 := fun w h => (goodIn_p wsL_law0_r12 [660, 390, 665, 669, 614, 617] (by decide +kernel) (by decide +kernel) w h).1
set_option maxRecDepth 20000 in
theorem wsL_law0_r13_in : ∀ w ∈ wsL_law0_r13, w ∈ lw_tb2 := fun w h => (goodIn_p wsL_law0_r13 [434, 181, 186] (by decide +kernel) (by decide +kernel) w h).1
set_option maxRecDepth 20000 in
theorem wsL_law0_r14_in : ∀ w ∈ wsL_law0_r14, w ∈ lw_tb2 := fun w h => (goodIn_p wsL_law0_r14 [229, 301, 305, 309, 313] (by decide +kernel) (by decide +kernel) w h).1
set_option maxRecDepth 20000 in
theorem wsL_law0_r15_in : ∀ w ∈ wsL_law0_r15, w ∈ lw_tb2 := fun w h => (goodIn_p wsL_law0_r15 [323, 327, 331, 336, 340, 344] (by decide +kernel) (by decide +kernel) w h).1
set_option maxRecDepth 20000 in
theorem wsL_law0_r16_in : ∀ w ∈ wsL_law0_r16, w ∈ lw_tb2 := fun w h => (goodIn_p wsL_law0_r16 [348, 352, 356, 360, 364] (by decide +kernel) (by decide +kernel) w h).1
set_option maxRecDepth 20000 in
theorem wsL_law0_r17_in : ∀ w ∈ wsL_law0_r17, w ∈ lw_tb2 := fun w h => (goodIn_p wsL_law0_r17 [368, 373, 377, 381, 385, 394] (by decide +kernel) (by decide +kernel) w h).1
set_option maxRecDepth 20000 in
theorem wsL_law0_r18_in : ∀ w ∈ wsL_law0_r18, w ∈ lw_tb2 := fun w h => (goodIn_p wsL_law0_r18 [400, 160, 406, 410, 414] (by decide +kernel) (by decide +kernel) w h).1

set_option maxRecDepth 20000 in
theorem wsL_law0_r15_in : ∀ w ∈ wsL_law0_r15, w ∈ lw_tb2 := fun w h => (goodIn_p wsL_law0_r15 [576, 581, 585, 591] (by decide +kernel) (by decide +kernel) w h).1
set_option maxRecDepth 20000 in
theorem wsL_law0_r16_in : ∀ w ∈ wsL_law0_r16, w ∈ lw_tb2 := fun w h => (goodIn_p wsL_law0_r16 [597, 601, 605, 1356, 1360, 1363] (by decide +kernel) (by decide +kernel) w h).1
set_option maxRecDepth 20000 in
theorem wsL_law0_r17_in : ∀ w ∈ wsL_law0_r17, w ∈ lw_tb2 := fun w h => (goodIn_p wsL_law0_r17 [1366, 1370, 1373, 1376, 1380, 1384] (by decide +kernel) (by decide +kernel) w h).1
set_option maxRecDepth 20000 in
theorem wsL_law0_r18_in : ∀ w ∈ wsL_law0_r18, w ∈ lw_tb2 := fun w h => (goodIn_p wsL_law0_r18 [1388, 1392, 1396, 1400, 1403, 1407] (by decide +kernel) (by decide +kernel) w h).1
set_option maxRecDepth 20000 in
theorem wsL_law0_r19_in : ∀ w ∈ wsL_law0_r19, w ∈ lw_tb2 := fun w h => (goodIn_p wsL_law0_r19 [1411, 1415, 1419, 1423, 1427, 1431] (by decide +kernel) (by decide +kernel) w h).1
set_option maxRecDepth 20000 in
theorem wsL_law0_r20_in : ∀ w ∈ wsL_law0_r20, w ∈ lw_tb2 := fun w h => (goodIn_p wsL_law0_r20 [1352, 613, 1435, 622] (by decide +kernel) (by decide +kernel) w h).1
set_option maxRecDepth 20000 in
theorem wsL_law0_r21_in : ∀ w ∈ wsL_law0_r21, w ∈ lw_tb2 := fun w h => (goodIn_p wsL_law0_r21 [1439, 645, 1443, 652] (by decide +kernel) (by decide +kernel) w h).1
set_option maxRecDepth 20000 in
theorem wsL_law0_r22_in : ∀ w ∈ wsL_law0_r22, w ∈ lw_tb2 := fun w h => (goodIn_p wsL_law0_r22 [656, 1447, 663, 668] (by decide +kernel) (by decide +kernel) w h).1
set_option maxRecDepth 20000 in
theorem wsL_law0_r23_in : ∀ w ∈ wsL_law0_r23, w ∈ lw_tb2 := fun w h => (goodIn_p wsL_law0_r23 [1452, 690, 694, 700] (by decide +kernel) (by decide +kernel) w h).1
set_option maxRecDepth 20000 in
theorem wsL_law0_r24_in : ∀ w ∈ wsL_law0_r24, w ∈ lw_tb2 := fun w h => (goodIn_p wsL_law0_r24 [704, 1456, 711, 1460, 718] (by decide +kernel) (by decide +kernel) w h).1
set_option maxRecDepth 20000 in
theorem wsL_law0_r25_in : ∀ w ∈ wsL_law0_r25, w ∈ lw_tb2 := fun w h => (goodIn_p wsL_law0_r25 [1464, 1468, 725, 728, 733] (by decide +kernel) (by decide +kernel) w h).1
set_option maxRecDepth 20000 in
theorem wsL_law0_r26_in : ∀ w ∈ wsL_law0_r26, w ∈ lw_tb2 := fun w h => (goodIn_p wsL_law0_r26 [739, 757, 1472, 1475, 764] (by decide +kernel) (by decide +kernel) w h).1
set_option maxRecDepth 20000 in
theorem wsL_law0_r27_in : ∀ w ∈ wsL_law0_r27, w ∈ lw_tb2 := fun w h => (goodIn_p wsL_law0_r27 [768, 1479, 775, 1483, 782] (by decide +kernel) (by decide +kernel) w h).1
set_option maxRecDepth 20000 in
theorem wsL_law0_r28_in : ∀ w ∈ wsL_law0_r28, w ∈ lw_tb2 := fun w h => (goodIn_p wsL_law0_r28 [1487, 1491, 790, 1495] (by decide +kernel) (by decide +kernel) w h).1

set_option maxRecDepth 20000 in
theorem ggL_law_L_begun : GoodIn wsL_law wsL_begun := goodIn_ca (goodIn_ca (goodIn_ca (goodIn_ca (goodIn_ca (goodIn_ca (goodIn_ca (goodIn_ca (goodIn_ca (goodIn_ca (goodIn_ca (goodIn_ca (goodIn_ca (goodIn_ca (goodIn_ca (goodIn_ca gg9_wsL_begun_r1 (goodIn_app gg9_wsL_begun_r2 (goodIn_app gg9_wsL_begun_r3 (goodIn_app gg9_wsL_begun_r4 (goodIn_app gg9_wsL_begun_r5 (goodIn_app gg9_wsL_begun_r6 (goodIn_app gg9_wsL_begun_r7 (goodIn_app gg9_wsL_begun_r8 (goodIn_app gg9_wsL_begun_r9 (goodIn_app gg9_wsL_begun_r10 (goodIn_app gg9_wsL_begun_r11 (goodIn_app gg9_wsL_begun_r12 (goodIn_app gg9_wsL_begun_r13 (goodIn_app gg9_wsL_begun_r14 (goodIn_app gg9_wsL_begun_r15 (goodIn_app gg9_wsL_begun_r16 (goodIn_app gg9_wsL_begun_r17 (goodIn_app gg9_wsL_begun_r18 (goodIn_app gg9_wsL_begun_r19 (goodIn_app gg9_wsL_begun_r20 (goodIn_app gg9_wsL_begun_r21 gg9_wsL_begun_r22))))))))))))))))))))) gg9_begun_wsX70) gg9_begun_wsX10) gg9_begun_wsJx4a65c0) gg9_begun_wsX00) gg9_begun_wsX20) gg9_begun_wsJ40) gg9_begun_wsX30) gg9_begun_wsX40) gg9_begun_wsX60) gg9_begun_wsX50) (goodIn_sub (fun _ h => List.mem_append_left _ (List.mem_append_left _ (List.mem_append_left _ (List.mem_append_left _ (List.mem_append_left _ (List.mem_append_left _ (List.mem_append_left _ (List.mem_append_right _ h)))))))) (by decide +kernel))) (goodIn_sub (fun _ h => List.mem_append_left _ (List.mem_append_left _ (List.mem_append_left _ (List.mem_append_left _ (List.mem_append_left _ (List.mem_append_left _ (List.mem_append_right _ h))))))) (by decide +kernel))) (goodIn_sub (fun _ h => List.mem_append_left _ (List.mem_append_left _ (List.mem_append_left _ (List.mem_append_left _ (List.mem_append_left _ (List.mem_append_right _ h)))))) (by decide +kernel))) (goodIn_sub (fun _ h => List.mem_append_left _ (List.mem_append_left _ (List.mem_append_left _ (List.mem_append_left _ (List.mem_append_right _ h))))) (by decide +kernel))) (goodIn_sub (fun _ h => List.mem_append_left _ (List.mem_append_left _ (List.mem_append_left _ (List.mem_append_right _ h)))) (by decide +kernel))
set_option maxRecDepth 20000 in
theorem gL_law_L_begun : GoodIn wsL_law (va_wsS RL 219 yL_begun wsL_begun) := goodIn_app (goodIn_of _ (by decide +kernel)) ggL_law_L_begun
set_option maxRecDepth 20000 in
theorem ggL_law_L_areCells : GoodIn wsL_law wsL_areCells := goodIn_ca (goodIn_ca (goodIn_ca (goodIn_ca (goodIn_r _ [511, 3, 512, 441, 442, 6, 443, 444, 445, 446, 453, 454, 455, 186, 187, 188, 513, 514, 515, 192, 2, 516, 517, 518, 10, 519, 20, 230, 231, 232, 207, 208, 233, 234, 235, 337, 338, 339, 344, 345, 346, 19, 347, 45, 348, 349, 350, 351, 520, 521, 522, 523, 524, 525, 526, 30, 527, 528, 529, 29, 530, 322, 65, 67, 531, 532, 533, 534, 535, 536, 537, 25, 213, 116, 117, 118, 24, 119, 120, 214, 215, 216, 217, 218, 219, 220, 221, 222, 223, 224, 225, 226, 227, 228, 229, 50, 409, 410, 411, 115, 412, 128, 413, 243, 408, 414, 387, 388, 202, 389, 248, 250, 249, 251, 538, 539, 540, 541, 542, 543, 544, 545, 546, 547, 381, 382, 383, 384, 26, 385, 386, 548, 549, 550, 551, 380, 552, 553, 554, 555, 318, 319, 320, 321, 556, 557, 558, 559, 560, 561, 562, 563, 564, 565, 629, 630, 631, 632, 633, 634, 635, 636, 637, 638, 639, 640, 641, 642, 646, 647, 648, 649, 650, 643, 644, 645, 657, 658, 659, 660, 661, 662, 663, 668, 669, 670] (by decide +kernel) (by decide +kernel)) (goodIn_sub (fun _ h => List.mem_append_left _ (List.mem_append_left _ (List.mem_append_left _ (List.mem_append_left _ (List.mem_append_left _ (List.mem_append_left _ (List.mem_append_left _ (List.mem_append_right _ h)))))))) (by decide +kernel))) (goodIn_sub (fun _ h => List.mem_append_left _ (List.mem_append_left _ (List.mem_append_left _ (List.mem_append_right _ h)))) (by decide +kernel))) (goodIn_sub (fun _ h => List.mem_append_left _ (List.mem_append_left _ (List.mem_append_right _ h))) (by decide +kernel))) (goodIn_sub (fun _ h => List.mem_append_left _ (List.mem_append_right _ h)) (by decide +kernel))
set_option maxRecDepth 20000 in
theorem gL_law_L_areCells : GoodIn wsL_law (va_wsS RL 223 yL_areCells wsL_areCells) := goodIn_app (goodIn_of _ (by decide +kernel)) ggL_law_L_areCells
set_option maxRecDepth 20000 in
theorem ggL_law_L_isDone : GoodIn wsL_law wsL_isDone := goodIn_ca (goodIn_ca (goodIn_ca (goodIn_ca (goodIn_ca (goodIn_ca (goodIn_ca (goodIn_ca (goodIn_ca (goodIn_ca (goodIn_ca (goodIn_ca (goodIn_ca (goodIn_ca (goodIn_ca (goodIn_ca gg9_wsL_isDone_r1 (goodIn_app gg9_wsL_isDone_r2 (goodIn_app gg9_wsL_isDone_r3 (goodIn_app gg9_wsL_isDone_r4 (goodIn_app gg9_wsL_isDone_r5 (goodIn_app gg9_wsL_isDone_r6 (goodIn_app gg9_wsL_isDone_r7 (goodIn_app gg9_wsL_isDone_r8 (goodIn_app gg9_wsL_isDone_r9 (goodIn_app gg9_wsL_isDone_r10 (goodIn_app gg9_wsL_isDone_r11 (goodIn_app gg9_wsL_isDone_r12 (goodIn_app gg9_wsL_isDone_r13 (goodIn_app gg9_wsL_isDone_r14 (goodIn_app gg9_wsL_isDone_r15 (goodIn_app gg9_wsL_isDone_r16 (goodIn_app gg9_wsL_isDone_r17 (goodIn_app gg9_wsL_isDone_r18 (goodIn_app gg9_wsL_isDone_r19 (goodIn_app gg9_wsL_isDone_r20 gg9_wsL_isDone_r21)))))))))))))))))))) gg9_isDone_wsX70) gg9_isDone_wsX60) gg9_isDone_wsJx4a65c0) gg9_isDone_wsX30) gg9_isDone_wsX00) gg9_isDone_wsX10) gg9_isDone_wsX50) gg9_isDone_wsX40) gg9_isDone_wsX20) (goodIn_sub (fun _ h => List.mem_append_left _ (List.mem_append_left _ (List.mem_append_left _ (List.mem_append_left _ (List.mem_append_left _ (List.mem_append_left _ (List.mem_append_left _ (List.mem_append_right _ h)))))))) (by decide +kernel))) (goodIn_sub (fun _ h => List.mem_append_left _ (List.mem_append_left _ (List.mem_append_left _ (List.mem_append_left _ (List.mem_append_left _ (List.mem_append_left _ (List.mem_append_right _ h))))))) (by decide +kernel))) (goodIn_sub (fun _ h => List.mem_append_left _ (List.mem_append_left _ (List.mem_append_left _ (List.mem_append_left _ (List.mem_append_left _ (List.mem_append_right _ h)))))) (by decide +kernel))) (goodIn_sub (fun _ h => List.mem_append_left _ (List.mem_append_left _ (List.mem_append_left _ (List.mem_append_right _ h)))) (by decide +kernel))) (goodIn_sub (fun _ h => List.mem_append_left _ (List.mem_append_left _ (List.mem_append_left _ (List.mem_append_left _ (List.mem_append_right _ h))))) (by decide +kernel))) (goodIn_sub (fun _ h => List.mem_append_right _ h) (by decide +kernel))
set_option maxRecDepth 20000 in
theorem gL_law_L_isDone : GoodIn wsL_law (va_wsS RL 226 yL_isDone wsL_isDone) := goodIn_app (goodIn_of _ (by decide +kernel)) ggL_law_L_isDone
set_option maxRecDepth 20000 in
theorem ggL_law_L_set : GoodIn wsL_law wsL_set := goodIn_ca (goodIn_ca (goodIn_ca (goodIn_r _ [464, 192, 193, 2, 3, 465, 466, 467, 10, 468, 198, 199, 230, 231, 232, 207, 208, 233, 234, 235, 415, 416, 417, 294, 295, 296, 297, 298, 299, 300, 267, 268, 40, 301, 302, 303, 304, 15, 16, 305, 306, 307, 308, 209, 210, 211, 212, 25, 213, 116, 117, 118, 24, 119, 120, 214, 215, 216, 217, 218, 219, 220, 221, 222, 223, 224, 225, 226, 227, 228, 229, 50, 309, 310, 311, 115, 312, 127, 243, 256, 131, 132, 133, 134, 135, 136, 137, 138, 139, 140, 141, 142, 143, 144, 145, 146, 147, 49, 148, 149, 150, 151, 152, 153, 154, 155, 156, 157, 158, 159, 160, 161, 162, 163, 164, 165, 166, 167, 168, 169, 170, 171, 172, 173, 174, 175, 176, 177, 178, 179, 180, 181, 313, 314, 315, 316, 30, 317, 318, 319, 320, 29, 321, 322, 323, 324, 325, 326, 65, 327, 66, 67, 68, 328, 329, 330, 331, 332, 333, 334, 335, 336, 0, 337, 338, 339, 340, 341, 342, 343, 20, 39, 344, 345, 346, 19, 347, 45, 348, 349, 350, 351, 352, 353, 354, 355, 356, 357, 358, 359, 360, 361, 362, 363, 364, 365, 366, 367, 368, 369, 370, 371, 372, 373, 374, 375, 376, 377, 378, 379, 380, 381, 382, 383, 384, 26, 385, 386, 387, 388, 202, 389, 248, 250, 249, 251, 390, 391, 392, 393, 394, 395, 396, 397, 21, 398, 399, 400, 401, 402, 269, 270, 271, 272, 403, 404, 405, 406, 407, 408, 409, 410, 411, 412, 128, 413, 414, 418, 419, 420, 421, 422, 423, 424, 425, 34, 426, 427, 428, 33, 429, 430, 73, 431, 664, 665, 666, 667, 629, 630, 631, 632, 633, 634, 635, 636, 637, 638, 639, 640, 641, 643, 644, 645, 657, 658, 659, 646, 647, 648, 649, 650, 642, 668, 669, 670, 660, 661, 662, 663, 651, 652] (by decide +kernel) (by decide +kernel)) (goodIn_sub (fun _ h => List.mem_append_left _ (List.mem_append_left _ (List.mem_append_left _ (List.mem_append_left _ (List.mem_append_right _ h))))) (by decide +kernel))) (goodIn_sub (fun _ h => List.mem_append_left _ (List.mem_append_left _ (List.mem_append_left _ (List.mem_append_right _ h)))) (by decide +kernel))) (goodIn_sub (fun _ h => List.mem_append_left _ (List.mem_append_left _ (List.mem_append_left _ (List.mem_append_left _ (List.mem_append_left _ (List.mem_append_left _ (List.mem_append_left _ (List.mem_append_right _ h)))))))) (by decide +kernel))
set_option maxRecDepth 20000 in
theorem gL_law_L_set : GoodIn wsL_law (va_wsS RL 140 yL_set wsL_set) := goodIn_app (goodIn_of _ (by decide +kernel)) ggL_law_L_set
set_option maxRecDepth 20000 in
theorem ggL_law_L_add : GoodIn wsL_law wsL_add := goodIn_ca (goodIn_ca (goodIn_ca (goodIn_r _ [471, 192, 193, 2, 3, 472, 473, 474, 10, 475, 198, 199, 20, 230, 231, 232, 207, 208, 233, 234, 235, 415, 416, 417, 337, 338, 339, 344, 345, 346, 19, 347, 45, 348, 349, 350, 351, 294, 295, 296, 297, 298, 299, 300, 267, 268, 40, 301, 302, 303, 304, 15, 16, 305, 306, 307, 308, 209, 210, 211, 212, 25, 213, 116, 117, 118, 24, 119, 120, 214, 215, 216, 217, 218, 219, 220, 221, 222, 223, 224, 225, 226, 227, 228, 229, 50, 309, 310, 311, 115, 312, 127, 243, 256, 131, 132, 133, 134, 135, 136, 137, 138, 139, 140, 141, 142, 143, 144, 145, 146, 147, 49, 148, 149, 150, 151, 152, 153, 154, 155, 156, 157, 158, 159, 160, 161, 162, 163, 164, 165, 166, 167, 168, 169, 170, 171, 172, 173, 174, 175, 176, 177, 178, 179, 180, 181, 313, 314, 315, 316, 30, 317, 318, 319, 320, 29, 321, 322, 323, 324, 325, 326, 65, 327, 66, 67, 68, 328, 329, 330, 331, 332, 333, 334, 335, 336, 0, 340, 341, 342, 343, 39, 352, 353, 354, 355, 356, 357, 358, 359, 360, 361, 362, 363, 364, 365, 366, 367, 368, 369, 370, 371, 372, 373, 374, 375, 376, 377, 378, 379, 380, 381, 382, 383, 384, 26, 385, 386, 387, 388, 202, 389, 248, 250, 249, 251, 390, 391, 392, 393, 394, 395, 396, 397, 21, 398, 399, 400, 401, 402, 269, 270, 271, 272, 403, 404, 405, 406, 407, 408, 409, 410, 411, 412, 128, 413, 414, 418, 419, 420, 421, 422, 423, 424, 425, 34, 426, 427, 428, 33, 429, 430, 73, 431, 629, 630, 631, 632, 633, 634, 635, 636, 637, 638, 639, 640, 641, 642, 664, 665, 666, 667, 643, 644, 645, 657, 658, 659, 646, 647, 648, 649, 650, 668, 669, 670, 660, 661, 662, 663, 651, 652] (by decide +kernel) (by decide +kernel)) (goodIn_sub (fun _ h => List.mem_append_left _ (List.mem_append_left _ (List.mem_append_left _ (List.mem_append_left _ (List.mem_append_right _ h))))) (by decide +kernel))) (goodIn_sub (fun _ h => List.mem_append_left _ (List.mem_append_left _ (List.mem_append_left _ (List.mem_append_right _ h)))) (by decide +kernel))) (goodIn_sub (fun _ h => List.mem_append_left _ (List.mem_append_left _ (List.mem_append_left _ (List.mem_append_left _ (List.mem_append_left _ (List.mem_append_left _ (List.mem_append_left _ (List.mem_append_right _ h)))))))) (by decide +kernel))
set_option maxRecDepth 20000 in
theorem gL_law_L_add : GoodIn wsL_law (va_wsS RL 143 yL_add wsL_add) := goodIn_app (goodIn_of _ (by decide +kernel)) ggL_law_L_add
set_option maxRecDepth 20000 in
theorem ggL_law_L_copyBase : GoodIn wsL_law wsL_copyBase := goodIn_ca (goodIn_ca (goodIn_ca (goodIn_r _ [289, 192, 106, 2, 3, 290, 291, 292, 10, 293, 111, 112, 40, 230, 231, 232, 207, 208, 233, 234, 235, 294, 295, 296, 297, 298, 299, 300, 267, 268, 301, 302, 303, 304, 15, 16, 305, 306, 307, 308, 209, 210, 211, 212, 25, 213, 116, 117, 118, 24, 119, 120, 214, 215, 216, 217, 218, 219, 220, 221, 222, 223, 224, 225, 226, 227, 228, 229, 50, 309, 310, 311, 115, 312, 127, 243, 256, 131, 132, 133, 134, 135, 136, 137, 138, 139, 140, 141, 142, 143, 144, 145, 146, 147, 49, 148, 149, 150, 151, 152, 153, 154, 155, 156, 157, 158, 159, 160, 161, 162, 163, 164, 165, 166, 167, 168, 169, 170, 171, 172, 173, 174, 175, 176, 177, 178, 179, 180, 181, 313, 314, 315, 316, 30, 317, 318, 319, 320, 29, 321, 322, 323, 324, 325, 326, 65, 327, 66, 67, 68, 328, 329, 330, 331, 332, 333, 334, 335, 336, 0, 337, 338, 339, 340, 341, 342, 343, 20, 39, 344, 345, 346, 19, 347, 45, 348, 349, 350, 351, 352, 353, 354, 355, 356, 357, 358, 359, 360, 361, 362, 363, 364, 365, 366, 367, 368, 369, 370, 371, 372, 373, 374, 375, 376, 377, 378, 379, 380, 381, 382, 383, 384, 26, 385, 386, 387, 388, 202, 389, 248, 250, 249, 251, 390, 391, 392, 393, 394, 395, 396, 397, 21, 398, 399, 400, 401, 402, 269, 270, 271, 272, 403, 404, 405, 406, 407, 408, 409, 410, 411, 412, 128, 413, 414, 415, 416, 417, 418, 419, 420, 421, 422, 423, 424, 425, 34, 426, 427, 428, 33, 429, 430, 73, 431, 629, 630, 631, 632, 633, 634, 635, 636, 637, 638, 639, 640, 641, 664, 665, 666, 667, 643, 644, 645, 657, 658, 659, 646, 647, 648, 649, 650, 642, 668, 669, 670, 660, 661, 662, 663, 651, 652] (by decide +kernel) (by decide +kernel)) (goodIn_sub (fun _ h => List.mem_append_left _ (List.mem_append_left _ (List.mem_append_left _ (List.mem_append_left _ (List.mem_append_left _ (List.mem_append_right _ h)))))) (by decide +kernel))) (goodIn_sub (fun _ h => List.mem_append_left _ (List.mem_append_left _ (List.mem_append_left _ (List.mem_append_right _ h)))) (by decide +kernel))) (goodIn_sub (fun _ h => List.mem_append_left _ (List.mem_append_left _ (List.mem_append_left _ (List.mem_append_left _ (List.mem_append_left _ (List.mem_append_left _ (List.mem_append_left _ (List.mem_append_right _ h)))))))) (by decide +kernel))
set_option maxRecDepth 20000 in
theorem gL_law_L_copyBase : GoodIn wsL_law (va_wsS RL 133 yL_copyBase wsL_copyBase) := goodIn_app (goodIn_of _ (by decide +kernel)) ggL_law_L_copyBase
set_option maxRecDepth 20000 in
theorem ggL_law_L_cell_ : GoodIn wsL_law wsL_cell_ := goodIn_ca (goodIn_ca (goodIn_r _ [515, 192, 2, 516, 517, 518, 10, 519, 20, 230, 231, 232, 207, 208, 233, 234, 235, 337, 338, 339, 344, 345, 346, 19, 347, 45, 348, 349, 350, 351, 629, 630, 631, 632, 633, 634, 635, 636, 637, 638, 639, 640, 641, 642] (by decide +kernel) (by decide +kernel)) (goodIn_sub (fun _ h => List.mem_append_left _ (List.mem_append_left _ (List.mem_append_left _ (List.mem_append_right _ h)))) (by decide +kernel))) (goodIn_sub (fun _ h => List.mem_append_left _ (List.mem_append_left _ (List.mem_append_left _ (List.mem_append_left _ (List.mem_append_left _ (List.mem_append_left _ (List.mem_append_left _ (List.mem_append_right _ h)))))))) (by decide +kernel))
set_option maxRecDepth 20000 in
theorem gL_law_L_cell_ : GoodIn wsL_law (va_wsS RL 201 yL_cell_ wsL_cell_) := goodIn_app (goodIn_of _ (by decide +kernel)) ggL_law_L_cell_
set_option maxRecDepth 20000 in
theorem ggL_law_L_cellByAudit : GoodIn wsL_law wsL_cellByAudit := goodIn_ca (goodIn_ca (goodIn_r _ [522, 192, 2, 523, 524, 525, 10, 526, 30, 230, 231, 232, 207, 208, 233, 234, 235, 337, 338, 339, 527, 528, 529, 29, 530, 322, 65, 67, 629, 630, 631, 632, 633, 634, 635, 636, 637, 638, 639, 640, 641, 646, 647, 648, 649, 650] (by decide +kernel) (by decide +kernel)) (goodIn_sub (fun _ h => List.mem_append_left _ (List.mem_append_left _ (List.mem_append_left _ (List.mem_append_right _ h)))) (by decide +kernel))) (goodIn_sub (fun _ h => List.mem_append_left _ (List.mem_append_left _ (List.mem_append_left _ (List.mem_append_left _ (List.mem_append_left _ (List.mem_append_left _ (List.mem_append_left _ (List.mem_append_right _ h)))))))) (by decide +kernel))
set_option maxRecDepth 20000 in
theorem gL_law_L_cellByAudit : GoodIn wsL_law (va_wsS RL 203 yL_cellByAudit wsL_cellByAudit) := goodIn_app (goodIn_of _ (by decide +kernel)) ggL_law_L_cellByAudit
set_option maxRecDepth 20000 in
theorem ggL_law_L_granted : GoodIn wsL_law wsL_granted := goodIn_ca (goodIn_r _ [533, 192, 2, 534, 535, 536, 10, 537, 25, 213, 230, 231, 232, 207, 208, 233, 234, 235, 116, 117, 118, 24, 119, 120, 214, 215, 216, 217, 218, 219, 220, 221, 222, 223, 224, 225, 226, 227, 228, 229, 50, 409, 410, 411, 115, 412, 128, 413, 243, 408, 414, 387, 388, 202, 389, 248, 250, 249, 251, 629, 630, 631, 632, 633, 634, 635, 636, 637, 638, 639, 640, 641, 643, 644, 645, 657, 658, 659, 660, 661, 662, 663] (by decide +kernel) (by decide +kernel)) (goodIn_sub (fun _ h => List.mem_append_left _ (List.mem_append_left _ (List.mem_append_left _ (List.mem_append_right _ h)))) (by decide +kernel))
set_option maxRecDepth 20000 in
theorem gL_law_L_granted : GoodIn wsL_law (va_wsS RL 205 yL_granted wsL_granted) := goodIn_app (goodIn_of _ (by decide +kernel)) ggL_law_L_granted
set_option maxRecDepth 20000 in
theorem ggL_law_L_rule : GoodIn wsL_law wsL_rule := goodIn_ca (goodIn_ca (goodIn_r _ [540, 192, 541, 2, 3, 542, 543, 544, 10, 545, 546, 547, 230, 231, 232, 207, 208, 233, 234, 235, 381, 382, 383, 384, 26, 385, 116, 117, 118, 24, 119, 120, 214, 215, 216, 217, 218, 219, 220, 221, 222, 223, 224, 225, 226, 227, 228, 229, 50, 386, 387, 388, 202, 389, 248, 250, 249, 251, 629, 630, 631, 632, 633, 634, 635, 636, 637, 638, 639, 640, 641, 668, 669, 670, 643, 644, 645, 660, 661, 662, 663] (by decide +kernel) (by decide +kernel)) (goodIn_sub (fun _ h => List.mem_append_left _ (List.mem_append_left _ (List.mem_append_right _ h))) (by decide +kernel))) (goodIn_sub (fun _ h => List.mem_append_left _ (List.mem_append_left _ (List.mem_append_left _ (List.mem_append_right _ h)))) (by decide +kernel))
set_option maxRecDepth 20000 in
theorem gL_law_L_rule : GoodIn wsL_law (va_wsS RL 207 yL_rule wsL_rule) := goodIn_app (goodIn_of _ (by decide +kernel)) ggL_law_L_rule
set_option maxRecDepth 20000 in
theorem ggL_law_L_run : GoodIn wsL_law wsL_run := goodIn_ca (goodIn_ca (goodIn_ca (goodIn_ca (goodIn_r _ [621, 192, 106, 622, 2, 3, 185, 623, 624, 625, 10, 626, 111, 112, 627, 628, 40, 203, 204, 205, 206, 207, 208, 209, 210, 211, 212, 25, 213, 116, 117, 118, 24, 119, 120, 214, 215, 216, 217, 218, 219, 220, 221, 222, 223, 224, 225, 226, 227, 228, 229, 50, 230, 231, 232, 233, 234, 235, 394, 395, 396, 397, 21, 20, 398, 399, 400, 19, 401, 45, 402, 179, 180, 181, 337, 338, 339, 269, 270, 271, 115, 272, 127, 243, 403, 404, 405, 406, 407, 408, 409, 410, 411, 412, 128, 413, 414, 387, 388, 202, 389, 248, 250, 249, 251, 344, 345, 346, 347, 348, 349, 350, 351, 352, 353, 354, 300, 355, 305, 308, 415, 416, 417, 364, 365, 366, 367, 313, 314, 315, 316, 30, 317, 318, 319, 320, 29, 321, 322, 323, 324, 325, 326, 65, 327, 66, 67, 68, 328, 329, 164, 330, 331, 332, 333, 334, 335, 336, 0, 175, 176, 150, 177, 178, 418, 419, 420, 421, 340, 341, 342, 343, 39, 356, 357, 358, 359, 360, 361, 362, 363, 368, 369, 370, 371, 372, 373, 374, 375, 376, 377, 378, 379, 380, 381, 382, 383, 384, 26, 385, 386, 390, 391, 392, 393, 422, 423, 424, 425, 34, 426, 427, 428, 33, 429, 430, 73, 431, 629, 630, 631, 632, 633, 634, 635, 636, 637, 638, 639, 640, 641, 643, 644, 645, 664, 665, 666, 667, 642, 657, 658, 659, 660, 661, 662, 663, 646, 647, 648, 649, 650, 668, 669, 670, 651, 652] (by decide +kernel) (by decide +kernel)) (goodIn_sub (fun _ h => List.mem_append_left _ (List.mem_append_left _ (List.mem_append_left _ (List.mem_append_left _ (List.mem_append_left _ (List.mem_append_right _ h)))))) (by decide +kernel))) (goodIn_sub (fun _ h => List.mem_append_right _ h) (by decide +kernel))) (goodIn_sub (fun _ h => List.mem_append_left _ (List.mem_append_left _ (List.mem_append_left _ (List.mem_append_right _ h)))) (by decide +kernel))) (goodIn_sub (fun _ h => List.mem_append_left _ (List.mem_append_left _ (List.mem_append_left _ (List.mem_append_left _ (List.mem_append_left _ (List.mem_append_left _ (List.mem_append_left _ (List.mem_append_right _ h)))))))) (by decide +kernel))
set_option maxRecDepth 20000 in
theorem gL_law_L_run : GoodIn wsL_law (va_wsS RL 147 yL_run wsL_run) := goodIn_app (goodIn_of _ (by decide +kernel)) ggL_law_L_run
set_option maxRecDepth 20000 in
theorem ggL_law_L_reason : GoodIn wsL_law wsL_reason := goodIn_ca (goodIn_ca (goodIn_r _ [614, 192, 2, 615, 616, 617, 10, 618, 203, 204, 205, 206, 207, 208, 209, 210, 211, 212, 25, 213, 116, 117, 118, 24, 119, 120, 214, 215, 216, 217, 218, 219, 220, 221, 222, 223, 224, 225, 226, 227, 228, 229, 50, 230, 231, 232, 233, 234, 235, 394, 395, 396, 397, 21, 20, 398, 399, 400, 19, 401, 45, 402, 179, 180, 181, 337, 338, 339, 269, 270, 271, 115, 272, 127, 243, 403, 404, 405, 406, 407, 408, 409, 410, 411, 412, 128, 413, 414, 387, 388, 202, 389, 248, 250, 249, 251, 344, 345, 346, 347, 348, 349, 350, 351, 352, 353, 354, 300, 355, 305, 308, 415, 416, 417, 364, 365, 366, 367, 629, 630, 631, 632, 633, 634, 635, 636, 637, 638, 639, 640, 641, 643, 644, 645, 664, 665, 666, 667, 642, 657, 658, 659, 660, 661, 662, 663] (by decide +kernel) (by decide +kernel)) (goodIn_sub (fun _ h => List.mem_append_left _ (List.mem_append_left _ (List.mem_append_left _ (List.mem_append_right _ h)))) (by decide +kernel))) (goodIn_sub (fun _ h => List.mem_append_left _ (List.mem_append_left _ (List.mem_append_left _ (List.mem_append_left _ (List.mem_append_left _ (List.mem_append_left _ (List.mem_append_left _ (List.mem_append_right _ h)))))))) (by decide +kernel))
set_option maxRecDepth 20000 in
theorem gL_law_L_reason : GoodIn wsL_law (va_wsS RL 145 yL_reason wsL_reason) := goodIn_app (goodIn_of _ (by decide +kernel)) ggL_law_L_reason
set_option maxRecDepth 20000 in
theorem ggL_law_L_addRule : GoodIn wsL_law wsL_addRule := goodIn_ca (goodIn_ca (goodIn_ca (goodIn_r _ [491, 192, 193, 106, 2, 3, 185, 492, 493, 494, 10, 495, 198, 199, 111, 112, 26, 496, 497, 498, 200, 201, 202, 230, 231, 232, 207, 208, 233, 234, 235, 203, 204, 205, 206, 209, 210, 211, 212, 25, 213, 116, 117, 118, 24, 119, 120, 214, 215, 216, 217, 218, 219, 220, 221, 222, 223, 224, 225, 226, 227, 228, 229, 50, 236, 237, 238, 499, 500, 501, 244, 245, 246, 247, 15, 16, 248, 249, 250, 251, 502, 503, 504, 505, 506, 507, 508, 130, 131, 132, 133, 134, 135, 136, 137, 138, 139, 140, 141, 142, 143, 144, 145, 146, 147, 49, 148, 149, 150, 151, 152, 153, 154, 155, 156, 157, 158, 159, 160, 161, 162, 163, 164, 165, 166, 167, 168, 169, 170, 171, 172, 173, 174, 175, 176, 177, 178, 179, 180, 181, 629, 630, 631, 632, 633, 634, 635, 636, 637, 638, 639, 640, 641, 668, 669, 670, 660, 661, 662, 663, 643, 644, 645] (by decide +kernel) (by decide +kernel)) (goodIn_sub (fun _ h => List.mem_append_left _ (List.mem_append_left _ (List.mem_append_left _ (List.mem_append_left _ (List.mem_append_right _ h))))) (by decide +kernel))) (goodIn_sub (fun _ h => List.mem_append_left _ (List.mem_append_left _ (List.mem_append_left _ (List.mem_append_left _ (List.mem_append_left _ (List.mem_append_right _ h)))))) (by decide +kernel))) (goodIn_sub (fun _ h => List.mem_append_left _ (List.mem_append_left _ (List.mem_append_left _ (List.mem_append_right _ h)))) (by decide +kernel))
set_option maxRecDepth 20000 in
theorem gL_law_L_addRule : GoodIn wsL_law (va_wsS RL 155 yL_addRule wsL_addRule) := goodIn_app (goodIn_of _ (by decide +kernel)) ggL_law_L_addRule
set_option maxRecDepth 20000 in
theorem ggL_law_L_setRank : GoodIn wsL_law wsL_setRank := goodIn_ca (goodIn_ca (goodIn_r _ [582, 192, 193, 2, 3, 583, 584, 585, 10, 586, 207, 208, 198, 199, 390, 391, 392, 393, 26, 385, 116, 117, 118, 24, 119, 120, 214, 215, 216, 217, 218, 219, 220, 221, 222, 223, 224, 225, 226, 227, 228, 229, 50, 499, 500, 501, 668, 669, 670, 629, 630, 631, 632, 633, 634, 635, 636, 637, 638, 639, 640, 641, 643, 644, 645] (by decide +kernel) (by decide +kernel)) (goodIn_sub (fun _ h => List.mem_append_left _ (List.mem_append_left _ (List.mem_append_left _ (List.mem_append_right _ h)))) (by decide +kernel))) (goodIn_sub (fun _ h => List.mem_append_left _ (List.mem_append_left _ (List.mem_append_left _ (List.mem_append_left _ (List.mem_append_right _ h))))) (by decide +kernel))
set_option maxRecDepth 20000 in
theorem gL_law_L_setRank : GoodIn wsL_law (va_wsS RL 188 yL_setRank wsL_setRank) := goodIn_app (goodIn_of _ (by decide +kernel)) ggL_law_L_setRank
theorem dL_law_0 : decode cL_law 0 = .ok (.sipush 540, 3) := by decide +kernel
theorem dL_law_3 : decode cL_law 3 = .ok (.newarray .int, 2) := by decide +kernel
theorem dL_law_5 : decode cL_law 5 = .ok (.astore_n 1, 1) := by decide +kernel
theorem dL_law_6 : decode cL_law 6 = .ok (.ldc 218, 2) := by decide +kernel
theorem dL_law_8 : decode cL_law 8 = .ok (.newarray .int, 2) := by decide +kernel
theorem dL_law_10 : decode cL_law 10 = .ok (.astore_n 2, 1) := by decide +kernel
theorem dL_law_11 : decode cL_law 11 = .ok (.aload_n 0, 1) := by decide +kernel
theorem dL_law_12 : decode cL_law 12 = .ok (.aload_n 1, 1) := by decide +kernel
theorem dL_law_13 : decode cL_law 13 = .ok (.aload_n 2, 1) := by decide +kernel
theorem dL_law_14 : decode cL_law 14 = .ok (.invokestatic 219, 3) := by decide +kernel
theorem dL_law_17 : decode cL_law 17 = .ok (.astore_n 3, 1) := by decide +kernel
theorem dL_law_18 : decode cL_law 18 = .ok (.aload_n 3, 1) := by decide +kernel
theorem dL_law_19 : decode cL_law 19 = .ok (.ifnull 11, 3) := by decide +kernel
theorem dL_law_22 : decode cL_law 22 = .ok (.aload_n 3, 1) := by decide +kernel
theorem dL_law_23 : decode cL_law 23 = .ok (.aload_n 1, 1) := by decide +kernel
theorem dL_law_24 : decode cL_law 24 = .ok (.invokestatic 223, 3) := by decide +kernel
theorem dL_law_27 : decode cL_law 27 = .ok (.ifCond .ne 5, 3) := by decide +kernel
theorem dL_law_30 : decode cL_law 30 = .ok (.iconst 0, 1) := by decide +kernel
theorem dL_law_31 : decode cL_law 31 = .ok (.ireturn, 1) := by decide +kernel
theorem dL_law_32 : decode cL_law 32 = .ok (.iconst 0, 1) := by decide +kernel
theorem dL_law_33 : decode cL_law 33 = .ok (.istore 4, 2) := by decide +kernel
theorem dL_law_35 : decode cL_law 35 = .ok (.iload 4, 2) := by decide +kernel
theorem dL_law_37 : decode cL_law 37 = .ok (.bipush 30, 2) := by decide +kernel
theorem dL_law_39 : decode cL_law 39 = .ok (.if_icmp .ge 37, 3) := by decide +kernel
theorem dL_law_42 : decode cL_law 42 = .ok (.aload_n 3, 1) := by decide +kernel
theorem dL_law_43 : decode cL_law 43 = .ok (.aload_n 1, 1) := by decide +kernel
theorem dL_law_44 : decode cL_law 44 = .ok (.aload_n 2, 1) := by decide +kernel
theorem dL_law_45 : decode cL_law 45 = .ok (.aload_n 0, 1) := by decide +kernel
theorem dL_law_46 : decode cL_law 46 = .ok (.bipush 80, 2) := by decide +kernel
theorem dL_law_48 : decode cL_law 48 = .ok (.bipush 7, 2) := by decide +kernel
theorem dL_law_50 : decode cL_law 50 = .ok (.iload 4, 2) := by decide +kernel
theorem dL_law_52 : decode cL_law 52 = .ok (.imul, 1) := by decide +kernel
theorem dL_law_53 : decode cL_law 53 = .ok (.iadd, 1) := by decide +kernel
theorem dL_law_54 : decode cL_law 54 = .ok (.invokestatic 226, 3) := by decide +kernel
theorem dL_law_57 : decode cL_law 57 = .ok (.ifCond .eq 11, 3) := by decide +kernel
theorem dL_law_60 : decode cL_law 60 = .ok (.aload_n 3, 1) := by decide +kernel
theorem dL_law_61 : decode cL_law 61 = .ok (.aload_n 1, 1) := by decide +kernel
theorem dL_law_62 : decode cL_law 62 = .ok (.invokestatic 223, 3) := by decide +kernel
theorem dL_law_65 : decode cL_law 65 = .ok (.ifCond .ne 5, 3) := by decide +kernel
theorem dL_law_68 : decode cL_law 68 = .ok (.iconst 0, 1) := by decide +kernel
theorem dL_law_69 : decode cL_law 69 = .ok (.ireturn, 1) := by decide +kernel
theorem dL_law_70 : decode cL_law 70 = .ok (.iinc 4 1, 3) := by decide +kernel
theorem dL_law_73 : decode cL_law 73 = .ok (.goto (-38), 3) := by decide +kernel
theorem dL_law_76 : decode cL_law 76 = .ok (.aload_n 3, 1) := by decide +kernel
theorem dL_law_77 : decode cL_law 77 = .ok (.bipush 6, 2) := by decide +kernel
theorem dL_law_79 : decode cL_law 79 = .ok (.iconst 0, 1) := by decide +kernel
theorem dL_law_80 : decode cL_law 80 = .ok (.iconst 0, 1) := by decide +kernel
theorem dL_law_81 : decode cL_law 81 = .ok (.invokestatic 140, 3) := by decide +kernel
theorem dL_law_84 : decode cL_law 84 = .ok (.ldc 17, 2) := by decide +kernel
theorem dL_law_86 : decode cL_law 86 = .ok (.if_icmp .ne 117, 3) := by decide +kernel
theorem dL_law_89 : decode cL_law 89 = .ok (.aload_n 3, 1) := by decide +kernel
theorem dL_law_90 : decode cL_law 90 = .ok (.iconst 0, 1) := by decide +kernel
theorem dL_law_91 : decode cL_law 91 = .ok (.bipush 8, 2) := by decide +kernel
theorem dL_law_93 : decode cL_law 93 = .ok (.iconst 0, 1) := by decide +kernel
theorem dL_law_94 : decode cL_law 94 = .ok (.invokestatic 140, 3) := by decide +kernel
theorem dL_law_97 : decode cL_law 97 = .ok (.ldc 17, 2) := by decide +kernel
theorem dL_law_99 : decode cL_law 99 = .ok (.if_icmp .ne 104, 3) := by decide +kernel
theorem dL_law_102 : decode cL_law 102 = .ok (.aload_n 3, 1) := by decide +kernel
theorem dL_law_103 : decode cL_law 103 = .ok (.iconst 0, 1) := by decide +kernel
theorem dL_law_104 : decode cL_law 104 = .ok (.iconst 0, 1) := by decide +kernel
theorem dL_law_105 : decode cL_law 105 = .ok (.sipush 10000, 3) := by decide +kernel
theorem dL_law_108 : decode cL_law 108 = .ok (.invokestatic 140, 3) := by decide +kernel
theorem dL_law_111 : decode cL_law 111 = .ok (.ldc 20, 2) := by decide +kernel
theorem dL_law_113 : decode cL_law 113 = .ok (.if_icmp .ne 90, 3) := by decide +kernel
theorem dL_law_116 : decode cL_law 116 = .ok (.aload_n 3, 1) := by decide +kernel
theorem dL_law_117 : decode cL_law 117 = .ok (.iconst (-1), 1) := by decide +kernel
theorem dL_law_118 : decode cL_law 118 = .ok (.iconst 0, 1) := by decide +kernel
theorem dL_law_119 : decode cL_law 119 = .ok (.iconst 0, 1) := by decide +kernel
theorem dL_law_120 : decode cL_law 120 = .ok (.invokestatic 143, 3) := by decide +kernel
theorem dL_law_123 : decode cL_law 123 = .ok (.ldc 17, 2) := by decide +kernel
theorem dL_law_125 : decode cL_law 125 = .ok (.if_icmp .ne 78, 3) := by decide +kernel
theorem dL_law_128 : decode cL_law 128 = .ok (.aload_n 3, 1) := by decide +kernel
theorem dL_law_129 : decode cL_law 129 = .ok (.iconst 0, 1) := by decide +kernel
theorem dL_law_130 : decode cL_law 130 = .ok (.iconst 0, 1) := by decide +kernel
theorem dL_law_131 : decode cL_law 131 = .ok (.sipush (-10000), 3) := by decide +kernel
theorem dL_law_134 : decode cL_law 134 = .ok (.invokestatic 143, 3) := by decide +kernel
theorem dL_law_137 : decode cL_law 137 = .ok (.ldc 20, 2) := by decide +kernel
theorem dL_law_139 : decode cL_law 139 = .ok (.if_icmp .ne 64, 3) := by decide +kernel
theorem dL_law_142 : decode cL_law 142 = .ok (.aload_n 3, 1) := by decide +kernel
theorem dL_law_143 : decode cL_law 143 = .ok (.iconst 0, 1) := by decide +kernel
theorem dL_law_144 : decode cL_law 144 = .ok (.iconst (-1), 1) := by decide +kernel
theorem dL_law_145 : decode cL_law 145 = .ok (.invokestatic 133, 3) := by decide +kernel
theorem dL_law_148 : decode cL_law 148 = .ok (.ldc 17, 2) := by decide +kernel
theorem dL_law_150 : decode cL_law 150 = .ok (.if_icmp .ne 53, 3) := by decide +kernel
theorem dL_law_153 : decode cL_law 153 = .ok (.aload_n 3, 1) := by decide +kernel
theorem dL_law_154 : decode cL_law 154 = .ok (.bipush 6, 2) := by decide +kernel
theorem dL_law_156 : decode cL_law 156 = .ok (.iconst 0, 1) := by decide +kernel
theorem dL_law_157 : decode cL_law 157 = .ok (.invokestatic 201, 3) := by decide +kernel
theorem dL_law_160 : decode cL_law 160 = .ok (.ldc 17, 2) := by decide +kernel
theorem dL_law_162 : decode cL_law 162 = .ok (.if_icmp .ne 41, 3) := by decide +kernel
theorem dL_law_165 : decode cL_law 165 = .ok (.aload_n 3, 1) := by decide +kernel
theorem dL_law_166 : decode cL_law 166 = .ok (.iconst 0, 1) := by decide +kernel
theorem dL_law_167 : decode cL_law 167 = .ok (.bipush 8, 2) := by decide +kernel
theorem dL_law_169 : decode cL_law 169 = .ok (.invokestatic 203, 3) := by decide +kernel
theorem dL_law_172 : decode cL_law 172 = .ok (.ldc 17, 2) := by decide +kernel
theorem dL_law_174 : decode cL_law 174 = .ok (.if_icmp .ne 29, 3) := by decide +kernel
theorem dL_law_177 : decode cL_law 177 = .ok (.aload_n 3, 1) := by decide +kernel
theorem dL_law_178 : decode cL_law 178 = .ok (.iconst (-1), 1) := by decide +kernel
theorem dL_law_179 : decode cL_law 179 = .ok (.iconst 0, 1) := by decide +kernel
theorem dL_law_180 : decode cL_law 180 = .ok (.invokestatic 205, 3) := by decide +kernel
theorem dL_law_183 : decode cL_law 183 = .ok (.ldc 17, 2) := by decide +kernel
theorem dL_law_185 : decode cL_law 185 = .ok (.if_icmp .ne 18, 3) := by decide +kernel
theorem dL_law_188 : decode cL_law 188 = .ok (.aload_n 3, 1) := by decide +kernel
theorem dL_law_189 : decode cL_law 189 = .ok (.iconst 0, 1) := by decide +kernel
theorem dL_law_190 : decode cL_law 190 = .ok (.iconst (-1), 1) := by decide +kernel
theorem dL_law_191 : decode cL_law 191 = .ok (.invokestatic 207, 3) := by decide +kernel
theorem dL_law_194 : decode cL_law 194 = .ok (.ldc 17, 2) := by decide +kernel
theorem dL_law_196 : decode cL_law 196 = .ok (.if_icmp .ne 7, 3) := by decide +kernel
theorem dL_law_199 : decode cL_law 199 = .ok (.iconst 1, 1) := by decide +kernel
theorem dL_law_200 : decode cL_law 200 = .ok (.goto 4, 3) := by decide +kernel
theorem dL_law_203 : decode cL_law 203 = .ok (.iconst 0, 1) := by decide +kernel
theorem dL_law_204 : decode cL_law 204 = .ok (.istore 4, 2) := by decide +kernel
theorem dL_law_206 : decode cL_law 206 = .ok (.iload 4, 2) := by decide +kernel
theorem dL_law_208 : decode cL_law 208 = .ok (.ifCond .eq 143, 3) := by decide +kernel
theorem dL_law_211 : decode cL_law 211 = .ok (.aload_n 3, 1) := by decide +kernel
theorem dL_law_212 : decode cL_law 212 = .ok (.aload_n 1, 1) := by decide +kernel
theorem dL_law_213 : decode cL_law 213 = .ok (.bipush 50, 2) := by decide +kernel
theorem dL_law_215 : decode cL_law 215 = .ok (.iaload, 1) := by decide +kernel
theorem dL_law_216 : decode cL_law 216 = .ok (.iconst 0, 1) := by decide +kernel
theorem dL_law_217 : decode cL_law 217 = .ok (.iconst 0, 1) := by decide +kernel
theorem dL_law_218 : decode cL_law 218 = .ok (.invokestatic 147, 3) := by decide +kernel
theorem dL_law_221 : decode cL_law 221 = .ok (.ldc 17, 2) := by decide +kernel
theorem dL_law_223 : decode cL_law 223 = .ok (.if_icmp .ne 128, 3) := by decide +kernel
theorem dL_law_226 : decode cL_law 226 = .ok (.aload_n 3, 1) := by decide +kernel
theorem dL_law_227 : decode cL_law 227 = .ok (.iconst 0, 1) := by decide +kernel
theorem dL_law_228 : decode cL_law 228 = .ok (.bipush 6, 2) := by decide +kernel
theorem dL_law_230 : decode cL_law 230 = .ok (.iconst 0, 1) := by decide +kernel
theorem dL_law_231 : decode cL_law 231 = .ok (.invokestatic 147, 3) := by decide +kernel
theorem dL_law_234 : decode cL_law 234 = .ok (.ldc 17, 2) := by decide +kernel
theorem dL_law_236 : decode cL_law 236 = .ok (.if_icmp .ne 115, 3) := by decide +kernel
theorem dL_law_239 : decode cL_law 239 = .ok (.aload_n 3, 1) := by decide +kernel
theorem dL_law_240 : decode cL_law 240 = .ok (.iconst 0, 1) := by decide +kernel
theorem dL_law_241 : decode cL_law 241 = .ok (.iconst 0, 1) := by decide +kernel
theorem dL_law_242 : decode cL_law 242 = .ok (.bipush 8, 2) := by decide +kernel
theorem dL_law_244 : decode cL_law 244 = .ok (.invokestatic 145, 3) := by decide +kernel
theorem dL_law_247 : decode cL_law 247 = .ok (.ldc 17, 2) := by decide +kernel
theorem dL_law_249 : decode cL_law 249 = .ok (.if_icmp .ne 102, 3) := by decide +kernel
theorem dL_law_252 : decode cL_law 252 = .ok (.aload_n 3, 1) := by decide +kernel
theorem dL_law_253 : decode cL_law 253 = .ok (.iconst (-1), 1) := by decide +kernel
theorem dL_law_254 : decode cL_law 254 = .ok (.iconst 0, 1) := by decide +kernel
theorem dL_law_255 : decode cL_law 255 = .ok (.iconst 0, 1) := by decide +kernel
theorem dL_law_256 : decode cL_law 256 = .ok (.invokestatic 145, 3) := by decide +kernel
theorem dL_law_259 : decode cL_law 259 = .ok (.ldc 17, 2) := by decide +kernel
theorem dL_law_261 : decode cL_law 261 = .ok (.if_icmp .ne 90, 3) := by decide +kernel
theorem dL_law_264 : decode cL_law 264 = .ok (.aload_n 3, 1) := by decide +kernel
theorem dL_law_265 : decode cL_law 265 = .ok (.iconst 0, 1) := by decide +kernel
theorem dL_law_266 : decode cL_law 266 = .ok (.iconst 0, 1) := by decide +kernel
theorem dL_law_267 : decode cL_law 267 = .ok (.iconst 0, 1) := by decide +kernel
theorem dL_law_268 : decode cL_law 268 = .ok (.iconst 0, 1) := by decide +kernel
theorem dL_law_269 : decode cL_law 269 = .ok (.aload_n 1, 1) := by decide +kernel
theorem dL_law_270 : decode cL_law 270 = .ok (.bipush 50, 2) := by decide +kernel
theorem dL_law_272 : decode cL_law 272 = .ok (.iaload, 1) := by decide +kernel
theorem dL_law_273 : decode cL_law 273 = .ok (.iconst 0, 1) := by decide +kernel
theorem dL_law_274 : decode cL_law 274 = .ok (.invokestatic 155, 3) := by decide +kernel
theorem dL_law_277 : decode cL_law 277 = .ok (.ldc 17, 2) := by decide +kernel
theorem dL_law_279 : decode cL_law 279 = .ok (.if_icmp .ne 72, 3) := by decide +kernel
theorem dL_law_282 : decode cL_law 282 = .ok (.aload_n 3, 1) := by decide +kernel
theorem dL_law_283 : decode cL_law 283 = .ok (.iconst 0, 1) := by decide +kernel
theorem dL_law_284 : decode cL_law 284 = .ok (.iconst 0, 1) := by decide +kernel
theorem dL_law_285 : decode cL_law 285 = .ok (.bipush 6, 2) := by decide +kernel
theorem dL_law_287 : decode cL_law 287 = .ok (.iconst 0, 1) := by decide +kernel
theorem dL_law_288 : decode cL_law 288 = .ok (.iconst 0, 1) := by decide +kernel
theorem dL_law_289 : decode cL_law 289 = .ok (.iconst 0, 1) := by decide +kernel
theorem dL_law_290 : decode cL_law 290 = .ok (.invokestatic 155, 3) := by decide +kernel
theorem dL_law_293 : decode cL_law 293 = .ok (.ldc 17, 2) := by decide +kernel
theorem dL_law_295 : decode cL_law 295 = .ok (.if_icmp .ne 56, 3) := by decide +kernel
theorem dL_law_298 : decode cL_law 298 = .ok (.aload_n 3, 1) := by decide +kernel
theorem dL_law_299 : decode cL_law 299 = .ok (.iconst 0, 1) := by decide +kernel
theorem dL_law_300 : decode cL_law 300 = .ok (.iconst 0, 1) := by decide +kernel
theorem dL_law_301 : decode cL_law 301 = .ok (.iconst 0, 1) := by decide +kernel
theorem dL_law_302 : decode cL_law 302 = .ok (.iconst 0, 1) := by decide +kernel
theorem dL_law_303 : decode cL_law 303 = .ok (.iconst 0, 1) := by decide +kernel
theorem dL_law_304 : decode cL_law 304 = .ok (.bipush 10, 2) := by decide +kernel
theorem dL_law_306 : decode cL_law 306 = .ok (.invokestatic 155, 3) := by decide +kernel
theorem dL_law_309 : decode cL_law 309 = .ok (.ldc 20, 2) := by decide +kernel
theorem dL_law_311 : decode cL_law 311 = .ok (.if_icmp .ne 40, 3) := by decide +kernel
theorem dL_law_314 : decode cL_law 314 = .ok (.aload_n 3, 1) := by decide +kernel
theorem dL_law_315 : decode cL_law 315 = .ok (.aload_n 1, 1) := by decide +kernel
theorem dL_law_316 : decode cL_law 316 = .ok (.bipush 51, 2) := by decide +kernel
theorem dL_law_318 : decode cL_law 318 = .ok (.iaload, 1) := by decide +kernel
theorem dL_law_319 : decode cL_law 319 = .ok (.iconst 0, 1) := by decide +kernel
theorem dL_law_320 : decode cL_law 320 = .ok (.invokestatic 188, 3) := by decide +kernel
theorem dL_law_323 : decode cL_law 323 = .ok (.ldc 17, 2) := by decide +kernel
theorem dL_law_325 : decode cL_law 325 = .ok (.if_icmp .ne 26, 3) := by decide +kernel
theorem dL_law_328 : decode cL_law 328 = .ok (.aload_n 1, 1) := by decide +kernel
theorem dL_law_329 : decode cL_law 329 = .ok (.bipush 51, 2) := by decide +kernel
theorem dL_law_331 : decode cL_law 331 = .ok (.iaload, 1) := by decide +kernel
theorem dL_law_332 : decode cL_law 332 = .ok (.ifCond .eq 15, 3) := by decide +kernel
theorem dL_law_335 : decode cL_law 335 = .ok (.aload_n 3, 1) := by decide +kernel
theorem dL_law_336 : decode cL_law 336 = .ok (.iconst 0, 1) := by decide +kernel
theorem dL_law_337 : decode cL_law 337 = .ok (.bipush 10, 2) := by decide +kernel
theorem dL_law_339 : decode cL_law 339 = .ok (.invokestatic 188, 3) := by decide +kernel
theorem dL_law_342 : decode cL_law 342 = .ok (.ldc 20, 2) := by decide +kernel
theorem dL_law_344 : decode cL_law 344 = .ok (.if_icmp .ne 7, 3) := by decide +kernel
theorem dL_law_347 : decode cL_law 347 = .ok (.iconst 1, 1) := by decide +kernel
theorem dL_law_348 : decode cL_law 348 = .ok (.goto 4, 3) := by decide +kernel
theorem dL_law_351 : decode cL_law 351 = .ok (.iconst 0, 1) := by decide +kernel
theorem dL_law_352 : decode cL_law 352 = .ok (.ireturn, 1) := by decide +kernel


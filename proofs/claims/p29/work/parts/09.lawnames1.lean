theorem dL_byHand_60 : decode cL_byHand 60 = .ok (.bipush 53, 2) := by decide +kernel
theorem dL_byHand_62 : decode cL_byHand 62 = .ok (.iaload, 1) := by decide +kernel
theorem dL_byHand_63 : decode cL_byHand 63 = .ok (.bipush 8, 2) := by decide +kernel
theorem dL_byHand_65 : decode cL_byHand 65 = .ok (.irem, 1) := by decide +kernel
theorem dL_byHand_66 : decode cL_byHand 66 = .ok (.isub, 1) := by decide +kernel
theorem dL_byHand_67 : decode cL_byHand 67 = .ok (.iastore, 1) := by decide +kernel
theorem dL_byHand_68 : decode cL_byHand 68 = .ok (.aload_n 0, 1) := by decide +kernel
theorem dL_byHand_69 : decode cL_byHand 69 = .ok (.iload 8, 2) := by decide +kernel
theorem dL_byHand_71 : decode cL_byHand 71 = .ok (.iconst 3, 1) := by decide +kernel
theorem dL_byHand_72 : decode cL_byHand 72 = .ok (.iadd, 1) := by decide +kernel
theorem dL_byHand_73 : decode cL_byHand 73 = .ok (.iload 6, 2) := by decide +kernel
theorem dL_byHand_75 : decode cL_byHand 75 = .ok (.iastore, 1) := by decide +kernel
theorem dL_byHand_76 : decode cL_byHand 76 = .ok (.aload_n 0, 1) := by decide +kernel
theorem dL_byHand_77 : decode cL_byHand 77 = .ok (.iload 7, 2) := by decide +kernel
theorem dL_byHand_79 : decode cL_byHand 79 = .ok (.invokestatic 96, 3) := by decide +kernel
theorem dL_byHand_82 : decode cL_byHand 82 = .ok (.dup2, 1) := by decide +kernel
theorem dL_byHand_83 : decode cL_byHand 83 = .ok (.iaload, 1) := by decide +kernel
theorem dL_byHand_84 : decode cL_byHand 84 = .ok (.iconst 1, 1) := by decide +kernel
theorem dL_byHand_85 : decode cL_byHand 85 = .ok (.iadd, 1) := by decide +kernel
theorem dL_byHand_86 : decode cL_byHand 86 = .ok (.iastore, 1) := by decide +kernel
theorem dL_byHand_87 : decode cL_byHand 87 = .ok (.aload_n 0, 1) := by decide +kernel
theorem dL_byHand_88 : decode cL_byHand 88 = .ok (.bipush 56, 2) := by decide +kernel
theorem dL_byHand_90 : decode cL_byHand 90 = .ok (.iaload, 1) := by decide +kernel
theorem dL_byHand_91 : decode cL_byHand 91 = .ok (.istore 8, 2) := by decide +kernel
theorem dL_byHand_93 : decode cL_byHand 93 = .ok (.aload_n 0, 1) := by decide +kernel
theorem dL_byHand_94 : decode cL_byHand 94 = .ok (.aload_n 1, 1) := by decide +kernel
theorem dL_byHand_95 : decode cL_byHand 95 = .ok (.bipush 8, 2) := by decide +kernel
theorem dL_byHand_97 : decode cL_byHand 97 = .ok (.iload_n 3, 1) := by decide +kernel
theorem dL_byHand_98 : decode cL_byHand 98 = .ok (.imul, 1) := by decide +kernel
theorem dL_byHand_99 : decode cL_byHand 99 = .ok (.iload 4, 2) := by decide +kernel
theorem dL_byHand_101 : decode cL_byHand 101 = .ok (.iadd, 1) := by decide +kernel
theorem dL_byHand_102 : decode cL_byHand 102 = .ok (.iload 5, 2) := by decide +kernel
theorem dL_byHand_104 : decode cL_byHand 104 = .ok (.iconst (-1), 1) := by decide +kernel
theorem dL_byHand_105 : decode cL_byHand 105 = .ok (.iconst 0, 1) := by decide +kernel
theorem dL_byHand_106 : decode cL_byHand 106 = .ok (.invokestatic 114, 3) := by decide +kernel
theorem dL_byHand_109 : decode cL_byHand 109 = .ok (.aload_n 0, 1) := by decide +kernel
theorem dL_byHand_110 : decode cL_byHand 110 = .ok (.aload_n 1, 1) := by decide +kernel
theorem dL_byHand_111 : decode cL_byHand 111 = .ok (.iload 8, 2) := by decide +kernel
theorem dL_byHand_113 : decode cL_byHand 113 = .ok (.invokestatic 126, 3) := by decide +kernel
theorem dL_byHand_116 : decode cL_byHand 116 = .ok (.istore 9, 2) := by decide +kernel
theorem dL_byHand_118 : decode cL_byHand 118 = .ok (.aload_n 0, 1) := by decide +kernel
theorem dL_byHand_119 : decode cL_byHand 119 = .ok (.bipush 52, 2) := by decide +kernel
theorem dL_byHand_121 : decode cL_byHand 121 = .ok (.iload 7, 2) := by decide +kernel
theorem dL_byHand_123 : decode cL_byHand 123 = .ok (.ifCond .lt 19, 3) := by decide +kernel
theorem dL_byHand_126 : decode cL_byHand 126 = .ok (.aload_n 0, 1) := by decide +kernel
theorem dL_byHand_127 : decode cL_byHand 127 = .ok (.iload 7, 2) := by decide +kernel
theorem dL_byHand_129 : decode cL_byHand 129 = .ok (.invokestatic 96, 3) := by decide +kernel
theorem dL_byHand_132 : decode cL_byHand 132 = .ok (.iaload, 1) := by decide +kernel
theorem dL_byHand_133 : decode cL_byHand 133 = .ok (.bipush 10, 2) := by decide +kernel
theorem dL_byHand_135 : decode cL_byHand 135 = .ok (.if_icmp .ne 7, 3) := by decide +kernel
theorem dL_byHand_138 : decode cL_byHand 138 = .ok (.iconst 0, 1) := by decide +kernel
theorem dL_byHand_139 : decode cL_byHand 139 = .ok (.goto 7, 3) := by decide +kernel
theorem dL_byHand_142 : decode cL_byHand 142 = .ok (.aload_n 0, 1) := by decide +kernel
theorem dL_byHand_143 : decode cL_byHand 143 = .ok (.bipush 52, 2) := by decide +kernel
theorem dL_byHand_145 : decode cL_byHand 145 = .ok (.iaload, 1) := by decide +kernel
theorem dL_byHand_146 : decode cL_byHand 146 = .ok (.iastore, 1) := by decide +kernel
theorem dL_byHand_147 : decode cL_byHand 147 = .ok (.iload 9, 2) := by decide +kernel
theorem dL_byHand_149 : decode cL_byHand 149 = .ok (.ireturn, 1) := by decide +kernel
set_option maxRecDepth 20000 in
theorem ggL_isSet_L_value : GoodIn wsL_isSet wsL_value := goodIn_ca (goodIn_r _ [5] (by decide +kernel) (by decide +kernel)) (goodIn_sub (fun _ h => List.mem_cons_of_mem _ (List.mem_append_left _ (List.mem_append_left _ (List.mem_append_left _ (List.mem_append_right _ h))))) (by decide +kernel))
set_option maxRecDepth 20000 in
theorem gL_isSet_L_value : GoodIn wsL_isSet (va_wsS RL 130 yL_value wsL_value) := goodIn_app (goodIn_of _ (by decide +kernel)) ggL_isSet_L_value
set_option maxRecDepth 20000 in
theorem ggL_isSet_L_copyBase : GoodIn wsL_isSet wsL_copyBase := goodIn_ca (goodIn_ca (goodIn_ca (goodIn_r _ [8, 9, 10, 11, 1, 12, 13, 14, 15, 16, 17, 18, 19, 20, 21, 22, 23, 24, 25, 26, 27, 28, 29, 30, 31, 32, 33, 34, 35, 36, 37, 38, 39, 40, 41, 42, 43, 44, 45, 46, 47, 48, 49, 50, 51, 52, 53, 54, 55, 56, 57, 58, 59, 60, 61, 62, 63, 64, 65, 66, 67, 68, 69, 70, 71, 72, 73, 74, 75, 76, 77, 78, 79, 80, 81, 82, 83, 84, 85, 86, 87, 88, 89, 90, 91, 92, 93, 94, 95, 96, 97, 98, 99, 100, 101, 102, 103, 104, 105, 106, 107, 108, 109, 110, 111, 112, 113, 114, 115, 116, 117, 118, 119, 120, 121, 122, 123, 124, 125, 126, 127, 128, 129, 130, 131, 132, 133, 134, 135, 136, 137, 138, 139, 140, 141, 142, 143, 144, 145, 146, 147, 148, 149, 150, 151, 152, 153, 154, 155, 156, 157, 158, 159, 160, 161, 162, 163, 164, 165, 166, 167, 168, 169, 170, 171, 172, 173, 174, 175, 176, 177, 178, 179, 180, 181, 182, 183, 184, 185, 186, 187, 188, 189, 190, 191, 192, 193, 194, 195, 196, 197, 198, 199, 200, 201, 202, 203, 204, 205, 206, 207, 208, 209, 210, 211, 212, 213, 214, 215, 216, 217, 218, 219, 220, 221, 222, 223, 224, 225, 226, 227, 228, 229, 230, 231, 232, 233, 234, 235, 236, 237, 238, 239, 240, 241, 242, 243, 244, 245, 246, 247, 248, 249, 250, 251, 252, 253, 254, 255, 256, 257, 258, 259, 260, 261, 262, 263, 264, 265, 266, 267, 268, 269, 270, 271, 272, 273, 274, 275, 276, 277, 278, 279, 280, 331, 332, 333, 334, 335, 336, 337, 338, 339, 340, 341, 342, 343, 344, 345, 346, 347, 348, 349, 350, 351, 352, 353, 354, 355, 356, 357, 358, 359, 360, 361, 362, 363, 364, 365, 366, 367, 368] (by decide +kernel) (by decide +kernel)) (goodIn_sub (fun _ h => List.mem_cons_of_mem _ (List.mem_append_left _ (List.mem_append_left _ (List.mem_append_right _ h)))) (by decide +kernel))) (goodIn_sub (fun _ h => List.mem_cons_of_mem _ (List.mem_append_left _ (List.mem_append_right _ h))) (by decide +kernel))) (goodIn_sub (fun _ h => List.mem_cons_of_mem _ (List.mem_append_left _ (List.mem_append_left _ (List.mem_append_left _ (List.mem_append_right _ h))))) (by decide +kernel))
set_option maxRecDepth 20000 in
theorem gL_isSet_L_copyBase : GoodIn wsL_isSet (va_wsS RL 133 yL_copyBase wsL_copyBase) := goodIn_app (goodIn_of _ (by decide +kernel)) ggL_isSet_L_copyBase
set_option maxRecDepth 20000 in
theorem ggL_isSet_L_byHand : GoodIn wsL_isSet wsL_byHand := goodIn_ca (goodIn_r _ [283, 284, 285, 4, 286, 287, 288, 289, 290, 291, 292, 166, 293, 294, 295, 296, 297, 298, 299, 300, 301, 302, 303, 304, 305, 306, 307, 308, 309, 310, 311, 312, 313] (by decide +kernel) (by decide +kernel)) (goodIn_sub (fun _ h => List.mem_cons_of_mem _ (List.mem_append_left _ (List.mem_append_left _ (List.mem_append_left _ (List.mem_append_right _ h))))) (by decide +kernel))
set_option maxRecDepth 20000 in
theorem gL_isSet_L_byHand : GoodIn wsL_isSet (va_wsS RL 136 yL_byHand wsL_byHand) := goodIn_app (goodIn_of _ (by decide +kernel)) ggL_isSet_L_byHand
set_option maxRecDepth 20000 in
theorem ggL_isSet_L_set : GoodIn wsL_isSet wsL_set := goodIn_ca (goodIn_ca (goodIn_ca (goodIn_r _ [316, 9, 317, 11, 1, 318, 319, 320, 15, 321, 322, 323, 20, 21, 22, 23, 24, 25, 26, 27, 261, 262, 263, 28, 29, 30, 31, 32, 33, 34, 35, 36, 19, 37, 38, 39, 40, 41, 42, 43, 44, 45, 46, 47, 48, 49, 50, 51, 52, 53, 54, 55, 56, 57, 58, 59, 60, 61, 62, 63, 64, 65, 66, 67, 68, 69, 70, 71, 72, 73, 74, 75, 76, 77, 78, 79, 80, 81, 82, 83, 84, 85, 86, 87, 88, 89, 90, 91, 92, 93, 94, 95, 96, 97, 98, 99, 100, 101, 102, 103, 104, 105, 106, 107, 108, 109, 110, 111, 112, 113, 114, 115, 116, 117, 118, 119, 120, 121, 122, 123, 124, 125, 126, 127, 128, 129, 130, 131, 132, 133, 134, 135, 136, 137, 138, 139, 140, 141, 142, 143, 144, 145, 146, 147, 148, 149, 150, 151, 152, 153, 154, 155, 156, 157, 158, 159, 160, 161, 162, 163, 164, 165, 166, 167, 168, 169, 170, 171, 172, 173, 174, 175, 176, 177, 178, 179, 180, 181, 182, 183, 184, 185, 186, 187, 188, 189, 190, 191, 192, 193, 194, 195, 196, 197, 198, 199, 200, 201, 202, 203, 204, 205, 206, 207, 208, 209, 210, 211, 212, 213, 214, 215, 216, 217, 218, 219, 220, 221, 222, 223, 224, 225, 226, 227, 228, 229, 230, 231, 232, 233, 234, 235, 236, 237, 238, 239, 240, 241, 242, 243, 244, 245, 246, 247, 248, 249, 250, 251, 252, 253, 254, 255, 256, 257, 258, 259, 260, 264, 265, 266, 267, 268, 269, 270, 271, 272, 273, 274, 275, 276, 277, 278, 279, 280, 344, 345, 346, 347, 331, 332, 333, 334, 335, 336, 337, 338, 339, 340, 341, 342, 343, 348, 349, 350, 351, 352, 353, 354, 355, 356, 357, 358, 359, 360, 361, 362, 363, 364, 365, 366, 367, 368] (by decide +kernel) (by decide +kernel)) (goodIn_sub (fun _ h => List.mem_cons_of_mem _ (List.mem_append_right _ h)) (by decide +kernel))) (goodIn_sub (fun _ h => List.mem_cons_of_mem _ (List.mem_append_left _ (List.mem_append_right _ h))) (by decide +kernel))) (goodIn_sub (fun _ h => List.mem_cons_of_mem _ (List.mem_append_left _ (List.mem_append_left _ (List.mem_append_left _ (List.mem_append_right _ h))))) (by decide +kernel))
set_option maxRecDepth 20000 in
theorem gL_isSet_L_set : GoodIn wsL_isSet (va_wsS RL 140 yL_set wsL_set) := goodIn_app (goodIn_of _ (by decide +kernel)) ggL_isSet_L_set
set_option maxRecDepth 20000 in
theorem ggL_isSet_L_add : GoodIn wsL_isSet wsL_add := goodIn_ca (goodIn_ca (goodIn_ca (goodIn_r _ [326, 9, 317, 11, 1, 327, 328, 329, 15, 330, 322, 323, 174, 20, 21, 22, 23, 24, 25, 26, 27, 261, 262, 263, 167, 168, 169, 176, 177, 178, 179, 180, 181, 182, 183, 184, 185, 28, 29, 30, 31, 32, 33, 34, 35, 36, 19, 37, 38, 39, 40, 41, 42, 43, 44, 45, 46, 47, 48, 49, 50, 51, 52, 53, 54, 55, 56, 57, 58, 59, 60, 61, 62, 63, 64, 65, 66, 67, 68, 69, 70, 71, 72, 73, 74, 75, 76, 77, 78, 79, 80, 81, 82, 83, 84, 85, 86, 87, 88, 89, 90, 91, 92, 93, 94, 95, 96, 97, 98, 99, 100, 101, 102, 103, 104, 105, 106, 107, 108, 109, 110, 111, 112, 113, 114, 115, 116, 117, 118, 119, 120, 121, 122, 123, 124, 125, 126, 127, 128, 129, 130, 131, 132, 133, 134, 135, 136, 137, 138, 139, 140, 141, 142, 143, 144, 145, 146, 147, 148, 149, 150, 151, 152, 153, 154, 155, 156, 157, 158, 159, 160, 161, 162, 163, 164, 165, 166, 170, 171, 172, 173, 175, 186, 187, 188, 189, 190, 191, 192, 193, 194, 195, 196, 197, 198, 199, 200, 201, 202, 203, 204, 205, 206, 207, 208, 209, 210, 211, 212, 213, 214, 215, 216, 217, 218, 219, 220, 221, 222, 223, 224, 225, 226, 227, 228, 229, 230, 231, 232, 233, 234, 235, 236, 237, 238, 239, 240, 241, 242, 243, 244, 245, 246, 247, 248, 249, 250, 251, 252, 253, 254, 255, 256, 257, 258, 259, 260, 264, 265, 266, 267, 268, 269, 270, 271, 272, 273, 274, 275, 276, 277, 278, 279, 280, 331, 332, 333, 334, 335, 336, 337, 338, 339, 340, 341, 342, 343, 359, 344, 345, 346, 347, 348, 349, 350, 351, 352, 353, 354, 355, 356, 357, 358, 360, 361, 362, 363, 364, 365, 366, 367, 368] (by decide +kernel) (by decide +kernel)) (goodIn_sub (fun _ h => List.mem_cons_of_mem _ (List.mem_append_right _ h)) (by decide +kernel))) (goodIn_sub (fun _ h => List.mem_cons_of_mem _ (List.mem_append_left _ (List.mem_append_right _ h))) (by decide +kernel))) (goodIn_sub (fun _ h => List.mem_cons_of_mem _ (List.mem_append_left _ (List.mem_append_left _ (List.mem_append_left _ (List.mem_append_right _ h))))) (by decide +kernel))
set_option maxRecDepth 20000 in
theorem gL_isSet_L_add : GoodIn wsL_isSet (va_wsS RL 143 yL_add wsL_add) := goodIn_app (goodIn_of _ (by decide +kernel)) ggL_isSet_L_add
theorem dL_isSet_0 : decode cL_isSet 0 = .ok (.iload_n 3, 1) := by decide +kernel
theorem dL_isSet_1 : decode cL_isSet 1 = .ok (.bipush 115, 2) := by decide +kernel
theorem dL_isSet_3 : decode cL_isSet 3 = .ok (.if_icmp .ne 8, 3) := by decide +kernel
theorem dL_isSet_6 : decode cL_isSet 6 = .ok (.iload 6, 2) := by decide +kernel
theorem dL_isSet_8 : decode cL_isSet 8 = .ok (.goto 29, 3) := by decide +kernel
theorem dL_isSet_11 : decode cL_isSet 11 = .ok (.iload_n 3, 1) := by decide +kernel
theorem dL_isSet_12 : decode cL_isSet 12 = .ok (.bipush 97, 2) := by decide +kernel
theorem dL_isSet_14 : decode cL_isSet 14 = .ok (.if_icmp .ne 17, 3) := by decide +kernel
theorem dL_isSet_17 : decode cL_isSet 17 = .ok (.aload_n 1, 1) := by decide +kernel
theorem dL_isSet_18 : decode cL_isSet 18 = .ok (.iload 4, 2) := by decide +kernel
theorem dL_isSet_20 : decode cL_isSet 20 = .ok (.iload 5, 2) := by decide +kernel
theorem dL_isSet_22 : decode cL_isSet 22 = .ok (.invokestatic 130, 3) := by decide +kernel
theorem dL_isSet_25 : decode cL_isSet 25 = .ok (.iload 6, 2) := by decide +kernel
theorem dL_isSet_27 : decode cL_isSet 27 = .ok (.iadd, 1) := by decide +kernel
theorem dL_isSet_28 : decode cL_isSet 28 = .ok (.goto 9, 3) := by decide +kernel
theorem dL_isSet_31 : decode cL_isSet 31 = .ok (.aload_n 1, 1) := by decide +kernel
theorem dL_isSet_32 : decode cL_isSet 32 = .ok (.aload_n 1, 1) := by decide +kernel
theorem dL_isSet_33 : decode cL_isSet 33 = .ok (.bipush 53, 2) := by decide +kernel
theorem dL_isSet_35 : decode cL_isSet 35 = .ok (.iaload, 1) := by decide +kernel
theorem dL_isSet_36 : decode cL_isSet 36 = .ok (.iaload, 1) := by decide +kernel
theorem dL_isSet_37 : decode cL_isSet 37 = .ok (.istore 7, 2) := by decide +kernel
theorem dL_isSet_39 : decode cL_isSet 39 = .ok (.iload_n 3, 1) := by decide +kernel
theorem dL_isSet_40 : decode cL_isSet 40 = .ok (.bipush 99, 2) := by decide +kernel
theorem dL_isSet_42 : decode cL_isSet 42 = .ok (.if_icmp .ne 46, 3) := by decide +kernel
theorem dL_isSet_45 : decode cL_isSet 45 = .ok (.aload_n 0, 1) := by decide +kernel
theorem dL_isSet_46 : decode cL_isSet 46 = .ok (.iload 4, 2) := by decide +kernel
theorem dL_isSet_48 : decode cL_isSet 48 = .ok (.iload 5, 2) := by decide +kernel
theorem dL_isSet_50 : decode cL_isSet 50 = .ok (.invokestatic 133, 3) := by decide +kernel
theorem dL_isSet_53 : decode cL_isSet 53 = .ok (.aload_n 1, 1) := by decide +kernel
theorem dL_isSet_54 : decode cL_isSet 54 = .ok (.bipush 52, 2) := by decide +kernel
theorem dL_isSet_56 : decode cL_isSet 56 = .ok (.iaload, 1) := by decide +kernel
theorem dL_isSet_57 : decode cL_isSet 57 = .ok (.ifCond .ne 8, 3) := by decide +kernel
theorem dL_isSet_60 : decode cL_isSet 60 = .ok (.ldc 20, 2) := by decide +kernel
theorem dL_isSet_62 : decode cL_isSet 62 = .ok (.goto 17, 3) := by decide +kernel
theorem dL_isSet_65 : decode cL_isSet 65 = .ok (.aload_n 1, 1) := by decide +kernel
theorem dL_isSet_66 : decode cL_isSet 66 = .ok (.aload_n 2, 1) := by decide +kernel
theorem dL_isSet_67 : decode cL_isSet 67 = .ok (.bipush 99, 2) := by decide +kernel
theorem dL_isSet_69 : decode cL_isSet 69 = .ok (.iload 4, 2) := by decide +kernel
theorem dL_isSet_71 : decode cL_isSet 71 = .ok (.iload 5, 2) := by decide +kernel
theorem dL_isSet_73 : decode cL_isSet 73 = .ok (.iload 7, 2) := by decide +kernel
theorem dL_isSet_75 : decode cL_isSet 75 = .ok (.iconst 0, 1) := by decide +kernel
theorem dL_isSet_76 : decode cL_isSet 76 = .ok (.invokestatic 136, 3) := by decide +kernel
theorem dL_isSet_79 : decode cL_isSet 79 = .ok (.if_icmp .ne 7, 3) := by decide +kernel
theorem dL_isSet_82 : decode cL_isSet 82 = .ok (.iconst 1, 1) := by decide +kernel
theorem dL_isSet_83 : decode cL_isSet 83 = .ok (.goto 4, 3) := by decide +kernel
theorem dL_isSet_86 : decode cL_isSet 86 = .ok (.iconst 0, 1) := by decide +kernel
theorem dL_isSet_87 : decode cL_isSet 87 = .ok (.ireturn, 1) := by decide +kernel
theorem dL_isSet_88 : decode cL_isSet 88 = .ok (.iload 6, 2) := by decide +kernel
theorem dL_isSet_90 : decode cL_isSet 90 = .ok (.sipush (-9999), 3) := by decide +kernel
theorem dL_isSet_93 : decode cL_isSet 93 = .ok (.if_icmp .lt 31, 3) := by decide +kernel
theorem dL_isSet_96 : decode cL_isSet 96 = .ok (.iload 6, 2) := by decide +kernel
theorem dL_isSet_98 : decode cL_isSet 98 = .ok (.sipush 9999, 3) := by decide +kernel
theorem dL_isSet_101 : decode cL_isSet 101 = .ok (.if_icmp .gt 23, 3) := by decide +kernel
theorem dL_isSet_104 : decode cL_isSet 104 = .ok (.iload 7, 2) := by decide +kernel
theorem dL_isSet_106 : decode cL_isSet 106 = .ok (.sipush (-9999), 3) := by decide +kernel
theorem dL_isSet_109 : decode cL_isSet 109 = .ok (.if_icmp .lt 15, 3) := by decide +kernel
theorem dL_isSet_112 : decode cL_isSet 112 = .ok (.iload 7, 2) := by decide +kernel
theorem dL_isSet_114 : decode cL_isSet 114 = .ok (.sipush 9999, 3) := by decide +kernel
theorem dL_isSet_117 : decode cL_isSet 117 = .ok (.if_icmp .gt 7, 3) := by decide +kernel
theorem dL_isSet_120 : decode cL_isSet 120 = .ok (.iconst 1, 1) := by decide +kernel
theorem dL_isSet_121 : decode cL_isSet 121 = .ok (.goto 4, 3) := by decide +kernel
theorem dL_isSet_124 : decode cL_isSet 124 = .ok (.iconst 0, 1) := by decide +kernel
theorem dL_isSet_125 : decode cL_isSet 125 = .ok (.istore 8, 2) := by decide +kernel
theorem dL_isSet_127 : decode cL_isSet 127 = .ok (.iload 8, 2) := by decide +kernel
theorem dL_isSet_129 : decode cL_isSet 129 = .ok (.ifCond .eq 20, 3) := by decide +kernel
theorem dL_isSet_132 : decode cL_isSet 132 = .ok (.aload_n 1, 1) := by decide +kernel
theorem dL_isSet_133 : decode cL_isSet 133 = .ok (.aload_n 2, 1) := by decide +kernel
theorem dL_isSet_134 : decode cL_isSet 134 = .ok (.iload_n 3, 1) := by decide +kernel
theorem dL_isSet_135 : decode cL_isSet 135 = .ok (.iload 4, 2) := by decide +kernel
theorem dL_isSet_137 : decode cL_isSet 137 = .ok (.iload 5, 2) := by decide +kernel
theorem dL_isSet_139 : decode cL_isSet 139 = .ok (.iload 7, 2) := by decide +kernel
theorem dL_isSet_141 : decode cL_isSet 141 = .ok (.iload 6, 2) := by decide +kernel
theorem dL_isSet_143 : decode cL_isSet 143 = .ok (.invokestatic 136, 3) := by decide +kernel
theorem dL_isSet_146 : decode cL_isSet 146 = .ok (.goto 5, 3) := by decide +kernel
theorem dL_isSet_149 : decode cL_isSet 149 = .ok (.ldc 20, 2) := by decide +kernel
theorem dL_isSet_151 : decode cL_isSet 151 = .ok (.istore 9, 2) := by decide +kernel
theorem dL_isSet_153 : decode cL_isSet 153 = .ok (.iload_n 3, 1) := by decide +kernel
theorem dL_isSet_154 : decode cL_isSet 154 = .ok (.bipush 115, 2) := by decide +kernel
theorem dL_isSet_156 : decode cL_isSet 156 = .ok (.if_icmp .ne 16, 3) := by decide +kernel
theorem dL_isSet_159 : decode cL_isSet 159 = .ok (.aload_n 0, 1) := by decide +kernel
theorem dL_isSet_160 : decode cL_isSet 160 = .ok (.iload 4, 2) := by decide +kernel
theorem dL_isSet_162 : decode cL_isSet 162 = .ok (.iload 5, 2) := by decide +kernel
theorem dL_isSet_164 : decode cL_isSet 164 = .ok (.iload 6, 2) := by decide +kernel
theorem dL_isSet_166 : decode cL_isSet 166 = .ok (.invokestatic 140, 3) := by decide +kernel
theorem dL_isSet_169 : decode cL_isSet 169 = .ok (.goto 13, 3) := by decide +kernel
theorem dL_isSet_172 : decode cL_isSet 172 = .ok (.aload_n 0, 1) := by decide +kernel
theorem dL_isSet_173 : decode cL_isSet 173 = .ok (.iload 4, 2) := by decide +kernel
theorem dL_isSet_175 : decode cL_isSet 175 = .ok (.iload 5, 2) := by decide +kernel
theorem dL_isSet_177 : decode cL_isSet 177 = .ok (.iload 6, 2) := by decide +kernel
theorem dL_isSet_179 : decode cL_isSet 179 = .ok (.invokestatic 143, 3) := by decide +kernel
theorem dL_isSet_182 : decode cL_isSet 182 = .ok (.iload 9, 2) := by decide +kernel
theorem dL_isSet_184 : decode cL_isSet 184 = .ok (.if_icmp .ne 7, 3) := by decide +kernel
theorem dL_isSet_187 : decode cL_isSet 187 = .ok (.iconst 1, 1) := by decide +kernel
theorem dL_isSet_188 : decode cL_isSet 188 = .ok (.goto 4, 3) := by decide +kernel
theorem dL_isSet_191 : decode cL_isSet 191 = .ok (.iconst 0, 1) := by decide +kernel
theorem dL_isSet_192 : decode cL_isSet 192 = .ok (.ireturn, 1) := by decide +kernel
set_option maxRecDepth 20000 in
theorem ggL_isRun_L_reason_ : GoodIn wsL_isRun wsL_reason_ := goodIn_ca (goodIn_r _ [7, 8, 9, 6, 10, 11, 12, 13, 14, 15, 16, 17, 18, 19, 20, 21, 22] (by decide +kernel) (by decide +kernel)) (goodIn_sub (fun _ h => List.mem_cons_of_mem _ (List.mem_append_left _ (List.mem_append_left _ (List.mem_append_left _ (List.mem_append_right _ h))))) (by decide +kernel))
set_option maxRecDepth 20000 in
theorem gL_isRun_L_reason_ : GoodIn wsL_isRun (va_wsS RL 121 yL_reason_ wsL_reason_) := goodIn_app (goodIn_of _ (by decide +kernel)) ggL_isRun_L_reason_
set_option maxRecDepth 20000 in
theorem ggL_isRun_L_reason : GoodIn wsL_isRun wsL_reason := goodIn_ca (goodIn_ca (goodIn_r _ [25, 26, 27, 28, 29, 30, 31, 32, 33, 34, 35, 36, 37, 38, 39, 40, 41, 42, 43, 44, 45, 46, 47, 48, 49, 50, 51, 52, 53, 54, 55, 56, 57, 58, 59, 60, 61, 62, 63, 64, 65, 66, 67, 68, 69, 70, 71, 72, 73, 74, 75, 76, 77, 78, 79, 80, 81, 82, 83, 84, 85, 86, 87, 88, 89, 90, 91, 92, 93, 94, 95, 96, 97, 98, 99, 100, 101, 102, 103, 104, 105, 106, 107, 108, 109, 110, 111, 112, 113, 114, 115, 116, 117, 118, 119, 120, 121, 122, 123, 124, 125, 126, 127, 128, 129, 130, 131, 132, 133, 134, 135, 136, 137, 138, 139, 140, 141, 142, 259, 260, 261, 262, 263, 264, 265, 266, 267, 268, 269, 270, 271, 272, 273, 274, 275, 276, 277, 278, 279, 280, 281, 282, 283, 284, 285, 286] (by decide +kernel) (by decide +kernel)) (goodIn_sub (fun _ h => List.mem_cons_of_mem _ (List.mem_append_left _ (List.mem_append_left _ (List.mem_append_right _ h)))) (by decide +kernel))) (goodIn_sub (fun _ h => List.mem_cons_of_mem _ (List.mem_append_left _ (List.mem_append_left _ (List.mem_append_left _ (List.mem_append_right _ h))))) (by decide +kernel))
set_option maxRecDepth 20000 in
theorem gL_isRun_L_reason : GoodIn wsL_isRun (va_wsS RL 145 yL_reason wsL_reason) := goodIn_app (goodIn_of _ (by decide +kernel)) ggL_isRun_L_reason
set_option maxRecDepth 20000 in
theorem ggL_isRun_L_run : GoodIn wsL_isRun wsL_run := goodIn_ca (goodIn_ca (goodIn_ca (goodIn_ca (goodIn_r _ [145, 26, 146, 147, 27, 2, 3, 148, 149, 150, 31, 151, 152, 153, 154, 155, 156, 33, 34, 35, 36, 37, 38, 39, 40, 41, 42, 43, 44, 45, 46, 47, 48, 49, 50, 51, 52, 53, 54, 55, 56, 57, 58, 59, 60, 61, 62, 63, 64, 65, 66, 67, 68, 69, 70, 71, 72, 73, 74, 75, 76, 77, 78, 79, 80, 81, 82, 83, 84, 85, 86, 87, 88, 89, 90, 91, 92, 93, 94, 95, 96, 97, 98, 99, 100, 101, 102, 103, 104, 105, 106, 107, 108, 109, 110, 111, 112, 113, 114, 115, 116, 117, 118, 119, 120, 121, 122, 123, 124, 125, 126, 127, 128, 129, 130, 131, 132, 133, 134, 135, 136, 137, 138, 139, 140, 141, 142, 157, 158, 159, 160, 161, 162, 163, 164, 165, 166, 167, 168, 169, 170, 171, 172, 173, 174, 175, 176, 177, 178, 179, 180, 181, 182, 183, 184, 185, 186, 187, 1, 188, 189, 190, 191, 192, 193, 194, 195, 196, 197, 198, 199, 200, 201, 202, 203, 204, 205, 206, 207, 208, 209, 210, 211, 212, 213, 214, 215, 216, 217, 218, 219, 220, 221, 222, 223, 224, 225, 226, 227, 228, 229, 230, 231, 232, 233, 234, 235, 236, 237, 238, 239, 240, 241, 242, 243, 244, 245, 246, 259, 260, 261, 262, 263, 264, 265, 266, 267, 268, 269, 270, 271, 272, 273, 274, 275, 276, 277, 278, 279, 280, 281, 282, 283, 284, 285, 286, 287, 288, 289, 290, 291, 292, 293, 294, 295, 296] (by decide +kernel) (by decide +kernel)) (goodIn_sub (fun _ h => List.mem_cons_of_mem _ (List.mem_append_left _ (List.mem_append_right _ h))) (by decide +kernel))) (goodIn_sub (fun _ h => List.mem_cons_of_mem _ (List.mem_append_right _ h)) (by decide +kernel))) (goodIn_sub (fun _ h => List.mem_cons_of_mem _ (List.mem_append_left _ (List.mem_append_left _ (List.mem_append_right _ h)))) (by decide +kernel))) (goodIn_sub (fun _ h => List.mem_cons_of_mem _ (List.mem_append_left _ (List.mem_append_left _ (List.mem_append_left _ (List.mem_append_right _ h))))) (by decide +kernel))
set_option maxRecDepth 20000 in
theorem gL_isRun_L_run : GoodIn wsL_isRun (va_wsS RL 147 yL_run wsL_run) := goodIn_app (goodIn_of _ (by decide +kernel)) ggL_isRun_L_run
set_option maxRecDepth 20000 in
theorem ggL_isRun_L_run_ : GoodIn wsL_isRun wsL_run_ := goodIn_ca (goodIn_r _ [249, 8, 9, 6, 10, 20, 21, 22, 250, 251, 252] (by decide +kernel) (by decide +kernel)) (goodIn_sub (fun _ h => List.mem_cons_of_mem _ (List.mem_append_left _ (List.mem_append_left _ (List.mem_append_left _ (List.mem_append_right _ h))))) (by decide +kernel))
set_option maxRecDepth 20000 in
theorem gL_isRun_L_run_ : GoodIn wsL_isRun (va_wsS RL 124 yL_run_ wsL_run_) := goodIn_app (goodIn_of _ (by decide +kernel)) ggL_isRun_L_run_
set_option maxRecDepth 20000 in
theorem ggL_isRun_L_acted : GoodIn wsL_isRun wsL_acted := goodIn_ca (goodIn_r _ [255, 1, 256, 257, 6, 258, 17, 18, 19, 4, 5, 7, 8, 9, 10, 11, 12, 13, 14, 15, 16, 20, 21, 22, 247, 248, 249, 250, 251, 252] (by decide +kernel) (by decide +kernel)) (goodIn_sub (fun _ h => List.mem_cons_of_mem _ (List.mem_append_left _ (List.mem_append_left _ (List.mem_append_left _ (List.mem_append_right _ h))))) (by decide +kernel))
set_option maxRecDepth 20000 in
theorem gL_isRun_L_acted : GoodIn wsL_isRun (va_wsS RL 126 yL_acted wsL_acted) := goodIn_app (goodIn_of _ (by decide +kernel)) ggL_isRun_L_acted
theorem dL_isRun_0 : decode cL_isRun 0 = .ok (.aload_n 1, 1) := by decide +kernel
theorem dL_isRun_1 : decode cL_isRun 1 = .ok (.bipush 48, 2) := by decide +kernel
theorem dL_isRun_3 : decode cL_isRun 3 = .ok (.newarray .int, 2) := by decide +kernel
theorem dL_isRun_5 : decode cL_isRun 5 = .ok (.iload_n 3, 1) := by decide +kernel
theorem dL_isRun_6 : decode cL_isRun 6 = .ok (.iload 4, 2) := by decide +kernel
theorem dL_isRun_8 : decode cL_isRun 8 = .ok (.iload 5, 2) := by decide +kernel
theorem dL_isRun_10 : decode cL_isRun 10 = .ok (.invokestatic 121, 3) := by decide +kernel
theorem dL_isRun_13 : decode cL_isRun 13 = .ok (.istore 6, 2) := by decide +kernel
theorem dL_isRun_15 : decode cL_isRun 15 = .ok (.aload_n 0, 1) := by decide +kernel
theorem dL_isRun_16 : decode cL_isRun 16 = .ok (.iload_n 3, 1) := by decide +kernel
theorem dL_isRun_17 : decode cL_isRun 17 = .ok (.iload 4, 2) := by decide +kernel
theorem dL_isRun_19 : decode cL_isRun 19 = .ok (.iload 5, 2) := by decide +kernel
theorem dL_isRun_21 : decode cL_isRun 21 = .ok (.invokestatic 145, 3) := by decide +kernel
theorem dL_isRun_24 : decode cL_isRun 24 = .ok (.iload 6, 2) := by decide +kernel
theorem dL_isRun_26 : decode cL_isRun 26 = .ok (.if_icmp .eq 5, 3) := by decide +kernel
theorem dL_isRun_29 : decode cL_isRun 29 = .ok (.iconst 0, 1) := by decide +kernel
theorem dL_isRun_30 : decode cL_isRun 30 = .ok (.ireturn, 1) := by decide +kernel
theorem dL_isRun_31 : decode cL_isRun 31 = .ok (.iload_n 3, 1) := by decide +kernel
theorem dL_isRun_32 : decode cL_isRun 32 = .ok (.aload_n 1, 1) := by decide +kernel
theorem dL_isRun_33 : decode cL_isRun 33 = .ok (.bipush 52, 2) := by decide +kernel
theorem dL_isRun_35 : decode cL_isRun 35 = .ok (.iaload, 1) := by decide +kernel
theorem dL_isRun_36 : decode cL_isRun 36 = .ok (.iconst 1, 1) := by decide +kernel
theorem dL_isRun_37 : decode cL_isRun 37 = .ok (.isub, 1) := by decide +kernel
theorem dL_isRun_38 : decode cL_isRun 38 = .ok (.if_icmp .eq 10, 3) := by decide +kernel
theorem dL_isRun_41 : decode cL_isRun 41 = .ok (.iload 6, 2) := by decide +kernel
theorem dL_isRun_43 : decode cL_isRun 43 = .ok (.bipush 45, 2) := by decide +kernel
theorem dL_isRun_45 : decode cL_isRun 45 = .ok (.if_icmp .eq 38, 3) := by decide +kernel
theorem dL_isRun_48 : decode cL_isRun 48 = .ok (.aload_n 0, 1) := by decide +kernel
theorem dL_isRun_49 : decode cL_isRun 49 = .ok (.iload_n 3, 1) := by decide +kernel
theorem dL_isRun_50 : decode cL_isRun 50 = .ok (.iload 4, 2) := by decide +kernel
theorem dL_isRun_52 : decode cL_isRun 52 = .ok (.iload 5, 2) := by decide +kernel
theorem dL_isRun_54 : decode cL_isRun 54 = .ok (.invokestatic 147, 3) := by decide +kernel
theorem dL_isRun_57 : decode cL_isRun 57 = .ok (.iload_n 3, 1) := by decide +kernel
theorem dL_isRun_58 : decode cL_isRun 58 = .ok (.aload_n 1, 1) := by decide +kernel
theorem dL_isRun_59 : decode cL_isRun 59 = .ok (.bipush 52, 2) := by decide +kernel
theorem dL_isRun_61 : decode cL_isRun 61 = .ok (.iaload, 1) := by decide +kernel
theorem dL_isRun_62 : decode cL_isRun 62 = .ok (.iconst 1, 1) := by decide +kernel
theorem dL_isRun_63 : decode cL_isRun 63 = .ok (.isub, 1) := by decide +kernel
theorem dL_isRun_64 : decode cL_isRun 64 = .ok (.if_icmp .ne 8, 3) := by decide +kernel
theorem dL_isRun_67 : decode cL_isRun 67 = .ok (.ldc 20, 2) := by decide +kernel
theorem dL_isRun_69 : decode cL_isRun 69 = .ok (.goto 5, 3) := by decide +kernel
theorem dL_isRun_72 : decode cL_isRun 72 = .ok (.ldc 50, 2) := by decide +kernel
theorem dL_isRun_74 : decode cL_isRun 74 = .ok (.if_icmp .ne 7, 3) := by decide +kernel
theorem dL_isRun_77 : decode cL_isRun 77 = .ok (.iconst 1, 1) := by decide +kernel
theorem dL_isRun_78 : decode cL_isRun 78 = .ok (.goto 4, 3) := by decide +kernel
theorem dL_isRun_81 : decode cL_isRun 81 = .ok (.iconst 0, 1) := by decide +kernel
theorem dL_isRun_82 : decode cL_isRun 82 = .ok (.ireturn, 1) := by decide +kernel
theorem dL_isRun_83 : decode cL_isRun 83 = .ok (.aload_n 1, 1) := by decide +kernel
theorem dL_isRun_84 : decode cL_isRun 84 = .ok (.bipush 56, 2) := by decide +kernel
theorem dL_isRun_86 : decode cL_isRun 86 = .ok (.iaload, 1) := by decide +kernel
theorem dL_isRun_87 : decode cL_isRun 87 = .ok (.istore 7, 2) := by decide +kernel
theorem dL_isRun_89 : decode cL_isRun 89 = .ok (.aload_n 1, 1) := by decide +kernel
theorem dL_isRun_90 : decode cL_isRun 90 = .ok (.aload_n 2, 1) := by decide +kernel
theorem dL_isRun_91 : decode cL_isRun 91 = .ok (.iload_n 3, 1) := by decide +kernel
theorem dL_isRun_92 : decode cL_isRun 92 = .ok (.iload 4, 2) := by decide +kernel
theorem dL_isRun_94 : decode cL_isRun 94 = .ok (.iload 5, 2) := by decide +kernel
theorem dL_isRun_96 : decode cL_isRun 96 = .ok (.iconst 0, 1) := by decide +kernel
theorem dL_isRun_97 : decode cL_isRun 97 = .ok (.invokestatic 124, 3) := by decide +kernel
theorem dL_isRun_100 : decode cL_isRun 100 = .ok (.aload_n 0, 1) := by decide +kernel
theorem dL_isRun_101 : decode cL_isRun 101 = .ok (.iload_n 3, 1) := by decide +kernel
theorem dL_isRun_102 : decode cL_isRun 102 = .ok (.iload 4, 2) := by decide +kernel
theorem dL_isRun_104 : decode cL_isRun 104 = .ok (.iload 5, 2) := by decide +kernel
theorem dL_isRun_106 : decode cL_isRun 106 = .ok (.invokestatic 147, 3) := by decide +kernel
theorem dL_isRun_109 : decode cL_isRun 109 = .ok (.aload_n 1, 1) := by decide +kernel
theorem dL_isRun_110 : decode cL_isRun 110 = .ok (.aload_n 2, 1) := by decide +kernel
theorem dL_isRun_111 : decode cL_isRun 111 = .ok (.iload 7, 2) := by decide +kernel
theorem dL_isRun_113 : decode cL_isRun 113 = .ok (.invokestatic 126, 3) := by decide +kernel
theorem dL_isRun_116 : decode cL_isRun 116 = .ok (.if_icmp .ne 7, 3) := by decide +kernel
theorem dL_isRun_119 : decode cL_isRun 119 = .ok (.iconst 1, 1) := by decide +kernel
theorem dL_isRun_120 : decode cL_isRun 120 = .ok (.goto 4, 3) := by decide +kernel
theorem dL_isRun_123 : decode cL_isRun 123 = .ok (.iconst 0, 1) := by decide +kernel
theorem dL_isRun_124 : decode cL_isRun 124 = .ok (.ireturn, 1) := by decide +kernel
set_option maxRecDepth 20000 in
theorem ggL_isUndone_L_undo : GoodIn wsL_isUndone wsL_undo := goodIn_ca (goodIn_ca (goodIn_r _ [5, 6, 1, 7, 8, 9, 10, 11, 12, 13, 14, 15, 16, 17, 18, 19, 20, 21, 22, 23, 24, 25, 26, 27, 28, 29, 30, 31, 32, 33, 34, 35, 36, 37, 38, 39, 40, 41, 42, 43, 44, 45, 46, 47, 48, 49, 50, 51, 52, 53, 54, 55, 56, 57, 58, 59, 60, 61, 62, 63, 64, 65, 66, 67, 68, 69, 70, 71, 72, 73, 74] (by decide +kernel) (by decide +kernel)) (goodIn_sub (fun _ h => List.mem_cons_of_mem _ (List.mem_append_right _ h)) (by decide +kernel))) (goodIn_sub (fun _ h => List.mem_cons_of_mem _ (List.mem_append_left _ (List.mem_append_right _ h))) (by decide +kernel))
set_option maxRecDepth 20000 in
theorem gL_isUndone_L_undo : GoodIn wsL_isUndone (va_wsS RL 149 yL_undo wsL_undo) := goodIn_app (goodIn_of _ (by decide +kernel)) ggL_isUndone_L_undo
theorem dL_isUndone_0 : decode cL_isUndone 0 = .ok (.aload_n 1, 1) := by decide +kernel
theorem dL_isUndone_1 : decode cL_isUndone 1 = .ok (.bipush 57, 2) := by decide +kernel
theorem dL_isUndone_3 : decode cL_isUndone 3 = .ok (.iaload, 1) := by decide +kernel
theorem dL_isUndone_4 : decode cL_isUndone 4 = .ok (.ifCond .ne 18, 3) := by decide +kernel
theorem dL_isUndone_7 : decode cL_isUndone 7 = .ok (.aload_n 0, 1) := by decide +kernel
theorem dL_isUndone_8 : decode cL_isUndone 8 = .ok (.invokestatic 149, 3) := by decide +kernel
theorem dL_isUndone_11 : decode cL_isUndone 11 = .ok (.ldc 17, 2) := by decide +kernel
theorem dL_isUndone_13 : decode cL_isUndone 13 = .ok (.if_icmp .ne 7, 3) := by decide +kernel
theorem dL_isUndone_16 : decode cL_isUndone 16 = .ok (.iconst 1, 1) := by decide +kernel
theorem dL_isUndone_17 : decode cL_isUndone 17 = .ok (.goto 4, 3) := by decide +kernel
theorem dL_isUndone_20 : decode cL_isUndone 20 = .ok (.iconst 0, 1) := by decide +kernel
theorem dL_isUndone_21 : decode cL_isUndone 21 = .ok (.ireturn, 1) := by decide +kernel
theorem dL_isUndone_22 : decode cL_isUndone 22 = .ok (.aload_n 1, 1) := by decide +kernel
theorem dL_isUndone_23 : decode cL_isUndone 23 = .ok (.bipush 57, 2) := by decide +kernel
theorem dL_isUndone_25 : decode cL_isUndone 25 = .ok (.dup2, 1) := by decide +kernel
theorem dL_isUndone_26 : decode cL_isUndone 26 = .ok (.iaload, 1) := by decide +kernel
theorem dL_isUndone_27 : decode cL_isUndone 27 = .ok (.iconst 1, 1) := by decide +kernel
theorem dL_isUndone_28 : decode cL_isUndone 28 = .ok (.isub, 1) := by decide +kernel
theorem dL_isUndone_29 : decode cL_isUndone 29 = .ok (.iastore, 1) := by decide +kernel
theorem dL_isUndone_30 : decode cL_isUndone 30 = .ok (.aload_n 1, 1) := by decide +kernel
theorem dL_isUndone_31 : decode cL_isUndone 31 = .ok (.bipush 55, 2) := by decide +kernel
theorem dL_isUndone_33 : decode cL_isUndone 33 = .ok (.dup2, 1) := by decide +kernel
theorem dL_isUndone_34 : decode cL_isUndone 34 = .ok (.iaload, 1) := by decide +kernel
theorem dL_isUndone_35 : decode cL_isUndone 35 = .ok (.iconst 1, 1) := by decide +kernel
theorem dL_isUndone_36 : decode cL_isUndone 36 = .ok (.isub, 1) := by decide +kernel
theorem dL_isUndone_37 : decode cL_isUndone 37 = .ok (.iastore, 1) := by decide +kernel
theorem dL_isUndone_38 : decode cL_isUndone 38 = .ok (.aload_n 1, 1) := by decide +kernel
theorem dL_isUndone_39 : decode cL_isUndone 39 = .ok (.sipush 460, 3) := by decide +kernel
theorem dL_isUndone_42 : decode cL_isUndone 42 = .ok (.aload_n 1, 1) := by decide +kernel
theorem dL_isUndone_43 : decode cL_isUndone 43 = .ok (.bipush 55, 2) := by decide +kernel
theorem dL_isUndone_45 : decode cL_isUndone 45 = .ok (.iaload, 1) := by decide +kernel
theorem dL_isUndone_46 : decode cL_isUndone 46 = .ok (.iadd, 1) := by decide +kernel
theorem dL_isUndone_47 : decode cL_isUndone 47 = .ok (.iaload, 1) := by decide +kernel
theorem dL_isUndone_48 : decode cL_isUndone 48 = .ok (.istore_n 3, 1) := by decide +kernel
theorem dL_isUndone_49 : decode cL_isUndone 49 = .ok (.aload_n 1, 1) := by decide +kernel
theorem dL_isUndone_50 : decode cL_isUndone 50 = .ok (.bipush 56, 2) := by decide +kernel
theorem dL_isUndone_52 : decode cL_isUndone 52 = .ok (.iaload, 1) := by decide +kernel
theorem dL_isUndone_53 : decode cL_isUndone 53 = .ok (.iload_n 3, 1) := by decide +kernel
theorem dL_isUndone_54 : decode cL_isUndone 54 = .ok (.isub, 1) := by decide +kernel
theorem dL_isUndone_55 : decode cL_isUndone 55 = .ok (.istore 4, 2) := by decide +kernel
theorem dL_isUndone_57 : decode cL_isUndone 57 = .ok (.aload_n 1, 1) := by decide +kernel
theorem dL_isUndone_58 : decode cL_isUndone 58 = .ok (.bipush 56, 2) := by decide +kernel
theorem dL_isUndone_60 : decode cL_isUndone 60 = .ok (.iaload, 1) := by decide +kernel
theorem dL_isUndone_61 : decode cL_isUndone 61 = .ok (.iconst 1, 1) := by decide +kernel
theorem dL_isUndone_62 : decode cL_isUndone 62 = .ok (.isub, 1) := by decide +kernel
theorem dL_isUndone_63 : decode cL_isUndone 63 = .ok (.istore 5, 2) := by decide +kernel
theorem dL_isUndone_65 : decode cL_isUndone 65 = .ok (.iload 5, 2) := by decide +kernel
theorem dL_isUndone_67 : decode cL_isUndone 67 = .ok (.iload_n 3, 1) := by decide +kernel
theorem dL_isUndone_68 : decode cL_isUndone 68 = .ok (.if_icmp .lt 25, 3) := by decide +kernel
theorem dL_isUndone_71 : decode cL_isUndone 71 = .ok (.aload_n 1, 1) := by decide +kernel
theorem dL_isUndone_72 : decode cL_isUndone 72 = .ok (.aload_n 2, 1) := by decide +kernel
theorem dL_isUndone_73 : decode cL_isUndone 73 = .ok (.iconst 4, 1) := by decide +kernel
theorem dL_isUndone_74 : decode cL_isUndone 74 = .ok (.iload 5, 2) := by decide +kernel
theorem dL_isUndone_76 : decode cL_isUndone 76 = .ok (.imul, 1) := by decide +kernel
theorem dL_isUndone_77 : decode cL_isUndone 77 = .ok (.iaload, 1) := by decide +kernel
theorem dL_isUndone_78 : decode cL_isUndone 78 = .ok (.aload_n 2, 1) := by decide +kernel
theorem dL_isUndone_79 : decode cL_isUndone 79 = .ok (.iconst 4, 1) := by decide +kernel
theorem dL_isUndone_80 : decode cL_isUndone 80 = .ok (.iload 5, 2) := by decide +kernel
theorem dL_isUndone_82 : decode cL_isUndone 82 = .ok (.imul, 1) := by decide +kernel
theorem dL_isUndone_83 : decode cL_isUndone 83 = .ok (.iconst 1, 1) := by decide +kernel
theorem dL_isUndone_84 : decode cL_isUndone 84 = .ok (.iadd, 1) := by decide +kernel
theorem dL_isUndone_85 : decode cL_isUndone 85 = .ok (.iaload, 1) := by decide +kernel
theorem dL_isUndone_86 : decode cL_isUndone 86 = .ok (.iastore, 1) := by decide +kernel
theorem dL_isUndone_87 : decode cL_isUndone 87 = .ok (.iinc 5 (-1), 3) := by decide +kernel
theorem dL_isUndone_90 : decode cL_isUndone 90 = .ok (.goto (-25), 3) := by decide +kernel
theorem dL_isUndone_93 : decode cL_isUndone 93 = .ok (.aload_n 1, 1) := by decide +kernel
theorem dL_isUndone_94 : decode cL_isUndone 94 = .ok (.bipush 56, 2) := by decide +kernel
theorem dL_isUndone_96 : decode cL_isUndone 96 = .ok (.iload_n 3, 1) := by decide +kernel
theorem dL_isUndone_97 : decode cL_isUndone 97 = .ok (.iastore, 1) := by decide +kernel
theorem dL_isUndone_98 : decode cL_isUndone 98 = .ok (.aload_n 0, 1) := by decide +kernel
theorem dL_isUndone_99 : decode cL_isUndone 99 = .ok (.invokestatic 149, 3) := by decide +kernel
theorem dL_isUndone_102 : decode cL_isUndone 102 = .ok (.iload 4, 2) := by decide +kernel
theorem dL_isUndone_104 : decode cL_isUndone 104 = .ok (.if_icmp .ne 7, 3) := by decide +kernel
theorem dL_isUndone_107 : decode cL_isUndone 107 = .ok (.iconst 1, 1) := by decide +kernel
theorem dL_isUndone_108 : decode cL_isUndone 108 = .ok (.goto 4, 3) := by decide +kernel
theorem dL_isUndone_111 : decode cL_isUndone 111 = .ok (.iconst 0, 1) := by decide +kernel
theorem dL_isUndone_112 : decode cL_isUndone 112 = .ok (.ireturn, 1) := by decide +kernel
set_option maxRecDepth 20000 in
theorem ggL_isRange_L_macroAt : GoodIn wsL_isRange wsL_macroAt := goodIn_r _ [6] (by decide +kernel) (by decide +kernel)
set_option maxRecDepth 20000 in
theorem gL_isRange_L_macroAt : GoodIn wsL_isRange (va_wsS RL 96 yL_macroAt wsL_macroAt) := goodIn_app (goodIn_of _ (by decide +kernel)) ggL_isRange_L_macroAt
set_option maxRecDepth 20000 in
theorem ggL_isRange_L_grant : GoodIn wsL_isRange wsL_grant := goodIn_ca (goodIn_ca (goodIn_ca (goodIn_r _ [9, 10, 11, 12, 13, 2, 1, 14, 15, 16, 17, 18, 19, 20, 21, 22, 23, 24, 25, 26, 27, 28, 29, 30, 31, 32, 33, 34, 35, 36, 37, 38, 39, 40, 41, 42, 43, 44, 45, 46, 47, 48, 49, 50, 51, 52, 53, 54, 55, 56, 57, 58, 59, 60, 61, 62, 63, 64, 65, 66, 67, 68, 69, 70, 71, 72, 73, 74, 75, 76, 77, 78, 79, 80, 81, 82, 83, 84, 85, 86, 87, 88, 89, 90, 91, 92, 93, 94, 95, 96, 97, 98, 99, 100, 101, 102, 103, 104, 105, 106, 107, 108, 109, 110, 111, 112, 113, 114, 115, 116, 117, 118, 119, 120, 121, 122, 123, 124, 125, 126, 127, 128, 129, 130, 131, 132, 133, 134, 135, 136, 137, 138, 139, 140, 141, 142, 143, 144, 145, 146, 147, 148, 149, 150, 151, 152, 153, 154, 155, 156, 157, 158, 159, 160, 161, 162, 163, 164, 165, 166] (by decide +kernel) (by decide +kernel)) (goodIn_sub (fun _ h => List.mem_cons_of_mem _ (List.mem_append_left _ (List.mem_append_left _ (List.mem_append_right _ h)))) (by decide +kernel))) (goodIn_sub (fun _ h => List.mem_cons_of_mem _ (List.mem_append_left _ (List.mem_append_right _ h))) (by decide +kernel))) (goodIn_sub (fun _ h => List.mem_cons_of_mem _ (List.mem_append_right _ h)) (by decide +kernel))
set_option maxRecDepth 20000 in
theorem gL_isRange_L_grant : GoodIn wsL_isRange (va_wsS RL 152 yL_grant wsL_grant) := goodIn_app (goodIn_of _ (by decide +kernel)) ggL_isRange_L_grant
theorem dL_isRange_0 : decode cL_isRange 0 = .ok (.iload_n 3, 1) := by decide +kernel
theorem dL_isRange_1 : decode cL_isRange 1 = .ok (.iload 5, 2) := by decide +kernel
theorem dL_isRange_3 : decode cL_isRange 3 = .ok (.if_icmp .gt 14, 3) := by decide +kernel
theorem dL_isRange_6 : decode cL_isRange 6 = .ok (.iload 4, 2) := by decide +kernel
theorem dL_isRange_8 : decode cL_isRange 8 = .ok (.iload 6, 2) := by decide +kernel
theorem dL_isRange_10 : decode cL_isRange 10 = .ok (.if_icmp .gt 7, 3) := by decide +kernel
theorem dL_isRange_13 : decode cL_isRange 13 = .ok (.iconst 1, 1) := by decide +kernel
theorem dL_isRange_14 : decode cL_isRange 14 = .ok (.goto 4, 3) := by decide +kernel
theorem dL_isRange_17 : decode cL_isRange 17 = .ok (.iconst 0, 1) := by decide +kernel
theorem dL_isRange_18 : decode cL_isRange 18 = .ok (.istore 7, 2) := by decide +kernel
theorem dL_isRange_20 : decode cL_isRange 20 = .ok (.iload_n 2, 1) := by decide +kernel
theorem dL_isRange_21 : decode cL_isRange 21 = .ok (.invokestatic 96, 3) := by decide +kernel
theorem dL_isRange_24 : decode cL_isRange 24 = .ok (.istore 8, 2) := by decide +kernel
theorem dL_isRange_26 : decode cL_isRange 26 = .ok (.iload 7, 2) := by decide +kernel
theorem dL_isRange_28 : decode cL_isRange 28 = .ok (.ifCond .eq 13, 3) := by decide +kernel
theorem dL_isRange_31 : decode cL_isRange 31 = .ok (.aload_n 1, 1) := by decide +kernel
theorem dL_isRange_32 : decode cL_isRange 32 = .ok (.iload 8, 2) := by decide +kernel
theorem dL_isRange_34 : decode cL_isRange 34 = .ok (.iconst 1, 1) := by decide +kernel
theorem dL_isRange_35 : decode cL_isRange 35 = .ok (.iadd, 1) := by decide +kernel
theorem dL_isRange_36 : decode cL_isRange 36 = .ok (.iaload, 1) := by decide +kernel
theorem dL_isRange_37 : decode cL_isRange 37 = .ok (.iconst 4, 1) := by decide +kernel
theorem dL_isRange_38 : decode cL_isRange 38 = .ok (.if_icmp .ne 36, 3) := by decide +kernel
theorem dL_isRange_41 : decode cL_isRange 41 = .ok (.aload_n 0, 1) := by decide +kernel
theorem dL_isRange_42 : decode cL_isRange 42 = .ok (.iload_n 2, 1) := by decide +kernel
theorem dL_isRange_43 : decode cL_isRange 43 = .ok (.iload_n 3, 1) := by decide +kernel
theorem dL_isRange_44 : decode cL_isRange 44 = .ok (.iload 4, 2) := by decide +kernel
theorem dL_isRange_46 : decode cL_isRange 46 = .ok (.iload 5, 2) := by decide +kernel
theorem dL_isRange_48 : decode cL_isRange 48 = .ok (.iload 6, 2) := by decide +kernel
theorem dL_isRange_50 : decode cL_isRange 50 = .ok (.invokestatic 152, 3) := by decide +kernel
theorem dL_isRange_53 : decode cL_isRange 53 = .ok (.iload 7, 2) := by decide +kernel
theorem dL_isRange_55 : decode cL_isRange 55 = .ok (.ifCond .eq 8, 3) := by decide +kernel
theorem dL_isRange_58 : decode cL_isRange 58 = .ok (.ldc 50, 2) := by decide +kernel
theorem dL_isRange_60 : decode cL_isRange 60 = .ok (.goto 5, 3) := by decide +kernel
theorem dL_isRange_63 : decode cL_isRange 63 = .ok (.ldc 20, 2) := by decide +kernel
theorem dL_isRange_65 : decode cL_isRange 65 = .ok (.if_icmp .ne 7, 3) := by decide +kernel
theorem dL_isRange_68 : decode cL_isRange 68 = .ok (.iconst 1, 1) := by decide +kernel
theorem dL_isRange_69 : decode cL_isRange 69 = .ok (.goto 4, 3) := by decide +kernel
theorem dL_isRange_72 : decode cL_isRange 72 = .ok (.iconst 0, 1) := by decide +kernel
theorem dL_isRange_73 : decode cL_isRange 73 = .ok (.ireturn, 1) := by decide +kernel
theorem dL_isRange_74 : decode cL_isRange 74 = .ok (.iload 8, 2) := by decide +kernel
theorem dL_isRange_76 : decode cL_isRange 76 = .ok (.bipush 42, 2) := by decide +kernel
theorem dL_isRange_78 : decode cL_isRange 78 = .ok (.iadd, 1) := by decide +kernel
theorem dL_isRange_79 : decode cL_isRange 79 = .ok (.iconst 4, 1) := by decide +kernel
theorem dL_isRange_80 : decode cL_isRange 80 = .ok (.aload_n 1, 1) := by decide +kernel
theorem dL_isRange_81 : decode cL_isRange 81 = .ok (.iload 8, 2) := by decide +kernel
theorem dL_isRange_83 : decode cL_isRange 83 = .ok (.iconst 1, 1) := by decide +kernel
theorem dL_isRange_84 : decode cL_isRange 84 = .ok (.iadd, 1) := by decide +kernel
theorem dL_isRange_85 : decode cL_isRange 85 = .ok (.iaload, 1) := by decide +kernel
theorem dL_isRange_86 : decode cL_isRange 86 = .ok (.imul, 1) := by decide +kernel
theorem dL_isRange_87 : decode cL_isRange 87 = .ok (.iadd, 1) := by decide +kernel
theorem dL_isRange_88 : decode cL_isRange 88 = .ok (.istore 9, 2) := by decide +kernel
theorem dL_isRange_90 : decode cL_isRange 90 = .ok (.aload_n 1, 1) := by decide +kernel
theorem dL_isRange_91 : decode cL_isRange 91 = .ok (.iload 9, 2) := by decide +kernel
theorem dL_isRange_93 : decode cL_isRange 93 = .ok (.iload_n 3, 1) := by decide +kernel
theorem dL_isRange_94 : decode cL_isRange 94 = .ok (.iastore, 1) := by decide +kernel
theorem dL_isRange_95 : decode cL_isRange 95 = .ok (.aload_n 1, 1) := by decide +kernel
theorem dL_isRange_96 : decode cL_isRange 96 = .ok (.iload 9, 2) := by decide +kernel
theorem dL_isRange_98 : decode cL_isRange 98 = .ok (.iconst 1, 1) := by decide +kernel
theorem dL_isRange_99 : decode cL_isRange 99 = .ok (.iadd, 1) := by decide +kernel
theorem dL_isRange_100 : decode cL_isRange 100 = .ok (.iload 4, 2) := by decide +kernel
theorem dL_isRange_102 : decode cL_isRange 102 = .ok (.iastore, 1) := by decide +kernel
theorem dL_isRange_103 : decode cL_isRange 103 = .ok (.aload_n 1, 1) := by decide +kernel
theorem dL_isRange_104 : decode cL_isRange 104 = .ok (.iload 9, 2) := by decide +kernel
theorem dL_isRange_106 : decode cL_isRange 106 = .ok (.iconst 2, 1) := by decide +kernel
theorem dL_isRange_107 : decode cL_isRange 107 = .ok (.iadd, 1) := by decide +kernel
theorem dL_isRange_108 : decode cL_isRange 108 = .ok (.iload 5, 2) := by decide +kernel
theorem dL_isRange_110 : decode cL_isRange 110 = .ok (.iastore, 1) := by decide +kernel
theorem dL_isRange_111 : decode cL_isRange 111 = .ok (.aload_n 1, 1) := by decide +kernel
theorem dL_isRange_112 : decode cL_isRange 112 = .ok (.iload 9, 2) := by decide +kernel
theorem dL_isRange_114 : decode cL_isRange 114 = .ok (.iconst 3, 1) := by decide +kernel
theorem dL_isRange_115 : decode cL_isRange 115 = .ok (.iadd, 1) := by decide +kernel
theorem dL_isRange_116 : decode cL_isRange 116 = .ok (.iload 6, 2) := by decide +kernel
theorem dL_isRange_118 : decode cL_isRange 118 = .ok (.iastore, 1) := by decide +kernel
theorem dL_isRange_119 : decode cL_isRange 119 = .ok (.aload_n 1, 1) := by decide +kernel
theorem dL_isRange_120 : decode cL_isRange 120 = .ok (.iload 8, 2) := by decide +kernel
theorem dL_isRange_122 : decode cL_isRange 122 = .ok (.iconst 1, 1) := by decide +kernel
theorem dL_isRange_123 : decode cL_isRange 123 = .ok (.iadd, 1) := by decide +kernel
theorem dL_isRange_124 : decode cL_isRange 124 = .ok (.dup2, 1) := by decide +kernel
theorem dL_isRange_125 : decode cL_isRange 125 = .ok (.iaload, 1) := by decide +kernel
theorem dL_isRange_126 : decode cL_isRange 126 = .ok (.iconst 1, 1) := by decide +kernel
theorem dL_isRange_127 : decode cL_isRange 127 = .ok (.iadd, 1) := by decide +kernel
theorem dL_isRange_128 : decode cL_isRange 128 = .ok (.iastore, 1) := by decide +kernel
theorem dL_isRange_129 : decode cL_isRange 129 = .ok (.aload_n 0, 1) := by decide +kernel
theorem dL_isRange_130 : decode cL_isRange 130 = .ok (.iload_n 2, 1) := by decide +kernel
theorem dL_isRange_131 : decode cL_isRange 131 = .ok (.iload_n 3, 1) := by decide +kernel
theorem dL_isRange_132 : decode cL_isRange 132 = .ok (.iload 4, 2) := by decide +kernel
theorem dL_isRange_134 : decode cL_isRange 134 = .ok (.iload 5, 2) := by decide +kernel
theorem dL_isRange_136 : decode cL_isRange 136 = .ok (.iload 6, 2) := by decide +kernel
theorem dL_isRange_138 : decode cL_isRange 138 = .ok (.invokestatic 152, 3) := by decide +kernel
theorem dL_isRange_141 : decode cL_isRange 141 = .ok (.aload_n 1, 1) := by decide +kernel
theorem dL_isRange_142 : decode cL_isRange 142 = .ok (.iload 8, 2) := by decide +kernel
theorem dL_isRange_144 : decode cL_isRange 144 = .ok (.iconst 1, 1) := by decide +kernel
theorem dL_isRange_145 : decode cL_isRange 145 = .ok (.iadd, 1) := by decide +kernel
theorem dL_isRange_146 : decode cL_isRange 146 = .ok (.iaload, 1) := by decide +kernel
theorem dL_isRange_147 : decode cL_isRange 147 = .ok (.if_icmp .ne 7, 3) := by decide +kernel
theorem dL_isRange_150 : decode cL_isRange 150 = .ok (.iconst 1, 1) := by decide +kernel
theorem dL_isRange_151 : decode cL_isRange 151 = .ok (.goto 4, 3) := by decide +kernel
theorem dL_isRange_154 : decode cL_isRange 154 = .ok (.iconst 0, 1) := by decide +kernel
theorem dL_isRange_155 : decode cL_isRange 155 = .ok (.ireturn, 1) := by decide +kernel
set_option maxRecDepth 20000 in
theorem ggL_isRule_L_addRule : GoodIn wsL_isRule wsL_addRule := goodIn_ca (goodIn_ca (goodIn_ca (goodIn_r _ [6, 7, 8, 9, 10, 2, 1, 11, 12, 13, 14, 15, 16, 17, 18, 19, 20, 21, 22, 23, 24, 25, 26, 27, 28, 29, 30, 31, 32, 33, 34, 35, 36, 37, 38, 39, 40, 41, 42, 43, 44, 45, 46, 47, 48, 49, 50, 51, 52, 53, 54, 55, 56, 57, 58, 59, 60, 61, 62, 63, 64, 65, 66, 67, 68, 69, 70, 71, 72, 73, 74, 75, 76, 77, 78, 79, 80, 81, 82, 83, 84, 85, 86, 87, 88, 89, 90, 91, 92, 93, 94, 95, 96, 97, 98, 99, 100, 101, 102, 103, 104, 105, 106, 107, 108, 109, 110, 111, 112, 113, 114, 115, 116, 117, 118, 119, 120, 121, 122, 123, 124, 125, 126, 127, 128, 129, 130, 131, 132, 133, 134, 135, 136, 137, 138, 139, 140, 141, 142, 143, 144, 145, 146, 147, 148, 149, 150, 151, 152, 153, 154, 155, 156, 157, 158, 159, 160, 161, 162, 163, 164, 165, 166] (by decide +kernel) (by decide +kernel)) (goodIn_sub (fun _ h => List.mem_cons_of_mem _ (List.mem_append_left _ (List.mem_append_left _ (List.mem_append_right _ h)))) (by decide +kernel))) (goodIn_sub (fun _ h => List.mem_cons_of_mem _ (List.mem_append_left _ (List.mem_append_right _ h))) (by decide +kernel))) (goodIn_sub (fun _ h => List.mem_cons_of_mem _ (List.mem_append_right _ h)) (by decide +kernel))
set_option maxRecDepth 20000 in
theorem gL_isRule_L_addRule : GoodIn wsL_isRule (va_wsS RL 155 yL_addRule wsL_addRule) := goodIn_app (goodIn_of _ (by decide +kernel)) ggL_isRule_L_addRule
theorem dL_isRule_0 : decode cL_isRule 0 = .ok (.iload 4, 2) := by decide +kernel
theorem dL_isRule_2 : decode cL_isRule 2 = .ok (.iload 6, 2) := by decide +kernel
theorem dL_isRule_4 : decode cL_isRule 4 = .ok (.if_icmp .gt 14, 3) := by decide +kernel
theorem dL_isRule_7 : decode cL_isRule 7 = .ok (.iload 5, 2) := by decide +kernel
theorem dL_isRule_9 : decode cL_isRule 9 = .ok (.iload 7, 2) := by decide +kernel
theorem dL_isRule_11 : decode cL_isRule 11 = .ok (.if_icmp .gt 7, 3) := by decide +kernel
theorem dL_isRule_14 : decode cL_isRule 14 = .ok (.iconst 1, 1) := by decide +kernel
theorem dL_isRule_15 : decode cL_isRule 15 = .ok (.goto 4, 3) := by decide +kernel
theorem dL_isRule_18 : decode cL_isRule 18 = .ok (.iconst 0, 1) := by decide +kernel
theorem dL_isRule_19 : decode cL_isRule 19 = .ok (.istore 8, 2) := by decide +kernel
theorem dL_isRule_21 : decode cL_isRule 21 = .ok (.iload 8, 2) := by decide +kernel
theorem dL_isRule_23 : decode cL_isRule 23 = .ok (.ifCond .eq 12, 3) := by decide +kernel
theorem dL_isRule_26 : decode cL_isRule 26 = .ok (.aload_n 1, 1) := by decide +kernel
theorem dL_isRule_27 : decode cL_isRule 27 = .ok (.bipush 51, 2) := by decide +kernel
theorem dL_isRule_29 : decode cL_isRule 29 = .ok (.iaload, 1) := by decide +kernel
theorem dL_isRule_30 : decode cL_isRule 30 = .ok (.bipush 6, 2) := by decide +kernel
theorem dL_isRule_32 : decode cL_isRule 32 = .ok (.if_icmp .ne 38, 3) := by decide +kernel
theorem dL_isRule_35 : decode cL_isRule 35 = .ok (.aload_n 0, 1) := by decide +kernel
theorem dL_isRule_36 : decode cL_isRule 36 = .ok (.iload 4, 2) := by decide +kernel
theorem dL_isRule_38 : decode cL_isRule 38 = .ok (.iload 5, 2) := by decide +kernel
theorem dL_isRule_40 : decode cL_isRule 40 = .ok (.iload 6, 2) := by decide +kernel
theorem dL_isRule_42 : decode cL_isRule 42 = .ok (.iload 7, 2) := by decide +kernel
theorem dL_isRule_44 : decode cL_isRule 44 = .ok (.iload_n 2, 1) := by decide +kernel
theorem dL_isRule_45 : decode cL_isRule 45 = .ok (.iload_n 3, 1) := by decide +kernel
theorem dL_isRule_46 : decode cL_isRule 46 = .ok (.invokestatic 155, 3) := by decide +kernel
theorem dL_isRule_49 : decode cL_isRule 49 = .ok (.iload 8, 2) := by decide +kernel
theorem dL_isRule_51 : decode cL_isRule 51 = .ok (.ifCond .eq 8, 3) := by decide +kernel
theorem dL_isRule_54 : decode cL_isRule 54 = .ok (.ldc 50, 2) := by decide +kernel
theorem dL_isRule_56 : decode cL_isRule 56 = .ok (.goto 5, 3) := by decide +kernel
theorem dL_isRule_59 : decode cL_isRule 59 = .ok (.ldc 20, 2) := by decide +kernel
theorem dL_isRule_61 : decode cL_isRule 61 = .ok (.if_icmp .ne 7, 3) := by decide +kernel
theorem dL_isRule_64 : decode cL_isRule 64 = .ok (.iconst 1, 1) := by decide +kernel
theorem dL_isRule_65 : decode cL_isRule 65 = .ok (.goto 4, 3) := by decide +kernel
theorem dL_isRule_68 : decode cL_isRule 68 = .ok (.iconst 0, 1) := by decide +kernel
theorem dL_isRule_69 : decode cL_isRule 69 = .ok (.ireturn, 1) := by decide +kernel
theorem dL_isRule_70 : decode cL_isRule 70 = .ok (.sipush 420, 3) := by decide +kernel
theorem dL_isRule_73 : decode cL_isRule 73 = .ok (.bipush 6, 2) := by decide +kernel
theorem dL_isRule_75 : decode cL_isRule 75 = .ok (.aload_n 1, 1) := by decide +kernel
theorem dL_isRule_76 : decode cL_isRule 76 = .ok (.bipush 51, 2) := by decide +kernel
theorem dL_isRule_78 : decode cL_isRule 78 = .ok (.iaload, 1) := by decide +kernel
theorem dL_isRule_79 : decode cL_isRule 79 = .ok (.imul, 1) := by decide +kernel
theorem dL_isRule_80 : decode cL_isRule 80 = .ok (.iadd, 1) := by decide +kernel
theorem dL_isRule_81 : decode cL_isRule 81 = .ok (.istore 9, 2) := by decide +kernel
theorem dL_isRule_83 : decode cL_isRule 83 = .ok (.aload_n 1, 1) := by decide +kernel
theorem dL_isRule_84 : decode cL_isRule 84 = .ok (.iload 9, 2) := by decide +kernel
theorem dL_isRule_86 : decode cL_isRule 86 = .ok (.iload 4, 2) := by decide +kernel
theorem dL_isRule_88 : decode cL_isRule 88 = .ok (.iastore, 1) := by decide +kernel
theorem dL_isRule_89 : decode cL_isRule 89 = .ok (.aload_n 1, 1) := by decide +kernel
theorem dL_isRule_90 : decode cL_isRule 90 = .ok (.iload 9, 2) := by decide +kernel
theorem dL_isRule_92 : decode cL_isRule 92 = .ok (.iconst 1, 1) := by decide +kernel
theorem dL_isRule_93 : decode cL_isRule 93 = .ok (.iadd, 1) := by decide +kernel
theorem dL_isRule_94 : decode cL_isRule 94 = .ok (.iload 5, 2) := by decide +kernel
theorem dL_isRule_96 : decode cL_isRule 96 = .ok (.iastore, 1) := by decide +kernel
theorem dL_isRule_97 : decode cL_isRule 97 = .ok (.aload_n 1, 1) := by decide +kernel
theorem dL_isRule_98 : decode cL_isRule 98 = .ok (.iload 9, 2) := by decide +kernel
theorem dL_isRule_100 : decode cL_isRule 100 = .ok (.iconst 2, 1) := by decide +kernel
theorem dL_isRule_101 : decode cL_isRule 101 = .ok (.iadd, 1) := by decide +kernel
theorem dL_isRule_102 : decode cL_isRule 102 = .ok (.iload 6, 2) := by decide +kernel
theorem dL_isRule_104 : decode cL_isRule 104 = .ok (.iastore, 1) := by decide +kernel
theorem dL_isRule_105 : decode cL_isRule 105 = .ok (.aload_n 1, 1) := by decide +kernel
theorem dL_isRule_106 : decode cL_isRule 106 = .ok (.iload 9, 2) := by decide +kernel
theorem dL_isRule_108 : decode cL_isRule 108 = .ok (.iconst 3, 1) := by decide +kernel
theorem dL_isRule_109 : decode cL_isRule 109 = .ok (.iadd, 1) := by decide +kernel
theorem dL_isRule_110 : decode cL_isRule 110 = .ok (.iload 7, 2) := by decide +kernel
theorem dL_isRule_112 : decode cL_isRule 112 = .ok (.iastore, 1) := by decide +kernel
theorem dL_isRule_113 : decode cL_isRule 113 = .ok (.aload_n 1, 1) := by decide +kernel
theorem dL_isRule_114 : decode cL_isRule 114 = .ok (.iload 9, 2) := by decide +kernel
theorem dL_isRule_116 : decode cL_isRule 116 = .ok (.iconst 4, 1) := by decide +kernel
theorem dL_isRule_117 : decode cL_isRule 117 = .ok (.iadd, 1) := by decide +kernel
theorem dL_isRule_118 : decode cL_isRule 118 = .ok (.iload_n 2, 1) := by decide +kernel
theorem dL_isRule_119 : decode cL_isRule 119 = .ok (.iastore, 1) := by decide +kernel
theorem dL_isRule_120 : decode cL_isRule 120 = .ok (.aload_n 1, 1) := by decide +kernel
theorem dL_isRule_121 : decode cL_isRule 121 = .ok (.iload 9, 2) := by decide +kernel
theorem dL_isRule_123 : decode cL_isRule 123 = .ok (.iconst 5, 1) := by decide +kernel
theorem dL_isRule_124 : decode cL_isRule 124 = .ok (.iadd, 1) := by decide +kernel
theorem dL_isRule_125 : decode cL_isRule 125 = .ok (.iload_n 3, 1) := by decide +kernel
theorem dL_isRule_126 : decode cL_isRule 126 = .ok (.iastore, 1) := by decide +kernel
theorem dL_isRule_127 : decode cL_isRule 127 = .ok (.aload_n 1, 1) := by decide +kernel
theorem dL_isRule_128 : decode cL_isRule 128 = .ok (.bipush 51, 2) := by decide +kernel
theorem dL_isRule_130 : decode cL_isRule 130 = .ok (.dup2, 1) := by decide +kernel
theorem dL_isRule_131 : decode cL_isRule 131 = .ok (.iaload, 1) := by decide +kernel
theorem dL_isRule_132 : decode cL_isRule 132 = .ok (.iconst 1, 1) := by decide +kernel
theorem dL_isRule_133 : decode cL_isRule 133 = .ok (.iadd, 1) := by decide +kernel
theorem dL_isRule_134 : decode cL_isRule 134 = .ok (.iastore, 1) := by decide +kernel
theorem dL_isRule_135 : decode cL_isRule 135 = .ok (.aload_n 0, 1) := by decide +kernel
theorem dL_isRule_136 : decode cL_isRule 136 = .ok (.iload 4, 2) := by decide +kernel
theorem dL_isRule_138 : decode cL_isRule 138 = .ok (.iload 5, 2) := by decide +kernel
theorem dL_isRule_140 : decode cL_isRule 140 = .ok (.iload 6, 2) := by decide +kernel
theorem dL_isRule_142 : decode cL_isRule 142 = .ok (.iload 7, 2) := by decide +kernel
theorem dL_isRule_144 : decode cL_isRule 144 = .ok (.iload_n 2, 1) := by decide +kernel
theorem dL_isRule_145 : decode cL_isRule 145 = .ok (.iload_n 3, 1) := by decide +kernel
theorem dL_isRule_146 : decode cL_isRule 146 = .ok (.invokestatic 155, 3) := by decide +kernel
theorem dL_isRule_149 : decode cL_isRule 149 = .ok (.aload_n 1, 1) := by decide +kernel
theorem dL_isRule_150 : decode cL_isRule 150 = .ok (.bipush 51, 2) := by decide +kernel
theorem dL_isRule_152 : decode cL_isRule 152 = .ok (.iaload, 1) := by decide +kernel
theorem dL_isRule_153 : decode cL_isRule 153 = .ok (.iconst 1, 1) := by decide +kernel
theorem dL_isRule_154 : decode cL_isRule 154 = .ok (.isub, 1) := by decide +kernel
theorem dL_isRule_155 : decode cL_isRule 155 = .ok (.if_icmp .ne 7, 3) := by decide +kernel
theorem dL_isRule_158 : decode cL_isRule 158 = .ok (.iconst 1, 1) := by decide +kernel
theorem dL_isRule_159 : decode cL_isRule 159 = .ok (.goto 4, 3) := by decide +kernel
theorem dL_isRule_162 : decode cL_isRule 162 = .ok (.iconst 0, 1) := by decide +kernel
theorem dL_isRule_163 : decode cL_isRule 163 = .ok (.ireturn, 1) := by decide +kernel
set_option maxRecDepth 20000 in
theorem ggL_isRecorded_L_record : GoodIn wsL_isRecorded wsL_record := goodIn_ca (goodIn_ca (goodIn_r _ [5, 6, 7, 8, 1, 9, 10, 11, 12, 13, 14, 15, 16, 17, 18, 19, 20, 21, 22, 23, 24, 25, 26, 27, 28, 29, 30, 31, 32, 33, 34, 35, 36, 37, 38, 39, 40, 41, 42, 43, 44, 45, 46, 47, 48, 49, 50, 51, 52, 53, 54, 55, 56, 57, 58, 59, 60, 61, 62, 63, 64, 65, 66, 67, 68, 69, 70, 71, 72, 73, 74, 75, 76, 80, 81, 82, 83, 84, 85, 86, 87, 88, 89, 90, 91, 92, 93, 94, 95, 96, 97, 98] (by decide +kernel) (by decide +kernel)) (goodIn_sub (fun _ h => List.mem_cons_of_mem _ (List.mem_append_left _ (List.mem_append_right _ h))) (by decide +kernel))) (goodIn_sub (fun _ h => List.mem_cons_of_mem _ (List.mem_append_right _ h)) (by decide +kernel))
set_option maxRecDepth 20000 in
theorem gL_isRecorded_L_record : GoodIn wsL_isRecorded (va_wsS RL 158 yL_record wsL_record) := goodIn_app (goodIn_of _ (by decide +kernel)) ggL_isRecorded_L_record
set_option maxRecDepth 20000 in
theorem ggL_isRecorded_L_macroAt : GoodIn wsL_isRecorded wsL_macroAt := goodIn_r _ [79] (by decide +kernel) (by decide +kernel)
set_option maxRecDepth 20000 in
theorem gL_isRecorded_L_macroAt : GoodIn wsL_isRecorded (va_wsS RL 96 yL_macroAt wsL_macroAt) := goodIn_app (goodIn_of _ (by decide +kernel)) ggL_isRecorded_L_macroAt
theorem dL_isRecorded_0 : decode cL_isRecorded 0 = .ok (.aload_n 1, 1) := by decide +kernel
theorem dL_isRecorded_1 : decode cL_isRecorded 1 = .ok (.bipush 52, 2) := by decide +kernel
theorem dL_isRecorded_3 : decode cL_isRecorded 3 = .ok (.iaload, 1) := by decide +kernel
theorem dL_isRecorded_4 : decode cL_isRecorded 4 = .ok (.ifCond .le 22, 3) := by decide +kernel
theorem dL_isRecorded_7 : decode cL_isRecorded 7 = .ok (.aload_n 0, 1) := by decide +kernel
theorem dL_isRecorded_8 : decode cL_isRecorded 8 = .ok (.iload_n 2, 1) := by decide +kernel
theorem dL_isRecorded_9 : decode cL_isRecorded 9 = .ok (.iload_n 3, 1) := by decide +kernel
theorem dL_isRecorded_10 : decode cL_isRecorded 10 = .ok (.iload 4, 2) := by decide +kernel
theorem dL_isRecorded_12 : decode cL_isRecorded 12 = .ok (.invokestatic 158, 3) := by decide +kernel
theorem dL_isRecorded_15 : decode cL_isRecorded 15 = .ok (.ldc 20, 2) := by decide +kernel
theorem dL_isRecorded_17 : decode cL_isRecorded 17 = .ok (.if_icmp .ne 7, 3) := by decide +kernel
theorem dL_isRecorded_20 : decode cL_isRecorded 20 = .ok (.iconst 1, 1) := by decide +kernel
theorem dL_isRecorded_21 : decode cL_isRecorded 21 = .ok (.goto 4, 3) := by decide +kernel
theorem dL_isRecorded_24 : decode cL_isRecorded 24 = .ok (.iconst 0, 1) := by decide +kernel
theorem dL_isRecorded_25 : decode cL_isRecorded 25 = .ok (.ireturn, 1) := by decide +kernel
theorem dL_isRecorded_26 : decode cL_isRecorded 26 = .ok (.aload_n 1, 1) := by decide +kernel
theorem dL_isRecorded_27 : decode cL_isRecorded 27 = .ok (.iload_n 2, 1) := by decide +kernel
theorem dL_isRecorded_28 : decode cL_isRecorded 28 = .ok (.invokestatic 96, 3) := by decide +kernel
theorem dL_isRecorded_31 : decode cL_isRecorded 31 = .ok (.iaload, 1) := by decide +kernel
theorem dL_isRecorded_32 : decode cL_isRecorded 32 = .ok (.istore 5, 2) := by decide +kernel
theorem dL_isRecorded_34 : decode cL_isRecorded 34 = .ok (.aload_n 1, 1) := by decide +kernel
theorem dL_isRecorded_35 : decode cL_isRecorded 35 = .ok (.iload_n 2, 1) := by decide +kernel
theorem dL_isRecorded_36 : decode cL_isRecorded 36 = .ok (.invokestatic 96, 3) := by decide +kernel
theorem dL_isRecorded_39 : decode cL_isRecorded 39 = .ok (.iconst 0, 1) := by decide +kernel
theorem dL_isRecorded_40 : decode cL_isRecorded 40 = .ok (.iastore, 1) := by decide +kernel
theorem dL_isRecorded_41 : decode cL_isRecorded 41 = .ok (.aload_n 1, 1) := by decide +kernel
theorem dL_isRecorded_42 : decode cL_isRecorded 42 = .ok (.bipush 52, 2) := by decide +kernel
theorem dL_isRecorded_44 : decode cL_isRecorded 44 = .ok (.iload_n 2, 1) := by decide +kernel
theorem dL_isRecorded_45 : decode cL_isRecorded 45 = .ok (.iconst 1, 1) := by decide +kernel
theorem dL_isRecorded_46 : decode cL_isRecorded 46 = .ok (.iadd, 1) := by decide +kernel
theorem dL_isRecorded_47 : decode cL_isRecorded 47 = .ok (.iastore, 1) := by decide +kernel
theorem dL_isRecorded_48 : decode cL_isRecorded 48 = .ok (.aload_n 1, 1) := by decide +kernel
theorem dL_isRecorded_49 : decode cL_isRecorded 49 = .ok (.bipush 53, 2) := by decide +kernel
theorem dL_isRecorded_51 : decode cL_isRecorded 51 = .ok (.bipush 8, 2) := by decide +kernel
theorem dL_isRecorded_53 : decode cL_isRecorded 53 = .ok (.iload_n 3, 1) := by decide +kernel
theorem dL_isRecorded_54 : decode cL_isRecorded 54 = .ok (.imul, 1) := by decide +kernel
theorem dL_isRecorded_55 : decode cL_isRecorded 55 = .ok (.iload 4, 2) := by decide +kernel
theorem dL_isRecorded_57 : decode cL_isRecorded 57 = .ok (.iadd, 1) := by decide +kernel
theorem dL_isRecorded_58 : decode cL_isRecorded 58 = .ok (.iastore, 1) := by decide +kernel
theorem dL_isRecorded_59 : decode cL_isRecorded 59 = .ok (.aload_n 0, 1) := by decide +kernel
theorem dL_isRecorded_60 : decode cL_isRecorded 60 = .ok (.iload_n 2, 1) := by decide +kernel
theorem dL_isRecorded_61 : decode cL_isRecorded 61 = .ok (.iload_n 3, 1) := by decide +kernel
theorem dL_isRecorded_62 : decode cL_isRecorded 62 = .ok (.iload 4, 2) := by decide +kernel
theorem dL_isRecorded_64 : decode cL_isRecorded 64 = .ok (.invokestatic 158, 3) := by decide +kernel
theorem dL_isRecorded_67 : decode cL_isRecorded 67 = .ok (.iload 5, 2) := by decide +kernel
theorem dL_isRecorded_69 : decode cL_isRecorded 69 = .ok (.if_icmp .ne 7, 3) := by decide +kernel
theorem dL_isRecorded_72 : decode cL_isRecorded 72 = .ok (.iconst 1, 1) := by decide +kernel
theorem dL_isRecorded_73 : decode cL_isRecorded 73 = .ok (.goto 4, 3) := by decide +kernel
theorem dL_isRecorded_76 : decode cL_isRecorded 76 = .ok (.iconst 0, 1) := by decide +kernel
theorem dL_isRecorded_77 : decode cL_isRecorded 77 = .ok (.ireturn, 1) := by decide +kernel
set_option maxRecDepth 20000 in
theorem ggL_isStopped_L_macroAt : GoodIn wsL_isStopped wsL_macroAt := goodIn_r _ [5] (by decide +kernel) (by decide +kernel)
set_option maxRecDepth 20000 in
theorem gL_isStopped_L_macroAt : GoodIn wsL_isStopped (va_wsS RL 96 yL_macroAt wsL_macroAt) := goodIn_app (goodIn_of _ (by decide +kernel)) ggL_isStopped_L_macroAt
set_option maxRecDepth 20000 in
theorem ggL_isStopped_L_stop : GoodIn wsL_isStopped wsL_stop := goodIn_ca (goodIn_r _ [8, 9, 1, 10, 11, 12, 13, 14, 15, 16, 17, 18, 19, 20, 21, 22, 23, 24, 25, 26, 27, 28, 29, 30, 31, 32, 33, 34, 35, 36, 37, 38, 39, 40, 41, 42, 43, 44, 45, 46, 47, 48, 49, 50, 51, 52, 53, 54, 55, 56, 57, 58, 59, 60, 61, 62, 63, 64, 65, 66, 67, 68, 69, 70, 71, 72] (by decide +kernel) (by decide +kernel)) (goodIn_sub (fun _ h => List.mem_cons_of_mem _ (List.mem_append_right _ h)) (by decide +kernel))
set_option maxRecDepth 20000 in
theorem gL_isStopped_L_stop : GoodIn wsL_isStopped (va_wsS RL 160 yL_stop wsL_stop) := goodIn_app (goodIn_of _ (by decide +kernel)) ggL_isStopped_L_stop
theorem dL_isStopped_0 : decode cL_isStopped 0 = .ok (.aload_n 1, 1) := by decide +kernel
theorem dL_isStopped_1 : decode cL_isStopped 1 = .ok (.bipush 52, 2) := by decide +kernel
theorem dL_isStopped_3 : decode cL_isStopped 3 = .ok (.iaload, 1) := by decide +kernel
theorem dL_isStopped_4 : decode cL_isStopped 4 = .ok (.ifCond .ne 8, 3) := by decide +kernel
theorem dL_isStopped_7 : decode cL_isStopped 7 = .ok (.ldc 17, 2) := by decide +kernel
theorem dL_isStopped_9 : decode cL_isStopped 9 = .ok (.goto 14, 3) := by decide +kernel
theorem dL_isStopped_12 : decode cL_isStopped 12 = .ok (.aload_n 1, 1) := by decide +kernel
theorem dL_isStopped_13 : decode cL_isStopped 13 = .ok (.aload_n 1, 1) := by decide +kernel
theorem dL_isStopped_14 : decode cL_isStopped 14 = .ok (.bipush 52, 2) := by decide +kernel
theorem dL_isStopped_16 : decode cL_isStopped 16 = .ok (.iaload, 1) := by decide +kernel
theorem dL_isStopped_17 : decode cL_isStopped 17 = .ok (.iconst 1, 1) := by decide +kernel
theorem dL_isStopped_18 : decode cL_isStopped 18 = .ok (.isub, 1) := by decide +kernel
theorem dL_isStopped_19 : decode cL_isStopped 19 = .ok (.invokestatic 96, 3) := by decide +kernel
theorem dL_isStopped_22 : decode cL_isStopped 22 = .ok (.iaload, 1) := by decide +kernel
theorem dL_isStopped_23 : decode cL_isStopped 23 = .ok (.istore_n 2, 1) := by decide +kernel
theorem dL_isStopped_24 : decode cL_isStopped 24 = .ok (.aload_n 1, 1) := by decide +kernel
theorem dL_isStopped_25 : decode cL_isStopped 25 = .ok (.bipush 52, 2) := by decide +kernel
theorem dL_isStopped_27 : decode cL_isStopped 27 = .ok (.iconst 0, 1) := by decide +kernel
theorem dL_isStopped_28 : decode cL_isStopped 28 = .ok (.iastore, 1) := by decide +kernel
theorem dL_isStopped_29 : decode cL_isStopped 29 = .ok (.aload_n 0, 1) := by decide +kernel
theorem dL_isStopped_30 : decode cL_isStopped 30 = .ok (.invokestatic 160, 3) := by decide +kernel
theorem dL_isStopped_33 : decode cL_isStopped 33 = .ok (.iload_n 2, 1) := by decide +kernel
theorem dL_isStopped_34 : decode cL_isStopped 34 = .ok (.if_icmp .ne 7, 3) := by decide +kernel
theorem dL_isStopped_37 : decode cL_isStopped 37 = .ok (.iconst 1, 1) := by decide +kernel
theorem dL_isStopped_38 : decode cL_isStopped 38 = .ok (.goto 4, 3) := by decide +kernel
theorem dL_isStopped_41 : decode cL_isStopped 41 = .ok (.iconst 0, 1) := by decide +kernel
theorem dL_isStopped_42 : decode cL_isStopped 42 = .ok (.ireturn, 1) := by decide +kernel
set_option maxRecDepth 20000 in
theorem ggL_isDone_L_in : GoodIn wsL_isDone wsL_in := goodIn_ca (goodIn_ca (goodIn_r _ [5, 6, 7, 8, 4, 9, 10, 11] (by decide +kernel) (by decide +kernel)) (goodIn_sub (fun _ h => List.mem_cons_of_mem _ (List.mem_append_left _ (List.mem_append_left _ (List.mem_append_left _ (List.mem_append_left _ (List.mem_append_right _ h)))))) (by decide +kernel))) (goodIn_sub (fun _ h => List.mem_cons_of_mem _ (List.mem_append_left _ (List.mem_append_left _ (List.mem_append_left _ (List.mem_append_left _ (List.mem_append_left _ (List.mem_append_right _ h))))))) (by decide +kernel))
set_option maxRecDepth 20000 in
theorem gL_isDone_L_in : GoodIn wsL_isDone (va_wsS RL 162 yL_in wsL_in) := goodIn_app (goodIn_of _ (by decide +kernel)) ggL_isDone_L_in
set_option maxRecDepth 20000 in
theorem ggL_isDone_L_isSet : GoodIn wsL_isDone wsL_isSet := goodIn_ca (goodIn_ca (goodIn_ca (goodIn_ca (goodIn_r _ [14, 15, 16, 17, 4, 18, 19, 20, 21, 22, 23, 1, 24, 25, 26, 27, 28, 29, 30, 31, 32, 33, 34, 35, 36, 37, 38, 39, 40, 41, 42, 43, 44, 45, 46, 47, 48, 49, 50, 51, 52, 53, 54, 55, 56, 57, 58, 59, 60, 61, 62, 63, 64, 65, 66, 67, 68, 69, 70, 71, 72, 73, 74, 75, 76, 77, 78, 79, 80, 81, 82, 83, 84, 85, 86, 87, 88, 89, 90, 91, 92, 93, 94, 95, 96, 97, 98, 99, 100, 101, 102, 103, 104, 105, 106, 107, 108, 109, 110, 111, 112, 113, 114, 115, 116, 117, 118, 119, 120, 121, 122, 123, 124, 125, 126, 127, 128, 129, 130, 131, 132, 133, 134, 135, 136, 137, 138, 139, 140, 141, 142, 143, 144, 145, 146, 147, 148, 149, 150, 151, 152, 153, 154, 155, 156, 157, 158, 159, 160, 161, 162, 163, 164, 165, 166, 167, 168, 169, 170, 171, 172, 173, 174, 175, 176, 177, 178, 179, 180, 181, 182, 183, 184, 185, 186, 187, 188, 189, 190, 191, 192, 193, 194, 195, 196, 197, 198, 199, 200, 201, 202, 203, 204, 205, 206, 207, 208, 209, 210, 211, 212, 213, 214, 215, 216, 217, 218, 219, 220, 221, 222, 223, 224, 225, 226, 227, 228, 229, 230, 231, 232, 233, 234, 235, 236, 237, 238, 239, 240, 241, 242, 243, 244, 245, 246, 247, 248, 249, 250, 251, 252, 253, 254, 255, 256, 257, 258, 259, 260, 261, 262, 263, 264, 265, 266, 267, 268, 269, 270, 271, 272, 273, 274, 275, 276, 277, 278, 279, 280, 281, 282, 283, 284, 285, 286, 287, 288, 289, 290, 291, 292, 293, 294, 295, 296, 297, 298, 299, 300, 301, 302, 303, 304, 305, 306, 307, 308, 309, 310, 311, 312, 313, 314, 315, 316, 317, 318, 319, 320, 321, 322, 323, 324, 325, 326, 327, 328, 329, 330, 331, 332, 333, 334, 335, 336, 337, 338, 339, 340, 341, 342, 487, 488, 489, 490, 491, 492, 493, 494, 495, 496, 497, 498, 499, 500, 501, 502, 503, 504, 505, 506, 507, 508, 509, 510, 511, 512, 513, 514, 515, 516, 517, 518, 519, 520, 521, 522, 523, 524] (by decide +kernel) (by decide +kernel)) (goodIn_sub (fun _ h => List.mem_cons_of_mem _ (List.mem_append_left _ (List.mem_append_left _ (List.mem_append_left _ (List.mem_append_left _ (List.mem_append_left _ (List.mem_append_right _ h))))))) (by decide +kernel))) (goodIn_sub (fun _ h => List.mem_cons_of_mem _ (List.mem_append_left _ (List.mem_append_left _ (List.mem_append_left _ (List.mem_append_right _ h))))) (by decide +kernel))) (goodIn_sub (fun _ h => List.mem_cons_of_mem _ (List.mem_append_left _ (List.mem_append_left _ (List.mem_append_right _ h)))) (by decide +kernel))) (goodIn_sub (fun _ h => List.mem_cons_of_mem _ (List.mem_append_left _ (List.mem_append_right _ h))) (by decide +kernel))
set_option maxRecDepth 20000 in
theorem gL_isDone_L_isSet : GoodIn wsL_isDone (va_wsS RL 165 yL_isSet wsL_isSet) := goodIn_app (goodIn_of _ (by decide +kernel)) ggL_isDone_L_isSet
set_option maxRecDepth 20000 in
theorem ggL_isDone_L_isRecorded : GoodIn wsL_isDone wsL_isRecorded := goodIn_ca (goodIn_ca (goodIn_ca (goodIn_r _ [345, 15, 346, 347, 4, 348, 22, 23, 1, 349, 350, 351, 27, 352, 29, 30, 31, 47, 48, 353, 354, 355, 356, 35, 36, 59, 60, 61, 62, 63, 64, 65, 66, 67, 68, 69, 70, 71, 72, 73, 74, 75, 76, 77, 78, 79, 80, 81, 82, 83, 84, 85, 86, 87, 32, 33, 34, 37, 38, 39, 256, 257, 258, 91, 259, 93, 94, 357, 358, 359, 360, 361, 362, 363, 364, 99, 100, 296, 297, 298, 487, 488, 489, 490, 491, 492, 493, 494, 495, 496, 497, 498, 499, 504, 505, 506, 507, 508, 509] (by decide +kernel) (by decide +kernel)) (goodIn_sub (fun _ h => List.mem_cons_of_mem _ (List.mem_append_left _ (List.mem_append_left _ (List.mem_append_left _ (List.mem_append_left _ (List.mem_append_left _ (List.mem_append_right _ h))))))) (by decide +kernel))) (goodIn_sub (fun _ h => List.mem_cons_of_mem _ (List.mem_append_left _ (List.mem_append_left _ (List.mem_append_left _ (List.mem_append_right _ h))))) (by decide +kernel))) (goodIn_sub (fun _ h => List.mem_cons_of_mem _ (List.mem_append_left _ (List.mem_append_left _ (List.mem_append_right _ h)))) (by decide +kernel))
set_option maxRecDepth 20000 in
theorem gL_isDone_L_isRecorded : GoodIn wsL_isDone (va_wsS RL 169 yL_isRecorded wsL_isRecorded) := goodIn_app (goodIn_of _ (by decide +kernel)) ggL_isDone_L_isRecorded
set_option maxRecDepth 20000 in
theorem ggL_isDone_L_isStopped : GoodIn wsL_isDone wsL_isStopped := goodIn_ca (goodIn_ca (goodIn_r _ [367, 1, 296, 297, 4, 298, 368, 369, 370, 23, 371, 372, 373, 27, 374, 29, 30, 31, 59, 60, 61, 62, 63, 64, 65, 66, 67, 68, 69, 70, 71, 72, 73, 74, 75, 76, 77, 78, 79, 80, 81, 82, 83, 84, 85, 86, 87, 256, 257, 258, 91, 259, 93, 94, 487, 488, 489, 490, 491, 492, 493, 494, 495, 496, 497, 498, 499, 504, 505, 506, 507, 508, 509] (by decide +kernel) (by decide +kernel)) (goodIn_sub (fun _ h => List.mem_cons_of_mem _ (List.mem_append_left _ (List.mem_append_left _ (List.mem_append_left _ (List.mem_append_left _ (List.mem_append_left _ (List.mem_append_right _ h))))))) (by decide +kernel))) (goodIn_sub (fun _ h => List.mem_cons_of_mem _ (List.mem_append_left _ (List.mem_append_left _ (List.mem_append_left _ (List.mem_append_right _ h))))) (by decide +kernel))
set_option maxRecDepth 20000 in
theorem gL_isDone_L_isStopped : GoodIn wsL_isDone (va_wsS RL 173 yL_isStopped wsL_isStopped) := goodIn_app (goodIn_of _ (by decide +kernel)) ggL_isDone_L_isStopped
set_option maxRecDepth 20000 in
theorem ggL_isDone_L_isRange : GoodIn wsL_isDone wsL_isRange := goodIn_ca (goodIn_ca (goodIn_ca (goodIn_ca (goodIn_r _ [377, 378, 15, 296, 297, 4, 298, 379, 380, 381, 22, 329, 23, 1, 382, 383, 384, 27, 385, 334, 335, 29, 30, 386, 387, 236, 353, 354, 355, 356, 35, 36, 59, 60, 61, 62, 63, 64, 65, 66, 67, 68, 69, 70, 71, 72, 73, 74, 75, 76, 77, 78, 79, 80, 81, 82, 83, 84, 85, 86, 87, 32, 33, 34, 37, 38, 39, 388, 389, 390, 391, 392, 393, 91, 394, 270, 94, 395, 396, 397, 398, 53, 54, 238, 240, 239, 241, 399, 400, 401, 402, 95, 96, 97, 98, 99, 100, 101, 102, 103, 104, 105, 106, 107, 108, 109, 110, 111, 112, 113, 114, 115, 116, 117, 118, 119, 120, 121, 122, 123, 124, 125, 126, 127, 128, 129, 130, 131, 132, 133, 134, 135, 136, 137, 138, 139, 140, 141, 142, 143, 144, 145, 146, 147, 519, 520, 521, 522, 487, 488, 489, 490, 491, 492, 493, 494, 495, 496, 497, 498, 499, 504, 505, 506, 507, 508, 509] (by decide +kernel) (by decide +kernel)) (goodIn_sub (fun _ h => List.mem_cons_of_mem _ (List.mem_append_left _ (List.mem_append_left _ (List.mem_append_left _ (List.mem_append_left _ (List.mem_append_left _ (List.mem_append_right _ h))))))) (by decide +kernel))) (goodIn_sub (fun _ h => List.mem_cons_of_mem _ (List.mem_append_left _ (List.mem_append_right _ h))) (by decide +kernel))) (goodIn_sub (fun _ h => List.mem_cons_of_mem _ (List.mem_append_left _ (List.mem_append_left _ (List.mem_append_left _ (List.mem_append_right _ h))))) (by decide +kernel))) (goodIn_sub (fun _ h => List.mem_cons_of_mem _ (List.mem_append_left _ (List.mem_append_left _ (List.mem_append_right _ h)))) (by decide +kernel))
set_option maxRecDepth 20000 in
theorem gL_isDone_L_isRange : GoodIn wsL_isDone (va_wsS RL 177 yL_isRange wsL_isRange) := goodIn_app (goodIn_of _ (by decide +kernel)) ggL_isDone_L_isRange
set_option maxRecDepth 20000 in
theorem ggL_isDone_L_macroAt : GoodIn wsL_isDone wsL_macroAt := goodIn_r _ [298] (by decide +kernel) (by decide +kernel)
set_option maxRecDepth 20000 in
theorem gL_isDone_L_macroAt : GoodIn wsL_isDone (va_wsS RL 96 yL_macroAt wsL_macroAt) := goodIn_app (goodIn_of _ (by decide +kernel)) ggL_isDone_L_macroAt
set_option maxRecDepth 20000 in
theorem ggL_isDone_L_takeGrants : GoodIn wsL_isDone wsL_takeGrants := goodIn_ca (goodIn_r _ [405, 22, 1, 406, 407, 408, 27, 409, 353, 354, 355, 356, 35, 36, 59, 60, 61, 62, 63, 64, 65, 66, 67, 68, 69, 70, 71, 72, 73, 74, 75, 76, 77, 78, 79, 80, 81, 82, 83, 84, 85, 86, 87, 391, 392, 393, 91, 394, 270, 94, 410, 411, 412, 413, 361, 362, 363, 364, 99, 100, 487, 488, 489, 490, 491, 492, 493, 494, 495, 496, 497, 498, 499, 504, 505, 506, 507, 508, 509] (by decide +kernel) (by decide +kernel)) (goodIn_sub (fun _ h => List.mem_cons_of_mem _ (List.mem_append_left _ (List.mem_append_left _ (List.mem_append_right _ h)))) (by decide +kernel))
set_option maxRecDepth 20000 in
theorem gL_isDone_L_takeGrants : GoodIn wsL_isDone (va_wsS RL 181 yL_takeGrants wsL_takeGrants) := goodIn_app (goodIn_of _ (by decide +kernel)) ggL_isDone_L_takeGrants
set_option maxRecDepth 20000 in
theorem ggL_isDone_L_isRule : GoodIn wsL_isDone wsL_isRule := goodIn_ca (goodIn_ca (goodIn_ca (goodIn_ca (goodIn_r _ [416, 378, 15, 417, 418, 4, 419, 22, 329, 23, 1, 420, 421, 422, 27, 423, 334, 335, 29, 30, 231, 424, 425, 426, 386, 387, 236, 32, 33, 34, 35, 36, 37, 38, 39, 353, 354, 355, 356, 59, 60, 61, 62, 63, 64, 65, 66, 67, 68, 69, 70, 71, 72, 73, 74, 75, 76, 77, 78, 79, 80, 81, 82, 83, 84, 85, 86, 87, 388, 389, 390, 427, 428, 429, 395, 396, 397, 398, 53, 54, 238, 240, 239, 241, 430, 431, 432, 433, 434, 435, 436, 437, 96, 97, 98, 99, 100, 101, 102, 103, 104, 105, 106, 107, 108, 109, 110, 111, 112, 113, 114, 115, 116, 117, 118, 119, 120, 121, 122, 123, 124, 125, 126, 127, 128, 129, 130, 131, 132, 133, 134, 135, 136, 137, 138, 139, 140, 141, 142, 143, 144, 145, 146, 147, 487, 488, 489, 490, 491, 492, 493, 494, 495, 496, 497, 498, 499, 516, 517, 518, 519, 520, 521, 522, 504, 505, 506] (by decide +kernel) (by decide +kernel)) (goodIn_sub (fun _ h => List.mem_cons_of_mem _ (List.mem_append_left _ (List.mem_append_left _ (List.mem_append_left _ (List.mem_append_left _ (List.mem_append_left _ (List.mem_append_right _ h))))))) (by decide +kernel))) (goodIn_sub (fun _ h => List.mem_cons_of_mem _ (List.mem_append_left _ (List.mem_append_right _ h))) (by decide +kernel))) (goodIn_sub (fun _ h => List.mem_cons_of_mem _ (List.mem_append_left _ (List.mem_append_left _ (List.mem_append_left _ (List.mem_append_right _ h))))) (by decide +kernel))) (goodIn_sub (fun _ h => List.mem_cons_of_mem _ (List.mem_append_left _ (List.mem_append_left _ (List.mem_append_right _ h)))) (by decide +kernel))
set_option maxRecDepth 20000 in
theorem gL_isDone_L_isRule : GoodIn wsL_isDone (va_wsS RL 184 yL_isRule wsL_isRule) := goodIn_app (goodIn_of _ (by decide +kernel)) ggL_isDone_L_isRule
set_option maxRecDepth 20000 in
theorem ggL_isDone_L_setRank : GoodIn wsL_isDone wsL_setRank := goodIn_ca (goodIn_ca (goodIn_r _ [440, 22, 329, 1, 15, 441, 442, 443, 27, 444, 35, 36, 334, 335, 242, 243, 244, 245, 231, 232, 65, 66, 67, 68, 69, 70, 71, 72, 73, 74, 75, 76, 77, 78, 79, 80, 81, 82, 83, 84, 85, 86, 87, 427, 428, 429, 516, 517, 518, 487, 488, 489, 490, 491, 492, 493, 494, 495, 496, 497, 498, 499, 504, 505, 506] (by decide +kernel) (by decide +kernel)) (goodIn_sub (fun _ h => List.mem_cons_of_mem _ (List.mem_append_left _ (List.mem_append_left _ (List.mem_append_right _ h)))) (by decide +kernel))) (goodIn_sub (fun _ h => List.mem_cons_of_mem _ (List.mem_append_left _ (List.mem_append_right _ h))) (by decide +kernel))
set_option maxRecDepth 20000 in
theorem gL_isDone_L_setRank : GoodIn wsL_isDone (va_wsS RL 188 yL_setRank wsL_setRank) := goodIn_app (goodIn_of _ (by decide +kernel)) ggL_isDone_L_setRank
set_option maxRecDepth 20000 in
theorem ggL_isDone_L_isUndone : GoodIn wsL_isDone wsL_isUndone := goodIn_ca (goodIn_ca (goodIn_r _ [447, 1, 448, 449, 4, 450, 23, 451, 452, 453, 27, 454, 29, 30, 284, 152, 186, 455, 456, 457, 288, 458, 290, 291, 154, 155, 156, 157, 158, 159, 218, 219, 220, 221, 164, 459, 460, 461, 462, 166, 210, 211, 212, 191, 213, 193, 194, 195, 196, 197, 463, 464, 465, 466, 487, 488, 489, 490, 491, 492, 493, 494, 495, 496, 497, 498, 499, 523, 524, 510, 511, 512, 513, 514, 515] (by decide +kernel) (by decide +kernel)) (goodIn_sub (fun _ h => List.mem_cons_of_mem _ (List.mem_append_left _ (List.mem_append_left _ (List.mem_append_left _ (List.mem_append_left _ (List.mem_append_left _ (List.mem_append_right _ h))))))) (by decide +kernel))) (goodIn_sub (fun _ h => List.mem_cons_of_mem _ (List.mem_append_left _ (List.mem_append_left _ (List.mem_append_left _ (List.mem_append_right _ h))))) (by decide +kernel))
set_option maxRecDepth 20000 in
theorem gL_isDone_L_isUndone : GoodIn wsL_isDone (va_wsS RL 190 yL_isUndone wsL_isUndone) := goodIn_app (goodIn_of _ (by decide +kernel)) ggL_isDone_L_isUndone
set_option maxRecDepth 20000 in
theorem ggL_isDone_L_isRun : GoodIn wsL_isDone wsL_isRun := goodIn_ca (goodIn_ca (goodIn_ca (goodIn_ca (goodIn_r _ [469, 178, 15, 378, 311, 312, 4, 313, 296, 297, 298, 314, 315, 316, 317, 318, 319, 308, 309, 310, 320, 321, 322, 470, 471, 472, 22, 1, 473, 474, 475, 27, 476, 353, 354, 355, 356, 35, 36, 59, 60, 61, 62, 63, 64, 65, 66, 67, 68, 69, 70, 71, 72, 73, 74, 75, 76, 77, 78, 79, 80, 81, 82, 83, 84, 85, 86, 87, 32, 33, 34, 37, 38, 39, 246, 247, 248, 249, 250, 186, 251, 252, 253, 191, 254, 193, 255, 145, 146, 147, 179, 180, 181, 256, 257, 258, 91, 259, 93, 94, 260, 261, 262, 263, 264, 265, 266, 267, 268, 269, 270, 271, 272, 234, 235, 236, 237, 238, 239, 240, 241, 188, 189, 190, 192, 194, 195, 196, 197, 198, 199, 200, 46, 201, 55, 58, 273, 274, 275, 210, 211, 212, 213, 477, 478, 479, 23, 480, 481, 482, 483, 484, 29, 30, 485, 486, 31, 148, 149, 150, 151, 152, 153, 154, 155, 156, 157, 158, 159, 160, 161, 162, 163, 164, 165, 166, 167, 168, 169, 170, 130, 171, 172, 173, 174, 175, 176, 177, 141, 142, 116, 143, 144, 276, 277, 278, 279, 182, 183, 184, 185, 187, 202, 203, 204, 205, 206, 207, 208, 209, 214, 215, 216, 217, 218, 219, 220, 221, 222, 223, 224, 225, 226, 227, 228, 229, 230, 231, 232, 233, 242, 243, 244, 245, 280, 281, 282, 283, 284, 285, 286, 287, 288, 289, 290, 291, 292, 323, 324, 325, 299, 300, 301, 302, 303, 304, 305, 306, 307, 487, 488, 489, 490, 491, 492, 493, 494, 495, 496, 497, 498, 499, 504, 505, 506, 500, 501, 502, 503, 515, 507, 508, 509, 519, 520, 521, 522, 510, 511, 512, 513, 514, 516, 517, 518, 523, 524] (by decide +kernel) (by decide +kernel)) (goodIn_sub (fun _ h => List.mem_cons_of_mem _ (List.mem_append_left _ (List.mem_append_left _ (List.mem_append_left _ (List.mem_append_left _ (List.mem_append_left _ (List.mem_append_right _ h))))))) (by decide +kernel))) (goodIn_sub (fun _ h => List.mem_cons_of_mem _ (List.mem_append_left _ (List.mem_append_left _ (List.mem_append_right _ h)))) (by decide +kernel))) (goodIn_sub (fun _ h => List.mem_cons_of_mem _ (List.mem_append_left _ (List.mem_append_left _ (List.mem_append_left _ (List.mem_append_right _ h))))) (by decide +kernel))) (goodIn_sub (fun _ h => List.mem_cons_of_mem _ (List.mem_append_right _ h)) (by decide +kernel))
set_option maxRecDepth 20000 in
theorem gL_isDone_L_isRun : GoodIn wsL_isDone (va_wsS RL 194 yL_isRun wsL_isRun) := goodIn_app (goodIn_of _ (by decide +kernel)) ggL_isDone_L_isRun
theorem dL_isDone_0 : decode cL_isDone 0 = .ok (.aload_n 3, 1) := by decide +kernel
theorem dL_isDone_1 : decode cL_isDone 1 = .ok (.iload 4, 2) := by decide +kernel
theorem dL_isDone_3 : decode cL_isDone 3 = .ok (.iconst 1, 1) := by decide +kernel
theorem dL_isDone_4 : decode cL_isDone 4 = .ok (.iadd, 1) := by decide +kernel
theorem dL_isDone_5 : decode cL_isDone 5 = .ok (.aload_n 3, 1) := by decide +kernel
theorem dL_isDone_6 : decode cL_isDone 6 = .ok (.iload 4, 2) := by decide +kernel
theorem dL_isDone_8 : decode cL_isDone 8 = .ok (.bipush 6, 2) := by decide +kernel
theorem dL_isDone_10 : decode cL_isDone 10 = .ok (.iadd, 1) := by decide +kernel
theorem dL_isDone_11 : decode cL_isDone 11 = .ok (.iconst 2, 1) := by decide +kernel
theorem dL_isDone_12 : decode cL_isDone 12 = .ok (.invokestatic 162, 3) := by decide +kernel
theorem dL_isDone_15 : decode cL_isDone 15 = .ok (.ifCond .ne 7, 3) := by decide +kernel
theorem dL_isDone_18 : decode cL_isDone 18 = .ok (.iconst 3, 1) := by decide +kernel
theorem dL_isDone_19 : decode cL_isDone 19 = .ok (.goto 5, 3) := by decide +kernel
theorem dL_isDone_22 : decode cL_isDone 22 = .ok (.bipush 6, 2) := by decide +kernel
theorem dL_isDone_24 : decode cL_isDone 24 = .ok (.invokestatic 162, 3) := by decide +kernel
theorem dL_isDone_27 : decode cL_isDone 27 = .ok (.istore 5, 2) := by decide +kernel
theorem dL_isDone_29 : decode cL_isDone 29 = .ok (.aload_n 3, 1) := by decide +kernel
theorem dL_isDone_30 : decode cL_isDone 30 = .ok (.iload 4, 2) := by decide +kernel
theorem dL_isDone_32 : decode cL_isDone 32 = .ok (.iconst 2, 1) := by decide +kernel
theorem dL_isDone_33 : decode cL_isDone 33 = .ok (.iadd, 1) := by decide +kernel
theorem dL_isDone_34 : decode cL_isDone 34 = .ok (.aload_n 3, 1) := by decide +kernel
theorem dL_isDone_35 : decode cL_isDone 35 = .ok (.iload 4, 2) := by decide +kernel
theorem dL_isDone_37 : decode cL_isDone 37 = .ok (.bipush 6, 2) := by decide +kernel
theorem dL_isDone_39 : decode cL_isDone 39 = .ok (.iadd, 1) := by decide +kernel
theorem dL_isDone_40 : decode cL_isDone 40 = .ok (.iconst 2, 1) := by decide +kernel
theorem dL_isDone_41 : decode cL_isDone 41 = .ok (.invokestatic 162, 3) := by decide +kernel
theorem dL_isDone_44 : decode cL_isDone 44 = .ok (.ifCond .ne 7, 3) := by decide +kernel
theorem dL_isDone_47 : decode cL_isDone 47 = .ok (.iconst 3, 1) := by decide +kernel
theorem dL_isDone_48 : decode cL_isDone 48 = .ok (.goto 5, 3) := by decide +kernel
theorem dL_isDone_51 : decode cL_isDone 51 = .ok (.bipush 8, 2) := by decide +kernel
theorem dL_isDone_53 : decode cL_isDone 53 = .ok (.invokestatic 162, 3) := by decide +kernel
theorem dL_isDone_56 : decode cL_isDone 56 = .ok (.istore 6, 2) := by decide +kernel
theorem dL_isDone_58 : decode cL_isDone 58 = .ok (.aload_n 3, 1) := by decide +kernel
theorem dL_isDone_59 : decode cL_isDone 59 = .ok (.iload 4, 2) := by decide +kernel
theorem dL_isDone_61 : decode cL_isDone 61 = .ok (.iconst 3, 1) := by decide +kernel
theorem dL_isDone_62 : decode cL_isDone 62 = .ok (.iadd, 1) := by decide +kernel
theorem dL_isDone_63 : decode cL_isDone 63 = .ok (.aload_n 1, 1) := by decide +kernel
theorem dL_isDone_64 : decode cL_isDone 64 = .ok (.bipush 50, 2) := by decide +kernel
theorem dL_isDone_66 : decode cL_isDone 66 = .ok (.iaload, 1) := by decide +kernel
theorem dL_isDone_67 : decode cL_isDone 67 = .ok (.invokestatic 162, 3) := by decide +kernel
theorem dL_isDone_70 : decode cL_isDone 70 = .ok (.istore 7, 2) := by decide +kernel
theorem dL_isDone_72 : decode cL_isDone 72 = .ok (.aload_n 3, 1) := by decide +kernel
theorem dL_isDone_73 : decode cL_isDone 73 = .ok (.iload 4, 2) := by decide +kernel
theorem dL_isDone_75 : decode cL_isDone 75 = .ok (.bipush 6, 2) := by decide +kernel
theorem dL_isDone_77 : decode cL_isDone 77 = .ok (.iadd, 1) := by decide +kernel
theorem dL_isDone_78 : decode cL_isDone 78 = .ok (.bipush 9, 2) := by decide +kernel
theorem dL_isDone_80 : decode cL_isDone 80 = .ok (.invokestatic 162, 3) := by decide +kernel
theorem dL_isDone_83 : decode cL_isDone 83 = .ok (.ifCond .ne 21, 3) := by decide +kernel
theorem dL_isDone_86 : decode cL_isDone 86 = .ok (.aload_n 3, 1) := by decide +kernel
theorem dL_isDone_87 : decode cL_isDone 87 = .ok (.iload 4, 2) := by decide +kernel
theorem dL_isDone_89 : decode cL_isDone 89 = .ok (.iconst 5, 1) := by decide +kernel
theorem dL_isDone_90 : decode cL_isDone 90 = .ok (.iadd, 1) := by decide +kernel
theorem dL_isDone_91 : decode cL_isDone 91 = .ok (.sipush 20100, 3) := by decide +kernel
theorem dL_isDone_94 : decode cL_isDone 94 = .ok (.invokestatic 162, 3) := by decide +kernel
theorem dL_isDone_97 : decode cL_isDone 97 = .ok (.sipush 10050, 3) := by decide +kernel
theorem dL_isDone_100 : decode cL_isDone 100 = .ok (.isub, 1) := by decide +kernel
theorem dL_isDone_101 : decode cL_isDone 101 = .ok (.goto 15, 3) := by decide +kernel
theorem dL_isDone_104 : decode cL_isDone 104 = .ok (.aload_n 3, 1) := by decide +kernel
theorem dL_isDone_105 : decode cL_isDone 105 = .ok (.iload 4, 2) := by decide +kernel
theorem dL_isDone_107 : decode cL_isDone 107 = .ok (.iconst 5, 1) := by decide +kernel
theorem dL_isDone_108 : decode cL_isDone 108 = .ok (.iadd, 1) := by decide +kernel
theorem dL_isDone_109 : decode cL_isDone 109 = .ok (.bipush 9, 2) := by decide +kernel
theorem dL_isDone_111 : decode cL_isDone 111 = .ok (.invokestatic 162, 3) := by decide +kernel
theorem dL_isDone_114 : decode cL_isDone 114 = .ok (.iconst 4, 1) := by decide +kernel
theorem dL_isDone_115 : decode cL_isDone 115 = .ok (.isub, 1) := by decide +kernel
theorem dL_isDone_116 : decode cL_isDone 116 = .ok (.istore 8, 2) := by decide +kernel
theorem dL_isDone_118 : decode cL_isDone 118 = .ok (.aload_n 3, 1) := by decide +kernel
theorem dL_isDone_119 : decode cL_isDone 119 = .ok (.iload 4, 2) := by decide +kernel
theorem dL_isDone_121 : decode cL_isDone 121 = .ok (.bipush 16, 2) := by decide +kernel
theorem dL_isDone_123 : decode cL_isDone 123 = .ok (.invokestatic 162, 3) := by decide +kernel
theorem dL_isDone_126 : decode cL_isDone 126 = .ok (.tableswitch 371 0 12 #[66, 66, 81, 81, 96, 110, 122, 128, 158, 230, 271, 364, 364], 66) := by decide +kernel
theorem dL_isDone_192 : decode cL_isDone 192 = .ok (.aload_n 0, 1) := by decide +kernel
theorem dL_isDone_193 : decode cL_isDone 193 = .ok (.aload_n 1, 1) := by decide +kernel
theorem dL_isDone_194 : decode cL_isDone 194 = .ok (.aload_n 2, 1) := by decide +kernel
theorem dL_isDone_195 : decode cL_isDone 195 = .ok (.bipush 115, 2) := by decide +kernel
theorem dL_isDone_197 : decode cL_isDone 197 = .ok (.iload 5, 2) := by decide +kernel
theorem dL_isDone_199 : decode cL_isDone 199 = .ok (.iload 6, 2) := by decide +kernel
theorem dL_isDone_201 : decode cL_isDone 201 = .ok (.iload 8, 2) := by decide +kernel
theorem dL_isDone_203 : decode cL_isDone 203 = .ok (.invokestatic 165, 3) := by decide +kernel
theorem dL_isDone_206 : decode cL_isDone 206 = .ok (.ireturn, 1) := by decide +kernel
theorem dL_isDone_207 : decode cL_isDone 207 = .ok (.aload_n 0, 1) := by decide +kernel
theorem dL_isDone_208 : decode cL_isDone 208 = .ok (.aload_n 1, 1) := by decide +kernel
theorem dL_isDone_209 : decode cL_isDone 209 = .ok (.aload_n 2, 1) := by decide +kernel
theorem dL_isDone_210 : decode cL_isDone 210 = .ok (.bipush 97, 2) := by decide +kernel
theorem dL_isDone_212 : decode cL_isDone 212 = .ok (.iload 5, 2) := by decide +kernel
theorem dL_isDone_214 : decode cL_isDone 214 = .ok (.iload 6, 2) := by decide +kernel
theorem dL_isDone_216 : decode cL_isDone 216 = .ok (.iload 8, 2) := by decide +kernel
theorem dL_isDone_218 : decode cL_isDone 218 = .ok (.invokestatic 165, 3) := by decide +kernel
theorem dL_isDone_221 : decode cL_isDone 221 = .ok (.ireturn, 1) := by decide +kernel
theorem dL_isDone_222 : decode cL_isDone 222 = .ok (.aload_n 0, 1) := by decide +kernel
theorem dL_isDone_223 : decode cL_isDone 223 = .ok (.aload_n 1, 1) := by decide +kernel
theorem dL_isDone_224 : decode cL_isDone 224 = .ok (.aload_n 2, 1) := by decide +kernel
theorem dL_isDone_225 : decode cL_isDone 225 = .ok (.bipush 99, 2) := by decide +kernel
theorem dL_isDone_227 : decode cL_isDone 227 = .ok (.iload 5, 2) := by decide +kernel
theorem dL_isDone_229 : decode cL_isDone 229 = .ok (.iload 6, 2) := by decide +kernel
theorem dL_isDone_231 : decode cL_isDone 231 = .ok (.iconst 0, 1) := by decide +kernel
theorem dL_isDone_232 : decode cL_isDone 232 = .ok (.invokestatic 165, 3) := by decide +kernel
theorem dL_isDone_235 : decode cL_isDone 235 = .ok (.ireturn, 1) := by decide +kernel
theorem dL_isDone_236 : decode cL_isDone 236 = .ok (.aload_n 0, 1) := by decide +kernel
theorem dL_isDone_237 : decode cL_isDone 237 = .ok (.aload_n 1, 1) := by decide +kernel
theorem dL_isDone_238 : decode cL_isDone 238 = .ok (.iload 7, 2) := by decide +kernel
theorem dL_isDone_240 : decode cL_isDone 240 = .ok (.iload 5, 2) := by decide +kernel
theorem dL_isDone_242 : decode cL_isDone 242 = .ok (.iload 6, 2) := by decide +kernel
theorem dL_isDone_244 : decode cL_isDone 244 = .ok (.invokestatic 169, 3) := by decide +kernel
theorem dL_isDone_247 : decode cL_isDone 247 = .ok (.ireturn, 1) := by decide +kernel
theorem dL_isDone_248 : decode cL_isDone 248 = .ok (.aload_n 0, 1) := by decide +kernel
theorem dL_isDone_249 : decode cL_isDone 249 = .ok (.aload_n 1, 1) := by decide +kernel
theorem dL_isDone_250 : decode cL_isDone 250 = .ok (.invokestatic 173, 3) := by decide +kernel
theorem dL_isDone_253 : decode cL_isDone 253 = .ok (.ireturn, 1) := by decide +kernel
theorem dL_isDone_254 : decode cL_isDone 254 = .ok (.aload_n 0, 1) := by decide +kernel
theorem dL_isDone_255 : decode cL_isDone 255 = .ok (.aload_n 1, 1) := by decide +kernel
theorem dL_isDone_256 : decode cL_isDone 256 = .ok (.iload 7, 2) := by decide +kernel
theorem dL_isDone_258 : decode cL_isDone 258 = .ok (.aload_n 3, 1) := by decide +kernel
theorem dL_isDone_259 : decode cL_isDone 259 = .ok (.iload 4, 2) := by decide +kernel
theorem dL_isDone_261 : decode cL_isDone 261 = .ok (.iconst 4, 1) := by decide +kernel
theorem dL_isDone_262 : decode cL_isDone 262 = .ok (.iadd, 1) := by decide +kernel
theorem dL_isDone_263 : decode cL_isDone 263 = .ok (.iconst 3, 1) := by decide +kernel
theorem dL_isDone_264 : decode cL_isDone 264 = .ok (.invokestatic 162, 3) := by decide +kernel
theorem dL_isDone_267 : decode cL_isDone 267 = .ok (.aload_n 3, 1) := by decide +kernel
theorem dL_isDone_268 : decode cL_isDone 268 = .ok (.iload 4, 2) := by decide +kernel
theorem dL_isDone_270 : decode cL_isDone 270 = .ok (.iconst 5, 1) := by decide +kernel
theorem dL_isDone_271 : decode cL_isDone 271 = .ok (.iadd, 1) := by decide +kernel
theorem dL_isDone_272 : decode cL_isDone 272 = .ok (.iconst 3, 1) := by decide +kernel
theorem dL_isDone_273 : decode cL_isDone 273 = .ok (.invokestatic 162, 3) := by decide +kernel
theorem dL_isDone_276 : decode cL_isDone 276 = .ok (.iload 5, 2) := by decide +kernel
theorem dL_isDone_278 : decode cL_isDone 278 = .ok (.iload 6, 2) := by decide +kernel
theorem dL_isDone_280 : decode cL_isDone 280 = .ok (.invokestatic 177, 3) := by decide +kernel
theorem dL_isDone_283 : decode cL_isDone 283 = .ok (.ireturn, 1) := by decide +kernel
theorem dL_isDone_284 : decode cL_isDone 284 = .ok (.aload_n 1, 1) := by decide +kernel
theorem dL_isDone_285 : decode cL_isDone 285 = .ok (.iload 7, 2) := by decide +kernel
theorem dL_isDone_287 : decode cL_isDone 287 = .ok (.invokestatic 96, 3) := by decide +kernel
theorem dL_isDone_290 : decode cL_isDone 290 = .ok (.iconst 1, 1) := by decide +kernel
theorem dL_isDone_291 : decode cL_isDone 291 = .ok (.iadd, 1) := by decide +kernel
theorem dL_isDone_292 : decode cL_isDone 292 = .ok (.iaload, 1) := by decide +kernel
theorem dL_isDone_293 : decode cL_isDone 293 = .ok (.istore 9, 2) := by decide +kernel
theorem dL_isDone_295 : decode cL_isDone 295 = .ok (.aload_n 3, 1) := by decide +kernel
theorem dL_isDone_296 : decode cL_isDone 296 = .ok (.iload 4, 2) := by decide +kernel
theorem dL_isDone_298 : decode cL_isDone 298 = .ok (.iconst 4, 1) := by decide +kernel
theorem dL_isDone_299 : decode cL_isDone 299 = .ok (.iadd, 1) := by decide +kernel
theorem dL_isDone_300 : decode cL_isDone 300 = .ok (.iconst 4, 1) := by decide +kernel
theorem dL_isDone_301 : decode cL_isDone 301 = .ok (.invokestatic 162, 3) := by decide +kernel
theorem dL_isDone_304 : decode cL_isDone 304 = .ok (.ifCond .ne 7, 3) := by decide +kernel
theorem dL_isDone_307 : decode cL_isDone 307 = .ok (.iconst 1, 1) := by decide +kernel
theorem dL_isDone_308 : decode cL_isDone 308 = .ok (.goto 4, 3) := by decide +kernel
theorem dL_isDone_311 : decode cL_isDone 311 = .ok (.iconst 0, 1) := by decide +kernel
theorem dL_isDone_312 : decode cL_isDone 312 = .ok (.istore 10, 2) := by decide +kernel
theorem dL_isDone_314 : decode cL_isDone 314 = .ok (.aload_n 1, 1) := by decide +kernel
theorem dL_isDone_315 : decode cL_isDone 315 = .ok (.iload 7, 2) := by decide +kernel
theorem dL_isDone_317 : decode cL_isDone 317 = .ok (.invokestatic 96, 3) := by decide +kernel
theorem dL_isDone_320 : decode cL_isDone 320 = .ok (.iconst 1, 1) := by decide +kernel
theorem dL_isDone_321 : decode cL_isDone 321 = .ok (.iadd, 1) := by decide +kernel
theorem dL_isDone_322 : decode cL_isDone 322 = .ok (.iload 10, 2) := by decide +kernel
theorem dL_isDone_324 : decode cL_isDone 324 = .ok (.ifCond .eq 7, 3) := by decide +kernel
theorem dL_isDone_327 : decode cL_isDone 327 = .ok (.iconst 0, 1) := by decide +kernel

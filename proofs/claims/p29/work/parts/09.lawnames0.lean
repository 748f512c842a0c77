theorem dL_cell_0 : decode cL_cell 0 = .ok (.ldc 7, 2) := by decide +kernel
theorem dL_cell_2 : decode cL_cell 2 = .ok (.iload_n 1, 1) := by decide +kernel
theorem dL_cell_3 : decode cL_cell 3 = .ok (.aload_n 0, 1) := by decide +kernel
theorem dL_cell_4 : decode cL_cell 4 = .ok (.arraylength, 1) := by decide +kernel
theorem dL_cell_5 : decode cL_cell 5 = .ok (.if_icmp .ge 9, 3) := by decide +kernel
theorem dL_cell_8 : decode cL_cell 8 = .ok (.aload_n 0, 1) := by decide +kernel
theorem dL_cell_9 : decode cL_cell 9 = .ok (.iload_n 1, 1) := by decide +kernel
theorem dL_cell_10 : decode cL_cell 10 = .ok (.iaload, 1) := by decide +kernel
theorem dL_cell_11 : decode cL_cell 11 = .ok (.goto 4, 3) := by decide +kernel
theorem dL_cell_14 : decode cL_cell 14 = .ok (.iconst 0, 1) := by decide +kernel
theorem dL_cell_15 : decode cL_cell 15 = .ok (.sipush 1009, 3) := by decide +kernel
theorem dL_cell_18 : decode cL_cell 18 = .ok (.iload_n 1, 1) := by decide +kernel
theorem dL_cell_19 : decode cL_cell 19 = .ok (.imul, 1) := by decide +kernel
theorem dL_cell_20 : decode cL_cell 20 = .ok (.iadd, 1) := by decide +kernel
theorem dL_cell_21 : decode cL_cell 21 = .ok (.imul, 1) := by decide +kernel
theorem dL_cell_22 : decode cL_cell 22 = .ok (.sipush 12345, 3) := by decide +kernel
theorem dL_cell_25 : decode cL_cell 25 = .ok (.iadd, 1) := by decide +kernel
theorem dL_cell_26 : decode cL_cell 26 = .ok (.istore_n 2, 1) := by decide +kernel
theorem dL_cell_27 : decode cL_cell 27 = .ok (.iload_n 2, 1) := by decide +kernel
theorem dL_cell_28 : decode cL_cell 28 = .ok (.iload_n 2, 1) := by decide +kernel
theorem dL_cell_29 : decode cL_cell 29 = .ok (.bipush 13, 2) := by decide +kernel
theorem dL_cell_31 : decode cL_cell 31 = .ok (.iushr, 1) := by decide +kernel
theorem dL_cell_32 : decode cL_cell 32 = .ok (.ixor, 1) := by decide +kernel
theorem dL_cell_33 : decode cL_cell 33 = .ok (.ldc 8, 2) := by decide +kernel
theorem dL_cell_35 : decode cL_cell 35 = .ok (.imul, 1) := by decide +kernel
theorem dL_cell_36 : decode cL_cell 36 = .ok (.istore_n 2, 1) := by decide +kernel
theorem dL_cell_37 : decode cL_cell 37 = .ok (.iload_n 2, 1) := by decide +kernel
theorem dL_cell_38 : decode cL_cell 38 = .ok (.iload_n 2, 1) := by decide +kernel
theorem dL_cell_39 : decode cL_cell 39 = .ok (.bipush 16, 2) := by decide +kernel
theorem dL_cell_41 : decode cL_cell 41 = .ok (.iushr, 1) := by decide +kernel
theorem dL_cell_42 : decode cL_cell 42 = .ok (.ixor, 1) := by decide +kernel
theorem dL_cell_43 : decode cL_cell 43 = .ok (.ireturn, 1) := by decide +kernel
set_option maxRecDepth 20000 in
theorem ggL_set_X7_set : GoodIn wsL_set wsX7_set := goodIn_ca (goodIn_ca (goodIn_ca (goodIn_r _ [9, 10, 11, 12, 13, 8, 14, 15, 16, 17, 18, 19, 20, 21, 22, 23, 24, 25, 26, 27, 28, 29, 30, 31, 32, 33, 34, 35, 36, 37, 38, 39, 40, 41, 42, 43, 44, 45, 46, 47, 48, 49, 50, 51, 52, 53, 54, 55, 56, 57, 58, 59, 60, 61, 62, 63, 64, 65, 66, 67, 68, 69, 70, 71, 72, 73, 74, 75, 76, 77, 78, 79, 80, 81, 82, 83, 84, 85, 86, 87, 88, 89, 90, 91, 92, 93, 94, 95, 96, 97, 98, 99, 100, 101, 102, 103, 104, 105, 106, 107, 108, 109, 110, 111, 112, 113, 114, 115, 116, 117, 118, 119, 120, 121, 122, 123, 124, 125, 126, 127, 128, 129, 130, 131, 132, 133, 134, 135, 136, 137, 138, 139, 140, 141, 142, 143, 144, 145, 146, 147, 148, 149, 150, 151, 152, 153, 154, 155, 156, 157, 158, 159, 160, 161, 162, 163, 164, 165, 166, 167, 168, 169, 170, 171, 172, 173, 174, 175, 176, 177, 178, 179, 180, 181, 182, 183, 184, 185, 186, 187, 188, 189, 190, 191, 192, 193, 194, 195, 196, 197, 198, 199, 200, 201, 202, 203, 204, 205, 206, 207, 208, 209, 210, 211, 212, 213, 214, 215, 216, 217, 218, 219, 220, 221, 222, 223, 224, 225, 226, 227, 228, 229, 230, 231, 232, 233, 234, 235, 236, 237, 238, 239, 240, 241, 242, 243, 244, 245, 246, 247, 248, 249, 250, 251, 252, 253, 254, 255, 256, 257, 258, 259, 260, 261, 262, 263, 264, 265, 266, 267, 268, 269, 270, 271, 272, 273, 274, 275, 276, 277, 278, 279, 280, 281, 282, 283, 284, 285, 286, 287, 288, 289, 290, 291, 292, 293, 294, 295, 296, 297, 298, 299, 300, 301, 302, 303, 304, 305, 306, 307, 308, 309, 310, 311] (by decide +kernel) (by decide +kernel)) (goodIn_sub (fun _ h => List.mem_cons_of_mem _ (List.mem_append_left _ (List.mem_append_left _ (List.mem_append_right _ h)))) (by decide +kernel))) (goodIn_sub (fun _ h => List.mem_cons_of_mem _ (List.mem_append_left _ (List.mem_append_right _ h))) (by decide +kernel))) (goodIn_sub (fun _ h => List.mem_cons_of_mem _ (List.mem_append_right _ h)) (by decide +kernel))
set_option maxRecDepth 20000 in
theorem gL_set_X7_set : GoodIn wsL_set (wsV RL 9 RX7 yX7_set wsX7_set) := goodIn_app (goodIn_of _ (by decide +kernel)) ggL_set_X7_set
theorem dL_set_0 : decode cL_set 0 = .ok (.aload_n 0, 1) := by decide +kernel
theorem dL_set_1 : decode cL_set 1 = .ok (.iload_n 1, 1) := by decide +kernel
theorem dL_set_2 : decode cL_set 2 = .ok (.iload_n 2, 1) := by decide +kernel
theorem dL_set_3 : decode cL_set 3 = .ok (.iload_n 3, 1) := by decide +kernel
theorem dL_set_4 : decode cL_set 4 = .ok (.invokevirtual 9, 3) := by decide +kernel
theorem dL_set_7 : decode cL_set 7 = .ok (.ireturn, 1) := by decide +kernel
theorem dL_set_8 : decode cL_set 8 = .ok (.astore 4, 2) := by decide +kernel
theorem dL_set_10 : decode cL_set 10 = .ok (.ldc 17, 2) := by decide +kernel
theorem dL_set_12 : decode cL_set 12 = .ok (.ireturn, 1) := by decide +kernel
theorem dL_set_13 : decode cL_set 13 = .ok (.astore 4, 2) := by decide +kernel
theorem dL_set_15 : decode cL_set 15 = .ok (.ldc 20, 2) := by decide +kernel
theorem dL_set_17 : decode cL_set 17 = .ok (.ireturn, 1) := by decide +kernel
set_option maxRecDepth 20000 in
theorem ggL_add_X7_add : GoodIn wsL_add wsX7_add := goodIn_ca (goodIn_ca (goodIn_ca (goodIn_r _ [9, 10, 11, 12, 13, 14, 8, 15, 16, 17, 18, 19, 20, 21, 22, 23, 24, 25, 26, 27, 28, 29, 30, 31, 32, 33, 34, 35, 36, 37, 38, 39, 40, 41, 42, 43, 44, 45, 46, 47, 48, 49, 50, 51, 52, 53, 54, 55, 56, 57, 58, 59, 60, 61, 62, 63, 64, 65, 66, 67, 68, 69, 70, 71, 72, 73, 74, 75, 76, 77, 78, 79, 80, 81, 82, 83, 84, 85, 86, 87, 88, 89, 90, 91, 92, 93, 94, 95, 96, 97, 98, 99, 100, 101, 102, 103, 104, 105, 106, 107, 108, 109, 110, 111, 112, 113, 114, 115, 116, 117, 118, 119, 120, 121, 122, 123, 124, 125, 126, 127, 128, 129, 130, 131, 132, 133, 134, 135, 136, 137, 138, 139, 140, 141, 142, 143, 144, 145, 146, 147, 148, 149, 150, 151, 152, 153, 154, 155, 156, 157, 158, 159, 160, 161, 162, 163, 164, 165, 166, 167, 168, 169, 170, 171, 172, 173, 174, 175, 176, 177, 178, 179, 180, 181, 182, 183, 184, 185, 186, 187, 188, 189, 190, 191, 192, 193, 194, 195, 196, 197, 198, 199, 200, 201, 202, 203, 204, 205, 206, 207, 208, 209, 210, 211, 212, 213, 214, 215, 216, 217, 218, 219, 220, 221, 222, 223, 224, 225, 226, 227, 228, 229, 230, 231, 232, 233, 234, 235, 236, 237, 238, 239, 240, 241, 242, 243, 244, 245, 246, 247, 248, 249, 250, 251, 252, 253, 254, 255, 256, 257, 258, 259, 260, 261, 262, 263, 264, 265, 266, 267, 268, 269, 270, 271, 272, 273, 274, 275, 276, 277, 278, 279, 280, 281, 282, 283, 284, 285, 286, 287, 288, 289, 290, 291, 292, 293, 294, 295, 296, 297, 298, 299, 300, 301, 302, 303, 304, 305, 306, 307, 308, 309, 310, 311] (by decide +kernel) (by decide +kernel)) (goodIn_sub (fun _ h => List.mem_cons_of_mem _ (List.mem_append_left _ (List.mem_append_left _ (List.mem_append_right _ h)))) (by decide +kernel))) (goodIn_sub (fun _ h => List.mem_cons_of_mem _ (List.mem_append_left _ (List.mem_append_right _ h))) (by decide +kernel))) (goodIn_sub (fun _ h => List.mem_cons_of_mem _ (List.mem_append_right _ h)) (by decide +kernel))
set_option maxRecDepth 20000 in
theorem gL_add_X7_add : GoodIn wsL_add (wsV RL 21 RX7 yX7_add wsX7_add) := goodIn_app (goodIn_of _ (by decide +kernel)) ggL_add_X7_add
theorem dL_add_0 : decode cL_add 0 = .ok (.aload_n 0, 1) := by decide +kernel
theorem dL_add_1 : decode cL_add 1 = .ok (.iload_n 1, 1) := by decide +kernel
theorem dL_add_2 : decode cL_add 2 = .ok (.iload_n 2, 1) := by decide +kernel
theorem dL_add_3 : decode cL_add 3 = .ok (.iload_n 3, 1) := by decide +kernel
theorem dL_add_4 : decode cL_add 4 = .ok (.invokevirtual 21, 3) := by decide +kernel
theorem dL_add_7 : decode cL_add 7 = .ok (.ireturn, 1) := by decide +kernel
theorem dL_add_8 : decode cL_add 8 = .ok (.astore 4, 2) := by decide +kernel
theorem dL_add_10 : decode cL_add 10 = .ok (.ldc 17, 2) := by decide +kernel
theorem dL_add_12 : decode cL_add 12 = .ok (.ireturn, 1) := by decide +kernel
theorem dL_add_13 : decode cL_add 13 = .ok (.astore 4, 2) := by decide +kernel
theorem dL_add_15 : decode cL_add 15 = .ok (.ldc 20, 2) := by decide +kernel
theorem dL_add_17 : decode cL_add 17 = .ok (.ireturn, 1) := by decide +kernel
set_option maxRecDepth 20000 in
theorem ggL_copyBase_X7_copyBase : GoodIn wsL_copyBase wsX7_copyBase := goodIn_ca (goodIn_ca (goodIn_ca (goodIn_r _ [9, 10, 11, 12, 13, 14, 8, 15, 16, 17, 18, 19, 20, 21, 22, 23, 24, 25, 26, 27, 28, 29, 30, 31, 32, 33, 34, 35, 36, 37, 38, 39, 40, 41, 42, 43, 44, 45, 46, 47, 48, 49, 50, 51, 52, 53, 54, 55, 56, 57, 58, 59, 60, 61, 62, 63, 64, 65, 66, 67, 68, 69, 70, 71, 72, 73, 74, 75, 76, 77, 78, 79, 80, 81, 82, 83, 84, 85, 86, 87, 88, 89, 90, 91, 92, 93, 94, 95, 96, 97, 98, 99, 100, 101, 102, 103, 104, 105, 106, 107, 108, 109, 110, 111, 112, 113, 114, 115, 116, 117, 118, 119, 120, 121, 122, 123, 124, 125, 126, 127, 128, 129, 130, 131, 132, 133, 134, 135, 136, 137, 138, 139, 140, 141, 142, 143, 144, 145, 146, 147, 148, 149, 150, 151, 152, 153, 154, 155, 156, 157, 158, 159, 160, 161, 162, 163, 164, 165, 166, 167, 168, 169, 170, 171, 172, 173, 174, 175, 176, 177, 178, 179, 180, 181, 182, 183, 184, 185, 186, 187, 188, 189, 190, 191, 192, 193, 194, 195, 196, 197, 198, 199, 200, 201, 202, 203, 204, 205, 206, 207, 208, 209, 210, 211, 212, 213, 214, 215, 216, 217, 218, 219, 220, 221, 222, 223, 224, 225, 226, 227, 228, 229, 230, 231, 232, 233, 234, 235, 236, 237, 238, 239, 240, 241, 242, 243, 244, 245, 246, 247, 248, 249, 250, 251, 252, 253, 254, 255, 256, 257, 258, 259, 260, 261, 262, 263, 264, 265, 266, 267, 268, 269, 270, 271, 272, 273, 274, 275, 276, 277, 278, 279, 280, 281, 282, 283, 284, 285, 286, 287, 288, 289, 290, 291, 292, 293, 294, 295, 296, 297, 298, 299, 300, 301, 302, 303, 304, 305, 306, 307, 308, 309, 310, 311] (by decide +kernel) (by decide +kernel)) (goodIn_sub (fun _ h => List.mem_cons_of_mem _ (List.mem_append_left _ (List.mem_append_left _ (List.mem_append_right _ h)))) (by decide +kernel))) (goodIn_sub (fun _ h => List.mem_cons_of_mem _ (List.mem_append_left _ (List.mem_append_right _ h))) (by decide +kernel))) (goodIn_sub (fun _ h => List.mem_cons_of_mem _ (List.mem_append_right _ h)) (by decide +kernel))
set_option maxRecDepth 20000 in
theorem gL_copyBase_X7_copyBase : GoodIn wsL_copyBase (wsV RL 24 RX7 yX7_copyBase wsX7_copyBase) := goodIn_app (goodIn_of _ (by decide +kernel)) ggL_copyBase_X7_copyBase
theorem dL_copyBase_0 : decode cL_copyBase 0 = .ok (.aload_n 0, 1) := by decide +kernel
theorem dL_copyBase_1 : decode cL_copyBase 1 = .ok (.iload_n 1, 1) := by decide +kernel
theorem dL_copyBase_2 : decode cL_copyBase 2 = .ok (.iload_n 2, 1) := by decide +kernel
theorem dL_copyBase_3 : decode cL_copyBase 3 = .ok (.invokevirtual 24, 3) := by decide +kernel
theorem dL_copyBase_6 : decode cL_copyBase 6 = .ok (.ireturn, 1) := by decide +kernel
theorem dL_copyBase_7 : decode cL_copyBase 7 = .ok (.astore_n 3, 1) := by decide +kernel
theorem dL_copyBase_8 : decode cL_copyBase 8 = .ok (.ldc 17, 2) := by decide +kernel
theorem dL_copyBase_10 : decode cL_copyBase 10 = .ok (.ireturn, 1) := by decide +kernel
theorem dL_copyBase_11 : decode cL_copyBase 11 = .ok (.astore_n 3, 1) := by decide +kernel
theorem dL_copyBase_12 : decode cL_copyBase 12 = .ok (.ldc 20, 2) := by decide +kernel
theorem dL_copyBase_14 : decode cL_copyBase 14 = .ok (.ireturn, 1) := by decide +kernel
set_option maxRecDepth 20000 in
theorem ggL_cell__X7_cell : GoodIn wsL_cell_ wsX7_cell := goodIn_ca (goodIn_ca (goodIn_r _ [7, 8, 9, 10, 6, 11, 12, 13, 14, 15, 16, 17, 18, 19, 20, 21, 22, 23, 24, 25, 26, 27, 28, 29, 30, 31, 32, 33, 34, 35, 36, 37, 38, 39, 40, 41, 42, 43] (by decide +kernel) (by decide +kernel)) (goodIn_sub (fun _ h => List.mem_cons_of_mem _ (List.mem_append_left _ (List.mem_append_right _ h))) (by decide +kernel))) (goodIn_sub (fun _ h => List.mem_cons_of_mem _ (List.mem_append_right _ h)) (by decide +kernel))
set_option maxRecDepth 20000 in
theorem gL_cell__X7_cell : GoodIn wsL_cell_ (wsV RL 30 RX7 yX7_cell wsX7_cell) := goodIn_app (goodIn_of _ (by decide +kernel)) ggL_cell__X7_cell
theorem dL_cell__0 : decode cL_cell_ 0 = .ok (.aload_n 0, 1) := by decide +kernel
theorem dL_cell__1 : decode cL_cell_ 1 = .ok (.iload_n 1, 1) := by decide +kernel
theorem dL_cell__2 : decode cL_cell_ 2 = .ok (.iload_n 2, 1) := by decide +kernel
theorem dL_cell__3 : decode cL_cell_ 3 = .ok (.invokevirtual 30, 3) := by decide +kernel
theorem dL_cell__6 : decode cL_cell_ 6 = .ok (.ireturn, 1) := by decide +kernel
theorem dL_cell__7 : decode cL_cell_ 7 = .ok (.astore_n 3, 1) := by decide +kernel
theorem dL_cell__8 : decode cL_cell_ 8 = .ok (.ldc 17, 2) := by decide +kernel
theorem dL_cell__10 : decode cL_cell_ 10 = .ok (.ireturn, 1) := by decide +kernel
set_option maxRecDepth 20000 in
theorem ggL_cellByAudit_X7_cellByAudit : GoodIn wsL_cellByAudit wsX7_cellByAudit := goodIn_ca (goodIn_ca (goodIn_r _ [7, 8, 9, 10, 6, 11, 12, 13, 14, 15, 16, 17, 18, 19, 20, 21, 22, 23, 24, 25, 26, 27, 28, 29, 30, 31, 32, 33, 34, 35, 36, 37, 38, 39, 40, 41, 42, 43, 44, 45] (by decide +kernel) (by decide +kernel)) (goodIn_sub (fun _ h => List.mem_cons_of_mem _ (List.mem_append_left _ (List.mem_append_right _ h))) (by decide +kernel))) (goodIn_sub (fun _ h => List.mem_cons_of_mem _ (List.mem_append_right _ h)) (by decide +kernel))
set_option maxRecDepth 20000 in
theorem gL_cellByAudit_X7_cellByAudit : GoodIn wsL_cellByAudit (wsV RL 33 RX7 yX7_cellByAudit wsX7_cellByAudit) := goodIn_app (goodIn_of _ (by decide +kernel)) ggL_cellByAudit_X7_cellByAudit
theorem dL_cellByAudit_0 : decode cL_cellByAudit 0 = .ok (.aload_n 0, 1) := by decide +kernel
theorem dL_cellByAudit_1 : decode cL_cellByAudit 1 = .ok (.iload_n 1, 1) := by decide +kernel
theorem dL_cellByAudit_2 : decode cL_cellByAudit 2 = .ok (.iload_n 2, 1) := by decide +kernel
theorem dL_cellByAudit_3 : decode cL_cellByAudit 3 = .ok (.invokevirtual 33, 3) := by decide +kernel
theorem dL_cellByAudit_6 : decode cL_cellByAudit 6 = .ok (.ireturn, 1) := by decide +kernel
theorem dL_cellByAudit_7 : decode cL_cellByAudit 7 = .ok (.astore_n 3, 1) := by decide +kernel
theorem dL_cellByAudit_8 : decode cL_cellByAudit 8 = .ok (.ldc 17, 2) := by decide +kernel
theorem dL_cellByAudit_10 : decode cL_cellByAudit 10 = .ok (.ireturn, 1) := by decide +kernel
set_option maxRecDepth 20000 in
theorem ggL_addMacro_X7_addMacro : GoodIn wsL_addMacro wsX7_addMacro := goodIn_ca (goodIn_r _ [7, 8, 9, 10, 11, 12, 13, 14, 15, 16, 17, 18, 19, 20, 21, 22, 23, 24, 25, 26, 27, 28, 29, 30, 31, 32, 33, 34, 35, 36, 37, 38, 39, 40, 41, 42, 43, 44, 45, 46, 47, 48, 49, 50, 51, 52, 53, 54, 55, 56, 57, 58, 59, 60, 61, 62, 63, 64, 65, 66, 67, 68, 69, 70, 71, 72, 73, 74, 75, 76, 77, 78, 79, 80, 81, 82, 83, 84, 85, 86, 87, 88, 89, 90, 91, 92, 93, 94, 95, 96, 97, 98, 99, 100, 101, 102, 103, 104, 105, 106, 107, 108, 109, 110, 111, 112, 113, 114, 115, 116] (by decide +kernel) (by decide +kernel)) (goodIn_sub (fun _ h => List.mem_cons_of_mem _ (List.mem_append_right _ h)) (by decide +kernel))
set_option maxRecDepth 20000 in
theorem gL_addMacro_X7_addMacro : GoodIn wsL_addMacro (wsV RL 36 RX7 yX7_addMacro wsX7_addMacro) := goodIn_app (goodIn_of _ (by decide +kernel)) ggL_addMacro_X7_addMacro
theorem dL_addMacro_0 : decode cL_addMacro 0 = .ok (.aload_n 0, 1) := by decide +kernel
theorem dL_addMacro_1 : decode cL_addMacro 1 = .ok (.invokevirtual 36, 3) := by decide +kernel
theorem dL_addMacro_4 : decode cL_addMacro 4 = .ok (.ireturn, 1) := by decide +kernel
theorem dL_addMacro_5 : decode cL_addMacro 5 = .ok (.astore_n 1, 1) := by decide +kernel
theorem dL_addMacro_6 : decode cL_addMacro 6 = .ok (.ldc 17, 2) := by decide +kernel
theorem dL_addMacro_8 : decode cL_addMacro 8 = .ok (.ireturn, 1) := by decide +kernel
set_option maxRecDepth 20000 in
theorem ggL_record_X7_record : GoodIn wsL_record wsX7_record := goodIn_ca (goodIn_ca (goodIn_r _ [9, 10, 11, 12, 13, 14, 15, 16, 17, 8, 18, 19, 20, 21, 22, 23, 24, 25, 26, 27, 28, 29, 30, 31, 32, 33, 34, 35, 36, 37, 38, 39, 40, 41, 42, 43, 44, 45, 46, 47, 48, 49, 50, 51, 52, 53, 54, 55, 56, 57, 58, 59, 60, 61, 62, 63, 64, 65, 66, 67, 68, 69, 70, 71, 72, 73, 74, 75, 76, 77, 78, 79, 80, 81, 82, 83, 84, 85, 86, 87, 88, 89, 90, 91] (by decide +kernel) (by decide +kernel)) (goodIn_sub (fun _ h => List.mem_cons_of_mem _ (List.mem_append_left _ (List.mem_append_right _ h))) (by decide +kernel))) (goodIn_sub (fun _ h => List.mem_cons_of_mem _ (List.mem_append_right _ h)) (by decide +kernel))
set_option maxRecDepth 20000 in
theorem gL_record_X7_record : GoodIn wsL_record (wsV RL 40 RX7 yX7_record wsX7_record) := goodIn_app (goodIn_of _ (by decide +kernel)) ggL_record_X7_record
theorem dL_record_0 : decode cL_record 0 = .ok (.aload_n 0, 1) := by decide +kernel
theorem dL_record_1 : decode cL_record 1 = .ok (.iload_n 1, 1) := by decide +kernel
theorem dL_record_2 : decode cL_record 2 = .ok (.iload_n 2, 1) := by decide +kernel
theorem dL_record_3 : decode cL_record 3 = .ok (.iload_n 3, 1) := by decide +kernel
theorem dL_record_4 : decode cL_record 4 = .ok (.invokevirtual 40, 3) := by decide +kernel
theorem dL_record_7 : decode cL_record 7 = .ok (.ireturn, 1) := by decide +kernel
theorem dL_record_8 : decode cL_record 8 = .ok (.astore 4, 2) := by decide +kernel
theorem dL_record_10 : decode cL_record 10 = .ok (.ldc 17, 2) := by decide +kernel
theorem dL_record_12 : decode cL_record 12 = .ok (.ireturn, 1) := by decide +kernel
theorem dL_record_13 : decode cL_record 13 = .ok (.astore 4, 2) := by decide +kernel
theorem dL_record_15 : decode cL_record 15 = .ok (.ldc 20, 2) := by decide +kernel
theorem dL_record_17 : decode cL_record 17 = .ok (.ireturn, 1) := by decide +kernel
set_option maxRecDepth 20000 in
theorem ggL_stop_X7_stop : GoodIn wsL_stop wsX7_stop := goodIn_ca (goodIn_r _ [7, 8, 9, 10, 11, 12, 13, 6, 14, 15, 16, 17, 18, 19, 20, 21, 22, 23, 24, 25, 26, 27, 28, 29, 30, 31, 32, 33, 34, 35, 36, 37, 38, 39, 40, 41, 42, 43, 44, 45, 46, 47, 48, 49, 50, 51, 52, 53, 54, 55, 56, 57, 58, 59, 60, 61, 62, 63, 64, 65] (by decide +kernel) (by decide +kernel)) (goodIn_sub (fun _ h => List.mem_cons_of_mem _ (List.mem_append_right _ h)) (by decide +kernel))
set_option maxRecDepth 20000 in
theorem gL_stop_X7_stop : GoodIn wsL_stop (wsV RL 43 RX7 yX7_stop wsX7_stop) := goodIn_app (goodIn_of _ (by decide +kernel)) ggL_stop_X7_stop
theorem dL_stop_0 : decode cL_stop 0 = .ok (.aload_n 0, 1) := by decide +kernel
theorem dL_stop_1 : decode cL_stop 1 = .ok (.invokevirtual 43, 3) := by decide +kernel
theorem dL_stop_4 : decode cL_stop 4 = .ok (.ireturn, 1) := by decide +kernel
theorem dL_stop_5 : decode cL_stop 5 = .ok (.astore_n 1, 1) := by decide +kernel
theorem dL_stop_6 : decode cL_stop 6 = .ok (.ldc 17, 2) := by decide +kernel
theorem dL_stop_8 : decode cL_stop 8 = .ok (.ireturn, 1) := by decide +kernel
set_option maxRecDepth 20000 in
theorem ggL_grant_X7_grant : GoodIn wsL_grant wsX7_grant := goodIn_ca (goodIn_ca (goodIn_ca (goodIn_r _ [11, 12, 13, 14, 15, 16, 17, 18, 19, 20, 21, 10, 22, 23, 24, 25, 26, 27, 28, 29, 30, 31, 32, 33, 34, 35, 36, 37, 38, 39, 40, 41, 42, 43, 44, 45, 46, 47, 48, 49, 50, 51, 52, 53, 54, 55, 56, 57, 58, 59, 60, 61, 62, 63, 64, 65, 66, 67, 68, 69, 70, 71, 72, 73, 74, 75, 76, 77, 78, 79, 80, 81, 82, 83, 84, 85, 86, 87, 88, 89, 90, 91, 92, 93, 94, 95, 96, 97, 98, 99, 100, 101, 102, 103, 104, 105, 106, 107, 108, 109, 110, 111, 112, 113, 114, 115, 116, 117, 118, 119, 120, 121, 122, 123, 124, 125, 126, 127, 128, 129, 130, 131, 132, 133, 134, 135, 136, 137, 138, 139, 140, 141, 142, 143, 144, 145, 146, 147, 148, 149, 150, 151, 152, 153, 154, 155, 156, 157, 158, 159] (by decide +kernel) (by decide +kernel)) (goodIn_sub (fun _ h => List.mem_cons_of_mem _ (List.mem_append_left _ (List.mem_append_left _ (List.mem_append_right _ h)))) (by decide +kernel))) (goodIn_sub (fun _ h => List.mem_cons_of_mem _ (List.mem_append_left _ (List.mem_append_right _ h))) (by decide +kernel))) (goodIn_sub (fun _ h => List.mem_cons_of_mem _ (List.mem_append_right _ h)) (by decide +kernel))
set_option maxRecDepth 20000 in
theorem gL_grant_X7_grant : GoodIn wsL_grant (wsV RL 46 RX7 yX7_grant wsX7_grant) := goodIn_app (goodIn_of _ (by decide +kernel)) ggL_grant_X7_grant
theorem dL_grant_0 : decode cL_grant 0 = .ok (.aload_n 0, 1) := by decide +kernel
theorem dL_grant_1 : decode cL_grant 1 = .ok (.iload_n 1, 1) := by decide +kernel
theorem dL_grant_2 : decode cL_grant 2 = .ok (.iload_n 2, 1) := by decide +kernel
theorem dL_grant_3 : decode cL_grant 3 = .ok (.iload_n 3, 1) := by decide +kernel
theorem dL_grant_4 : decode cL_grant 4 = .ok (.iload 4, 2) := by decide +kernel
theorem dL_grant_6 : decode cL_grant 6 = .ok (.iload 5, 2) := by decide +kernel
theorem dL_grant_8 : decode cL_grant 8 = .ok (.invokevirtual 46, 3) := by decide +kernel
theorem dL_grant_11 : decode cL_grant 11 = .ok (.ireturn, 1) := by decide +kernel
theorem dL_grant_12 : decode cL_grant 12 = .ok (.astore 6, 2) := by decide +kernel
theorem dL_grant_14 : decode cL_grant 14 = .ok (.ldc 17, 2) := by decide +kernel
theorem dL_grant_16 : decode cL_grant 16 = .ok (.ireturn, 1) := by decide +kernel
theorem dL_grant_17 : decode cL_grant 17 = .ok (.astore 6, 2) := by decide +kernel
theorem dL_grant_19 : decode cL_grant 19 = .ok (.ldc 20, 2) := by decide +kernel
theorem dL_grant_21 : decode cL_grant 21 = .ok (.ireturn, 1) := by decide +kernel
theorem dL_grant_22 : decode cL_grant 22 = .ok (.astore 6, 2) := by decide +kernel
theorem dL_grant_24 : decode cL_grant 24 = .ok (.ldc 50, 2) := by decide +kernel
theorem dL_grant_26 : decode cL_grant 26 = .ok (.ireturn, 1) := by decide +kernel
set_option maxRecDepth 20000 in
theorem ggL_takeGrants_X7_takeGrants : GoodIn wsL_takeGrants wsX7_takeGrants := goodIn_ca (goodIn_r _ [7, 8, 9, 10, 6, 11, 12, 13, 14, 15, 16, 17, 18, 19, 20, 21, 22, 23, 24, 25, 26, 27, 28, 29, 30, 31, 32, 33, 34, 35, 36, 37, 38, 39, 40, 41, 42, 43, 44, 45, 46, 47, 48, 49, 50, 51, 52, 53, 54, 55, 56, 57, 58, 59, 60, 61, 62, 63, 64, 65, 66, 67, 68, 69, 70, 71, 72, 73, 74, 75, 76, 77, 78] (by decide +kernel) (by decide +kernel)) (goodIn_sub (fun _ h => List.mem_cons_of_mem _ (List.mem_append_right _ h)) (by decide +kernel))
set_option maxRecDepth 20000 in
theorem gL_takeGrants_X7_takeGrants : GoodIn wsL_takeGrants (wsV RL 51 RX7 yX7_takeGrants wsX7_takeGrants) := goodIn_app (goodIn_of _ (by decide +kernel)) ggL_takeGrants_X7_takeGrants
theorem dL_takeGrants_0 : decode cL_takeGrants 0 = .ok (.aload_n 0, 1) := by decide +kernel
theorem dL_takeGrants_1 : decode cL_takeGrants 1 = .ok (.iload_n 1, 1) := by decide +kernel
theorem dL_takeGrants_2 : decode cL_takeGrants 2 = .ok (.invokevirtual 51, 3) := by decide +kernel
theorem dL_takeGrants_5 : decode cL_takeGrants 5 = .ok (.ireturn, 1) := by decide +kernel
theorem dL_takeGrants_6 : decode cL_takeGrants 6 = .ok (.astore_n 2, 1) := by decide +kernel
theorem dL_takeGrants_7 : decode cL_takeGrants 7 = .ok (.ldc 17, 2) := by decide +kernel
theorem dL_takeGrants_9 : decode cL_takeGrants 9 = .ok (.ireturn, 1) := by decide +kernel
set_option maxRecDepth 20000 in
theorem ggL_granted_X7_granted : GoodIn wsL_granted wsX7_granted := goodIn_ca (goodIn_r _ [7, 8, 9, 10, 11, 6, 12, 13, 14, 15, 16, 17, 18, 19, 20, 21, 22, 23, 24, 25, 26, 27, 28, 29, 30, 31, 32, 33, 34, 35, 36, 37, 38, 39, 40, 41, 42, 43, 44, 45, 46, 47, 48, 49, 50, 51, 52, 53, 54, 55, 56, 57, 58, 59, 60, 61, 62, 63, 64, 65, 66, 67, 68, 69, 70, 71, 72, 73, 74, 75, 76, 77, 78, 79, 80, 81] (by decide +kernel) (by decide +kernel)) (goodIn_sub (fun _ h => List.mem_cons_of_mem _ (List.mem_append_right _ h)) (by decide +kernel))
set_option maxRecDepth 20000 in
theorem gL_granted_X7_granted : GoodIn wsL_granted (wsV RL 55 RX7 yX7_granted wsX7_granted) := goodIn_app (goodIn_of _ (by decide +kernel)) ggL_granted_X7_granted
theorem dL_granted_0 : decode cL_granted 0 = .ok (.aload_n 0, 1) := by decide +kernel
theorem dL_granted_1 : decode cL_granted 1 = .ok (.iload_n 1, 1) := by decide +kernel
theorem dL_granted_2 : decode cL_granted 2 = .ok (.iload_n 2, 1) := by decide +kernel
theorem dL_granted_3 : decode cL_granted 3 = .ok (.invokevirtual 55, 3) := by decide +kernel
theorem dL_granted_6 : decode cL_granted 6 = .ok (.ireturn, 1) := by decide +kernel
theorem dL_granted_7 : decode cL_granted 7 = .ok (.astore_n 3, 1) := by decide +kernel
theorem dL_granted_8 : decode cL_granted 8 = .ok (.ldc 17, 2) := by decide +kernel
theorem dL_granted_10 : decode cL_granted 10 = .ok (.ireturn, 1) := by decide +kernel
set_option maxRecDepth 20000 in
theorem ggL_reason_X7_reason : GoodIn wsL_reason wsX7_reason := goodIn_ca (goodIn_ca (goodIn_r _ [7, 8, 9, 10, 6, 11, 12, 13, 14, 15, 16, 17, 18, 19, 20, 21, 22, 23, 24, 25, 26, 27, 28, 29, 30, 31, 32, 33, 34, 35, 36, 37, 38, 39, 40, 41, 42, 43, 44, 45, 46, 47, 48, 49, 50, 51, 52, 53, 54, 55, 56, 57, 58, 59, 60, 61, 62, 63, 64, 65, 66, 67, 68, 69, 70, 71, 72, 73, 74, 75, 76, 77, 78, 79, 80, 81, 82, 83, 84, 85, 86, 87, 88, 89, 90, 91, 92, 93, 94, 95, 96, 97, 98, 99, 100, 101, 102, 103, 104, 105, 106, 107, 108, 109, 110, 111, 112, 113, 114, 115, 116, 117, 118, 119, 120, 121, 122, 123, 124, 125, 126, 127, 128, 129, 130, 131, 132, 133, 134, 135, 136, 137, 138, 139, 140, 141, 142, 143, 144, 145] (by decide +kernel) (by decide +kernel)) (goodIn_sub (fun _ h => List.mem_cons_of_mem _ (List.mem_append_left _ (List.mem_append_right _ h))) (by decide +kernel))) (goodIn_sub (fun _ h => List.mem_cons_of_mem _ (List.mem_append_right _ h)) (by decide +kernel))
set_option maxRecDepth 20000 in
theorem gL_reason_X7_reason : GoodIn wsL_reason (wsV RL 58 RX7 yX7_reason wsX7_reason) := goodIn_app (goodIn_of _ (by decide +kernel)) ggL_reason_X7_reason
theorem dL_reason_0 : decode cL_reason 0 = .ok (.aload_n 0, 1) := by decide +kernel
theorem dL_reason_1 : decode cL_reason 1 = .ok (.iload_n 1, 1) := by decide +kernel
theorem dL_reason_2 : decode cL_reason 2 = .ok (.iload_n 2, 1) := by decide +kernel
theorem dL_reason_3 : decode cL_reason 3 = .ok (.iload_n 3, 1) := by decide +kernel
theorem dL_reason_4 : decode cL_reason 4 = .ok (.invokevirtual 58, 3) := by decide +kernel
theorem dL_reason_7 : decode cL_reason 7 = .ok (.ireturn, 1) := by decide +kernel
theorem dL_reason_8 : decode cL_reason 8 = .ok (.astore 4, 2) := by decide +kernel
theorem dL_reason_10 : decode cL_reason 10 = .ok (.ldc 17, 2) := by decide +kernel
theorem dL_reason_12 : decode cL_reason 12 = .ok (.ireturn, 1) := by decide +kernel
set_option maxRecDepth 20000 in
theorem ggL_run_X7_run : GoodIn wsL_run wsX7_run := goodIn_ca (goodIn_ca (goodIn_ca (goodIn_ca (goodIn_r _ [11, 12, 13, 14, 15, 16, 17, 18, 19, 10, 20, 21, 22, 23, 24, 25, 26, 27, 28, 29, 30, 31, 32, 33, 34, 35, 36, 37, 38, 39, 40, 41, 42, 43, 44, 45, 46, 47, 48, 49, 50, 51, 52, 53, 54, 55, 56, 57, 58, 59, 60, 61, 62, 63, 64, 65, 66, 67, 68, 69, 70, 71, 72, 73, 74, 75, 76, 77, 78, 79, 80, 81, 82, 83, 84, 85, 86, 87, 88, 89, 90, 91, 92, 93, 94, 95, 96, 97, 98, 99, 100, 101, 102, 103, 104, 105, 106, 107, 108, 109, 110, 111, 112, 113, 114, 115, 116, 117, 118, 119, 120, 121, 122, 123, 124, 125, 126, 127, 128, 129, 130, 131, 132, 133, 134, 135, 136, 137, 138, 139, 140, 141, 142, 143, 144, 145, 146, 147, 148, 149, 150, 151, 152, 153, 154, 155, 156, 157, 158, 159, 160, 161, 162, 163, 164, 165, 166, 167, 168, 169, 170, 171, 172, 173, 174, 175, 176, 177, 178, 179, 180, 181, 182, 183, 184, 185, 186, 187, 188, 189, 190, 191, 192, 193, 194, 195, 196, 197, 198, 199, 200, 201, 202, 203, 204, 205, 206, 207, 208, 209, 210, 211, 212, 213, 214, 215, 216, 217, 218, 219, 220, 221, 222, 223, 224, 225, 226, 227, 228, 229, 230, 231, 232, 233, 234, 235, 236, 237, 238, 239, 240, 241, 242, 243, 244, 245, 246, 247, 248, 249, 250, 251, 252, 253, 254, 255] (by decide +kernel) (by decide +kernel)) (goodIn_sub (fun _ h => List.mem_cons_of_mem _ (List.mem_append_left _ (List.mem_append_left _ (List.mem_append_left _ (List.mem_append_right _ h))))) (by decide +kernel))) (goodIn_sub (fun _ h => List.mem_cons_of_mem _ (List.mem_append_left _ (List.mem_append_left _ (List.mem_append_right _ h)))) (by decide +kernel))) (goodIn_sub (fun _ h => List.mem_cons_of_mem _ (List.mem_append_left _ (List.mem_append_right _ h))) (by decide +kernel))) (goodIn_sub (fun _ h => List.mem_cons_of_mem _ (List.mem_append_right _ h)) (by decide +kernel))
set_option maxRecDepth 20000 in
theorem gL_run_X7_run : GoodIn wsL_run (wsV RL 62 RX7 yX7_run wsX7_run) := goodIn_app (goodIn_of _ (by decide +kernel)) ggL_run_X7_run
theorem dL_run_0 : decode cL_run 0 = .ok (.aload_n 0, 1) := by decide +kernel
theorem dL_run_1 : decode cL_run 1 = .ok (.iload_n 1, 1) := by decide +kernel
theorem dL_run_2 : decode cL_run 2 = .ok (.iload_n 2, 1) := by decide +kernel
theorem dL_run_3 : decode cL_run 3 = .ok (.iload_n 3, 1) := by decide +kernel
theorem dL_run_4 : decode cL_run 4 = .ok (.invokevirtual 62, 3) := by decide +kernel
theorem dL_run_7 : decode cL_run 7 = .ok (.ireturn, 1) := by decide +kernel
theorem dL_run_8 : decode cL_run 8 = .ok (.astore 4, 2) := by decide +kernel
theorem dL_run_10 : decode cL_run 10 = .ok (.ldc 17, 2) := by decide +kernel
theorem dL_run_12 : decode cL_run 12 = .ok (.ireturn, 1) := by decide +kernel
theorem dL_run_13 : decode cL_run 13 = .ok (.astore 4, 2) := by decide +kernel
theorem dL_run_15 : decode cL_run 15 = .ok (.ldc 20, 2) := by decide +kernel
theorem dL_run_17 : decode cL_run 17 = .ok (.ireturn, 1) := by decide +kernel
theorem dL_run_18 : decode cL_run 18 = .ok (.astore 4, 2) := by decide +kernel
theorem dL_run_20 : decode cL_run 20 = .ok (.ldc 50, 2) := by decide +kernel
theorem dL_run_22 : decode cL_run 22 = .ok (.ireturn, 1) := by decide +kernel
set_option maxRecDepth 20000 in
theorem ggL_addRule_X7_addRule : GoodIn wsL_addRule wsX7_addRule := goodIn_ca (goodIn_ca (goodIn_ca (goodIn_r _ [11, 12, 13, 14, 15, 16, 17, 18, 19, 20, 21, 22, 23, 24, 10, 25, 26, 27, 28, 29, 30, 31, 32, 33, 34, 35, 36, 37, 38, 39, 40, 41, 42, 43, 44, 45, 46, 47, 48, 49, 50, 51, 52, 53, 54, 55, 56, 57, 58, 59, 60, 61, 62, 63, 64, 65, 66, 67, 68, 69, 70, 71, 72, 73, 74, 75, 76, 77, 78, 79, 80, 81, 82, 83, 84, 85, 86, 87, 88, 89, 90, 91, 92, 93, 94, 95, 96, 97, 98, 99, 100, 101, 102, 103, 104, 105, 106, 107, 108, 109, 110, 111, 112, 113, 114, 115, 116, 117, 118, 119, 120, 121, 122, 123, 124, 125, 126, 127, 128, 129, 130, 131, 132, 133, 134, 135, 136, 137, 138, 139, 140, 141, 142, 143, 144, 145, 146, 147, 148, 149, 150, 151, 152, 153, 154, 155, 156, 157, 158, 159, 160, 161, 162] (by decide +kernel) (by decide +kernel)) (goodIn_sub (fun _ h => List.mem_cons_of_mem _ (List.mem_append_left _ (List.mem_append_left _ (List.mem_append_right _ h)))) (by decide +kernel))) (goodIn_sub (fun _ h => List.mem_cons_of_mem _ (List.mem_append_left _ (List.mem_append_right _ h))) (by decide +kernel))) (goodIn_sub (fun _ h => List.mem_cons_of_mem _ (List.mem_append_right _ h)) (by decide +kernel))
set_option maxRecDepth 20000 in
theorem gL_addRule_X7_addRule : GoodIn wsL_addRule (wsV RL 67 RX7 yX7_addRule wsX7_addRule) := goodIn_app (goodIn_of _ (by decide +kernel)) ggL_addRule_X7_addRule
theorem dL_addRule_0 : decode cL_addRule 0 = .ok (.aload_n 0, 1) := by decide +kernel
theorem dL_addRule_1 : decode cL_addRule 1 = .ok (.iload_n 1, 1) := by decide +kernel
theorem dL_addRule_2 : decode cL_addRule 2 = .ok (.iload_n 2, 1) := by decide +kernel
theorem dL_addRule_3 : decode cL_addRule 3 = .ok (.iload_n 3, 1) := by decide +kernel
theorem dL_addRule_4 : decode cL_addRule 4 = .ok (.iload 4, 2) := by decide +kernel
theorem dL_addRule_6 : decode cL_addRule 6 = .ok (.iload 5, 2) := by decide +kernel
theorem dL_addRule_8 : decode cL_addRule 8 = .ok (.iload 6, 2) := by decide +kernel
theorem dL_addRule_10 : decode cL_addRule 10 = .ok (.invokevirtual 67, 3) := by decide +kernel
theorem dL_addRule_13 : decode cL_addRule 13 = .ok (.ireturn, 1) := by decide +kernel
theorem dL_addRule_14 : decode cL_addRule 14 = .ok (.astore 7, 2) := by decide +kernel
theorem dL_addRule_16 : decode cL_addRule 16 = .ok (.ldc 17, 2) := by decide +kernel
theorem dL_addRule_18 : decode cL_addRule 18 = .ok (.ireturn, 1) := by decide +kernel
theorem dL_addRule_19 : decode cL_addRule 19 = .ok (.astore 7, 2) := by decide +kernel
theorem dL_addRule_21 : decode cL_addRule 21 = .ok (.ldc 20, 2) := by decide +kernel
theorem dL_addRule_23 : decode cL_addRule 23 = .ok (.ireturn, 1) := by decide +kernel
theorem dL_addRule_24 : decode cL_addRule 24 = .ok (.astore 7, 2) := by decide +kernel
theorem dL_addRule_26 : decode cL_addRule 26 = .ok (.ldc 50, 2) := by decide +kernel
theorem dL_addRule_28 : decode cL_addRule 28 = .ok (.ireturn, 1) := by decide +kernel
set_option maxRecDepth 20000 in
theorem ggL_setRank_X7_setRank : GoodIn wsL_setRank wsX7_setRank := goodIn_ca (goodIn_ca (goodIn_r _ [9, 10, 11, 12, 13, 14, 15, 16, 8, 17, 18, 19, 20, 21, 22, 23, 24, 25, 26, 27, 28, 29, 30, 31, 32, 33, 34, 35, 36, 37, 38, 39, 40, 41, 42, 43, 44, 45, 46, 47, 48, 49, 50, 51, 52, 53, 54, 55, 56, 57, 58, 59, 60, 61, 62, 63, 64] (by decide +kernel) (by decide +kernel)) (goodIn_sub (fun _ h => List.mem_cons_of_mem _ (List.mem_append_left _ (List.mem_append_right _ h))) (by decide +kernel))) (goodIn_sub (fun _ h => List.mem_cons_of_mem _ (List.mem_append_right _ h)) (by decide +kernel))
set_option maxRecDepth 20000 in
theorem gL_setRank_X7_setRank : GoodIn wsL_setRank (wsV RL 71 RX7 yX7_setRank wsX7_setRank) := goodIn_app (goodIn_of _ (by decide +kernel)) ggL_setRank_X7_setRank
theorem dL_setRank_0 : decode cL_setRank 0 = .ok (.aload_n 0, 1) := by decide +kernel
theorem dL_setRank_1 : decode cL_setRank 1 = .ok (.iload_n 1, 1) := by decide +kernel
theorem dL_setRank_2 : decode cL_setRank 2 = .ok (.iload_n 2, 1) := by decide +kernel
theorem dL_setRank_3 : decode cL_setRank 3 = .ok (.invokevirtual 71, 3) := by decide +kernel
theorem dL_setRank_6 : decode cL_setRank 6 = .ok (.ireturn, 1) := by decide +kernel
theorem dL_setRank_7 : decode cL_setRank 7 = .ok (.astore_n 3, 1) := by decide +kernel
theorem dL_setRank_8 : decode cL_setRank 8 = .ok (.ldc 17, 2) := by decide +kernel
theorem dL_setRank_10 : decode cL_setRank 10 = .ok (.ireturn, 1) := by decide +kernel
theorem dL_setRank_11 : decode cL_setRank 11 = .ok (.astore_n 3, 1) := by decide +kernel
theorem dL_setRank_12 : decode cL_setRank 12 = .ok (.ldc 20, 2) := by decide +kernel
theorem dL_setRank_14 : decode cL_setRank 14 = .ok (.ireturn, 1) := by decide +kernel
set_option maxRecDepth 20000 in
theorem ggL_rule_X7_rule : GoodIn wsL_rule wsX7_rule := goodIn_ca (goodIn_ca (goodIn_r _ [9, 10, 11, 12, 13, 8, 14, 15, 16, 17, 18, 19, 20, 21, 22, 23, 24, 25, 26, 27, 28, 29, 30, 31, 32, 33, 34, 35, 36, 37, 38, 39, 40, 41, 42, 43, 44, 45, 46, 47, 48, 49, 50, 51, 52, 53, 54, 55, 56, 57, 58, 59, 60, 61, 62, 63, 64, 65, 66, 67, 68, 69, 70, 71, 72, 73, 74, 75, 76, 77, 78, 79, 80] (by decide +kernel) (by decide +kernel)) (goodIn_sub (fun _ h => List.mem_cons_of_mem _ (List.mem_append_left _ (List.mem_append_right _ h))) (by decide +kernel))) (goodIn_sub (fun _ h => List.mem_cons_of_mem _ (List.mem_append_right _ h)) (by decide +kernel))
set_option maxRecDepth 20000 in
theorem gL_rule_X7_rule : GoodIn wsL_rule (wsV RL 74 RX7 yX7_rule wsX7_rule) := goodIn_app (goodIn_of _ (by decide +kernel)) ggL_rule_X7_rule
theorem dL_rule_0 : decode cL_rule 0 = .ok (.aload_n 0, 1) := by decide +kernel
theorem dL_rule_1 : decode cL_rule 1 = .ok (.iload_n 1, 1) := by decide +kernel
theorem dL_rule_2 : decode cL_rule 2 = .ok (.iload_n 2, 1) := by decide +kernel
theorem dL_rule_3 : decode cL_rule 3 = .ok (.invokevirtual 74, 3) := by decide +kernel
theorem dL_rule_6 : decode cL_rule 6 = .ok (.ireturn, 1) := by decide +kernel
theorem dL_rule_7 : decode cL_rule 7 = .ok (.astore_n 3, 1) := by decide +kernel
theorem dL_rule_8 : decode cL_rule 8 = .ok (.ldc 17, 2) := by decide +kernel
theorem dL_rule_10 : decode cL_rule 10 = .ok (.ireturn, 1) := by decide +kernel
theorem dL_rule_11 : decode cL_rule 11 = .ok (.astore_n 3, 1) := by decide +kernel
theorem dL_rule_12 : decode cL_rule 12 = .ok (.ldc 20, 2) := by decide +kernel
theorem dL_rule_14 : decode cL_rule 14 = .ok (.ireturn, 1) := by decide +kernel
set_option maxRecDepth 20000 in
theorem ggL_undo_X7_undo : GoodIn wsL_undo wsX7_undo := goodIn_ca (goodIn_ca (goodIn_r _ [7, 8, 9, 10, 11, 12, 13, 14, 15, 16, 17, 18, 19, 20, 21, 22, 23, 24, 25, 26, 27, 28, 29, 30, 31, 32, 33, 34, 35, 36, 37, 38, 39, 40, 41, 42, 43, 44, 45, 46, 47, 48, 49, 50, 51, 52, 53, 54, 55, 56, 57, 58, 59, 60, 61, 62, 63, 64, 65, 66, 67, 68, 69, 70] (by decide +kernel) (by decide +kernel)) (goodIn_sub (fun _ h => List.mem_cons_of_mem _ (List.mem_append_left _ (List.mem_append_right _ h))) (by decide +kernel))) (goodIn_sub (fun _ h => List.mem_cons_of_mem _ (List.mem_append_right _ h)) (by decide +kernel))
set_option maxRecDepth 20000 in
theorem gL_undo_X7_undo : GoodIn wsL_undo (wsV RL 79 RX7 yX7_undo wsX7_undo) := goodIn_app (goodIn_of _ (by decide +kernel)) ggL_undo_X7_undo
theorem dL_undo_0 : decode cL_undo 0 = .ok (.aload_n 0, 1) := by decide +kernel
theorem dL_undo_1 : decode cL_undo 1 = .ok (.invokevirtual 79, 3) := by decide +kernel
theorem dL_undo_4 : decode cL_undo 4 = .ok (.ireturn, 1) := by decide +kernel
theorem dL_undo_5 : decode cL_undo 5 = .ok (.astore_n 1, 1) := by decide +kernel
theorem dL_undo_6 : decode cL_undo 6 = .ok (.ldc 17, 2) := by decide +kernel
theorem dL_undo_8 : decode cL_undo 8 = .ok (.ireturn, 1) := by decide +kernel
set_option maxRecDepth 20000 in
theorem ggL_meanValue_X7_meanValue : GoodIn wsL_meanValue wsX7_meanValue := goodIn_ca (goodIn_ca (goodIn_r _ [7, 8, 9, 10, 11, 12, 13, 14, 15, 16, 17, 18, 19, 20, 21, 22, 23, 24, 25, 26, 27, 28, 29, 30, 31, 32, 33, 34] (by decide +kernel) (by decide +kernel)) (goodIn_sub (fun _ h => List.mem_cons_of_mem _ (List.mem_append_left _ (List.mem_append_right _ h))) (by decide +kernel))) (goodIn_sub (fun _ h => List.mem_cons_of_mem _ (List.mem_append_right _ h)) (by decide +kernel))
set_option maxRecDepth 20000 in
theorem gL_meanValue_X7_meanValue : GoodIn wsL_meanValue (wsV RL 82 RX7 yX7_meanValue wsX7_meanValue) := goodIn_app (goodIn_of _ (by decide +kernel)) ggL_meanValue_X7_meanValue
theorem dL_meanValue_0 : decode cL_meanValue 0 = .ok (.aload_n 0, 1) := by decide +kernel
theorem dL_meanValue_1 : decode cL_meanValue 1 = .ok (.invokevirtual 82, 3) := by decide +kernel
theorem dL_meanValue_4 : decode cL_meanValue 4 = .ok (.dreturn, 1) := by decide +kernel
theorem dL_meanValue_5 : decode cL_meanValue 5 = .ok (.astore_n 1, 1) := by decide +kernel
theorem dL_meanValue_6 : decode cL_meanValue 6 = .ok (.ldc2_w 88, 3) := by decide +kernel
theorem dL_meanValue_9 : decode cL_meanValue 9 = .ok (.dreturn, 1) := by decide +kernel
set_option maxRecDepth 20000 in
theorem ggL_in_L_cell : GoodIn wsL_in wsL_cell := goodIn_ca (goodIn_r _ [5, 6, 7] (by decide +kernel) (by decide +kernel)) (goodIn_sub (fun _ h => List.mem_cons_of_mem _ (List.mem_append_right _ h)) (by decide +kernel))
set_option maxRecDepth 20000 in
theorem gL_in_L_cell : GoodIn wsL_in (va_wsS RL 90 yL_cell wsL_cell) := goodIn_app (goodIn_of _ (by decide +kernel)) ggL_in_L_cell
theorem dL_in_0 : decode cL_in 0 = .ok (.aload_n 0, 1) := by decide +kernel
theorem dL_in_1 : decode cL_in 1 = .ok (.iload_n 1, 1) := by decide +kernel
theorem dL_in_2 : decode cL_in 2 = .ok (.invokestatic 90, 3) := by decide +kernel
theorem dL_in_5 : decode cL_in 5 = .ok (.ldc 95, 2) := by decide +kernel
theorem dL_in_7 : decode cL_in 7 = .ok (.iand, 1) := by decide +kernel
theorem dL_in_8 : decode cL_in 8 = .ok (.iload_n 2, 1) := by decide +kernel
theorem dL_in_9 : decode cL_in 9 = .ok (.irem, 1) := by decide +kernel
theorem dL_in_10 : decode cL_in 10 = .ok (.ireturn, 1) := by decide +kernel
theorem dL_value_0 : decode cL_value 0 = .ok (.aload_n 0, 1) := by decide +kernel
theorem dL_value_1 : decode cL_value 1 = .ok (.bipush 8, 2) := by decide +kernel
theorem dL_value_3 : decode cL_value 3 = .ok (.iload_n 1, 1) := by decide +kernel
theorem dL_value_4 : decode cL_value 4 = .ok (.imul, 1) := by decide +kernel
theorem dL_value_5 : decode cL_value 5 = .ok (.iload_n 2, 1) := by decide +kernel
theorem dL_value_6 : decode cL_value 6 = .ok (.iadd, 1) := by decide +kernel
theorem dL_value_7 : decode cL_value 7 = .ok (.iaload, 1) := by decide +kernel
theorem dL_value_8 : decode cL_value 8 = .ok (.ireturn, 1) := by decide +kernel
theorem dL_macroAt_0 : decode cL_macroAt 0 = .ok (.bipush 60, 2) := by decide +kernel
theorem dL_macroAt_2 : decode cL_macroAt 2 = .ok (.bipush 60, 2) := by decide +kernel
theorem dL_macroAt_4 : decode cL_macroAt 4 = .ok (.iload_n 0, 1) := by decide +kernel
theorem dL_macroAt_5 : decode cL_macroAt 5 = .ok (.imul, 1) := by decide +kernel
theorem dL_macroAt_6 : decode cL_macroAt 6 = .ok (.iadd, 1) := by decide +kernel
theorem dL_macroAt_7 : decode cL_macroAt 7 = .ok (.ireturn, 1) := by decide +kernel
theorem dL_isWithin_0 : decode cL_isWithin 0 = .ok (.aload_n 0, 1) := by decide +kernel
theorem dL_isWithin_1 : decode cL_isWithin 1 = .ok (.iload_n 1, 1) := by decide +kernel
theorem dL_isWithin_2 : decode cL_isWithin 2 = .ok (.iaload, 1) := by decide +kernel
theorem dL_isWithin_3 : decode cL_isWithin 3 = .ok (.iload_n 2, 1) := by decide +kernel
theorem dL_isWithin_4 : decode cL_isWithin 4 = .ok (.if_icmp .gt 34, 3) := by decide +kernel
theorem dL_isWithin_7 : decode cL_isWithin 7 = .ok (.iload_n 2, 1) := by decide +kernel
theorem dL_isWithin_8 : decode cL_isWithin 8 = .ok (.aload_n 0, 1) := by decide +kernel
theorem dL_isWithin_9 : decode cL_isWithin 9 = .ok (.iload_n 1, 1) := by decide +kernel
theorem dL_isWithin_10 : decode cL_isWithin 10 = .ok (.iconst 2, 1) := by decide +kernel
theorem dL_isWithin_11 : decode cL_isWithin 11 = .ok (.iadd, 1) := by decide +kernel
theorem dL_isWithin_12 : decode cL_isWithin 12 = .ok (.iaload, 1) := by decide +kernel
theorem dL_isWithin_13 : decode cL_isWithin 13 = .ok (.if_icmp .gt 25, 3) := by decide +kernel
theorem dL_isWithin_16 : decode cL_isWithin 16 = .ok (.aload_n 0, 1) := by decide +kernel
theorem dL_isWithin_17 : decode cL_isWithin 17 = .ok (.iload_n 1, 1) := by decide +kernel
theorem dL_isWithin_18 : decode cL_isWithin 18 = .ok (.iconst 1, 1) := by decide +kernel
theorem dL_isWithin_19 : decode cL_isWithin 19 = .ok (.iadd, 1) := by decide +kernel
theorem dL_isWithin_20 : decode cL_isWithin 20 = .ok (.iaload, 1) := by decide +kernel
theorem dL_isWithin_21 : decode cL_isWithin 21 = .ok (.iload_n 3, 1) := by decide +kernel
theorem dL_isWithin_22 : decode cL_isWithin 22 = .ok (.if_icmp .gt 16, 3) := by decide +kernel
theorem dL_isWithin_25 : decode cL_isWithin 25 = .ok (.iload_n 3, 1) := by decide +kernel
theorem dL_isWithin_26 : decode cL_isWithin 26 = .ok (.aload_n 0, 1) := by decide +kernel
theorem dL_isWithin_27 : decode cL_isWithin 27 = .ok (.iload_n 1, 1) := by decide +kernel
theorem dL_isWithin_28 : decode cL_isWithin 28 = .ok (.iconst 3, 1) := by decide +kernel
theorem dL_isWithin_29 : decode cL_isWithin 29 = .ok (.iadd, 1) := by decide +kernel
theorem dL_isWithin_30 : decode cL_isWithin 30 = .ok (.iaload, 1) := by decide +kernel
theorem dL_isWithin_31 : decode cL_isWithin 31 = .ok (.if_icmp .gt 7, 3) := by decide +kernel
theorem dL_isWithin_34 : decode cL_isWithin 34 = .ok (.iconst 1, 1) := by decide +kernel
theorem dL_isWithin_35 : decode cL_isWithin 35 = .ok (.goto 4, 3) := by decide +kernel
theorem dL_isWithin_38 : decode cL_isWithin 38 = .ok (.iconst 0, 1) := by decide +kernel
theorem dL_isWithin_39 : decode cL_isWithin 39 = .ok (.ireturn, 1) := by decide +kernel
set_option maxRecDepth 20000 in
theorem ggL_isGranted_L_macroAt : GoodIn wsL_isGranted wsL_macroAt := goodIn_r _ [4] (by decide +kernel) (by decide +kernel)
set_option maxRecDepth 20000 in
theorem gL_isGranted_L_macroAt : GoodIn wsL_isGranted (va_wsS RL 96 yL_macroAt wsL_macroAt) := goodIn_app (goodIn_of _ (by decide +kernel)) ggL_isGranted_L_macroAt
set_option maxRecDepth 20000 in
theorem ggL_isGranted_L_isWithin : GoodIn wsL_isGranted wsL_isWithin := goodIn_ca (goodIn_r _ [7] (by decide +kernel) (by decide +kernel)) (goodIn_sub (fun _ h => List.mem_cons_of_mem _ (List.mem_append_right _ h)) (by decide +kernel))
set_option maxRecDepth 20000 in
theorem gL_isGranted_L_isWithin : GoodIn wsL_isGranted (va_wsS RL 99 yL_isWithin wsL_isWithin) := goodIn_app (goodIn_of _ (by decide +kernel)) ggL_isGranted_L_isWithin
theorem dL_isGranted_0 : decode cL_isGranted 0 = .ok (.iconst 0, 1) := by decide +kernel
theorem dL_isGranted_1 : decode cL_isGranted 1 = .ok (.istore 4, 2) := by decide +kernel
theorem dL_isGranted_3 : decode cL_isGranted 3 = .ok (.iconst 0, 1) := by decide +kernel
theorem dL_isGranted_4 : decode cL_isGranted 4 = .ok (.istore 5, 2) := by decide +kernel
theorem dL_isGranted_6 : decode cL_isGranted 6 = .ok (.iload 5, 2) := by decide +kernel
theorem dL_isGranted_8 : decode cL_isGranted 8 = .ok (.aload_n 0, 1) := by decide +kernel
theorem dL_isGranted_9 : decode cL_isGranted 9 = .ok (.iload_n 1, 1) := by decide +kernel
theorem dL_isGranted_10 : decode cL_isGranted 10 = .ok (.invokestatic 96, 3) := by decide +kernel
theorem dL_isGranted_13 : decode cL_isGranted 13 = .ok (.iconst 1, 1) := by decide +kernel
theorem dL_isGranted_14 : decode cL_isGranted 14 = .ok (.iadd, 1) := by decide +kernel
theorem dL_isGranted_15 : decode cL_isGranted 15 = .ok (.iaload, 1) := by decide +kernel
theorem dL_isGranted_16 : decode cL_isGranted 16 = .ok (.if_icmp .ge 32, 3) := by decide +kernel
theorem dL_isGranted_19 : decode cL_isGranted 19 = .ok (.iload 4, 2) := by decide +kernel
theorem dL_isGranted_21 : decode cL_isGranted 21 = .ok (.aload_n 0, 1) := by decide +kernel
theorem dL_isGranted_22 : decode cL_isGranted 22 = .ok (.iload_n 1, 1) := by decide +kernel
theorem dL_isGranted_23 : decode cL_isGranted 23 = .ok (.invokestatic 96, 3) := by decide +kernel
theorem dL_isGranted_26 : decode cL_isGranted 26 = .ok (.bipush 42, 2) := by decide +kernel
theorem dL_isGranted_28 : decode cL_isGranted 28 = .ok (.iadd, 1) := by decide +kernel
theorem dL_isGranted_29 : decode cL_isGranted 29 = .ok (.iconst 4, 1) := by decide +kernel
theorem dL_isGranted_30 : decode cL_isGranted 30 = .ok (.iload 5, 2) := by decide +kernel
theorem dL_isGranted_32 : decode cL_isGranted 32 = .ok (.imul, 1) := by decide +kernel
theorem dL_isGranted_33 : decode cL_isGranted 33 = .ok (.iadd, 1) := by decide +kernel
theorem dL_isGranted_34 : decode cL_isGranted 34 = .ok (.iload_n 2, 1) := by decide +kernel
theorem dL_isGranted_35 : decode cL_isGranted 35 = .ok (.iload_n 3, 1) := by decide +kernel
theorem dL_isGranted_36 : decode cL_isGranted 36 = .ok (.invokestatic 99, 3) := by decide +kernel
theorem dL_isGranted_39 : decode cL_isGranted 39 = .ok (.ior, 1) := by decide +kernel
theorem dL_isGranted_40 : decode cL_isGranted 40 = .ok (.istore 4, 2) := by decide +kernel
theorem dL_isGranted_42 : decode cL_isGranted 42 = .ok (.iinc 5 1, 3) := by decide +kernel
theorem dL_isGranted_45 : decode cL_isGranted 45 = .ok (.goto (-39), 3) := by decide +kernel
theorem dL_isGranted_48 : decode cL_isGranted 48 = .ok (.iload 4, 2) := by decide +kernel
theorem dL_isGranted_50 : decode cL_isGranted 50 = .ok (.ireturn, 1) := by decide +kernel
set_option maxRecDepth 20000 in
theorem ggL_reason__L_macroAt : GoodIn wsL_reason_ wsL_macroAt := goodIn_r _ [4] (by decide +kernel) (by decide +kernel)
set_option maxRecDepth 20000 in
theorem gL_reason__L_macroAt : GoodIn wsL_reason_ (va_wsS RL 96 yL_macroAt wsL_macroAt) := goodIn_app (goodIn_of _ (by decide +kernel)) ggL_reason__L_macroAt
set_option maxRecDepth 20000 in
theorem ggL_reason__L_isCell : GoodIn wsL_reason_ wsL_isCell := goodIn_r _ [7] (by decide +kernel) (by decide +kernel)
set_option maxRecDepth 20000 in
theorem gL_reason__L_isCell : GoodIn wsL_reason_ (va_wsS RL 103 yL_isCell wsL_isCell) := goodIn_app (goodIn_of _ (by decide +kernel)) ggL_reason__L_isCell
set_option maxRecDepth 20000 in
theorem ggL_reason__L_isGranted : GoodIn wsL_reason_ wsL_isGranted := goodIn_ca (goodIn_r _ [10, 1, 2, 3, 4, 11, 12, 13] (by decide +kernel) (by decide +kernel)) (goodIn_sub (fun _ h => List.mem_cons_of_mem _ (List.mem_append_right _ h)) (by decide +kernel))
set_option maxRecDepth 20000 in
theorem gL_reason__L_isGranted : GoodIn wsL_reason_ (va_wsS RL 107 yL_isGranted wsL_isGranted) := goodIn_app (goodIn_of _ (by decide +kernel)) ggL_reason__L_isGranted
set_option maxRecDepth 20000 in
theorem ggL_reason__L_made : GoodIn wsL_reason_ wsL_made := goodIn_ca (goodIn_r _ [16] (by decide +kernel) (by decide +kernel)) (goodIn_sub (fun _ h => List.mem_cons_of_mem _ (List.mem_append_right _ h)) (by decide +kernel))
set_option maxRecDepth 20000 in
theorem gL_reason__L_made : GoodIn wsL_reason_ (va_wsS RL 110 yL_made wsL_made) := goodIn_app (goodIn_of _ (by decide +kernel)) ggL_reason__L_made
theorem dL_reason__0 : decode cL_reason_ 0 = .ok (.iconst 0, 1) := by decide +kernel
theorem dL_reason__1 : decode cL_reason_ 1 = .ok (.istore 5, 2) := by decide +kernel
theorem dL_reason__3 : decode cL_reason_ 3 = .ok (.iload 5, 2) := by decide +kernel
theorem dL_reason__5 : decode cL_reason_ 5 = .ok (.bipush 48, 2) := by decide +kernel
theorem dL_reason__7 : decode cL_reason_ 7 = .ok (.if_icmp .ge 17, 3) := by decide +kernel
theorem dL_reason__10 : decode cL_reason_ 10 = .ok (.aload_n 1, 1) := by decide +kernel
theorem dL_reason__11 : decode cL_reason_ 11 = .ok (.iload 5, 2) := by decide +kernel
theorem dL_reason__13 : decode cL_reason_ 13 = .ok (.aload_n 0, 1) := by decide +kernel
theorem dL_reason__14 : decode cL_reason_ 14 = .ok (.iload 5, 2) := by decide +kernel
theorem dL_reason__16 : decode cL_reason_ 16 = .ok (.iaload, 1) := by decide +kernel
theorem dL_reason__17 : decode cL_reason_ 17 = .ok (.iastore, 1) := by decide +kernel
theorem dL_reason__18 : decode cL_reason_ 18 = .ok (.iinc 5 1, 3) := by decide +kernel
theorem dL_reason__21 : decode cL_reason_ 21 = .ok (.goto (-18), 3) := by decide +kernel
theorem dL_reason__24 : decode cL_reason_ 24 = .ok (.iconst 0, 1) := by decide +kernel
theorem dL_reason__25 : decode cL_reason_ 25 = .ok (.istore 5, 2) := by decide +kernel
theorem dL_reason__27 : decode cL_reason_ 27 = .ok (.iload 5, 2) := by decide +kernel
theorem dL_reason__29 : decode cL_reason_ 29 = .ok (.aload_n 0, 1) := by decide +kernel
theorem dL_reason__30 : decode cL_reason_ 30 = .ok (.iload_n 2, 1) := by decide +kernel
theorem dL_reason__31 : decode cL_reason_ 31 = .ok (.invokestatic 96, 3) := by decide +kernel
theorem dL_reason__34 : decode cL_reason_ 34 = .ok (.iaload, 1) := by decide +kernel
theorem dL_reason__35 : decode cL_reason_ 35 = .ok (.if_icmp .ge 126, 3) := by decide +kernel
theorem dL_reason__38 : decode cL_reason_ 38 = .ok (.iload_n 2, 1) := by decide +kernel
theorem dL_reason__39 : decode cL_reason_ 39 = .ok (.invokestatic 96, 3) := by decide +kernel
theorem dL_reason__42 : decode cL_reason_ 42 = .ok (.iconst 2, 1) := by decide +kernel
theorem dL_reason__43 : decode cL_reason_ 43 = .ok (.iadd, 1) := by decide +kernel
theorem dL_reason__44 : decode cL_reason_ 44 = .ok (.iconst 4, 1) := by decide +kernel
theorem dL_reason__45 : decode cL_reason_ 45 = .ok (.iload 5, 2) := by decide +kernel
theorem dL_reason__47 : decode cL_reason_ 47 = .ok (.imul, 1) := by decide +kernel
theorem dL_reason__48 : decode cL_reason_ 48 = .ok (.iadd, 1) := by decide +kernel
theorem dL_reason__49 : decode cL_reason_ 49 = .ok (.istore 6, 2) := by decide +kernel
theorem dL_reason__51 : decode cL_reason_ 51 = .ok (.iload_n 3, 1) := by decide +kernel
theorem dL_reason__52 : decode cL_reason_ 52 = .ok (.aload_n 0, 1) := by decide +kernel
theorem dL_reason__53 : decode cL_reason_ 53 = .ok (.iload 6, 2) := by decide +kernel
theorem dL_reason__55 : decode cL_reason_ 55 = .ok (.iconst 1, 1) := by decide +kernel
theorem dL_reason__56 : decode cL_reason_ 56 = .ok (.iadd, 1) := by decide +kernel
theorem dL_reason__57 : decode cL_reason_ 57 = .ok (.iaload, 1) := by decide +kernel
theorem dL_reason__58 : decode cL_reason_ 58 = .ok (.iadd, 1) := by decide +kernel
theorem dL_reason__59 : decode cL_reason_ 59 = .ok (.istore 7, 2) := by decide +kernel
theorem dL_reason__61 : decode cL_reason_ 61 = .ok (.iload 4, 2) := by decide +kernel
theorem dL_reason__63 : decode cL_reason_ 63 = .ok (.aload_n 0, 1) := by decide +kernel
theorem dL_reason__64 : decode cL_reason_ 64 = .ok (.iload 6, 2) := by decide +kernel
theorem dL_reason__66 : decode cL_reason_ 66 = .ok (.iconst 2, 1) := by decide +kernel
theorem dL_reason__67 : decode cL_reason_ 67 = .ok (.iadd, 1) := by decide +kernel
theorem dL_reason__68 : decode cL_reason_ 68 = .ok (.iaload, 1) := by decide +kernel
theorem dL_reason__69 : decode cL_reason_ 69 = .ok (.iadd, 1) := by decide +kernel
theorem dL_reason__70 : decode cL_reason_ 70 = .ok (.istore 8, 2) := by decide +kernel
theorem dL_reason__72 : decode cL_reason_ 72 = .ok (.iload 7, 2) := by decide +kernel
theorem dL_reason__74 : decode cL_reason_ 74 = .ok (.iload 8, 2) := by decide +kernel
theorem dL_reason__76 : decode cL_reason_ 76 = .ok (.invokestatic 103, 3) := by decide +kernel
theorem dL_reason__79 : decode cL_reason_ 79 = .ok (.ifCond .eq 15, 3) := by decide +kernel
theorem dL_reason__82 : decode cL_reason_ 82 = .ok (.aload_n 0, 1) := by decide +kernel
theorem dL_reason__83 : decode cL_reason_ 83 = .ok (.iload_n 2, 1) := by decide +kernel
theorem dL_reason__84 : decode cL_reason_ 84 = .ok (.iload 7, 2) := by decide +kernel
theorem dL_reason__86 : decode cL_reason_ 86 = .ok (.iload 8, 2) := by decide +kernel
theorem dL_reason__88 : decode cL_reason_ 88 = .ok (.invokestatic 107, 3) := by decide +kernel
theorem dL_reason__91 : decode cL_reason_ 91 = .ok (.ifCond .ne 21, 3) := by decide +kernel
theorem dL_reason__94 : decode cL_reason_ 94 = .ok (.iload 7, 2) := by decide +kernel
theorem dL_reason__96 : decode cL_reason_ 96 = .ok (.iload 8, 2) := by decide +kernel
theorem dL_reason__98 : decode cL_reason_ 98 = .ok (.invokestatic 103, 3) := by decide +kernel
theorem dL_reason__101 : decode cL_reason_ 101 = .ok (.ifCond .eq 8, 3) := by decide +kernel
theorem dL_reason__104 : decode cL_reason_ 104 = .ok (.bipush 103, 2) := by decide +kernel
theorem dL_reason__106 : decode cL_reason_ 106 = .ok (.goto 5, 3) := by decide +kernel
theorem dL_reason__109 : decode cL_reason_ 109 = .ok (.bipush 111, 2) := by decide +kernel
theorem dL_reason__111 : decode cL_reason_ 111 = .ok (.ireturn, 1) := by decide +kernel
theorem dL_reason__112 : decode cL_reason_ 112 = .ok (.aload_n 0, 1) := by decide +kernel
theorem dL_reason__113 : decode cL_reason_ 113 = .ok (.aload_n 1, 1) := by decide +kernel
theorem dL_reason__114 : decode cL_reason_ 114 = .ok (.iload 6, 2) := by decide +kernel
theorem dL_reason__116 : decode cL_reason_ 116 = .ok (.iload_n 3, 1) := by decide +kernel
theorem dL_reason__117 : decode cL_reason_ 117 = .ok (.iload 4, 2) := by decide +kernel
theorem dL_reason__119 : decode cL_reason_ 119 = .ok (.invokestatic 110, 3) := by decide +kernel
theorem dL_reason__122 : decode cL_reason_ 122 = .ok (.istore 9, 2) := by decide +kernel
theorem dL_reason__124 : decode cL_reason_ 124 = .ok (.iload 9, 2) := by decide +kernel
theorem dL_reason__126 : decode cL_reason_ 126 = .ok (.sipush (-9999), 3) := by decide +kernel
theorem dL_reason__129 : decode cL_reason_ 129 = .ok (.if_icmp .lt 11, 3) := by decide +kernel
theorem dL_reason__132 : decode cL_reason_ 132 = .ok (.iload 9, 2) := by decide +kernel
theorem dL_reason__134 : decode cL_reason_ 134 = .ok (.sipush 9999, 3) := by decide +kernel
theorem dL_reason__137 : decode cL_reason_ 137 = .ok (.if_icmp .le 6, 3) := by decide +kernel
theorem dL_reason__140 : decode cL_reason_ 140 = .ok (.bipush 118, 2) := by decide +kernel
theorem dL_reason__142 : decode cL_reason_ 142 = .ok (.ireturn, 1) := by decide +kernel
theorem dL_reason__143 : decode cL_reason_ 143 = .ok (.aload_n 1, 1) := by decide +kernel
theorem dL_reason__144 : decode cL_reason_ 144 = .ok (.bipush 8, 2) := by decide +kernel
theorem dL_reason__146 : decode cL_reason_ 146 = .ok (.iload 7, 2) := by decide +kernel
theorem dL_reason__148 : decode cL_reason_ 148 = .ok (.imul, 1) := by decide +kernel
theorem dL_reason__149 : decode cL_reason_ 149 = .ok (.iload 8, 2) := by decide +kernel
theorem dL_reason__151 : decode cL_reason_ 151 = .ok (.iadd, 1) := by decide +kernel
theorem dL_reason__152 : decode cL_reason_ 152 = .ok (.iload 9, 2) := by decide +kernel
theorem dL_reason__154 : decode cL_reason_ 154 = .ok (.iastore, 1) := by decide +kernel
theorem dL_reason__155 : decode cL_reason_ 155 = .ok (.iinc 5 1, 3) := by decide +kernel
theorem dL_reason__158 : decode cL_reason_ 158 = .ok (.goto (-131), 3) := by decide +kernel
theorem dL_reason__161 : decode cL_reason_ 161 = .ok (.bipush 45, 2) := by decide +kernel
theorem dL_reason__163 : decode cL_reason_ 163 = .ok (.ireturn, 1) := by decide +kernel
theorem dL_change_0 : decode cL_change 0 = .ok (.aload_n 0, 1) := by decide +kernel
theorem dL_change_1 : decode cL_change 1 = .ok (.iload_n 2, 1) := by decide +kernel
theorem dL_change_2 : decode cL_change 2 = .ok (.iaload, 1) := by decide +kernel
theorem dL_change_3 : decode cL_change 3 = .ok (.iload_n 3, 1) := by decide +kernel
theorem dL_change_4 : decode cL_change 4 = .ok (.if_icmp .eq 53, 3) := by decide +kernel
theorem dL_change_7 : decode cL_change 7 = .ok (.iconst 4, 1) := by decide +kernel
theorem dL_change_8 : decode cL_change 8 = .ok (.aload_n 0, 1) := by decide +kernel
theorem dL_change_9 : decode cL_change 9 = .ok (.bipush 56, 2) := by decide +kernel
theorem dL_change_11 : decode cL_change 11 = .ok (.iaload, 1) := by decide +kernel
theorem dL_change_12 : decode cL_change 12 = .ok (.imul, 1) := by decide +kernel
theorem dL_change_13 : decode cL_change 13 = .ok (.istore 6, 2) := by decide +kernel
theorem dL_change_15 : decode cL_change 15 = .ok (.aload_n 1, 1) := by decide +kernel
theorem dL_change_16 : decode cL_change 16 = .ok (.iload 6, 2) := by decide +kernel
theorem dL_change_18 : decode cL_change 18 = .ok (.iload_n 2, 1) := by decide +kernel
theorem dL_change_19 : decode cL_change 19 = .ok (.iastore, 1) := by decide +kernel
theorem dL_change_20 : decode cL_change 20 = .ok (.aload_n 1, 1) := by decide +kernel
theorem dL_change_21 : decode cL_change 21 = .ok (.iload 6, 2) := by decide +kernel
theorem dL_change_23 : decode cL_change 23 = .ok (.iconst 1, 1) := by decide +kernel
theorem dL_change_24 : decode cL_change 24 = .ok (.iadd, 1) := by decide +kernel
theorem dL_change_25 : decode cL_change 25 = .ok (.aload_n 0, 1) := by decide +kernel
theorem dL_change_26 : decode cL_change 26 = .ok (.iload_n 2, 1) := by decide +kernel
theorem dL_change_27 : decode cL_change 27 = .ok (.iaload, 1) := by decide +kernel
theorem dL_change_28 : decode cL_change 28 = .ok (.iastore, 1) := by decide +kernel
theorem dL_change_29 : decode cL_change 29 = .ok (.aload_n 1, 1) := by decide +kernel
theorem dL_change_30 : decode cL_change 30 = .ok (.iload 6, 2) := by decide +kernel
theorem dL_change_32 : decode cL_change 32 = .ok (.iconst 2, 1) := by decide +kernel
theorem dL_change_33 : decode cL_change 33 = .ok (.iadd, 1) := by decide +kernel
theorem dL_change_34 : decode cL_change 34 = .ok (.iload 4, 2) := by decide +kernel
theorem dL_change_36 : decode cL_change 36 = .ok (.iastore, 1) := by decide +kernel
theorem dL_change_37 : decode cL_change 37 = .ok (.aload_n 1, 1) := by decide +kernel
theorem dL_change_38 : decode cL_change 38 = .ok (.iload 6, 2) := by decide +kernel
theorem dL_change_40 : decode cL_change 40 = .ok (.iconst 3, 1) := by decide +kernel
theorem dL_change_41 : decode cL_change 41 = .ok (.iadd, 1) := by decide +kernel
theorem dL_change_42 : decode cL_change 42 = .ok (.iload 5, 2) := by decide +kernel
theorem dL_change_44 : decode cL_change 44 = .ok (.iastore, 1) := by decide +kernel
theorem dL_change_45 : decode cL_change 45 = .ok (.aload_n 0, 1) := by decide +kernel
theorem dL_change_46 : decode cL_change 46 = .ok (.bipush 56, 2) := by decide +kernel
theorem dL_change_48 : decode cL_change 48 = .ok (.dup2, 1) := by decide +kernel
theorem dL_change_49 : decode cL_change 49 = .ok (.iaload, 1) := by decide +kernel
theorem dL_change_50 : decode cL_change 50 = .ok (.iconst 1, 1) := by decide +kernel
theorem dL_change_51 : decode cL_change 51 = .ok (.iadd, 1) := by decide +kernel
theorem dL_change_52 : decode cL_change 52 = .ok (.iastore, 1) := by decide +kernel
theorem dL_change_53 : decode cL_change 53 = .ok (.aload_n 0, 1) := by decide +kernel
theorem dL_change_54 : decode cL_change 54 = .ok (.iload_n 2, 1) := by decide +kernel
theorem dL_change_55 : decode cL_change 55 = .ok (.iload_n 3, 1) := by decide +kernel
theorem dL_change_56 : decode cL_change 56 = .ok (.iastore, 1) := by decide +kernel
theorem dL_change_57 : decode cL_change 57 = .ok (.return_, 1) := by decide +kernel
set_option maxRecDepth 20000 in
theorem ggL_run__L_macroAt : GoodIn wsL_run_ wsL_macroAt := goodIn_r _ [4] (by decide +kernel) (by decide +kernel)
set_option maxRecDepth 20000 in
theorem gL_run__L_macroAt : GoodIn wsL_run_ (va_wsS RL 96 yL_macroAt wsL_macroAt) := goodIn_app (goodIn_of _ (by decide +kernel)) ggL_run__L_macroAt
set_option maxRecDepth 20000 in
theorem ggL_run__L_made : GoodIn wsL_run_ wsL_made := goodIn_ca (goodIn_r _ [7] (by decide +kernel) (by decide +kernel)) (goodIn_sub (fun _ h => List.mem_cons_of_mem _ (List.mem_append_right _ h)) (by decide +kernel))
set_option maxRecDepth 20000 in
theorem gL_run__L_made : GoodIn wsL_run_ (va_wsS RL 110 yL_made wsL_made) := goodIn_app (goodIn_of _ (by decide +kernel)) ggL_run__L_made
set_option maxRecDepth 20000 in
theorem ggL_run__L_change : GoodIn wsL_run_ wsL_change := goodIn_ca (goodIn_r _ [10] (by decide +kernel) (by decide +kernel)) (goodIn_sub (fun _ h => List.mem_cons_of_mem _ (List.mem_append_right _ h)) (by decide +kernel))
set_option maxRecDepth 20000 in
theorem gL_run__L_change : GoodIn wsL_run_ (va_wsS RL 114 yL_change wsL_change) := goodIn_app (goodIn_of _ (by decide +kernel)) ggL_run__L_change
theorem dL_run__0 : decode cL_run_ 0 = .ok (.iconst 0, 1) := by decide +kernel
theorem dL_run__1 : decode cL_run_ 1 = .ok (.istore 6, 2) := by decide +kernel
theorem dL_run__3 : decode cL_run_ 3 = .ok (.iload 6, 2) := by decide +kernel
theorem dL_run__5 : decode cL_run_ 5 = .ok (.aload_n 0, 1) := by decide +kernel
theorem dL_run__6 : decode cL_run_ 6 = .ok (.iload_n 2, 1) := by decide +kernel
theorem dL_run__7 : decode cL_run_ 7 = .ok (.invokestatic 96, 3) := by decide +kernel
theorem dL_run__10 : decode cL_run_ 10 = .ok (.iaload, 1) := by decide +kernel
theorem dL_run__11 : decode cL_run_ 11 = .ok (.if_icmp .ge 65, 3) := by decide +kernel
theorem dL_run__14 : decode cL_run_ 14 = .ok (.iload_n 2, 1) := by decide +kernel
theorem dL_run__15 : decode cL_run_ 15 = .ok (.invokestatic 96, 3) := by decide +kernel
theorem dL_run__18 : decode cL_run_ 18 = .ok (.iconst 2, 1) := by decide +kernel
theorem dL_run__19 : decode cL_run_ 19 = .ok (.iadd, 1) := by decide +kernel
theorem dL_run__20 : decode cL_run_ 20 = .ok (.iconst 4, 1) := by decide +kernel
theorem dL_run__21 : decode cL_run_ 21 = .ok (.iload 6, 2) := by decide +kernel
theorem dL_run__23 : decode cL_run_ 23 = .ok (.imul, 1) := by decide +kernel
theorem dL_run__24 : decode cL_run_ 24 = .ok (.iadd, 1) := by decide +kernel
theorem dL_run__25 : decode cL_run_ 25 = .ok (.istore 7, 2) := by decide +kernel
theorem dL_run__27 : decode cL_run_ 27 = .ok (.aload_n 0, 1) := by decide +kernel
theorem dL_run__28 : decode cL_run_ 28 = .ok (.aload_n 0, 1) := by decide +kernel
theorem dL_run__29 : decode cL_run_ 29 = .ok (.iload 7, 2) := by decide +kernel
theorem dL_run__31 : decode cL_run_ 31 = .ok (.iload_n 3, 1) := by decide +kernel
theorem dL_run__32 : decode cL_run_ 32 = .ok (.iload 4, 2) := by decide +kernel
theorem dL_run__34 : decode cL_run_ 34 = .ok (.invokestatic 110, 3) := by decide +kernel
theorem dL_run__37 : decode cL_run_ 37 = .ok (.istore 8, 2) := by decide +kernel
theorem dL_run__39 : decode cL_run_ 39 = .ok (.aload_n 0, 1) := by decide +kernel
theorem dL_run__40 : decode cL_run_ 40 = .ok (.aload_n 1, 1) := by decide +kernel
theorem dL_run__41 : decode cL_run_ 41 = .ok (.bipush 8, 2) := by decide +kernel
theorem dL_run__43 : decode cL_run_ 43 = .ok (.iload_n 3, 1) := by decide +kernel
theorem dL_run__44 : decode cL_run_ 44 = .ok (.aload_n 0, 1) := by decide +kernel
theorem dL_run__45 : decode cL_run_ 45 = .ok (.iload 7, 2) := by decide +kernel
theorem dL_run__47 : decode cL_run_ 47 = .ok (.iconst 1, 1) := by decide +kernel
theorem dL_run__48 : decode cL_run_ 48 = .ok (.iadd, 1) := by decide +kernel
theorem dL_run__49 : decode cL_run_ 49 = .ok (.iaload, 1) := by decide +kernel
theorem dL_run__50 : decode cL_run_ 50 = .ok (.iadd, 1) := by decide +kernel
theorem dL_run__51 : decode cL_run_ 51 = .ok (.imul, 1) := by decide +kernel
theorem dL_run__52 : decode cL_run_ 52 = .ok (.iload 4, 2) := by decide +kernel
theorem dL_run__54 : decode cL_run_ 54 = .ok (.iadd, 1) := by decide +kernel
theorem dL_run__55 : decode cL_run_ 55 = .ok (.aload_n 0, 1) := by decide +kernel
theorem dL_run__56 : decode cL_run_ 56 = .ok (.iload 7, 2) := by decide +kernel
theorem dL_run__58 : decode cL_run_ 58 = .ok (.iconst 2, 1) := by decide +kernel
theorem dL_run__59 : decode cL_run_ 59 = .ok (.iadd, 1) := by decide +kernel
theorem dL_run__60 : decode cL_run_ 60 = .ok (.iaload, 1) := by decide +kernel
theorem dL_run__61 : decode cL_run_ 61 = .ok (.iadd, 1) := by decide +kernel
theorem dL_run__62 : decode cL_run_ 62 = .ok (.iload 8, 2) := by decide +kernel
theorem dL_run__64 : decode cL_run_ 64 = .ok (.iload_n 2, 1) := by decide +kernel
theorem dL_run__65 : decode cL_run_ 65 = .ok (.iload 5, 2) := by decide +kernel
theorem dL_run__67 : decode cL_run_ 67 = .ok (.invokestatic 114, 3) := by decide +kernel
theorem dL_run__70 : decode cL_run_ 70 = .ok (.iinc 6 1, 3) := by decide +kernel
theorem dL_run__73 : decode cL_run_ 73 = .ok (.goto (-70), 3) := by decide +kernel
theorem dL_run__76 : decode cL_run_ 76 = .ok (.return_, 1) := by decide +kernel
set_option maxRecDepth 20000 in
theorem ggL_rule__L_isWithin : GoodIn wsL_rule_ wsL_isWithin := goodIn_ca (goodIn_r _ [4] (by decide +kernel) (by decide +kernel)) (goodIn_sub (fun _ h => List.mem_cons_of_mem _ (List.mem_append_right _ h)) (by decide +kernel))
set_option maxRecDepth 20000 in
theorem gL_rule__L_isWithin : GoodIn wsL_rule_ (va_wsS RL 99 yL_isWithin wsL_isWithin) := goodIn_app (goodIn_of _ (by decide +kernel)) ggL_rule__L_isWithin
theorem dL_rule__0 : decode cL_rule_ 0 = .ok (.bipush 9, 2) := by decide +kernel
theorem dL_rule__2 : decode cL_rule_ 2 = .ok (.istore_n 3, 1) := by decide +kernel
theorem dL_rule__3 : decode cL_rule_ 3 = .ok (.iload_n 3, 1) := by decide +kernel
theorem dL_rule__4 : decode cL_rule_ 4 = .ok (.ifCond .lt 62, 3) := by decide +kernel
theorem dL_rule__7 : decode cL_rule_ 7 = .ok (.iconst 0, 1) := by decide +kernel
theorem dL_rule__8 : decode cL_rule_ 8 = .ok (.istore 4, 2) := by decide +kernel
theorem dL_rule__10 : decode cL_rule_ 10 = .ok (.iload 4, 2) := by decide +kernel
theorem dL_rule__12 : decode cL_rule_ 12 = .ok (.aload_n 0, 1) := by decide +kernel
theorem dL_rule__13 : decode cL_rule_ 13 = .ok (.bipush 51, 2) := by decide +kernel
theorem dL_rule__15 : decode cL_rule_ 15 = .ok (.iaload, 1) := by decide +kernel
theorem dL_rule__16 : decode cL_rule_ 16 = .ok (.if_icmp .ge 44, 3) := by decide +kernel
theorem dL_rule__19 : decode cL_rule_ 19 = .ok (.sipush 420, 3) := by decide +kernel
theorem dL_rule__22 : decode cL_rule_ 22 = .ok (.bipush 6, 2) := by decide +kernel
theorem dL_rule__24 : decode cL_rule_ 24 = .ok (.iload 4, 2) := by decide +kernel
theorem dL_rule__26 : decode cL_rule_ 26 = .ok (.imul, 1) := by decide +kernel
theorem dL_rule__27 : decode cL_rule_ 27 = .ok (.iadd, 1) := by decide +kernel
theorem dL_rule__28 : decode cL_rule_ 28 = .ok (.istore 5, 2) := by decide +kernel
theorem dL_rule__30 : decode cL_rule_ 30 = .ok (.aload_n 0, 1) := by decide +kernel
theorem dL_rule__31 : decode cL_rule_ 31 = .ok (.iload 5, 2) := by decide +kernel
theorem dL_rule__33 : decode cL_rule_ 33 = .ok (.iconst 5, 1) := by decide +kernel
theorem dL_rule__34 : decode cL_rule_ 34 = .ok (.iadd, 1) := by decide +kernel
theorem dL_rule__35 : decode cL_rule_ 35 = .ok (.iaload, 1) := by decide +kernel
theorem dL_rule__36 : decode cL_rule_ 36 = .ok (.iload_n 3, 1) := by decide +kernel
theorem dL_rule__37 : decode cL_rule_ 37 = .ok (.if_icmp .ne 17, 3) := by decide +kernel
theorem dL_rule__40 : decode cL_rule_ 40 = .ok (.aload_n 0, 1) := by decide +kernel
theorem dL_rule__41 : decode cL_rule_ 41 = .ok (.iload 5, 2) := by decide +kernel
theorem dL_rule__43 : decode cL_rule_ 43 = .ok (.iload_n 1, 1) := by decide +kernel
theorem dL_rule__44 : decode cL_rule_ 44 = .ok (.iload_n 2, 1) := by decide +kernel
theorem dL_rule__45 : decode cL_rule_ 45 = .ok (.invokestatic 99, 3) := by decide +kernel
theorem dL_rule__48 : decode cL_rule_ 48 = .ok (.ifCond .eq 6, 3) := by decide +kernel
theorem dL_rule__51 : decode cL_rule_ 51 = .ok (.iload 4, 2) := by decide +kernel
theorem dL_rule__53 : decode cL_rule_ 53 = .ok (.ireturn, 1) := by decide +kernel
theorem dL_rule__54 : decode cL_rule_ 54 = .ok (.iinc 4 1, 3) := by decide +kernel
theorem dL_rule__57 : decode cL_rule_ 57 = .ok (.goto (-47), 3) := by decide +kernel
theorem dL_rule__60 : decode cL_rule_ 60 = .ok (.iinc 3 (-1), 3) := by decide +kernel
theorem dL_rule__63 : decode cL_rule_ 63 = .ok (.goto (-60), 3) := by decide +kernel
theorem dL_rule__66 : decode cL_rule_ 66 = .ok (.iconst (-1), 1) := by decide +kernel
theorem dL_rule__67 : decode cL_rule_ 67 = .ok (.ireturn, 1) := by decide +kernel
set_option maxRecDepth 20000 in
theorem ggL_acted_L_rule_ : GoodIn wsL_acted wsL_rule_ := goodIn_ca (goodIn_r _ [5, 6, 7, 4, 8] (by decide +kernel) (by decide +kernel)) (goodIn_sub (fun _ h => List.mem_cons_of_mem _ (List.mem_append_right _ h)) (by decide +kernel))
set_option maxRecDepth 20000 in
theorem gL_acted_L_rule_ : GoodIn wsL_acted (va_wsS RL 118 yL_rule_ wsL_rule_) := goodIn_app (goodIn_of _ (by decide +kernel)) ggL_acted_L_rule_
set_option maxRecDepth 20000 in
theorem ggL_acted_L_reason_ : GoodIn wsL_acted wsL_reason_ := goodIn_ca (goodIn_r _ [11, 12, 13, 4, 14, 15, 16, 17, 18, 19, 20, 6, 7, 8, 21, 22, 23] (by decide +kernel) (by decide +kernel)) (goodIn_sub (fun _ h => List.mem_cons_of_mem _ (List.mem_append_right _ h)) (by decide +kernel))
set_option maxRecDepth 20000 in
theorem gL_acted_L_reason_ : GoodIn wsL_acted (va_wsS RL 121 yL_reason_ wsL_reason_) := goodIn_app (goodIn_of _ (by decide +kernel)) ggL_acted_L_reason_
set_option maxRecDepth 20000 in
theorem ggL_acted_L_run_ : GoodIn wsL_acted wsL_run_ := goodIn_ca (goodIn_r _ [26, 12, 13, 4, 14, 21, 22, 23, 27, 28, 29] (by decide +kernel) (by decide +kernel)) (goodIn_sub (fun _ h => List.mem_cons_of_mem _ (List.mem_append_right _ h)) (by decide +kernel))
set_option maxRecDepth 20000 in
theorem gL_acted_L_run_ : GoodIn wsL_acted (va_wsS RL 124 yL_run_ wsL_run_) := goodIn_app (goodIn_of _ (by decide +kernel)) ggL_acted_L_run_
theorem dL_acted_0 : decode cL_acted 0 = .ok (.iconst 0, 1) := by decide +kernel
theorem dL_acted_1 : decode cL_acted 1 = .ok (.istore_n 3, 1) := by decide +kernel
theorem dL_acted_2 : decode cL_acted 2 = .ok (.iload_n 2, 1) := by decide +kernel
theorem dL_acted_3 : decode cL_acted 3 = .ok (.istore 4, 2) := by decide +kernel
theorem dL_acted_5 : decode cL_acted 5 = .ok (.iload 4, 2) := by decide +kernel
theorem dL_acted_7 : decode cL_acted 7 = .ok (.aload_n 0, 1) := by decide +kernel
theorem dL_acted_8 : decode cL_acted 8 = .ok (.bipush 56, 2) := by decide +kernel
theorem dL_acted_10 : decode cL_acted 10 = .ok (.iaload, 1) := by decide +kernel
theorem dL_acted_11 : decode cL_acted 11 = .ok (.if_icmp .ge 163, 3) := by decide +kernel
theorem dL_acted_14 : decode cL_acted 14 = .ok (.aload_n 1, 1) := by decide +kernel
theorem dL_acted_15 : decode cL_acted 15 = .ok (.iconst 4, 1) := by decide +kernel
theorem dL_acted_16 : decode cL_acted 16 = .ok (.iload 4, 2) := by decide +kernel
theorem dL_acted_18 : decode cL_acted 18 = .ok (.imul, 1) := by decide +kernel
theorem dL_acted_19 : decode cL_acted 19 = .ok (.iaload, 1) := by decide +kernel
theorem dL_acted_20 : decode cL_acted 20 = .ok (.bipush 8, 2) := by decide +kernel
theorem dL_acted_22 : decode cL_acted 22 = .ok (.idiv, 1) := by decide +kernel
theorem dL_acted_23 : decode cL_acted 23 = .ok (.istore 5, 2) := by decide +kernel
theorem dL_acted_25 : decode cL_acted 25 = .ok (.aload_n 1, 1) := by decide +kernel
theorem dL_acted_26 : decode cL_acted 26 = .ok (.iconst 4, 1) := by decide +kernel
theorem dL_acted_27 : decode cL_acted 27 = .ok (.iload 4, 2) := by decide +kernel
theorem dL_acted_29 : decode cL_acted 29 = .ok (.imul, 1) := by decide +kernel
theorem dL_acted_30 : decode cL_acted 30 = .ok (.iaload, 1) := by decide +kernel
theorem dL_acted_31 : decode cL_acted 31 = .ok (.bipush 8, 2) := by decide +kernel
theorem dL_acted_33 : decode cL_acted 33 = .ok (.irem, 1) := by decide +kernel
theorem dL_acted_34 : decode cL_acted 34 = .ok (.istore 6, 2) := by decide +kernel
theorem dL_acted_36 : decode cL_acted 36 = .ok (.aload_n 0, 1) := by decide +kernel
theorem dL_acted_37 : decode cL_acted 37 = .ok (.iload 5, 2) := by decide +kernel
theorem dL_acted_39 : decode cL_acted 39 = .ok (.iload 6, 2) := by decide +kernel
theorem dL_acted_41 : decode cL_acted 41 = .ok (.invokestatic 118, 3) := by decide +kernel
theorem dL_acted_44 : decode cL_acted 44 = .ok (.istore 7, 2) := by decide +kernel
theorem dL_acted_46 : decode cL_acted 46 = .ok (.iload 7, 2) := by decide +kernel
theorem dL_acted_48 : decode cL_acted 48 = .ok (.ifCond .ge 7, 3) := by decide +kernel
theorem dL_acted_51 : decode cL_acted 51 = .ok (.iconst (-1), 1) := by decide +kernel
theorem dL_acted_52 : decode cL_acted 52 = .ok (.goto 14, 3) := by decide +kernel
theorem dL_acted_55 : decode cL_acted 55 = .ok (.aload_n 0, 1) := by decide +kernel
theorem dL_acted_56 : decode cL_acted 56 = .ok (.sipush 424, 3) := by decide +kernel
theorem dL_acted_59 : decode cL_acted 59 = .ok (.bipush 6, 2) := by decide +kernel
theorem dL_acted_61 : decode cL_acted 61 = .ok (.iload 7, 2) := by decide +kernel
theorem dL_acted_63 : decode cL_acted 63 = .ok (.imul, 1) := by decide +kernel
theorem dL_acted_64 : decode cL_acted 64 = .ok (.iadd, 1) := by decide +kernel
theorem dL_acted_65 : decode cL_acted 65 = .ok (.iaload, 1) := by decide +kernel
theorem dL_acted_66 : decode cL_acted 66 = .ok (.istore 8, 2) := by decide +kernel
theorem dL_acted_68 : decode cL_acted 68 = .ok (.iload 7, 2) := by decide +kernel
theorem dL_acted_70 : decode cL_acted 70 = .ok (.ifCond .lt 98, 3) := by decide +kernel
theorem dL_acted_73 : decode cL_acted 73 = .ok (.aload_n 1, 1) := by decide +kernel
theorem dL_acted_74 : decode cL_acted 74 = .ok (.iconst 4, 1) := by decide +kernel
theorem dL_acted_75 : decode cL_acted 75 = .ok (.iload 4, 2) := by decide +kernel
theorem dL_acted_77 : decode cL_acted 77 = .ok (.imul, 1) := by decide +kernel
theorem dL_acted_78 : decode cL_acted 78 = .ok (.iconst 3, 1) := by decide +kernel
theorem dL_acted_79 : decode cL_acted 79 = .ok (.iadd, 1) := by decide +kernel
theorem dL_acted_80 : decode cL_acted 80 = .ok (.iaload, 1) := by decide +kernel
theorem dL_acted_81 : decode cL_acted 81 = .ok (.iconst 3, 1) := by decide +kernel
theorem dL_acted_82 : decode cL_acted 82 = .ok (.if_icmp .ge 86, 3) := by decide +kernel
theorem dL_acted_85 : decode cL_acted 85 = .ok (.iload 8, 2) := by decide +kernel
theorem dL_acted_87 : decode cL_acted 87 = .ok (.aload_n 0, 1) := by decide +kernel
theorem dL_acted_88 : decode cL_acted 88 = .ok (.bipush 52, 2) := by decide +kernel
theorem dL_acted_90 : decode cL_acted 90 = .ok (.iaload, 1) := by decide +kernel
theorem dL_acted_91 : decode cL_acted 91 = .ok (.iconst 1, 1) := by decide +kernel
theorem dL_acted_92 : decode cL_acted 92 = .ok (.isub, 1) := by decide +kernel
theorem dL_acted_93 : decode cL_acted 93 = .ok (.if_icmp .eq 75, 3) := by decide +kernel
theorem dL_acted_96 : decode cL_acted 96 = .ok (.iload_n 3, 1) := by decide +kernel
theorem dL_acted_97 : decode cL_acted 97 = .ok (.bipush 20, 2) := by decide +kernel
theorem dL_acted_99 : decode cL_acted 99 = .ok (.if_icmp .ge 69, 3) := by decide +kernel
theorem dL_acted_102 : decode cL_acted 102 = .ok (.aload_n 0, 1) := by decide +kernel
theorem dL_acted_103 : decode cL_acted 103 = .ok (.bipush 48, 2) := by decide +kernel
theorem dL_acted_105 : decode cL_acted 105 = .ok (.newarray .int, 2) := by decide +kernel
theorem dL_acted_107 : decode cL_acted 107 = .ok (.iload 8, 2) := by decide +kernel
theorem dL_acted_109 : decode cL_acted 109 = .ok (.iload 5, 2) := by decide +kernel
theorem dL_acted_111 : decode cL_acted 111 = .ok (.iload 6, 2) := by decide +kernel
theorem dL_acted_113 : decode cL_acted 113 = .ok (.invokestatic 121, 3) := by decide +kernel
theorem dL_acted_116 : decode cL_acted 116 = .ok (.bipush 45, 2) := by decide +kernel
theorem dL_acted_118 : decode cL_acted 118 = .ok (.if_icmp .ne 7, 3) := by decide +kernel
theorem dL_acted_121 : decode cL_acted 121 = .ok (.iconst 1, 1) := by decide +kernel
theorem dL_acted_122 : decode cL_acted 122 = .ok (.goto 4, 3) := by decide +kernel
theorem dL_acted_125 : decode cL_acted 125 = .ok (.iconst 0, 1) := by decide +kernel
theorem dL_acted_126 : decode cL_acted 126 = .ok (.istore 9, 2) := by decide +kernel
theorem dL_acted_128 : decode cL_acted 128 = .ok (.iload 9, 2) := by decide +kernel
theorem dL_acted_130 : decode cL_acted 130 = .ok (.ifCond .eq 30, 3) := by decide +kernel
theorem dL_acted_133 : decode cL_acted 133 = .ok (.iinc 3 1, 3) := by decide +kernel
theorem dL_acted_136 : decode cL_acted 136 = .ok (.aload_n 0, 1) := by decide +kernel
theorem dL_acted_137 : decode cL_acted 137 = .ok (.aload_n 1, 1) := by decide +kernel
theorem dL_acted_138 : decode cL_acted 138 = .ok (.iload 8, 2) := by decide +kernel
theorem dL_acted_140 : decode cL_acted 140 = .ok (.iload 5, 2) := by decide +kernel
theorem dL_acted_142 : decode cL_acted 142 = .ok (.iload 6, 2) := by decide +kernel
theorem dL_acted_144 : decode cL_acted 144 = .ok (.aload_n 1, 1) := by decide +kernel
theorem dL_acted_145 : decode cL_acted 145 = .ok (.iconst 4, 1) := by decide +kernel
theorem dL_acted_146 : decode cL_acted 146 = .ok (.iload 4, 2) := by decide +kernel
theorem dL_acted_148 : decode cL_acted 148 = .ok (.imul, 1) := by decide +kernel
theorem dL_acted_149 : decode cL_acted 149 = .ok (.iconst 3, 1) := by decide +kernel
theorem dL_acted_150 : decode cL_acted 150 = .ok (.iadd, 1) := by decide +kernel
theorem dL_acted_151 : decode cL_acted 151 = .ok (.iaload, 1) := by decide +kernel
theorem dL_acted_152 : decode cL_acted 152 = .ok (.iconst 1, 1) := by decide +kernel
theorem dL_acted_153 : decode cL_acted 153 = .ok (.iadd, 1) := by decide +kernel
theorem dL_acted_154 : decode cL_acted 154 = .ok (.invokestatic 124, 3) := by decide +kernel
theorem dL_acted_157 : decode cL_acted 157 = .ok (.goto 11, 3) := by decide +kernel
theorem dL_acted_160 : decode cL_acted 160 = .ok (.aload_n 0, 1) := by decide +kernel
theorem dL_acted_161 : decode cL_acted 161 = .ok (.bipush 54, 2) := by decide +kernel
theorem dL_acted_163 : decode cL_acted 163 = .ok (.dup2, 1) := by decide +kernel
theorem dL_acted_164 : decode cL_acted 164 = .ok (.iaload, 1) := by decide +kernel
theorem dL_acted_165 : decode cL_acted 165 = .ok (.iconst 1, 1) := by decide +kernel
theorem dL_acted_166 : decode cL_acted 166 = .ok (.iadd, 1) := by decide +kernel
theorem dL_acted_167 : decode cL_acted 167 = .ok (.iastore, 1) := by decide +kernel
theorem dL_acted_168 : decode cL_acted 168 = .ok (.iinc 4 1, 3) := by decide +kernel
theorem dL_acted_171 : decode cL_acted 171 = .ok (.goto (-166), 3) := by decide +kernel
theorem dL_acted_174 : decode cL_acted 174 = .ok (.aload_n 0, 1) := by decide +kernel
theorem dL_acted_175 : decode cL_acted 175 = .ok (.bipush 56, 2) := by decide +kernel
theorem dL_acted_177 : decode cL_acted 177 = .ok (.iaload, 1) := by decide +kernel
theorem dL_acted_178 : decode cL_acted 178 = .ok (.iload_n 2, 1) := by decide +kernel
theorem dL_acted_179 : decode cL_acted 179 = .ok (.if_icmp .le 46, 3) := by decide +kernel
theorem dL_acted_182 : decode cL_acted 182 = .ok (.aload_n 0, 1) := by decide +kernel
theorem dL_acted_183 : decode cL_acted 183 = .ok (.sipush 460, 3) := by decide +kernel
theorem dL_acted_186 : decode cL_acted 186 = .ok (.aload_n 0, 1) := by decide +kernel
theorem dL_acted_187 : decode cL_acted 187 = .ok (.bipush 55, 2) := by decide +kernel
theorem dL_acted_189 : decode cL_acted 189 = .ok (.iaload, 1) := by decide +kernel
theorem dL_acted_190 : decode cL_acted 190 = .ok (.iadd, 1) := by decide +kernel
theorem dL_acted_191 : decode cL_acted 191 = .ok (.iload_n 2, 1) := by decide +kernel
theorem dL_acted_192 : decode cL_acted 192 = .ok (.iastore, 1) := by decide +kernel
theorem dL_acted_193 : decode cL_acted 193 = .ok (.aload_n 0, 1) := by decide +kernel
theorem dL_acted_194 : decode cL_acted 194 = .ok (.bipush 55, 2) := by decide +kernel
theorem dL_acted_196 : decode cL_acted 196 = .ok (.dup2, 1) := by decide +kernel
theorem dL_acted_197 : decode cL_acted 197 = .ok (.iaload, 1) := by decide +kernel
theorem dL_acted_198 : decode cL_acted 198 = .ok (.iconst 1, 1) := by decide +kernel
theorem dL_acted_199 : decode cL_acted 199 = .ok (.iadd, 1) := by decide +kernel
theorem dL_acted_200 : decode cL_acted 200 = .ok (.iastore, 1) := by decide +kernel
theorem dL_acted_201 : decode cL_acted 201 = .ok (.aload_n 0, 1) := by decide +kernel
theorem dL_acted_202 : decode cL_acted 202 = .ok (.bipush 57, 2) := by decide +kernel
theorem dL_acted_204 : decode cL_acted 204 = .ok (.aload_n 0, 1) := by decide +kernel
theorem dL_acted_205 : decode cL_acted 205 = .ok (.bipush 57, 2) := by decide +kernel
theorem dL_acted_207 : decode cL_acted 207 = .ok (.iaload, 1) := by decide +kernel
theorem dL_acted_208 : decode cL_acted 208 = .ok (.bipush 8, 2) := by decide +kernel
theorem dL_acted_210 : decode cL_acted 210 = .ok (.if_icmp .ge 12, 3) := by decide +kernel
theorem dL_acted_213 : decode cL_acted 213 = .ok (.aload_n 0, 1) := by decide +kernel
theorem dL_acted_214 : decode cL_acted 214 = .ok (.bipush 57, 2) := by decide +kernel
theorem dL_acted_216 : decode cL_acted 216 = .ok (.iaload, 1) := by decide +kernel
theorem dL_acted_217 : decode cL_acted 217 = .ok (.iconst 1, 1) := by decide +kernel
theorem dL_acted_218 : decode cL_acted 218 = .ok (.iadd, 1) := by decide +kernel
theorem dL_acted_219 : decode cL_acted 219 = .ok (.goto 5, 3) := by decide +kernel
theorem dL_acted_222 : decode cL_acted 222 = .ok (.bipush 8, 2) := by decide +kernel
theorem dL_acted_224 : decode cL_acted 224 = .ok (.iastore, 1) := by decide +kernel
theorem dL_acted_225 : decode cL_acted 225 = .ok (.aload_n 0, 1) := by decide +kernel
theorem dL_acted_226 : decode cL_acted 226 = .ok (.bipush 56, 2) := by decide +kernel
theorem dL_acted_228 : decode cL_acted 228 = .ok (.iaload, 1) := by decide +kernel
theorem dL_acted_229 : decode cL_acted 229 = .ok (.iload_n 2, 1) := by decide +kernel
theorem dL_acted_230 : decode cL_acted 230 = .ok (.isub, 1) := by decide +kernel
theorem dL_acted_231 : decode cL_acted 231 = .ok (.ireturn, 1) := by decide +kernel
set_option maxRecDepth 20000 in
theorem ggL_byHand_L_macroAt : GoodIn wsL_byHand wsL_macroAt := goodIn_r _ [4] (by decide +kernel) (by decide +kernel)
set_option maxRecDepth 20000 in
theorem gL_byHand_L_macroAt : GoodIn wsL_byHand (va_wsS RL 96 yL_macroAt wsL_macroAt) := goodIn_app (goodIn_of _ (by decide +kernel)) ggL_byHand_L_macroAt
set_option maxRecDepth 20000 in
theorem ggL_byHand_L_change : GoodIn wsL_byHand wsL_change := goodIn_ca (goodIn_r _ [7] (by decide +kernel) (by decide +kernel)) (goodIn_sub (fun _ h => List.mem_cons_of_mem _ (List.mem_append_right _ h)) (by decide +kernel))
set_option maxRecDepth 20000 in
theorem gL_byHand_L_change : GoodIn wsL_byHand (va_wsS RL 114 yL_change wsL_change) := goodIn_app (goodIn_of _ (by decide +kernel)) ggL_byHand_L_change
set_option maxRecDepth 20000 in
theorem ggL_byHand_L_acted : GoodIn wsL_byHand wsL_acted := goodIn_ca (goodIn_r _ [10, 11, 12, 13, 3, 14, 15, 16, 17, 18, 19, 20, 1, 2, 4, 21, 22, 23, 24, 25, 26, 27, 28, 29, 30, 31, 32, 5, 6, 7] (by decide +kernel) (by decide +kernel)) (goodIn_sub (fun _ h => List.mem_cons_of_mem _ (List.mem_append_right _ h)) (by decide +kernel))
set_option maxRecDepth 20000 in
theorem gL_byHand_L_acted : GoodIn wsL_byHand (va_wsS RL 126 yL_acted wsL_acted) := goodIn_app (goodIn_of _ (by decide +kernel)) ggL_byHand_L_acted
theorem dL_byHand_0 : decode cL_byHand 0 = .ok (.aload_n 0, 1) := by decide +kernel
theorem dL_byHand_1 : decode cL_byHand 1 = .ok (.bipush 52, 2) := by decide +kernel
theorem dL_byHand_3 : decode cL_byHand 3 = .ok (.iaload, 1) := by decide +kernel
theorem dL_byHand_4 : decode cL_byHand 4 = .ok (.iconst 1, 1) := by decide +kernel
theorem dL_byHand_5 : decode cL_byHand 5 = .ok (.isub, 1) := by decide +kernel
theorem dL_byHand_6 : decode cL_byHand 6 = .ok (.istore 7, 2) := by decide +kernel
theorem dL_byHand_8 : decode cL_byHand 8 = .ok (.iload 7, 2) := by decide +kernel
theorem dL_byHand_10 : decode cL_byHand 10 = .ok (.ifCond .lt 77, 3) := by decide +kernel
theorem dL_byHand_13 : decode cL_byHand 13 = .ok (.iload 7, 2) := by decide +kernel
theorem dL_byHand_15 : decode cL_byHand 15 = .ok (.invokestatic 96, 3) := by decide +kernel
theorem dL_byHand_18 : decode cL_byHand 18 = .ok (.iconst 2, 1) := by decide +kernel
theorem dL_byHand_19 : decode cL_byHand 19 = .ok (.iadd, 1) := by decide +kernel
theorem dL_byHand_20 : decode cL_byHand 20 = .ok (.iconst 4, 1) := by decide +kernel
theorem dL_byHand_21 : decode cL_byHand 21 = .ok (.aload_n 0, 1) := by decide +kernel
theorem dL_byHand_22 : decode cL_byHand 22 = .ok (.iload 7, 2) := by decide +kernel
theorem dL_byHand_24 : decode cL_byHand 24 = .ok (.invokestatic 96, 3) := by decide +kernel
theorem dL_byHand_27 : decode cL_byHand 27 = .ok (.iaload, 1) := by decide +kernel
theorem dL_byHand_28 : decode cL_byHand 28 = .ok (.imul, 1) := by decide +kernel
theorem dL_byHand_29 : decode cL_byHand 29 = .ok (.iadd, 1) := by decide +kernel
theorem dL_byHand_30 : decode cL_byHand 30 = .ok (.istore 8, 2) := by decide +kernel
theorem dL_byHand_32 : decode cL_byHand 32 = .ok (.aload_n 0, 1) := by decide +kernel
theorem dL_byHand_33 : decode cL_byHand 33 = .ok (.iload 8, 2) := by decide +kernel
theorem dL_byHand_35 : decode cL_byHand 35 = .ok (.iload_n 2, 1) := by decide +kernel
theorem dL_byHand_36 : decode cL_byHand 36 = .ok (.iastore, 1) := by decide +kernel
theorem dL_byHand_37 : decode cL_byHand 37 = .ok (.aload_n 0, 1) := by decide +kernel
theorem dL_byHand_38 : decode cL_byHand 38 = .ok (.iload 8, 2) := by decide +kernel
theorem dL_byHand_40 : decode cL_byHand 40 = .ok (.iconst 1, 1) := by decide +kernel
theorem dL_byHand_41 : decode cL_byHand 41 = .ok (.iadd, 1) := by decide +kernel
theorem dL_byHand_42 : decode cL_byHand 42 = .ok (.iload_n 3, 1) := by decide +kernel
theorem dL_byHand_43 : decode cL_byHand 43 = .ok (.aload_n 0, 1) := by decide +kernel
theorem dL_byHand_44 : decode cL_byHand 44 = .ok (.bipush 53, 2) := by decide +kernel
theorem dL_byHand_46 : decode cL_byHand 46 = .ok (.iaload, 1) := by decide +kernel
theorem dL_byHand_47 : decode cL_byHand 47 = .ok (.bipush 8, 2) := by decide +kernel
theorem dL_byHand_49 : decode cL_byHand 49 = .ok (.idiv, 1) := by decide +kernel
theorem dL_byHand_50 : decode cL_byHand 50 = .ok (.isub, 1) := by decide +kernel
theorem dL_byHand_51 : decode cL_byHand 51 = .ok (.iastore, 1) := by decide +kernel
theorem dL_byHand_52 : decode cL_byHand 52 = .ok (.aload_n 0, 1) := by decide +kernel
theorem dL_byHand_53 : decode cL_byHand 53 = .ok (.iload 8, 2) := by decide +kernel
theorem dL_byHand_55 : decode cL_byHand 55 = .ok (.iconst 2, 1) := by decide +kernel
theorem dL_byHand_56 : decode cL_byHand 56 = .ok (.iadd, 1) := by decide +kernel
theorem dL_byHand_57 : decode cL_byHand 57 = .ok (.iload 4, 2) := by decide +kernel
theorem dL_byHand_59 : decode cL_byHand 59 = .ok (.aload_n 0, 1) := by decide +kernel

theorem dX7_ruleAt_29 : decode cX7_ruleAt 29 = .ok (.aconst_null, 1) := by decide +kernel
theorem dX7_ruleAt_30 : decode cX7_ruleAt 30 = .ok (.areturn, 1) := by decide +kernel
set_option maxRecDepth 20000 in
theorem ggX7_ruleNumberFor_Jx4a65c_size_8abf5 : GoodIn wsX7_ruleNumberFor wsJx4a65c_size_8abf5 := goodIn_r _ [7, 8, 51, 52, 53] (by decide +kernel) (by decide +kernel)
set_option maxRecDepth 20000 in
theorem gX7_ruleNumberFor_Jx4a65c_size_8abf5 : GoodIn wsX7_ruleNumberFor (wsV RX7 95 RJx4a65c yJx4a65c_size_8abf5 wsJx4a65c_size_8abf5) := goodIn_app (goodIn_of _ (by decide +kernel)) ggX7_ruleNumberFor_Jx4a65c_size_8abf5
set_option maxRecDepth 20000 in
theorem ggX7_ruleNumberFor_Jx4a65c_get_915e3 : GoodIn wsX7_ruleNumberFor wsJx4a65c_get_915e3 := goodIn_r _ [12, 8, 13, 14, 15, 16, 17, 18, 19, 20, 21, 22, 23, 6, 24, 25, 51, 52, 53] (by decide +kernel) (by decide +kernel)
set_option maxRecDepth 20000 in
theorem gX7_ruleNumberFor_Jx4a65c_get_915e3 : GoodIn wsX7_ruleNumberFor (wsV RX7 154 RJx4a65c yJx4a65c_get_915e3 wsJx4a65c_get_915e3) := goodIn_app (goodIn_of _ (by decide +kernel)) ggX7_ruleNumberFor_Jx4a65c_get_915e3
set_option maxRecDepth 20000 in
theorem ggX7_ruleNumberFor_X4_holds : GoodIn wsX7_ruleNumberFor wsX4_holds := goodIn_r _ [30, 31, 32, 33, 34, 54, 55, 56, 57] (by decide +kernel) (by decide +kernel)
set_option maxRecDepth 20000 in
theorem gX7_ruleNumberFor_X4_holds : GoodIn wsX7_ruleNumberFor (wsV RX7 313 RX4 yX4_holds wsX4_holds) := goodIn_app (goodIn_of _ (by decide +kernel)) ggX7_ruleNumberFor_X4_holds
theorem dX7_ruleNumberFor_0 : decode cX7_ruleNumberFor 0 = .ok (.iconst (-1), 1) := by decide +kernel
theorem dX7_ruleNumberFor_1 : decode cX7_ruleNumberFor 1 = .ok (.istore_n 3, 1) := by decide +kernel
theorem dX7_ruleNumberFor_2 : decode cX7_ruleNumberFor 2 = .ok (.iconst (-1), 1) := by decide +kernel
theorem dX7_ruleNumberFor_3 : decode cX7_ruleNumberFor 3 = .ok (.istore 4, 2) := by decide +kernel
theorem dX7_ruleNumberFor_5 : decode cX7_ruleNumberFor 5 = .ok (.iconst 0, 1) := by decide +kernel
theorem dX7_ruleNumberFor_6 : decode cX7_ruleNumberFor 6 = .ok (.istore 5, 2) := by decide +kernel
theorem dX7_ruleNumberFor_8 : decode cX7_ruleNumberFor 8 = .ok (.iload 5, 2) := by decide +kernel
theorem dX7_ruleNumberFor_10 : decode cX7_ruleNumberFor 10 = .ok (.aload_n 0, 1) := by decide +kernel
theorem dX7_ruleNumberFor_11 : decode cX7_ruleNumberFor 11 = .ok (.getfield 26, 3) := by decide +kernel
theorem dX7_ruleNumberFor_14 : decode cX7_ruleNumberFor 14 = .ok (.invokevirtual 95, 3) := by decide +kernel
theorem dX7_ruleNumberFor_17 : decode cX7_ruleNumberFor 17 = .ok (.if_icmp .ge 56, 3) := by decide +kernel
theorem dX7_ruleNumberFor_20 : decode cX7_ruleNumberFor 20 = .ok (.aload_n 0, 1) := by decide +kernel
theorem dX7_ruleNumberFor_21 : decode cX7_ruleNumberFor 21 = .ok (.getfield 26, 3) := by decide +kernel
theorem dX7_ruleNumberFor_24 : decode cX7_ruleNumberFor 24 = .ok (.iload 5, 2) := by decide +kernel
theorem dX7_ruleNumberFor_26 : decode cX7_ruleNumberFor 26 = .ok (.invokevirtual 154, 3) := by decide +kernel
theorem dX7_ruleNumberFor_29 : decode cX7_ruleNumberFor 29 = .ok (.checkcast 193, 3) := by decide +kernel
theorem dX7_ruleNumberFor_32 : decode cX7_ruleNumberFor 32 = .ok (.astore 6, 2) := by decide +kernel
theorem dX7_ruleNumberFor_34 : decode cX7_ruleNumberFor 34 = .ok (.aload 6, 2) := by decide +kernel
theorem dX7_ruleNumberFor_36 : decode cX7_ruleNumberFor 36 = .ok (.getfield 209, 3) := by decide +kernel
theorem dX7_ruleNumberFor_39 : decode cX7_ruleNumberFor 39 = .ok (.iload 4, 2) := by decide +kernel
theorem dX7_ruleNumberFor_41 : decode cX7_ruleNumberFor 41 = .ok (.if_icmp .le 26, 3) := by decide +kernel
theorem dX7_ruleNumberFor_44 : decode cX7_ruleNumberFor 44 = .ok (.aload 6, 2) := by decide +kernel
theorem dX7_ruleNumberFor_46 : decode cX7_ruleNumberFor 46 = .ok (.getfield 309, 3) := by decide +kernel
theorem dX7_ruleNumberFor_49 : decode cX7_ruleNumberFor 49 = .ok (.iload_n 1, 1) := by decide +kernel
theorem dX7_ruleNumberFor_50 : decode cX7_ruleNumberFor 50 = .ok (.iload_n 2, 1) := by decide +kernel
theorem dX7_ruleNumberFor_51 : decode cX7_ruleNumberFor 51 = .ok (.invokevirtual 313, 3) := by decide +kernel
theorem dX7_ruleNumberFor_54 : decode cX7_ruleNumberFor 54 = .ok (.ifCond .eq 13, 3) := by decide +kernel
theorem dX7_ruleNumberFor_57 : decode cX7_ruleNumberFor 57 = .ok (.iload 5, 2) := by decide +kernel
theorem dX7_ruleNumberFor_59 : decode cX7_ruleNumberFor 59 = .ok (.istore_n 3, 1) := by decide +kernel
theorem dX7_ruleNumberFor_60 : decode cX7_ruleNumberFor 60 = .ok (.aload 6, 2) := by decide +kernel
theorem dX7_ruleNumberFor_62 : decode cX7_ruleNumberFor 62 = .ok (.getfield 209, 3) := by decide +kernel
theorem dX7_ruleNumberFor_65 : decode cX7_ruleNumberFor 65 = .ok (.istore 4, 2) := by decide +kernel
theorem dX7_ruleNumberFor_67 : decode cX7_ruleNumberFor 67 = .ok (.iinc 5 1, 3) := by decide +kernel
theorem dX7_ruleNumberFor_70 : decode cX7_ruleNumberFor 70 = .ok (.goto (-62), 3) := by decide +kernel
theorem dX7_ruleNumberFor_73 : decode cX7_ruleNumberFor 73 = .ok (.iload_n 3, 1) := by decide +kernel
theorem dX7_ruleNumberFor_74 : decode cX7_ruleNumberFor 74 = .ok (.ireturn, 1) := by decide +kernel
set_option maxRecDepth 20000 in
theorem ggX7_changeByHand_X6_init : GoodIn wsX7_changeByHand wsX6_init := goodIn_r _ [9, 10, 11, 12, 13, 14, 15, 16, 255, 256, 257, 258] (by decide +kernel) (by decide +kernel)
set_option maxRecDepth 20000 in
theorem gX7_changeByHand_X6_init : GoodIn wsX7_changeByHand (wsX6_init) := ggX7_changeByHand_X6_init
set_option maxRecDepth 20000 in
theorem ggX7_changeByHand_X7_macroAt : GoodIn wsX7_changeByHand wsX7_macroAt := goodIn_r _ [21, 22, 23, 24, 25, 26, 27, 28, 29, 30, 31, 32, 33, 34, 35, 36, 37, 38, 39, 40, 41, 42, 43, 44, 45, 46, 259, 260, 261, 262, 263, 264, 265, 266, 267, 268, 269, 270, 271, 272, 273, 274] (by decide +kernel) (by decide +kernel)
set_option maxRecDepth 20000 in
theorem gX7_changeByHand_X7_macroAt : GoodIn wsX7_changeByHand (wsV RX7 128 RX7 yX7_macroAt wsX7_macroAt) := goodIn_app (goodIn_of _ (by decide +kernel)) ggX7_changeByHand_X7_macroAt
set_option maxRecDepth 20000 in
theorem ggX7_changeByHand_X3_keepStep : GoodIn wsX7_changeByHand wsX3_keepStep := goodIn_r _ [51, 52, 53, 25, 26, 27, 28, 29, 54, 55, 56, 57, 58, 59, 46, 60, 61, 62, 63, 64, 65, 66, 67, 68, 69, 70, 71, 72, 73, 74, 75, 76, 77, 78, 79, 80, 81, 82, 83, 84, 85, 86, 87, 88, 89, 90, 91, 92, 93, 94, 95, 96, 97, 98, 99, 100, 101, 102, 103, 104, 105, 106, 275, 276, 277, 272, 273, 274] (by decide +kernel) (by decide +kernel)
set_option maxRecDepth 20000 in
theorem gX7_changeByHand_X3_keepStep : GoodIn wsX7_changeByHand (wsV RX7 319 RX3 yX3_keepStep wsX3_keepStep) := goodIn_app (goodIn_of _ (by decide +kernel)) ggX7_changeByHand_X3_keepStep
set_option maxRecDepth 20000 in
theorem ggX7_changeByHand_X7_beginAction : GoodIn wsX7_changeByHand wsX7_beginAction := goodIn_r _ [110, 111, 112, 113, 114, 115, 116, 117, 118, 119, 120, 121, 122, 123, 124, 125, 126, 127, 128, 129, 89, 130, 131, 132, 133, 134, 135, 136, 137, 100, 101, 75, 102, 103, 104, 105, 106, 259, 260, 261, 262, 263, 264, 265, 266, 267, 268, 269, 270, 271, 278, 279, 280, 281, 282] (by decide +kernel) (by decide +kernel)
set_option maxRecDepth 20000 in
theorem gX7_changeByHand_X7_beginAction : GoodIn wsX7_changeByHand (wsV RX7 173 RX7 yX7_beginAction wsX7_beginAction) := goodIn_app (goodIn_of _ (by decide +kernel)) ggX7_changeByHand_X7_beginAction
set_option maxRecDepth 20000 in
theorem ggX7_changeByHand_X7_placeOf : GoodIn wsX7_changeByHand wsX7_placeOf := goodIn_r _ [140] (by decide +kernel) (by decide +kernel)
set_option maxRecDepth 20000 in
theorem gX7_changeByHand_X7_placeOf : GoodIn wsX7_changeByHand (va_wsS RX7 77 yX7_placeOf wsX7_placeOf) := goodIn_app (goodIn_of _ (by decide +kernel)) ggX7_changeByHand_X7_placeOf
set_option maxRecDepth 20000 in
theorem ggX7_changeByHand_X7_change : GoodIn wsX7_changeByHand wsX7_change := goodIn_ca (goodIn_r _ [144, 145, 111, 112, 146, 147, 148, 149, 150, 151, 152, 153, 154, 155, 156, 157, 158, 159, 3, 160, 13, 16, 113, 114, 115, 116, 117, 118, 161, 162, 163, 164, 123, 165, 166, 167, 168, 125, 126, 127, 169, 170, 171, 172, 259, 260, 261, 262, 263, 264, 265, 266, 267, 268, 269, 270, 271, 283, 255, 256, 257, 258, 278, 279, 280, 281, 282] (by decide +kernel) (by decide +kernel)) (goodIn_sub (fun _ h => List.mem_cons_of_mem _ (List.mem_append_right _ h)) (by decide +kernel))
set_option maxRecDepth 20000 in
theorem gX7_changeByHand_X7_change : GoodIn wsX7_changeByHand (wsV RX7 323 RX7 yX7_change wsX7_change) := goodIn_app (goodIn_of _ (by decide +kernel)) ggX7_changeByHand_X7_change
set_option maxRecDepth 20000 in
theorem ggX7_changeByHand_X7_runRules : GoodIn wsX7_changeByHand wsX7_runRules := goodIn_ca (goodIn_r _ [176, 146, 112, 111, 113, 114, 115, 116, 117, 118, 177, 178, 179, 180, 123, 181, 182, 183, 20, 184, 6, 185, 186, 187, 188, 189, 190, 191, 24, 25, 26, 27, 28, 29, 30, 31, 32, 33, 34, 35, 36, 37, 38, 39, 40, 41, 42, 43, 44, 45, 46, 192, 193, 194, 195, 196, 197, 198, 199, 200, 201, 202, 203, 204, 205, 206, 207, 208, 209, 145, 210, 211, 212, 150, 213, 152, 214, 104, 105, 106, 138, 139, 140, 215, 216, 217, 50, 218, 52, 53, 219, 220, 221, 222, 223, 224, 225, 226, 227, 228, 229, 230, 231, 232, 233, 234, 147, 148, 149, 151, 153, 154, 155, 156, 157, 158, 159, 3, 160, 13, 16, 235, 236, 237, 169, 170, 171, 172, 238, 239, 240, 241, 141, 142, 143, 144, 161, 162, 163, 164, 165, 166, 167, 168, 125, 126, 127, 259, 260, 261, 262, 263, 264, 265, 266, 267, 268, 269, 270, 271, 278, 279, 280, 281, 282, 284, 285, 286, 275, 276, 277, 272, 273, 274, 287, 288, 289, 290, 255, 256, 257, 258, 283] (by decide +kernel) (by decide +kernel)) (goodIn_sub (fun _ h => List.mem_cons_of_mem _ (List.mem_append_right _ h)) (by decide +kernel))
set_option maxRecDepth 20000 in
theorem gX7_changeByHand_X7_runRules : GoodIn wsX7_changeByHand (wsV RX7 180 RX7 yX7_runRules wsX7_runRules) := goodIn_app (goodIn_of _ (by decide +kernel)) ggX7_changeByHand_X7_runRules
set_option maxRecDepth 20000 in
theorem ggX7_changeByHand_X3_stepCount : GoodIn wsX7_changeByHand wsX3_stepCount := goodIn_r _ [218, 52, 53, 25, 26, 27, 28, 29, 275, 276, 277, 272, 273, 274] (by decide +kernel) (by decide +kernel)
set_option maxRecDepth 20000 in
theorem gX7_changeByHand_X3_stepCount : GoodIn wsX7_changeByHand (wsV RX7 116 RX3 yX3_stepCount wsX3_stepCount) := goodIn_app (goodIn_of _ (by decide +kernel)) ggX7_changeByHand_X3_stepCount
set_option maxRecDepth 20000 in
theorem ggX7_changeByHand_X7_endAction : GoodIn wsX7_changeByHand wsX7_endAction := goodIn_ca (goodIn_r _ [245, 111, 112, 246, 113, 114, 115, 116, 117, 118, 247, 248, 249, 250, 251, 252, 253, 254, 104, 105, 106, 259, 260, 261, 262, 263, 264, 265, 266, 267, 268, 269, 270, 271, 278, 279, 280, 281, 282, 291, 292] (by decide +kernel) (by decide +kernel)) (goodIn_sub (fun _ h => List.mem_cons_of_mem _ (List.mem_append_right _ h)) (by decide +kernel))
set_option maxRecDepth 20000 in
theorem gX7_changeByHand_X7_endAction : GoodIn wsX7_changeByHand (wsV RX7 183 RX7 yX7_endAction wsX7_endAction) := goodIn_app (goodIn_of _ (by decide +kernel)) ggX7_changeByHand_X7_endAction
theorem dX7_changeByHand_0 : decode cX7_changeByHand 0 = .ok (.new 264, 3) := by decide +kernel
theorem dX7_changeByHand_3 : decode cX7_changeByHand 3 = .ok (.dup, 1) := by decide +kernel
theorem dX7_changeByHand_4 : decode cX7_changeByHand 4 = .ok (.iload_n 1, 1) := by decide +kernel
theorem dX7_changeByHand_5 : decode cX7_changeByHand 5 = .ok (.iload_n 2, 1) := by decide +kernel
theorem dX7_changeByHand_6 : decode cX7_changeByHand 6 = .ok (.aload_n 0, 1) := by decide +kernel
theorem dX7_changeByHand_7 : decode cX7_changeByHand 7 = .ok (.getfield 122, 3) := by decide +kernel
theorem dX7_changeByHand_10 : decode cX7_changeByHand 10 = .ok (.isub, 1) := by decide +kernel
theorem dX7_changeByHand_11 : decode cX7_changeByHand 11 = .ok (.iload_n 3, 1) := by decide +kernel
theorem dX7_changeByHand_12 : decode cX7_changeByHand 12 = .ok (.aload_n 0, 1) := by decide +kernel
theorem dX7_changeByHand_13 : decode cX7_changeByHand 13 = .ok (.getfield 125, 3) := by decide +kernel
theorem dX7_changeByHand_16 : decode cX7_changeByHand 16 = .ok (.isub, 1) := by decide +kernel
theorem dX7_changeByHand_17 : decode cX7_changeByHand 17 = .ok (.iload 4, 2) := by decide +kernel
theorem dX7_changeByHand_19 : decode cX7_changeByHand 19 = .ok (.invokespecial 316, 3) := by decide +kernel
theorem dX7_changeByHand_22 : decode cX7_changeByHand 22 = .ok (.astore 5, 2) := by decide +kernel
theorem dX7_changeByHand_24 : decode cX7_changeByHand 24 = .ok (.aload_n 0, 1) := by decide +kernel
theorem dX7_changeByHand_25 : decode cX7_changeByHand 25 = .ok (.aload_n 0, 1) := by decide +kernel
theorem dX7_changeByHand_26 : decode cX7_changeByHand 26 = .ok (.getfield 54, 3) := by decide +kernel
theorem dX7_changeByHand_29 : decode cX7_changeByHand 29 = .ok (.invokevirtual 128, 3) := by decide +kernel
theorem dX7_changeByHand_32 : decode cX7_changeByHand 32 = .ok (.astore 6, 2) := by decide +kernel
theorem dX7_changeByHand_34 : decode cX7_changeByHand 34 = .ok (.aload 6, 2) := by decide +kernel
theorem dX7_changeByHand_36 : decode cX7_changeByHand 36 = .ok (.ifnull 10, 3) := by decide +kernel
theorem dX7_changeByHand_39 : decode cX7_changeByHand 39 = .ok (.aload 6, 2) := by decide +kernel
theorem dX7_changeByHand_41 : decode cX7_changeByHand 41 = .ok (.aload 5, 2) := by decide +kernel
theorem dX7_changeByHand_43 : decode cX7_changeByHand 43 = .ok (.invokevirtual 319, 3) := by decide +kernel
theorem dX7_changeByHand_46 : decode cX7_changeByHand 46 = .ok (.aload_n 0, 1) := by decide +kernel
theorem dX7_changeByHand_47 : decode cX7_changeByHand 47 = .ok (.invokevirtual 173, 3) := by decide +kernel
theorem dX7_changeByHand_50 : decode cX7_changeByHand 50 = .ok (.aload_n 0, 1) := by decide +kernel
theorem dX7_changeByHand_51 : decode cX7_changeByHand 51 = .ok (.getfield 122, 3) := by decide +kernel
theorem dX7_changeByHand_54 : decode cX7_changeByHand 54 = .ok (.aload_n 0, 1) := by decide +kernel
theorem dX7_changeByHand_55 : decode cX7_changeByHand 55 = .ok (.getfield 125, 3) := by decide +kernel
theorem dX7_changeByHand_58 : decode cX7_changeByHand 58 = .ok (.invokestatic 77, 3) := by decide +kernel
theorem dX7_changeByHand_61 : decode cX7_changeByHand 61 = .ok (.istore 7, 2) := by decide +kernel
theorem dX7_changeByHand_63 : decode cX7_changeByHand 63 = .ok (.aload_n 0, 1) := by decide +kernel
theorem dX7_changeByHand_64 : decode cX7_changeByHand 64 = .ok (.iload_n 2, 1) := by decide +kernel
theorem dX7_changeByHand_65 : decode cX7_changeByHand 65 = .ok (.iload_n 3, 1) := by decide +kernel
theorem dX7_changeByHand_66 : decode cX7_changeByHand 66 = .ok (.invokestatic 77, 3) := by decide +kernel
theorem dX7_changeByHand_69 : decode cX7_changeByHand 69 = .ok (.aload 5, 2) := by decide +kernel
theorem dX7_changeByHand_71 : decode cX7_changeByHand 71 = .ok (.iload 7, 2) := by decide +kernel
theorem dX7_changeByHand_73 : decode cX7_changeByHand 73 = .ok (.iconst (-1), 1) := by decide +kernel
theorem dX7_changeByHand_74 : decode cX7_changeByHand 74 = .ok (.iconst 0, 1) := by decide +kernel
theorem dX7_changeByHand_75 : decode cX7_changeByHand 75 = .ok (.invokevirtual 323, 3) := by decide +kernel
theorem dX7_changeByHand_78 : decode cX7_changeByHand 78 = .ok (.aload_n 0, 1) := by decide +kernel
theorem dX7_changeByHand_79 : decode cX7_changeByHand 79 = .ok (.invokevirtual 180, 3) := by decide +kernel
theorem dX7_changeByHand_82 : decode cX7_changeByHand 82 = .ok (.aload 6, 2) := by decide +kernel
theorem dX7_changeByHand_84 : decode cX7_changeByHand 84 = .ok (.ifnull 18, 3) := by decide +kernel
theorem dX7_changeByHand_87 : decode cX7_changeByHand 87 = .ok (.aload 6, 2) := by decide +kernel
theorem dX7_changeByHand_89 : decode cX7_changeByHand 89 = .ok (.invokevirtual 116, 3) := by decide +kernel
theorem dX7_changeByHand_92 : decode cX7_changeByHand 92 = .ok (.bipush 10, 2) := by decide +kernel
theorem dX7_changeByHand_94 : decode cX7_changeByHand 94 = .ok (.if_icmp .lt 8, 3) := by decide +kernel
theorem dX7_changeByHand_97 : decode cX7_changeByHand 97 = .ok (.aload_n 0, 1) := by decide +kernel
theorem dX7_changeByHand_98 : decode cX7_changeByHand 98 = .ok (.iconst (-1), 1) := by decide +kernel
theorem dX7_changeByHand_99 : decode cX7_changeByHand 99 = .ok (.putfield 54, 3) := by decide +kernel
theorem dX7_changeByHand_102 : decode cX7_changeByHand 102 = .ok (.aload_n 0, 1) := by decide +kernel
theorem dX7_changeByHand_103 : decode cX7_changeByHand 103 = .ok (.invokevirtual 183, 3) := by decide +kernel
theorem dX7_changeByHand_106 : decode cX7_changeByHand 106 = .ok (.ireturn, 1) := by decide +kernel
set_option maxRecDepth 20000 in
theorem ggX7_beginAction_X0_size : GoodIn wsX7_beginAction wsX0_size := goodIn_r _ [7, 8, 50, 51, 52, 53, 54] (by decide +kernel) (by decide +kernel)
set_option maxRecDepth 20000 in
theorem gX7_beginAction_X0_size : GoodIn wsX7_beginAction (wsV RX7 228 RX0 yX0_size wsX0_size) := goodIn_app (goodIn_of _ (by decide +kernel)) ggX7_beginAction_X0_size
set_option maxRecDepth 20000 in
theorem ggX7_beginAction_X0_makeRoom : GoodIn wsX7_beginAction wsX0_makeRoom := goodIn_r _ [12, 13, 8, 14, 15, 16, 17, 18, 19, 20, 21, 22, 23, 24, 25, 26, 27, 28, 29, 30, 31, 32, 33, 34, 35, 36, 50, 51, 52, 53, 54] (by decide +kernel) (by decide +kernel)
set_option maxRecDepth 20000 in
theorem gX7_beginAction_X0_makeRoom : GoodIn wsX7_beginAction (wsV RX7 330 RX0 yX0_makeRoom wsX0_makeRoom) := goodIn_app (goodIn_of _ (by decide +kernel)) ggX7_beginAction_X0_makeRoom
theorem dX7_beginAction_0 : decode cX7_beginAction 0 = .ok (.aload_n 0, 1) := by decide +kernel
theorem dX7_beginAction_1 : decode cX7_beginAction 1 = .ok (.aload_n 0, 1) := by decide +kernel
theorem dX7_beginAction_2 : decode cX7_beginAction 2 = .ok (.getfield 32, 3) := by decide +kernel
theorem dX7_beginAction_5 : decode cX7_beginAction 5 = .ok (.invokevirtual 228, 3) := by decide +kernel
theorem dX7_beginAction_8 : decode cX7_beginAction 8 = .ok (.putfield 327, 3) := by decide +kernel
theorem dX7_beginAction_11 : decode cX7_beginAction 11 = .ok (.aload_n 0, 1) := by decide +kernel
theorem dX7_beginAction_12 : decode cX7_beginAction 12 = .ok (.getfield 32, 3) := by decide +kernel
theorem dX7_beginAction_15 : decode cX7_beginAction 15 = .ok (.invokevirtual 330, 3) := by decide +kernel
theorem dX7_beginAction_18 : decode cX7_beginAction 18 = .ok (.return_, 1) := by decide +kernel
set_option maxRecDepth 20000 in
theorem ggX7_endAction_X0_size : GoodIn wsX7_endAction wsX0_size := goodIn_r _ [8, 9, 34, 35, 36, 37, 38] (by decide +kernel) (by decide +kernel)
set_option maxRecDepth 20000 in
theorem gX7_endAction_X0_size : GoodIn wsX7_endAction (wsV RX7 228 RX0 yX0_size wsX0_size) := goodIn_app (goodIn_of _ (by decide +kernel)) ggX7_endAction_X0_size
set_option maxRecDepth 20000 in
theorem ggX7_endAction_X2_keep : GoodIn wsX7_endAction wsX2_keep := goodIn_ca (goodIn_r _ [14, 15, 16, 17, 18, 19, 20, 39, 40] (by decide +kernel) (by decide +kernel)) (goodIn_sub (fun _ h => List.mem_cons_of_mem _ (List.mem_append_right _ h)) (by decide +kernel))
set_option maxRecDepth 20000 in
theorem gX7_endAction_X2_keep : GoodIn wsX7_endAction (wsV RX7 333 RX2 yX2_keep wsX2_keep) := goodIn_app (goodIn_of _ (by decide +kernel)) ggX7_endAction_X2_keep
theorem dX7_endAction_0 : decode cX7_endAction 0 = .ok (.aload_n 0, 1) := by decide +kernel
theorem dX7_endAction_1 : decode cX7_endAction 1 = .ok (.getfield 32, 3) := by decide +kernel
theorem dX7_endAction_4 : decode cX7_endAction 4 = .ok (.invokevirtual 228, 3) := by decide +kernel
theorem dX7_endAction_7 : decode cX7_endAction 7 = .ok (.aload_n 0, 1) := by decide +kernel
theorem dX7_endAction_8 : decode cX7_endAction 8 = .ok (.getfield 327, 3) := by decide +kernel
theorem dX7_endAction_11 : decode cX7_endAction 11 = .ok (.isub, 1) := by decide +kernel
theorem dX7_endAction_12 : decode cX7_endAction 12 = .ok (.istore_n 1, 1) := by decide +kernel
theorem dX7_endAction_13 : decode cX7_endAction 13 = .ok (.iload_n 1, 1) := by decide +kernel
theorem dX7_endAction_14 : decode cX7_endAction 14 = .ok (.ifCond .le 14, 3) := by decide +kernel
theorem dX7_endAction_17 : decode cX7_endAction 17 = .ok (.aload_n 0, 1) := by decide +kernel
theorem dX7_endAction_18 : decode cX7_endAction 18 = .ok (.getfield 39, 3) := by decide +kernel
theorem dX7_endAction_21 : decode cX7_endAction 21 = .ok (.aload_n 0, 1) := by decide +kernel
theorem dX7_endAction_22 : decode cX7_endAction 22 = .ok (.getfield 327, 3) := by decide +kernel
theorem dX7_endAction_25 : decode cX7_endAction 25 = .ok (.invokevirtual 333, 3) := by decide +kernel
theorem dX7_endAction_28 : decode cX7_endAction 28 = .ok (.iload_n 1, 1) := by decide +kernel
theorem dX7_endAction_29 : decode cX7_endAction 29 = .ok (.ireturn, 1) := by decide +kernel
set_option maxRecDepth 20000 in
theorem ggX7_runRules_X0_size : GoodIn wsX7_runRules wsX0_size := goodIn_r _ [8, 9, 160, 161, 162, 163, 164] (by decide +kernel) (by decide +kernel)
set_option maxRecDepth 20000 in
theorem gX7_runRules_X0_size : GoodIn wsX7_runRules (wsV RX7 228 RX0 yX0_size wsX0_size) := goodIn_app (goodIn_of _ (by decide +kernel)) ggX7_runRules_X0_size
set_option maxRecDepth 20000 in
theorem ggX7_runRules_X0_placeAt : GoodIn wsX7_runRules wsX0_placeAt := goodIn_ca (goodIn_r _ [13, 9, 14, 160, 161, 162, 163, 164] (by decide +kernel) (by decide +kernel)) (goodIn_sub (fun _ h => List.mem_cons_of_mem _ (List.mem_append_right _ h)) (by decide +kernel))
set_option maxRecDepth 20000 in
theorem gX7_runRules_X0_placeAt : GoodIn wsX7_runRules (wsV RX7 229 RX0 yX0_placeAt wsX0_placeAt) := goodIn_app (goodIn_of _ (by decide +kernel)) ggX7_runRules_X0_placeAt
set_option maxRecDepth 20000 in
theorem ggX7_runRules_X7_runRuleFor : GoodIn wsX7_runRules wsX7_runRuleFor := goodIn_ca (goodIn_r _ [19, 20, 21, 22, 23, 24, 18, 25, 26, 27, 28, 29, 30, 31, 32, 33, 34, 35, 36, 37, 38, 39, 40, 41, 42, 43, 44, 45, 46, 47, 48, 49, 50, 51, 52, 53, 54, 55, 56, 57, 58, 59, 60, 61, 62, 63, 64, 65, 66, 67, 68, 69, 70, 71, 72, 73, 74, 75, 76, 77, 78, 79, 80, 81, 82, 83, 84, 85, 86, 87, 88, 89, 90, 91, 92, 93, 94, 95, 96, 97, 98, 99, 100, 101, 102, 103, 104, 105, 106, 107, 108, 109, 110, 111, 112, 113, 114, 115, 116, 117, 118, 119, 120, 121, 122, 123, 124, 125, 126, 127, 128, 129, 130, 131, 132, 133, 134, 135, 3, 2, 1, 4, 5, 6, 7, 8, 9, 136, 137, 138, 139, 14, 140, 141, 142, 143, 144, 145, 146, 165, 166, 167, 168, 169, 170, 147, 148, 149, 150, 151, 152, 153, 154, 155, 156, 157, 158, 159, 171, 172, 173, 174, 175, 176, 177, 178, 179, 180, 181, 182, 160, 161, 162, 163, 164] (by decide +kernel) (by decide +kernel)) (goodIn_sub (fun _ h => List.mem_cons_of_mem _ (List.mem_append_right _ h)) (by decide +kernel))
set_option maxRecDepth 20000 in
theorem gX7_runRules_X7_runRuleFor : GoodIn wsX7_runRules (wsV RX7 336 RX7 yX7_runRuleFor wsX7_runRuleFor) := goodIn_app (goodIn_of _ (by decide +kernel)) ggX7_runRules_X7_runRuleFor
theorem dX7_runRules_0 : decode cX7_runRules 0 = .ok (.iconst 0, 1) := by decide +kernel
theorem dX7_runRules_1 : decode cX7_runRules 1 = .ok (.istore_n 1, 1) := by decide +kernel
theorem dX7_runRules_2 : decode cX7_runRules 2 = .ok (.iconst 0, 1) := by decide +kernel
theorem dX7_runRules_3 : decode cX7_runRules 3 = .ok (.istore_n 2, 1) := by decide +kernel
theorem dX7_runRules_4 : decode cX7_runRules 4 = .ok (.iload_n 2, 1) := by decide +kernel
theorem dX7_runRules_5 : decode cX7_runRules 5 = .ok (.aload_n 0, 1) := by decide +kernel
theorem dX7_runRules_6 : decode cX7_runRules 6 = .ok (.getfield 50, 3) := by decide +kernel
theorem dX7_runRules_9 : decode cX7_runRules 9 = .ok (.arraylength, 1) := by decide +kernel
theorem dX7_runRules_10 : decode cX7_runRules 10 = .ok (.if_icmp .ge 69, 3) := by decide +kernel
theorem dX7_runRules_13 : decode cX7_runRules 13 = .ok (.aload_n 0, 1) := by decide +kernel
theorem dX7_runRules_14 : decode cX7_runRules 14 = .ok (.getfield 327, 3) := by decide +kernel
theorem dX7_runRules_17 : decode cX7_runRules 17 = .ok (.iload_n 2, 1) := by decide +kernel
theorem dX7_runRules_18 : decode cX7_runRules 18 = .ok (.iadd, 1) := by decide +kernel
theorem dX7_runRules_19 : decode cX7_runRules 19 = .ok (.aload_n 0, 1) := by decide +kernel
theorem dX7_runRules_20 : decode cX7_runRules 20 = .ok (.getfield 32, 3) := by decide +kernel
theorem dX7_runRules_23 : decode cX7_runRules 23 = .ok (.invokevirtual 228, 3) := by decide +kernel
theorem dX7_runRules_26 : decode cX7_runRules 26 = .ok (.if_icmp .ge 53, 3) := by decide +kernel
theorem dX7_runRules_29 : decode cX7_runRules 29 = .ok (.aload_n 0, 1) := by decide +kernel
theorem dX7_runRules_30 : decode cX7_runRules 30 = .ok (.getfield 50, 3) := by decide +kernel
theorem dX7_runRules_33 : decode cX7_runRules 33 = .ok (.iload_n 2, 1) := by decide +kernel
theorem dX7_runRules_34 : decode cX7_runRules 34 = .ok (.iaload, 1) := by decide +kernel
theorem dX7_runRules_35 : decode cX7_runRules 35 = .ok (.istore_n 3, 1) := by decide +kernel
theorem dX7_runRules_36 : decode cX7_runRules 36 = .ok (.iload_n 3, 1) := by decide +kernel
theorem dX7_runRules_37 : decode cX7_runRules 37 = .ok (.iconst 3, 1) := by decide +kernel
theorem dX7_runRules_38 : decode cX7_runRules 38 = .ok (.if_icmp .ge 35, 3) := by decide +kernel
theorem dX7_runRules_41 : decode cX7_runRules 41 = .ok (.iload_n 1, 1) := by decide +kernel
theorem dX7_runRules_42 : decode cX7_runRules 42 = .ok (.bipush 20, 2) := by decide +kernel
theorem dX7_runRules_44 : decode cX7_runRules 44 = .ok (.if_icmp .ge 29, 3) := by decide +kernel
theorem dX7_runRules_47 : decode cX7_runRules 47 = .ok (.aload_n 0, 1) := by decide +kernel
theorem dX7_runRules_48 : decode cX7_runRules 48 = .ok (.aload_n 0, 1) := by decide +kernel
theorem dX7_runRules_49 : decode cX7_runRules 49 = .ok (.getfield 32, 3) := by decide +kernel
theorem dX7_runRules_52 : decode cX7_runRules 52 = .ok (.aload_n 0, 1) := by decide +kernel
theorem dX7_runRules_53 : decode cX7_runRules 53 = .ok (.getfield 327, 3) := by decide +kernel
theorem dX7_runRules_56 : decode cX7_runRules 56 = .ok (.iload_n 2, 1) := by decide +kernel
theorem dX7_runRules_57 : decode cX7_runRules 57 = .ok (.iadd, 1) := by decide +kernel
theorem dX7_runRules_58 : decode cX7_runRules 58 = .ok (.invokevirtual 229, 3) := by decide +kernel
theorem dX7_runRules_61 : decode cX7_runRules 61 = .ok (.iload_n 3, 1) := by decide +kernel
theorem dX7_runRules_62 : decode cX7_runRules 62 = .ok (.iconst 1, 1) := by decide +kernel
theorem dX7_runRules_63 : decode cX7_runRules 63 = .ok (.iadd, 1) := by decide +kernel
theorem dX7_runRules_64 : decode cX7_runRules 64 = .ok (.invokevirtual 336, 3) := by decide +kernel
theorem dX7_runRules_67 : decode cX7_runRules 67 = .ok (.ifCond .eq 6, 3) := by decide +kernel
theorem dX7_runRules_70 : decode cX7_runRules 70 = .ok (.iinc 1 1, 3) := by decide +kernel
theorem dX7_runRules_73 : decode cX7_runRules 73 = .ok (.iinc 2 1, 3) := by decide +kernel
theorem dX7_runRules_76 : decode cX7_runRules 76 = .ok (.goto (-72), 3) := by decide +kernel
theorem dX7_runRules_79 : decode cX7_runRules 79 = .ok (.return_, 1) := by decide +kernel
set_option maxRecDepth 20000 in
theorem ggX7_runRuleFor_X7_ruleNumberFor : GoodIn wsX7_runRuleFor wsX7_ruleNumberFor := goodIn_r _ [7, 8, 9, 10, 11, 12, 13, 14, 15, 16, 17, 18, 19, 20, 21, 22, 23, 24, 25, 26, 27, 28, 29, 30, 31, 32, 33, 34, 35, 36, 37, 38, 39, 40, 41, 145, 146, 147, 148, 149, 150, 151, 152, 153, 154, 155, 156, 157, 139, 140, 141, 158, 159, 160, 161, 162, 163, 164] (by decide +kernel) (by decide +kernel)
set_option maxRecDepth 20000 in
theorem gX7_runRuleFor_X7_ruleNumberFor : GoodIn wsX7_runRuleFor (wsV RX7 212 RX7 yX7_ruleNumberFor wsX7_ruleNumberFor) := goodIn_app (goodIn_of _ (by decide +kernel)) ggX7_runRuleFor_X7_ruleNumberFor
set_option maxRecDepth 20000 in
theorem ggX7_runRuleFor_X7_ruleAt : GoodIn wsX7_runRuleFor wsX7_ruleAt := goodIn_r _ [45, 8, 9, 10, 11, 12, 13, 14, 15, 16, 17, 18, 19, 20, 21, 22, 23, 24, 25, 26, 27, 28, 29, 30, 31, 32, 145, 146, 147, 148, 149, 150, 151, 152, 153, 154, 155, 156, 157, 158, 159, 160] (by decide +kernel) (by decide +kernel)
set_option maxRecDepth 20000 in
theorem gX7_runRuleFor_X7_ruleAt : GoodIn wsX7_runRuleFor (wsV RX7 198 RX7 yX7_ruleAt wsX7_ruleAt) := goodIn_app (goodIn_of _ (by decide +kernel)) ggX7_runRuleFor_X7_ruleAt
set_option maxRecDepth 20000 in
theorem ggX7_runRuleFor_X7_reasonAgainst : GoodIn wsX7_runRuleFor wsX7_reasonAgainst := goodIn_ca (goodIn_r _ [49, 50, 51, 52, 53, 54, 55, 56, 57, 58, 59, 60, 61, 62, 63, 6, 64, 65, 66, 67, 68, 69, 70, 71, 11, 12, 13, 14, 15, 72, 73, 74, 75, 76, 77, 17, 18, 19, 20, 21, 22, 23, 24, 25, 26, 27, 28, 29, 30, 31, 32, 78, 79, 80, 81, 82, 83, 84, 85, 86, 87, 34, 35, 36, 37, 38, 39, 40, 41, 88, 89, 90, 91, 92, 93, 94, 95, 96, 97, 98, 99, 100, 101, 102, 103, 104, 105, 106, 107, 108, 109, 145, 146, 147, 148, 149, 150, 151, 152, 153, 154, 155, 156, 157, 165, 166, 167, 168, 169, 142, 143, 144, 158, 159, 160, 161, 162, 163, 164] (by decide +kernel) (by decide +kernel)) (goodIn_sub (fun _ h => List.mem_cons_of_mem _ (List.mem_append_right _ h)) (by decide +kernel))
set_option maxRecDepth 20000 in
theorem gX7_runRuleFor_X7_reasonAgainst : GoodIn wsX7_runRuleFor (wsV RX7 162 RX7 yX7_reasonAgainst wsX7_reasonAgainst) := goodIn_app (goodIn_of _ (by decide +kernel)) ggX7_runRuleFor_X7_reasonAgainst
set_option maxRecDepth 20000 in
theorem ggX7_runRuleFor_X7_makeSteps : GoodIn wsX7_runRuleFor wsX7_makeSteps := goodIn_ca (goodIn_r _ [113, 62, 63, 6, 64, 65, 66, 67, 68, 69, 70, 71, 11, 12, 13, 14, 15, 72, 73, 74, 75, 76, 77, 17, 18, 19, 20, 21, 22, 23, 24, 25, 26, 27, 28, 29, 30, 31, 32, 114, 115, 116, 117, 51, 118, 119, 120, 88, 89, 90, 55, 91, 57, 92, 93, 94, 95, 96, 97, 98, 99, 100, 101, 102, 121, 122, 123, 124, 125, 126, 127, 128, 129, 130, 131, 132, 133, 134, 135, 136, 137, 138, 106, 107, 108, 109, 165, 166, 167, 168, 142, 143, 144, 158, 159, 160, 145, 146, 147, 148, 149, 150, 151, 152, 153, 154, 155, 156, 157, 169, 170, 171, 172, 173, 174] (by decide +kernel) (by decide +kernel)) (goodIn_sub (fun _ h => List.mem_cons_of_mem _ (List.mem_append_right _ h)) (by decide +kernel))
set_option maxRecDepth 20000 in
theorem gX7_runRuleFor_X7_makeSteps : GoodIn wsX7_runRuleFor (wsV RX7 176 RX7 yX7_makeSteps wsX7_makeSteps) := goodIn_app (goodIn_of _ (by decide +kernel)) ggX7_runRuleFor_X7_makeSteps
theorem dX7_runRuleFor_0 : decode cX7_runRuleFor 0 = .ok (.iload_n 1, 1) := by decide +kernel
theorem dX7_runRuleFor_1 : decode cX7_runRuleFor 1 = .ok (.bipush 6, 2) := by decide +kernel
theorem dX7_runRuleFor_3 : decode cX7_runRuleFor 3 = .ok (.irem, 1) := by decide +kernel
theorem dX7_runRuleFor_4 : decode cX7_runRuleFor 4 = .ok (.istore_n 3, 1) := by decide +kernel
theorem dX7_runRuleFor_5 : decode cX7_runRuleFor 5 = .ok (.iload_n 1, 1) := by decide +kernel
theorem dX7_runRuleFor_6 : decode cX7_runRuleFor 6 = .ok (.bipush 6, 2) := by decide +kernel
theorem dX7_runRuleFor_8 : decode cX7_runRuleFor 8 = .ok (.idiv, 1) := by decide +kernel
theorem dX7_runRuleFor_9 : decode cX7_runRuleFor 9 = .ok (.istore 4, 2) := by decide +kernel
theorem dX7_runRuleFor_11 : decode cX7_runRuleFor 11 = .ok (.aload_n 0, 1) := by decide +kernel
theorem dX7_runRuleFor_12 : decode cX7_runRuleFor 12 = .ok (.aload_n 0, 1) := by decide +kernel
theorem dX7_runRuleFor_13 : decode cX7_runRuleFor 13 = .ok (.iload_n 3, 1) := by decide +kernel
theorem dX7_runRuleFor_14 : decode cX7_runRuleFor 14 = .ok (.iload 4, 2) := by decide +kernel
theorem dX7_runRuleFor_16 : decode cX7_runRuleFor 16 = .ok (.invokevirtual 212, 3) := by decide +kernel
theorem dX7_runRuleFor_19 : decode cX7_runRuleFor 19 = .ok (.invokevirtual 198, 3) := by decide +kernel
theorem dX7_runRuleFor_22 : decode cX7_runRuleFor 22 = .ok (.astore 5, 2) := by decide +kernel
theorem dX7_runRuleFor_24 : decode cX7_runRuleFor 24 = .ok (.aload 5, 2) := by decide +kernel
theorem dX7_runRuleFor_26 : decode cX7_runRuleFor 26 = .ok (.ifnull 18, 3) := by decide +kernel
theorem dX7_runRuleFor_29 : decode cX7_runRuleFor 29 = .ok (.aload 5, 2) := by decide +kernel
theorem dX7_runRuleFor_31 : decode cX7_runRuleFor 31 = .ok (.getfield 339, 3) := by decide +kernel
theorem dX7_runRuleFor_34 : decode cX7_runRuleFor 34 = .ok (.getfield 343, 3) := by decide +kernel
theorem dX7_runRuleFor_37 : decode cX7_runRuleFor 37 = .ok (.aload_n 0, 1) := by decide +kernel
theorem dX7_runRuleFor_38 : decode cX7_runRuleFor 38 = .ok (.getfield 54, 3) := by decide +kernel
theorem dX7_runRuleFor_41 : decode cX7_runRuleFor 41 = .ok (.if_icmp .ne 5, 3) := by decide +kernel
theorem dX7_runRuleFor_44 : decode cX7_runRuleFor 44 = .ok (.iconst 0, 1) := by decide +kernel
theorem dX7_runRuleFor_45 : decode cX7_runRuleFor 45 = .ok (.ireturn, 1) := by decide +kernel
theorem dX7_runRuleFor_46 : decode cX7_runRuleFor 46 = .ok (.aload_n 0, 1) := by decide +kernel
theorem dX7_runRuleFor_47 : decode cX7_runRuleFor 47 = .ok (.aload 5, 2) := by decide +kernel
theorem dX7_runRuleFor_49 : decode cX7_runRuleFor 49 = .ok (.getfield 339, 3) := by decide +kernel
theorem dX7_runRuleFor_52 : decode cX7_runRuleFor 52 = .ok (.iload_n 3, 1) := by decide +kernel
theorem dX7_runRuleFor_53 : decode cX7_runRuleFor 53 = .ok (.iload 4, 2) := by decide +kernel
theorem dX7_runRuleFor_55 : decode cX7_runRuleFor 55 = .ok (.invokevirtual 162, 3) := by decide +kernel
theorem dX7_runRuleFor_58 : decode cX7_runRuleFor 58 = .ok (.bipush 45, 2) := by decide +kernel
theorem dX7_runRuleFor_60 : decode cX7_runRuleFor 60 = .ok (.if_icmp .eq 15, 3) := by decide +kernel
theorem dX7_runRuleFor_63 : decode cX7_runRuleFor 63 = .ok (.aload_n 0, 1) := by decide +kernel
theorem dX7_runRuleFor_64 : decode cX7_runRuleFor 64 = .ok (.dup, 1) := by decide +kernel
theorem dX7_runRuleFor_65 : decode cX7_runRuleFor 65 = .ok (.getfield 220, 3) := by decide +kernel
theorem dX7_runRuleFor_68 : decode cX7_runRuleFor 68 = .ok (.iconst 1, 1) := by decide +kernel
theorem dX7_runRuleFor_69 : decode cX7_runRuleFor 69 = .ok (.iadd, 1) := by decide +kernel
theorem dX7_runRuleFor_70 : decode cX7_runRuleFor 70 = .ok (.putfield 220, 3) := by decide +kernel
theorem dX7_runRuleFor_73 : decode cX7_runRuleFor 73 = .ok (.iconst 0, 1) := by decide +kernel
theorem dX7_runRuleFor_74 : decode cX7_runRuleFor 74 = .ok (.ireturn, 1) := by decide +kernel
theorem dX7_runRuleFor_75 : decode cX7_runRuleFor 75 = .ok (.aload_n 0, 1) := by decide +kernel
theorem dX7_runRuleFor_76 : decode cX7_runRuleFor 76 = .ok (.aload 5, 2) := by decide +kernel
theorem dX7_runRuleFor_78 : decode cX7_runRuleFor 78 = .ok (.getfield 339, 3) := by decide +kernel
theorem dX7_runRuleFor_81 : decode cX7_runRuleFor 81 = .ok (.iload_n 3, 1) := by decide +kernel
theorem dX7_runRuleFor_82 : decode cX7_runRuleFor 82 = .ok (.iload 4, 2) := by decide +kernel
theorem dX7_runRuleFor_84 : decode cX7_runRuleFor 84 = .ok (.iload_n 2, 1) := by decide +kernel
theorem dX7_runRuleFor_85 : decode cX7_runRuleFor 85 = .ok (.invokevirtual 176, 3) := by decide +kernel
theorem dX7_runRuleFor_88 : decode cX7_runRuleFor 88 = .ok (.iconst 1, 1) := by decide +kernel
theorem dX7_runRuleFor_89 : decode cX7_runRuleFor 89 = .ok (.ireturn, 1) := by decide +kernel
set_option maxRecDepth 20000 in
theorem ggX7_reasonAgainst_X1_copyFrom : GoodIn wsX7_reasonAgainst wsX1_copyFrom := goodIn_r _ [7, 8, 9, 10, 11, 12, 108] (by decide +kernel) (by decide +kernel)
set_option maxRecDepth 20000 in
theorem gX7_reasonAgainst_X1_copyFrom : GoodIn wsX7_reasonAgainst (wsV RX7 344 RX1 yX1_copyFrom wsX1_copyFrom) := goodIn_app (goodIn_of _ (by decide +kernel)) ggX7_reasonAgainst_X1_copyFrom
set_option maxRecDepth 20000 in
theorem ggX7_reasonAgainst_X7_placeOf : GoodIn wsX7_reasonAgainst wsX7_placeOf := goodIn_r _ [16] (by decide +kernel) (by decide +kernel)
set_option maxRecDepth 20000 in
theorem gX7_reasonAgainst_X7_placeOf : GoodIn wsX7_reasonAgainst (va_wsS RX7 77 yX7_placeOf wsX7_placeOf) := goodIn_app (goodIn_of _ (by decide +kernel)) ggX7_reasonAgainst_X7_placeOf
set_option maxRecDepth 20000 in
theorem ggX7_reasonAgainst_X3_stepCount : GoodIn wsX7_reasonAgainst wsX3_stepCount := goodIn_r _ [21, 22, 23, 24, 25, 26, 27, 28, 109, 110, 111, 112, 113, 114] (by decide +kernel) (by decide +kernel)
set_option maxRecDepth 20000 in
theorem gX7_reasonAgainst_X3_stepCount : GoodIn wsX7_reasonAgainst (wsV RX7 116 RX3 yX3_stepCount wsX3_stepCount) := goodIn_app (goodIn_of _ (by decide +kernel)) ggX7_reasonAgainst_X3_stepCount
set_option maxRecDepth 20000 in
theorem ggX7_reasonAgainst_X3_stepAt : GoodIn wsX7_reasonAgainst wsX3_stepAt := goodIn_r _ [32, 22, 33, 23, 24, 25, 26, 27, 28, 34, 35, 36, 37, 38, 39, 40, 41, 42, 43, 44, 45, 46, 47, 48, 49, 50, 109, 110, 111, 112, 113, 114] (by decide +kernel) (by decide +kernel)
set_option maxRecDepth 20000 in
theorem gX7_reasonAgainst_X3_stepAt : GoodIn wsX7_reasonAgainst (wsV RX7 254 RX3 yX3_stepAt wsX3_stepAt) := goodIn_app (goodIn_of _ (by decide +kernel)) ggX7_reasonAgainst_X3_stepAt
set_option maxRecDepth 20000 in
theorem ggX7_reasonAgainst_X7_isCell : GoodIn wsX7_reasonAgainst wsX7_isCell := goodIn_r _ [53] (by decide +kernel) (by decide +kernel)
set_option maxRecDepth 20000 in
theorem gX7_reasonAgainst_X7_isCell : GoodIn wsX7_reasonAgainst (va_wsS RX7 304 yX7_isCell wsX7_isCell) := goodIn_app (goodIn_of _ (by decide +kernel)) ggX7_reasonAgainst_X7_isCell
set_option maxRecDepth 20000 in
theorem ggX7_reasonAgainst_X3_mayChange : GoodIn wsX7_reasonAgainst wsX3_mayChange := goodIn_r _ [57, 58, 59, 23, 24, 25, 26, 27, 28, 34, 35, 36, 37, 38, 39, 40, 41, 42, 43, 44, 45, 46, 47, 48, 49, 50, 60, 61, 62, 63, 64, 65, 66, 67, 68, 109, 110, 111, 112, 113, 114, 115, 116, 117, 118] (by decide +kernel) (by decide +kernel)
set_option maxRecDepth 20000 in
theorem gX7_reasonAgainst_X3_mayChange : GoodIn wsX7_reasonAgainst (wsV RX7 158 RX3 yX3_mayChange wsX3_mayChange) := goodIn_app (goodIn_of _ (by decide +kernel)) ggX7_reasonAgainst_X3_mayChange
set_option maxRecDepth 20000 in
theorem ggX7_reasonAgainst_X1_valueAt : GoodIn wsX7_reasonAgainst wsX1_valueAt := goodIn_ca (goodIn_r _ [72, 8, 73, 74, 75, 6, 76, 108] (by decide +kernel) (by decide +kernel)) (goodIn_sub (fun _ h => List.mem_cons_of_mem _ (List.mem_append_right _ h)) (by decide +kernel))
set_option maxRecDepth 20000 in
theorem gX7_reasonAgainst_X1_valueAt : GoodIn wsX7_reasonAgainst (wsV RX7 81 RX1 yX1_valueAt wsX1_valueAt) := goodIn_app (goodIn_of _ (by decide +kernel)) ggX7_reasonAgainst_X1_valueAt
set_option maxRecDepth 20000 in
theorem ggX7_reasonAgainst_X6_valueBehind : GoodIn wsX7_reasonAgainst wsX6_valueBehind := goodIn_r _ [81, 82, 83, 104, 105, 106, 107] (by decide +kernel) (by decide +kernel)
set_option maxRecDepth 20000 in
theorem gX7_reasonAgainst_X6_valueBehind : GoodIn wsX7_reasonAgainst (wsV RX7 348 RX6 yX6_valueBehind wsX6_valueBehind) := goodIn_app (goodIn_of _ (by decide +kernel)) ggX7_reasonAgainst_X6_valueBehind
set_option maxRecDepth 20000 in
theorem ggX7_reasonAgainst_X7_isValue : GoodIn wsX7_reasonAgainst wsX7_isValue := goodIn_r _ [86] (by decide +kernel) (by decide +kernel)
set_option maxRecDepth 20000 in
theorem gX7_reasonAgainst_X7_isValue : GoodIn wsX7_reasonAgainst (va_wsS RX7 62 yX7_isValue wsX7_isValue) := goodIn_app (goodIn_of _ (by decide +kernel)) ggX7_reasonAgainst_X7_isValue
set_option maxRecDepth 20000 in
theorem ggX7_reasonAgainst_X1_put : GoodIn wsX7_reasonAgainst wsX1_put := goodIn_ca (goodIn_r _ [90, 8, 73, 74, 75, 6, 76, 108] (by decide +kernel) (by decide +kernel)) (goodIn_sub (fun _ h => List.mem_cons_of_mem _ (List.mem_append_right _ h)) (by decide +kernel))
set_option maxRecDepth 20000 in
theorem gX7_reasonAgainst_X1_put : GoodIn wsX7_reasonAgainst (wsV RX7 235 RX1 yX1_put wsX1_put) := goodIn_app (goodIn_of _ (by decide +kernel)) ggX7_reasonAgainst_X1_put
theorem dX7_reasonAgainst_0 : decode cX7_reasonAgainst 0 = .ok (.aload_n 0, 1) := by decide +kernel
theorem dX7_reasonAgainst_1 : decode cX7_reasonAgainst 1 = .ok (.getfield 16, 3) := by decide +kernel
theorem dX7_reasonAgainst_4 : decode cX7_reasonAgainst 4 = .ok (.aload_n 0, 1) := by decide +kernel
theorem dX7_reasonAgainst_5 : decode cX7_reasonAgainst 5 = .ok (.getfield 12, 3) := by decide +kernel
theorem dX7_reasonAgainst_8 : decode cX7_reasonAgainst 8 = .ok (.invokevirtual 344, 3) := by decide +kernel
theorem dX7_reasonAgainst_11 : decode cX7_reasonAgainst 11 = .ok (.iload_n 2, 1) := by decide +kernel
theorem dX7_reasonAgainst_12 : decode cX7_reasonAgainst 12 = .ok (.iload_n 3, 1) := by decide +kernel
theorem dX7_reasonAgainst_13 : decode cX7_reasonAgainst 13 = .ok (.invokestatic 77, 3) := by decide +kernel
theorem dX7_reasonAgainst_16 : decode cX7_reasonAgainst 16 = .ok (.istore 4, 2) := by decide +kernel
theorem dX7_reasonAgainst_18 : decode cX7_reasonAgainst 18 = .ok (.iconst 0, 1) := by decide +kernel
theorem dX7_reasonAgainst_19 : decode cX7_reasonAgainst 19 = .ok (.istore 5, 2) := by decide +kernel
theorem dX7_reasonAgainst_21 : decode cX7_reasonAgainst 21 = .ok (.iload 5, 2) := by decide +kernel
theorem dX7_reasonAgainst_23 : decode cX7_reasonAgainst 23 = .ok (.aload_n 1, 1) := by decide +kernel
theorem dX7_reasonAgainst_24 : decode cX7_reasonAgainst 24 = .ok (.invokevirtual 116, 3) := by decide +kernel
theorem dX7_reasonAgainst_27 : decode cX7_reasonAgainst 27 = .ok (.if_icmp .ge 126, 3) := by decide +kernel
theorem dX7_reasonAgainst_30 : decode cX7_reasonAgainst 30 = .ok (.aload_n 1, 1) := by decide +kernel
theorem dX7_reasonAgainst_31 : decode cX7_reasonAgainst 31 = .ok (.iload 5, 2) := by decide +kernel
theorem dX7_reasonAgainst_33 : decode cX7_reasonAgainst 33 = .ok (.invokevirtual 254, 3) := by decide +kernel
theorem dX7_reasonAgainst_36 : decode cX7_reasonAgainst 36 = .ok (.astore 6, 2) := by decide +kernel
theorem dX7_reasonAgainst_38 : decode cX7_reasonAgainst 38 = .ok (.aload 6, 2) := by decide +kernel
theorem dX7_reasonAgainst_40 : decode cX7_reasonAgainst 40 = .ok (.ifnonnull 6, 3) := by decide +kernel
theorem dX7_reasonAgainst_43 : decode cX7_reasonAgainst 43 = .ok (.goto 104, 3) := by decide +kernel
theorem dX7_reasonAgainst_46 : decode cX7_reasonAgainst 46 = .ok (.iload_n 2, 1) := by decide +kernel
theorem dX7_reasonAgainst_47 : decode cX7_reasonAgainst 47 = .ok (.aload 6, 2) := by decide +kernel
theorem dX7_reasonAgainst_49 : decode cX7_reasonAgainst 49 = .ok (.getfield 273, 3) := by decide +kernel
theorem dX7_reasonAgainst_52 : decode cX7_reasonAgainst 52 = .ok (.iadd, 1) := by decide +kernel
theorem dX7_reasonAgainst_53 : decode cX7_reasonAgainst 53 = .ok (.istore 7, 2) := by decide +kernel
theorem dX7_reasonAgainst_55 : decode cX7_reasonAgainst 55 = .ok (.iload_n 3, 1) := by decide +kernel
theorem dX7_reasonAgainst_56 : decode cX7_reasonAgainst 56 = .ok (.aload 6, 2) := by decide +kernel
theorem dX7_reasonAgainst_58 : decode cX7_reasonAgainst 58 = .ok (.getfield 279, 3) := by decide +kernel
theorem dX7_reasonAgainst_61 : decode cX7_reasonAgainst 61 = .ok (.iadd, 1) := by decide +kernel
theorem dX7_reasonAgainst_62 : decode cX7_reasonAgainst 62 = .ok (.istore 8, 2) := by decide +kernel
theorem dX7_reasonAgainst_64 : decode cX7_reasonAgainst 64 = .ok (.iload 7, 2) := by decide +kernel
theorem dX7_reasonAgainst_66 : decode cX7_reasonAgainst 66 = .ok (.iload 8, 2) := by decide +kernel
theorem dX7_reasonAgainst_68 : decode cX7_reasonAgainst 68 = .ok (.invokestatic 304, 3) := by decide +kernel
theorem dX7_reasonAgainst_71 : decode cX7_reasonAgainst 71 = .ok (.ifCond .ne 6, 3) := by decide +kernel
theorem dX7_reasonAgainst_74 : decode cX7_reasonAgainst 74 = .ok (.bipush 111, 2) := by decide +kernel
theorem dX7_reasonAgainst_76 : decode cX7_reasonAgainst 76 = .ok (.ireturn, 1) := by decide +kernel
theorem dX7_reasonAgainst_77 : decode cX7_reasonAgainst 77 = .ok (.aload_n 1, 1) := by decide +kernel
theorem dX7_reasonAgainst_78 : decode cX7_reasonAgainst 78 = .ok (.iload 7, 2) := by decide +kernel
theorem dX7_reasonAgainst_80 : decode cX7_reasonAgainst 80 = .ok (.iload 8, 2) := by decide +kernel
theorem dX7_reasonAgainst_82 : decode cX7_reasonAgainst 82 = .ok (.invokevirtual 158, 3) := by decide +kernel
theorem dX7_reasonAgainst_85 : decode cX7_reasonAgainst 85 = .ok (.ifCond .ne 6, 3) := by decide +kernel
theorem dX7_reasonAgainst_88 : decode cX7_reasonAgainst 88 = .ok (.bipush 103, 2) := by decide +kernel
theorem dX7_reasonAgainst_90 : decode cX7_reasonAgainst 90 = .ok (.ireturn, 1) := by decide +kernel
theorem dX7_reasonAgainst_91 : decode cX7_reasonAgainst 91 = .ok (.iload 7, 2) := by decide +kernel
theorem dX7_reasonAgainst_93 : decode cX7_reasonAgainst 93 = .ok (.iload 8, 2) := by decide +kernel
theorem dX7_reasonAgainst_95 : decode cX7_reasonAgainst 95 = .ok (.invokestatic 77, 3) := by decide +kernel
theorem dX7_reasonAgainst_98 : decode cX7_reasonAgainst 98 = .ok (.istore 9, 2) := by decide +kernel
theorem dX7_reasonAgainst_100 : decode cX7_reasonAgainst 100 = .ok (.aload 6, 2) := by decide +kernel
theorem dX7_reasonAgainst_102 : decode cX7_reasonAgainst 102 = .ok (.aload_n 0, 1) := by decide +kernel
theorem dX7_reasonAgainst_103 : decode cX7_reasonAgainst 103 = .ok (.getfield 16, 3) := by decide +kernel
theorem dX7_reasonAgainst_106 : decode cX7_reasonAgainst 106 = .ok (.iload 9, 2) := by decide +kernel
theorem dX7_reasonAgainst_108 : decode cX7_reasonAgainst 108 = .ok (.invokevirtual 81, 3) := by decide +kernel
theorem dX7_reasonAgainst_111 : decode cX7_reasonAgainst 111 = .ok (.aload_n 0, 1) := by decide +kernel
theorem dX7_reasonAgainst_112 : decode cX7_reasonAgainst 112 = .ok (.getfield 16, 3) := by decide +kernel
theorem dX7_reasonAgainst_115 : decode cX7_reasonAgainst 115 = .ok (.iload 4, 2) := by decide +kernel
theorem dX7_reasonAgainst_117 : decode cX7_reasonAgainst 117 = .ok (.invokevirtual 81, 3) := by decide +kernel
theorem dX7_reasonAgainst_120 : decode cX7_reasonAgainst 120 = .ok (.invokevirtual 348, 3) := by decide +kernel
theorem dX7_reasonAgainst_123 : decode cX7_reasonAgainst 123 = .ok (.istore 10, 2) := by decide +kernel
theorem dX7_reasonAgainst_125 : decode cX7_reasonAgainst 125 = .ok (.iload 10, 2) := by decide +kernel
theorem dX7_reasonAgainst_127 : decode cX7_reasonAgainst 127 = .ok (.invokestatic 62, 3) := by decide +kernel
theorem dX7_reasonAgainst_130 : decode cX7_reasonAgainst 130 = .ok (.ifCond .ne 6, 3) := by decide +kernel
theorem dX7_reasonAgainst_133 : decode cX7_reasonAgainst 133 = .ok (.bipush 118, 2) := by decide +kernel
theorem dX7_reasonAgainst_135 : decode cX7_reasonAgainst 135 = .ok (.ireturn, 1) := by decide +kernel
theorem dX7_reasonAgainst_136 : decode cX7_reasonAgainst 136 = .ok (.aload_n 0, 1) := by decide +kernel
theorem dX7_reasonAgainst_137 : decode cX7_reasonAgainst 137 = .ok (.getfield 16, 3) := by decide +kernel
theorem dX7_reasonAgainst_140 : decode cX7_reasonAgainst 140 = .ok (.iload 9, 2) := by decide +kernel
theorem dX7_reasonAgainst_142 : decode cX7_reasonAgainst 142 = .ok (.iload 10, 2) := by decide +kernel
theorem dX7_reasonAgainst_144 : decode cX7_reasonAgainst 144 = .ok (.invokevirtual 235, 3) := by decide +kernel
theorem dX7_reasonAgainst_147 : decode cX7_reasonAgainst 147 = .ok (.iinc 5 1, 3) := by decide +kernel
theorem dX7_reasonAgainst_150 : decode cX7_reasonAgainst 150 = .ok (.goto (-129), 3) := by decide +kernel
theorem dX7_reasonAgainst_153 : decode cX7_reasonAgainst 153 = .ok (.bipush 45, 2) := by decide +kernel
theorem dX7_reasonAgainst_155 : decode cX7_reasonAgainst 155 = .ok (.ireturn, 1) := by decide +kernel
set_option maxRecDepth 20000 in
theorem ggX7_makeSteps_X7_placeOf : GoodIn wsX7_makeSteps wsX7_placeOf := goodIn_r _ [4] (by decide +kernel) (by decide +kernel)
set_option maxRecDepth 20000 in
theorem gX7_makeSteps_X7_placeOf : GoodIn wsX7_makeSteps (va_wsS RX7 77 yX7_placeOf wsX7_placeOf) := goodIn_app (goodIn_of _ (by decide +kernel)) ggX7_makeSteps_X7_placeOf
set_option maxRecDepth 20000 in
theorem ggX7_makeSteps_X3_stepCount : GoodIn wsX7_makeSteps wsX3_stepCount := goodIn_r _ [9, 10, 11, 12, 13, 14, 15, 16, 90, 91, 92, 93, 94, 95] (by decide +kernel) (by decide +kernel)
set_option maxRecDepth 20000 in
theorem gX7_makeSteps_X3_stepCount : GoodIn wsX7_makeSteps (wsV RX7 116 RX3 yX3_stepCount wsX3_stepCount) := goodIn_app (goodIn_of _ (by decide +kernel)) ggX7_makeSteps_X3_stepCount
set_option maxRecDepth 20000 in
theorem ggX7_makeSteps_X3_stepAt : GoodIn wsX7_makeSteps wsX3_stepAt := goodIn_r _ [20, 10, 21, 11, 12, 13, 14, 15, 16, 22, 23, 24, 25, 26, 27, 28, 29, 30, 31, 32, 33, 34, 35, 36, 37, 38, 90, 91, 92, 93, 94, 95] (by decide +kernel) (by decide +kernel)
set_option maxRecDepth 20000 in
theorem gX7_makeSteps_X3_stepAt : GoodIn wsX7_makeSteps (wsV RX7 254 RX3 yX3_stepAt wsX3_stepAt) := goodIn_app (goodIn_of _ (by decide +kernel)) ggX7_makeSteps_X3_stepAt
set_option maxRecDepth 20000 in
theorem ggX7_makeSteps_X7_change : GoodIn wsX7_makeSteps wsX7_change := goodIn_ca (goodIn_r _ [42, 43, 44, 45, 46, 47, 48, 49, 50, 51, 52, 53, 54, 55, 56, 57, 58, 59, 60, 61, 62, 63, 64, 65, 66, 67, 68, 69, 70, 71, 72, 73, 74, 75, 76, 77, 78, 79, 80, 81, 82, 83, 84, 85, 96, 97, 98, 99, 100, 101, 102, 103, 104, 105, 106, 107, 108, 109, 86, 87, 88, 89, 110, 111, 112, 113, 114] (by decide +kernel) (by decide +kernel)) (goodIn_sub (fun _ h => List.mem_cons_of_mem _ (List.mem_append_right _ h)) (by decide +kernel))
set_option maxRecDepth 20000 in
theorem gX7_makeSteps_X7_change : GoodIn wsX7_makeSteps (wsV RX7 323 RX7 yX7_change wsX7_change) := goodIn_app (goodIn_of _ (by decide +kernel)) ggX7_makeSteps_X7_change
theorem dX7_makeSteps_0 : decode cX7_makeSteps 0 = .ok (.iload_n 2, 1) := by decide +kernel
theorem dX7_makeSteps_1 : decode cX7_makeSteps 1 = .ok (.iload_n 3, 1) := by decide +kernel
theorem dX7_makeSteps_2 : decode cX7_makeSteps 2 = .ok (.invokestatic 77, 3) := by decide +kernel
theorem dX7_makeSteps_5 : decode cX7_makeSteps 5 = .ok (.istore 5, 2) := by decide +kernel
theorem dX7_makeSteps_7 : decode cX7_makeSteps 7 = .ok (.iconst 0, 1) := by decide +kernel
theorem dX7_makeSteps_8 : decode cX7_makeSteps 8 = .ok (.istore 6, 2) := by decide +kernel
theorem dX7_makeSteps_10 : decode cX7_makeSteps 10 = .ok (.iload 6, 2) := by decide +kernel
theorem dX7_makeSteps_12 : decode cX7_makeSteps 12 = .ok (.aload_n 1, 1) := by decide +kernel
theorem dX7_makeSteps_13 : decode cX7_makeSteps 13 = .ok (.invokevirtual 116, 3) := by decide +kernel
theorem dX7_makeSteps_16 : decode cX7_makeSteps 16 = .ok (.if_icmp .ge 57, 3) := by decide +kernel
theorem dX7_makeSteps_19 : decode cX7_makeSteps 19 = .ok (.aload_n 1, 1) := by decide +kernel
theorem dX7_makeSteps_20 : decode cX7_makeSteps 20 = .ok (.iload 6, 2) := by decide +kernel
theorem dX7_makeSteps_22 : decode cX7_makeSteps 22 = .ok (.invokevirtual 254, 3) := by decide +kernel
theorem dX7_makeSteps_25 : decode cX7_makeSteps 25 = .ok (.astore 7, 2) := by decide +kernel
theorem dX7_makeSteps_27 : decode cX7_makeSteps 27 = .ok (.aload 7, 2) := by decide +kernel
theorem dX7_makeSteps_29 : decode cX7_makeSteps 29 = .ok (.ifnull 38, 3) := by decide +kernel
theorem dX7_makeSteps_32 : decode cX7_makeSteps 32 = .ok (.iload_n 2, 1) := by decide +kernel
theorem dX7_makeSteps_33 : decode cX7_makeSteps 33 = .ok (.aload 7, 2) := by decide +kernel
theorem dX7_makeSteps_35 : decode cX7_makeSteps 35 = .ok (.getfield 273, 3) := by decide +kernel
theorem dX7_makeSteps_38 : decode cX7_makeSteps 38 = .ok (.iadd, 1) := by decide +kernel
theorem dX7_makeSteps_39 : decode cX7_makeSteps 39 = .ok (.iload_n 3, 1) := by decide +kernel
theorem dX7_makeSteps_40 : decode cX7_makeSteps 40 = .ok (.aload 7, 2) := by decide +kernel
theorem dX7_makeSteps_42 : decode cX7_makeSteps 42 = .ok (.getfield 279, 3) := by decide +kernel
theorem dX7_makeSteps_45 : decode cX7_makeSteps 45 = .ok (.iadd, 1) := by decide +kernel
theorem dX7_makeSteps_46 : decode cX7_makeSteps 46 = .ok (.invokestatic 77, 3) := by decide +kernel
theorem dX7_makeSteps_49 : decode cX7_makeSteps 49 = .ok (.istore 8, 2) := by decide +kernel
theorem dX7_makeSteps_51 : decode cX7_makeSteps 51 = .ok (.aload_n 0, 1) := by decide +kernel
theorem dX7_makeSteps_52 : decode cX7_makeSteps 52 = .ok (.iload 8, 2) := by decide +kernel
theorem dX7_makeSteps_54 : decode cX7_makeSteps 54 = .ok (.aload 7, 2) := by decide +kernel
theorem dX7_makeSteps_56 : decode cX7_makeSteps 56 = .ok (.iload 5, 2) := by decide +kernel
theorem dX7_makeSteps_58 : decode cX7_makeSteps 58 = .ok (.aload_n 1, 1) := by decide +kernel
theorem dX7_makeSteps_59 : decode cX7_makeSteps 59 = .ok (.getfield 343, 3) := by decide +kernel
theorem dX7_makeSteps_62 : decode cX7_makeSteps 62 = .ok (.iload 4, 2) := by decide +kernel
theorem dX7_makeSteps_64 : decode cX7_makeSteps 64 = .ok (.invokevirtual 323, 3) := by decide +kernel
theorem dX7_makeSteps_67 : decode cX7_makeSteps 67 = .ok (.iinc 6 1, 3) := by decide +kernel
theorem dX7_makeSteps_70 : decode cX7_makeSteps 70 = .ok (.goto (-60), 3) := by decide +kernel
theorem dX7_makeSteps_73 : decode cX7_makeSteps 73 = .ok (.return_, 1) := by decide +kernel
set_option maxRecDepth 20000 in
theorem ggX7_change_X1_valueAt : GoodIn wsX7_change wsX1_valueAt := goodIn_ca (goodIn_r _ [9, 10, 11, 12, 13, 8, 14, 57] (by decide +kernel) (by decide +kernel)) (goodIn_sub (fun _ h => List.mem_cons_of_mem _ (List.mem_append_right _ h)) (by decide +kernel))
set_option maxRecDepth 20000 in
theorem gX7_change_X1_valueAt : GoodIn wsX7_change (wsV RX7 81 RX1 yX1_valueAt wsX1_valueAt) := goodIn_app (goodIn_of _ (by decide +kernel)) ggX7_change_X1_valueAt
set_option maxRecDepth 20000 in
theorem ggX7_change_X6_valueBehind : GoodIn wsX7_change wsX6_valueBehind := goodIn_r _ [19, 20, 21, 58, 59, 60, 61] (by decide +kernel) (by decide +kernel)
set_option maxRecDepth 20000 in
theorem gX7_change_X6_valueBehind : GoodIn wsX7_change (wsV RX7 348 RX6 yX6_valueBehind wsX6_valueBehind) := goodIn_app (goodIn_of _ (by decide +kernel)) ggX7_change_X6_valueBehind
set_option maxRecDepth 20000 in
theorem ggX7_change_X0_size : GoodIn wsX7_change wsX0_size := goodIn_r _ [26, 27, 62, 63, 64, 65, 66] (by decide +kernel) (by decide +kernel)
set_option maxRecDepth 20000 in
theorem gX7_change_X0_size : GoodIn wsX7_change (wsV RX7 228 RX0 yX0_size wsX0_size) := goodIn_app (goodIn_of _ (by decide +kernel)) ggX7_change_X0_size
set_option maxRecDepth 20000 in
theorem ggX7_change_X0_isFull : GoodIn wsX7_change wsX0_isFull := goodIn_r _ [31, 27, 32, 62, 63, 64, 65, 66] (by decide +kernel) (by decide +kernel)
set_option maxRecDepth 20000 in
theorem gX7_change_X0_isFull : GoodIn wsX7_change (wsV RX7 351 RX0 yX0_isFull wsX0_isFull) := goodIn_app (goodIn_of _ (by decide +kernel)) ggX7_change_X0_isFull
set_option maxRecDepth 20000 in
theorem ggX7_change_X0_note : GoodIn wsX7_change wsX0_note := goodIn_ca (goodIn_r _ [36, 27, 32, 37, 38, 39, 62, 63, 64, 65, 66] (by decide +kernel) (by decide +kernel)) (goodIn_sub (fun _ h => List.mem_cons_of_mem _ (List.mem_append_right _ h)) (by decide +kernel))
set_option maxRecDepth 20000 in
theorem gX7_change_X0_note : GoodIn wsX7_change (wsV RX7 355 RX0 yX0_note wsX0_note) := goodIn_app (goodIn_of _ (by decide +kernel)) ggX7_change_X0_note
set_option maxRecDepth 20000 in
theorem ggX7_change_X1_put : GoodIn wsX7_change wsX1_put := goodIn_ca (goodIn_r _ [43, 10, 11, 12, 13, 8, 14, 57] (by decide +kernel) (by decide +kernel)) (goodIn_sub (fun _ h => List.mem_cons_of_mem _ (List.mem_append_right _ h)) (by decide +kernel))
set_option maxRecDepth 20000 in
theorem gX7_change_X1_put : GoodIn wsX7_change (wsV RX7 235 RX1 yX1_put wsX1_put) := goodIn_app (goodIn_of _ (by decide +kernel)) ggX7_change_X1_put
theorem dX7_change_0 : decode cX7_change 0 = .ok (.aload_n 0, 1) := by decide +kernel
theorem dX7_change_1 : decode cX7_change 1 = .ok (.getfield 12, 3) := by decide +kernel
theorem dX7_change_4 : decode cX7_change 4 = .ok (.iload_n 1, 1) := by decide +kernel
theorem dX7_change_5 : decode cX7_change 5 = .ok (.invokevirtual 81, 3) := by decide +kernel
theorem dX7_change_8 : decode cX7_change 8 = .ok (.istore 6, 2) := by decide +kernel
theorem dX7_change_10 : decode cX7_change 10 = .ok (.aload_n 2, 1) := by decide +kernel
theorem dX7_change_11 : decode cX7_change 11 = .ok (.iload 6, 2) := by decide +kernel
theorem dX7_change_13 : decode cX7_change 13 = .ok (.aload_n 0, 1) := by decide +kernel
theorem dX7_change_14 : decode cX7_change 14 = .ok (.getfield 12, 3) := by decide +kernel
theorem dX7_change_17 : decode cX7_change 17 = .ok (.iload_n 3, 1) := by decide +kernel
theorem dX7_change_18 : decode cX7_change 18 = .ok (.invokevirtual 81, 3) := by decide +kernel
theorem dX7_change_21 : decode cX7_change 21 = .ok (.invokevirtual 348, 3) := by decide +kernel
theorem dX7_change_24 : decode cX7_change 24 = .ok (.istore 7, 2) := by decide +kernel
theorem dX7_change_26 : decode cX7_change 26 = .ok (.aload_n 0, 1) := by decide +kernel
theorem dX7_change_27 : decode cX7_change 27 = .ok (.getfield 32, 3) := by decide +kernel
theorem dX7_change_30 : decode cX7_change 30 = .ok (.invokevirtual 228, 3) := by decide +kernel
theorem dX7_change_33 : decode cX7_change 33 = .ok (.aload_n 0, 1) := by decide +kernel
theorem dX7_change_34 : decode cX7_change 34 = .ok (.getfield 327, 3) := by decide +kernel
theorem dX7_change_37 : decode cX7_change 37 = .ok (.isub, 1) := by decide +kernel
theorem dX7_change_38 : decode cX7_change 38 = .ok (.istore 8, 2) := by decide +kernel
theorem dX7_change_40 : decode cX7_change 40 = .ok (.iload 7, 2) := by decide +kernel
theorem dX7_change_42 : decode cX7_change 42 = .ok (.iload 6, 2) := by decide +kernel
theorem dX7_change_44 : decode cX7_change 44 = .ok (.if_icmp .eq 28, 3) := by decide +kernel
theorem dX7_change_47 : decode cX7_change 47 = .ok (.iload 8, 2) := by decide +kernel
theorem dX7_change_49 : decode cX7_change 49 = .ok (.ifCond .lt 23, 3) := by decide +kernel
theorem dX7_change_52 : decode cX7_change 52 = .ok (.iload 8, 2) := by decide +kernel
theorem dX7_change_54 : decode cX7_change 54 = .ok (.aload_n 0, 1) := by decide +kernel
theorem dX7_change_55 : decode cX7_change 55 = .ok (.getfield 50, 3) := by decide +kernel
theorem dX7_change_58 : decode cX7_change 58 = .ok (.arraylength, 1) := by decide +kernel
theorem dX7_change_59 : decode cX7_change 59 = .ok (.if_icmp .ge 13, 3) := by decide +kernel
theorem dX7_change_62 : decode cX7_change 62 = .ok (.aload_n 0, 1) := by decide +kernel
theorem dX7_change_63 : decode cX7_change 63 = .ok (.getfield 32, 3) := by decide +kernel
theorem dX7_change_66 : decode cX7_change 66 = .ok (.invokevirtual 351, 3) := by decide +kernel
theorem dX7_change_69 : decode cX7_change 69 = .ok (.ifCond .eq 4, 3) := by decide +kernel
theorem dX7_change_72 : decode cX7_change 72 = .ok (.return_, 1) := by decide +kernel
theorem dX7_change_73 : decode cX7_change 73 = .ok (.aload_n 0, 1) := by decide +kernel
theorem dX7_change_74 : decode cX7_change 74 = .ok (.getfield 50, 3) := by decide +kernel
theorem dX7_change_77 : decode cX7_change 77 = .ok (.iload 8, 2) := by decide +kernel
theorem dX7_change_79 : decode cX7_change 79 = .ok (.iload 5, 2) := by decide +kernel
theorem dX7_change_81 : decode cX7_change 81 = .ok (.iastore, 1) := by decide +kernel
theorem dX7_change_82 : decode cX7_change 82 = .ok (.aload_n 0, 1) := by decide +kernel
theorem dX7_change_83 : decode cX7_change 83 = .ok (.getfield 32, 3) := by decide +kernel
theorem dX7_change_86 : decode cX7_change 86 = .ok (.iload_n 1, 1) := by decide +kernel
theorem dX7_change_87 : decode cX7_change 87 = .ok (.iload 6, 2) := by decide +kernel
theorem dX7_change_89 : decode cX7_change 89 = .ok (.iload 7, 2) := by decide +kernel
theorem dX7_change_91 : decode cX7_change 91 = .ok (.iload 4, 2) := by decide +kernel
theorem dX7_change_93 : decode cX7_change 93 = .ok (.invokevirtual 355, 3) := by decide +kernel
theorem dX7_change_96 : decode cX7_change 96 = .ok (.aload_n 0, 1) := by decide +kernel
theorem dX7_change_97 : decode cX7_change 97 = .ok (.getfield 12, 3) := by decide +kernel
theorem dX7_change_100 : decode cX7_change 100 = .ok (.iload_n 1, 1) := by decide +kernel
theorem dX7_change_101 : decode cX7_change 101 = .ok (.iload 7, 2) := by decide +kernel
theorem dX7_change_103 : decode cX7_change 103 = .ok (.invokevirtual 235, 3) := by decide +kernel
theorem dX7_change_106 : decode cX7_change 106 = .ok (.return_, 1) := by decide +kernel
set_option maxRecDepth 20000 in
theorem ggJ5_init_d00df_J2_newBytesFor_77867 : GoodIn wsJ5_init_d00df wsJ2_newBytesFor_77867 := goodIn_r _ [11, 5, 12, 13, 10, 14, 15] (by decide +kernel) (by decide +kernel)
set_option maxRecDepth 20000 in
theorem gJ5_init_d00df_J2_newBytesFor_77867 : GoodIn wsJ5_init_d00df (va_wsS RJ5 26 yJ2_newBytesFor_77867 wsJ2_newBytesFor_77867) := goodIn_app (goodIn_of _ (by decide +kernel)) ggJ5_init_d00df_J2_newBytesFor_77867
theorem dJ5_init_d00df_0 : decode cJ5_init_d00df 0 = .ok (.aload_n 0, 1) := by decide +kernel
theorem dJ5_init_d00df_1 : decode cJ5_init_d00df 1 = .ok (.invokespecial 3, 3) := by decide +kernel
theorem dJ5_init_d00df_4 : decode cJ5_init_d00df 4 = .ok (.getstatic 18, 3) := by decide +kernel
theorem dJ5_init_d00df_7 : decode cJ5_init_d00df 7 = .ok (.ifCond .eq 18, 3) := by decide +kernel
theorem dJ5_init_d00df_10 : decode cJ5_init_d00df 10 = .ok (.aload_n 0, 1) := by decide +kernel
theorem dJ5_init_d00df_11 : decode cJ5_init_d00df 11 = .ok (.iload_n 1, 1) := by decide +kernel
theorem dJ5_init_d00df_12 : decode cJ5_init_d00df 12 = .ok (.newarray .byte, 2) := by decide +kernel
theorem dJ5_init_d00df_14 : decode cJ5_init_d00df 14 = .ok (.putfield 15, 3) := by decide +kernel
theorem dJ5_init_d00df_17 : decode cJ5_init_d00df 17 = .ok (.aload_n 0, 1) := by decide +kernel
theorem dJ5_init_d00df_18 : decode cJ5_init_d00df 18 = .ok (.iconst 0, 1) := by decide +kernel
theorem dJ5_init_d00df_19 : decode cJ5_init_d00df 19 = .ok (.putfield 22, 3) := by decide +kernel
theorem dJ5_init_d00df_22 : decode cJ5_init_d00df 22 = .ok (.goto 16, 3) := by decide +kernel
theorem dJ5_init_d00df_25 : decode cJ5_init_d00df 25 = .ok (.aload_n 0, 1) := by decide +kernel
theorem dJ5_init_d00df_26 : decode cJ5_init_d00df 26 = .ok (.iload_n 1, 1) := by decide +kernel
theorem dJ5_init_d00df_27 : decode cJ5_init_d00df 27 = .ok (.invokestatic 26, 3) := by decide +kernel
theorem dJ5_init_d00df_30 : decode cJ5_init_d00df 30 = .ok (.putfield 15, 3) := by decide +kernel
theorem dJ5_init_d00df_33 : decode cJ5_init_d00df 33 = .ok (.aload_n 0, 1) := by decide +kernel
theorem dJ5_init_d00df_34 : decode cJ5_init_d00df 34 = .ok (.iconst 1, 1) := by decide +kernel
theorem dJ5_init_d00df_35 : decode cJ5_init_d00df 35 = .ok (.putfield 22, 3) := by decide +kernel
theorem dJ5_init_d00df_38 : decode cJ5_init_d00df 38 = .ok (.return_, 1) := by decide +kernel
theorem dJx00060_init_a7421_0 : decode cJx00060_init_a7421 0 = .ok (.aload_n 0, 1) := by decide +kernel
theorem dJx00060_init_a7421_1 : decode cJx00060_init_a7421 1 = .ok (.aload_n 1, 1) := by decide +kernel
theorem dJx00060_init_a7421_2 : decode cJx00060_init_a7421 2 = .ok (.invokespecial 7, 3) := by decide +kernel
theorem dJx00060_init_a7421_5 : decode cJx00060_init_a7421 5 = .ok (.return_, 1) := by decide +kernel
theorem dJ9_max_7cf53_0 : decode cJ9_max_7cf53 0 = .ok (.iload_n 0, 1) := by decide +kernel
theorem dJ9_max_7cf53_1 : decode cJ9_max_7cf53 1 = .ok (.iload_n 1, 1) := by decide +kernel
theorem dJ9_max_7cf53_2 : decode cJ9_max_7cf53 2 = .ok (.if_icmp .lt 7, 3) := by decide +kernel
theorem dJ9_max_7cf53_5 : decode cJ9_max_7cf53 5 = .ok (.iload_n 0, 1) := by decide +kernel
theorem dJ9_max_7cf53_6 : decode cJ9_max_7cf53 6 = .ok (.goto 4, 3) := by decide +kernel
theorem dJ9_max_7cf53_9 : decode cJ9_max_7cf53 9 = .ok (.iload_n 1, 1) := by decide +kernel
theorem dJ9_max_7cf53_10 : decode cJ9_max_7cf53 10 = .ok (.ireturn, 1) := by decide +kernel
theorem dJ9_min_7cf53_0 : decode cJ9_min_7cf53 0 = .ok (.iload_n 0, 1) := by decide +kernel
theorem dJ9_min_7cf53_1 : decode cJ9_min_7cf53 1 = .ok (.iload_n 1, 1) := by decide +kernel
theorem dJ9_min_7cf53_2 : decode cJ9_min_7cf53 2 = .ok (.if_icmp .gt 7, 3) := by decide +kernel
theorem dJ9_min_7cf53_5 : decode cJ9_min_7cf53 5 = .ok (.iload_n 0, 1) := by decide +kernel
theorem dJ9_min_7cf53_6 : decode cJ9_min_7cf53 6 = .ok (.goto 4, 3) := by decide +kernel
theorem dJ9_min_7cf53_9 : decode cJ9_min_7cf53 9 = .ok (.iload_n 1, 1) := by decide +kernel
theorem dJ9_min_7cf53_10 : decode cJ9_min_7cf53 10 = .ok (.ireturn, 1) := by decide +kernel
set_option maxRecDepth 20000 in
theorem ggJ4_init_da8c8_J5_init_d00df : GoodIn wsJ4_init_da8c8 wsJ5_init_d00df := goodIn_r _ [4, 5, 6, 7, 8, 9, 10, 11, 12, 13, 14, 15, 16, 17, 18, 19, 20, 21, 22, 23] (by decide +kernel) (by decide +kernel)
set_option maxRecDepth 20000 in
theorem gJ4_init_da8c8_J5_init_d00df : GoodIn wsJ4_init_da8c8 (wsJ5_init_d00df) := ggJ4_init_da8c8_J5_init_d00df
theorem dJ4_init_da8c8_0 : decode cJ4_init_da8c8 0 = .ok (.aload_n 0, 1) := by decide +kernel
theorem dJ4_init_da8c8_1 : decode cJ4_init_da8c8 1 = .ok (.bipush 16, 2) := by decide +kernel
theorem dJ4_init_da8c8_3 : decode cJ4_init_da8c8 3 = .ok (.invokespecial 1, 3) := by decide +kernel
theorem dJ4_init_da8c8_6 : decode cJ4_init_da8c8 6 = .ok (.return_, 1) := by decide +kernel
set_option maxRecDepth 20000 in
theorem ggJ2_newBytesFor_77867_J2_newBytesLength_0f7a4 : GoodIn wsJ2_newBytesFor_77867 wsJ2_newBytesLength_0f7a4 := goodIn_r _ [5, 6] (by decide +kernel) (by decide +kernel)
set_option maxRecDepth 20000 in
theorem gJ2_newBytesFor_77867_J2_newBytesLength_0f7a4 : GoodIn wsJ2_newBytesFor_77867 (va_wsS RJ2 11 yJ2_newBytesLength_0f7a4 wsJ2_newBytesLength_0f7a4) := goodIn_app (goodIn_of _ (by decide +kernel)) ggJ2_newBytesFor_77867_J2_newBytesLength_0f7a4
theorem dJ2_newBytesFor_77867_0 : decode cJ2_newBytesFor_77867 0 = .ok (.iload_n 0, 1) := by decide +kernel
theorem dJ2_newBytesFor_77867_1 : decode cJ2_newBytesFor_77867 1 = .ok (.invokestatic 11, 3) := by decide +kernel
theorem dJ2_newBytesFor_77867_4 : decode cJ2_newBytesFor_77867 4 = .ok (.newarray .byte, 2) := by decide +kernel
theorem dJ2_newBytesFor_77867_6 : decode cJ2_newBytesFor_77867 6 = .ok (.areturn, 1) := by decide +kernel
theorem dJ2_newBytesLength_0f7a4_0 : decode cJ2_newBytesLength_0f7a4 0 = .ok (.iload_n 0, 1) := by decide +kernel
theorem dJ2_newBytesLength_0f7a4_1 : decode cJ2_newBytesLength_0f7a4 1 = .ok (.ifCond .ge 11, 3) := by decide +kernel
theorem dJ2_newBytesLength_0f7a4_4 : decode cJ2_newBytesLength_0f7a4 4 = .ok (.new 17, 3) := by decide +kernel
theorem dJ2_newBytesLength_0f7a4_7 : decode cJ2_newBytesLength_0f7a4 7 = .ok (.dup, 1) := by decide +kernel
theorem dJ2_newBytesLength_0f7a4_8 : decode cJ2_newBytesLength_0f7a4 8 = .ok (.invokespecial 19, 3) := by decide +kernel
theorem dJ2_newBytesLength_0f7a4_11 : decode cJ2_newBytesLength_0f7a4 11 = .ok (.athrow, 1) := by decide +kernel
theorem dJ2_newBytesLength_0f7a4_12 : decode cJ2_newBytesLength_0f7a4 12 = .ok (.iload_n 0, 1) := by decide +kernel
theorem dJ2_newBytesLength_0f7a4_13 : decode cJ2_newBytesLength_0f7a4 13 = .ok (.ldc 20, 2) := by decide +kernel
theorem dJ2_newBytesLength_0f7a4_15 : decode cJ2_newBytesLength_0f7a4 15 = .ok (.if_icmp .lt 40, 3) := by decide +kernel
theorem dJ2_newBytesLength_0f7a4_18 : decode cJ2_newBytesLength_0f7a4 18 = .ok (.new 21, 3) := by decide +kernel
theorem dJ2_newBytesLength_0f7a4_21 : decode cJ2_newBytesLength_0f7a4 21 = .ok (.dup, 1) := by decide +kernel
theorem dJ2_newBytesLength_0f7a4_22 : decode cJ2_newBytesLength_0f7a4 22 = .ok (.new 23, 3) := by decide +kernel
theorem dJ2_newBytesLength_0f7a4_25 : decode cJ2_newBytesLength_0f7a4 25 = .ok (.dup, 1) := by decide +kernel
theorem dJ2_newBytesLength_0f7a4_26 : decode cJ2_newBytesLength_0f7a4 26 = .ok (.invokespecial 25, 3) := by decide +kernel
theorem dJ2_newBytesLength_0f7a4_29 : decode cJ2_newBytesLength_0f7a4 29 = .ok (.ldc 26, 2) := by decide +kernel
theorem dJ2_newBytesLength_0f7a4_31 : decode cJ2_newBytesLength_0f7a4 31 = .ok (.invokevirtual 28, 3) := by decide +kernel
theorem dJ2_newBytesLength_0f7a4_34 : decode cJ2_newBytesLength_0f7a4 34 = .ok (.iload_n 0, 1) := by decide +kernel
theorem dJ2_newBytesLength_0f7a4_35 : decode cJ2_newBytesLength_0f7a4 35 = .ok (.invokevirtual 32, 3) := by decide +kernel
theorem dJ2_newBytesLength_0f7a4_38 : decode cJ2_newBytesLength_0f7a4 38 = .ok (.ldc 35, 2) := by decide +kernel
theorem dJ2_newBytesLength_0f7a4_40 : decode cJ2_newBytesLength_0f7a4 40 = .ok (.invokevirtual 28, 3) := by decide +kernel
theorem dJ2_newBytesLength_0f7a4_43 : decode cJ2_newBytesLength_0f7a4 43 = .ok (.ldc 20, 2) := by decide +kernel
theorem dJ2_newBytesLength_0f7a4_45 : decode cJ2_newBytesLength_0f7a4 45 = .ok (.invokevirtual 32, 3) := by decide +kernel
theorem dJ2_newBytesLength_0f7a4_48 : decode cJ2_newBytesLength_0f7a4 48 = .ok (.invokevirtual 37, 3) := by decide +kernel
theorem dJ2_newBytesLength_0f7a4_51 : decode cJ2_newBytesLength_0f7a4 51 = .ok (.invokespecial 41, 3) := by decide +kernel
theorem dJ2_newBytesLength_0f7a4_54 : decode cJ2_newBytesLength_0f7a4 54 = .ok (.athrow, 1) := by decide +kernel
theorem dJ2_newBytesLength_0f7a4_55 : decode cJ2_newBytesLength_0f7a4 55 = .ok (.iload_n 0, 1) := by decide +kernel
theorem dJ2_newBytesLength_0f7a4_56 : decode cJ2_newBytesLength_0f7a4 56 = .ok (.iconst 1, 1) := by decide +kernel
theorem dJ2_newBytesLength_0f7a4_57 : decode cJ2_newBytesLength_0f7a4 57 = .ok (.ishl, 1) := by decide +kernel
theorem dJ2_newBytesLength_0f7a4_58 : decode cJ2_newBytesLength_0f7a4 58 = .ok (.ireturn, 1) := by decide +kernel
theorem dJxa1e45_init_da8c8_0 : decode cJxa1e45_init_da8c8 0 = .ok (.aload_n 0, 1) := by decide +kernel
theorem dJxa1e45_init_da8c8_1 : decode cJxa1e45_init_da8c8 1 = .ok (.invokespecial 1, 3) := by decide +kernel
theorem dJxa1e45_init_da8c8_4 : decode cJxa1e45_init_da8c8 4 = .ok (.return_, 1) := by decide +kernel
set_option maxRecDepth 20000 in
theorem ggJxc12de_init_da8c8_Jxa1e45_init_da8c8 : GoodIn wsJxc12de_init_da8c8 wsJxa1e45_init_da8c8 := goodIn_r _ [5, 6, 7, 8] (by decide +kernel) (by decide +kernel)
set_option maxRecDepth 20000 in
theorem gJxc12de_init_da8c8_Jxa1e45_init_da8c8 : GoodIn wsJxc12de_init_da8c8 (wsJxa1e45_init_da8c8) := ggJxc12de_init_da8c8_Jxa1e45_init_da8c8
theorem dJxc12de_init_da8c8_0 : decode cJxc12de_init_da8c8 0 = .ok (.aload_n 0, 1) := by decide +kernel
theorem dJxc12de_init_da8c8_1 : decode cJxc12de_init_da8c8 1 = .ok (.invokespecial 1, 3) := by decide +kernel
theorem dJxc12de_init_da8c8_4 : decode cJxc12de_init_da8c8 4 = .ok (.aload_n 0, 1) := by decide +kernel
theorem dJxc12de_init_da8c8_5 : decode cJxc12de_init_da8c8 5 = .ok (.iconst 0, 1) := by decide +kernel
theorem dJxc12de_init_da8c8_6 : decode cJxc12de_init_da8c8 6 = .ok (.putfield 7, 3) := by decide +kernel
theorem dJxc12de_init_da8c8_9 : decode cJxc12de_init_da8c8 9 = .ok (.return_, 1) := by decide +kernel
set_option maxRecDepth 20000 in
theorem ggJx4a65c_init_da8c8_Jxc12de_init_da8c8 : GoodIn wsJx4a65c_init_da8c8 wsJxc12de_init_da8c8 := goodIn_r _ [6, 7, 8, 9, 10, 11, 12, 13, 14, 15, 16, 17] (by decide +kernel) (by decide +kernel)
set_option maxRecDepth 20000 in
theorem gJx4a65c_init_da8c8_Jxc12de_init_da8c8 : GoodIn wsJx4a65c_init_da8c8 (wsJxc12de_init_da8c8) := ggJx4a65c_init_da8c8_Jxc12de_init_da8c8
theorem dJx4a65c_init_da8c8_0 : decode cJx4a65c_init_da8c8 0 = .ok (.aload_n 0, 1) := by decide +kernel
theorem dJx4a65c_init_da8c8_1 : decode cJx4a65c_init_da8c8 1 = .ok (.invokespecial 1, 3) := by decide +kernel
theorem dJx4a65c_init_da8c8_4 : decode cJx4a65c_init_da8c8 4 = .ok (.aload_n 0, 1) := by decide +kernel
theorem dJx4a65c_init_da8c8_5 : decode cJx4a65c_init_da8c8 5 = .ok (.getstatic 39, 3) := by decide +kernel
theorem dJx4a65c_init_da8c8_8 : decode cJx4a65c_init_da8c8 8 = .ok (.putfield 9, 3) := by decide +kernel
theorem dJx4a65c_init_da8c8_11 : decode cJx4a65c_init_da8c8 11 = .ok (.return_, 1) := by decide +kernel
set_option maxRecDepth 20000 in
theorem ggJx4a65c_grow_92f84_J8_newLength_cabcc : GoodIn wsJx4a65c_grow_92f84 wsJ8_newLength_cabcc := goodIn_r _ [11, 12, 4, 5, 6, 13, 14, 15, 10, 16] (by decide +kernel) (by decide +kernel)
set_option maxRecDepth 20000 in
theorem gJx4a65c_grow_92f84_J8_newLength_cabcc : GoodIn wsJx4a65c_grow_92f84 (va_wsS RJx4a65c 73 yJ8_newLength_cabcc wsJ8_newLength_cabcc) := goodIn_app (goodIn_of _ (by decide +kernel)) ggJx4a65c_grow_92f84_J8_newLength_cabcc
set_option maxRecDepth 20000 in
theorem ggJx4a65c_grow_92f84_J7_copyOf_1904c : GoodIn wsJx4a65c_grow_92f84 wsJ7_copyOf_1904c := goodIn_r _ [20, 21, 22, 23, 24, 25, 26, 19, 27, 28, 29, 30, 31, 5, 32, 33, 34, 35, 36] (by decide +kernel) (by decide +kernel)
set_option maxRecDepth 20000 in
theorem gJx4a65c_grow_92f84_J7_copyOf_1904c : GoodIn wsJx4a65c_grow_92f84 (va_wsS RJx4a65c 66 yJ7_copyOf_1904c wsJ7_copyOf_1904c) := goodIn_app (goodIn_of _ (by decide +kernel)) ggJx4a65c_grow_92f84_J7_copyOf_1904c
theorem dJx4a65c_grow_92f84_0 : decode cJx4a65c_grow_92f84 0 = .ok (.aload_n 0, 1) := by decide +kernel
theorem dJx4a65c_grow_92f84_1 : decode cJx4a65c_grow_92f84 1 = .ok (.getfield 9, 3) := by decide +kernel
theorem dJx4a65c_grow_92f84_4 : decode cJx4a65c_grow_92f84 4 = .ok (.arraylength, 1) := by decide +kernel
theorem dJx4a65c_grow_92f84_5 : decode cJx4a65c_grow_92f84 5 = .ok (.istore_n 2, 1) := by decide +kernel
theorem dJx4a65c_grow_92f84_6 : decode cJx4a65c_grow_92f84 6 = .ok (.iload_n 2, 1) := by decide +kernel
theorem dJx4a65c_grow_92f84_7 : decode cJx4a65c_grow_92f84 7 = .ok (.ifCond .gt 13, 3) := by decide +kernel
theorem dJx4a65c_grow_92f84_10 : decode cJx4a65c_grow_92f84 10 = .ok (.aload_n 0, 1) := by decide +kernel
theorem dJx4a65c_grow_92f84_11 : decode cJx4a65c_grow_92f84 11 = .ok (.getfield 9, 3) := by decide +kernel
theorem dJx4a65c_grow_92f84_14 : decode cJx4a65c_grow_92f84 14 = .ok (.getstatic 39, 3) := by decide +kernel
theorem dJx4a65c_grow_92f84_17 : decode cJx4a65c_grow_92f84 17 = .ok (.if_acmp .eq 28, 3) := by decide +kernel
theorem dJx4a65c_grow_92f84_20 : decode cJx4a65c_grow_92f84 20 = .ok (.iload_n 2, 1) := by decide +kernel
theorem dJx4a65c_grow_92f84_21 : decode cJx4a65c_grow_92f84 21 = .ok (.iload_n 1, 1) := by decide +kernel
theorem dJx4a65c_grow_92f84_22 : decode cJx4a65c_grow_92f84 22 = .ok (.iload_n 2, 1) := by decide +kernel
theorem dJx4a65c_grow_92f84_23 : decode cJx4a65c_grow_92f84 23 = .ok (.isub, 1) := by decide +kernel
theorem dJx4a65c_grow_92f84_24 : decode cJx4a65c_grow_92f84 24 = .ok (.iload_n 2, 1) := by decide +kernel
theorem dJx4a65c_grow_92f84_25 : decode cJx4a65c_grow_92f84 25 = .ok (.iconst 1, 1) := by decide +kernel
theorem dJx4a65c_grow_92f84_26 : decode cJx4a65c_grow_92f84 26 = .ok (.ishr, 1) := by decide +kernel
theorem dJx4a65c_grow_92f84_27 : decode cJx4a65c_grow_92f84 27 = .ok (.invokestatic 73, 3) := by decide +kernel
theorem dJx4a65c_grow_92f84_30 : decode cJx4a65c_grow_92f84 30 = .ok (.istore_n 3, 1) := by decide +kernel
theorem dJx4a65c_grow_92f84_31 : decode cJx4a65c_grow_92f84 31 = .ok (.aload_n 0, 1) := by decide +kernel
theorem dJx4a65c_grow_92f84_32 : decode cJx4a65c_grow_92f84 32 = .ok (.aload_n 0, 1) := by decide +kernel
theorem dJx4a65c_grow_92f84_33 : decode cJx4a65c_grow_92f84 33 = .ok (.getfield 9, 3) := by decide +kernel
theorem dJx4a65c_grow_92f84_36 : decode cJx4a65c_grow_92f84 36 = .ok (.iload_n 3, 1) := by decide +kernel
theorem dJx4a65c_grow_92f84_37 : decode cJx4a65c_grow_92f84 37 = .ok (.invokestatic 66, 3) := by decide +kernel
theorem dJx4a65c_grow_92f84_40 : decode cJx4a65c_grow_92f84 40 = .ok (.dup_x1, 1) := by decide +kernel
theorem dJx4a65c_grow_92f84_41 : decode cJx4a65c_grow_92f84 41 = .ok (.putfield 9, 3) := by decide +kernel
theorem dJx4a65c_grow_92f84_44 : decode cJx4a65c_grow_92f84 44 = .ok (.areturn, 1) := by decide +kernel
theorem dJx4a65c_grow_92f84_45 : decode cJx4a65c_grow_92f84 45 = .ok (.aload_n 0, 1) := by decide +kernel
theorem dJx4a65c_grow_92f84_46 : decode cJx4a65c_grow_92f84 46 = .ok (.bipush 10, 2) := by decide +kernel
theorem dJx4a65c_grow_92f84_48 : decode cJx4a65c_grow_92f84 48 = .ok (.iload_n 1, 1) := by decide +kernel
theorem dJx4a65c_grow_92f84_49 : decode cJx4a65c_grow_92f84 49 = .ok (.invokestatic 79, 3) := by decide +kernel
theorem dJx4a65c_grow_92f84_52 : decode cJx4a65c_grow_92f84 52 = .ok (.anewarray 7, 3) := by decide +kernel
theorem dJx4a65c_grow_92f84_55 : decode cJx4a65c_grow_92f84 55 = .ok (.dup_x1, 1) := by decide +kernel
theorem dJx4a65c_grow_92f84_56 : decode cJx4a65c_grow_92f84 56 = .ok (.putfield 9, 3) := by decide +kernel
theorem dJx4a65c_grow_92f84_59 : decode cJx4a65c_grow_92f84 59 = .ok (.areturn, 1) := by decide +kernel
set_option maxRecDepth 20000 in
theorem ggJx4a65c_grow_d5877_Jx4a65c_grow_92f84 : GoodIn wsJx4a65c_grow_d5877 wsJx4a65c_grow_92f84 := goodIn_r _ [6, 7, 8, 9, 10, 11, 12, 13, 14, 15, 16, 17, 18, 19, 20, 21, 22, 23, 24, 25, 26, 27, 28, 29, 30, 31, 32, 33, 34, 35, 36, 37, 38, 39, 40, 41, 42, 43, 44, 45] (by decide +kernel) (by decide +kernel)
set_option maxRecDepth 20000 in
theorem gJx4a65c_grow_d5877_Jx4a65c_grow_92f84 : GoodIn wsJx4a65c_grow_d5877 (wsV RJx4a65c 69 RJx4a65c yJx4a65c_grow_92f84 wsJx4a65c_grow_92f84) := goodIn_app (goodIn_of _ (by decide +kernel)) ggJx4a65c_grow_d5877_Jx4a65c_grow_92f84
theorem dJx4a65c_grow_d5877_0 : decode cJx4a65c_grow_d5877 0 = .ok (.aload_n 0, 1) := by decide +kernel
theorem dJx4a65c_grow_d5877_1 : decode cJx4a65c_grow_d5877 1 = .ok (.aload_n 0, 1) := by decide +kernel
theorem dJx4a65c_grow_d5877_2 : decode cJx4a65c_grow_d5877 2 = .ok (.getfield 48, 3) := by decide +kernel
theorem dJx4a65c_grow_d5877_5 : decode cJx4a65c_grow_d5877 5 = .ok (.iconst 1, 1) := by decide +kernel
theorem dJx4a65c_grow_d5877_6 : decode cJx4a65c_grow_d5877 6 = .ok (.iadd, 1) := by decide +kernel
theorem dJx4a65c_grow_d5877_7 : decode cJx4a65c_grow_d5877 7 = .ok (.invokevirtual 69, 3) := by decide +kernel
theorem dJx4a65c_grow_d5877_10 : decode cJx4a65c_grow_d5877 10 = .ok (.areturn, 1) := by decide +kernel
theorem dJx4a65c_size_8abf5_0 : decode cJx4a65c_size_8abf5 0 = .ok (.aload_n 0, 1) := by decide +kernel
theorem dJx4a65c_size_8abf5_1 : decode cJx4a65c_size_8abf5 1 = .ok (.getfield 48, 3) := by decide +kernel
theorem dJx4a65c_size_8abf5_4 : decode cJx4a65c_size_8abf5 4 = .ok (.ireturn, 1) := by decide +kernel
theorem dJx4a65c_elementData_915e3_0 : decode cJx4a65c_elementData_915e3 0 = .ok (.aload_n 0, 1) := by decide +kernel
theorem dJx4a65c_elementData_915e3_1 : decode cJx4a65c_elementData_915e3 1 = .ok (.getfield 9, 3) := by decide +kernel
theorem dJx4a65c_elementData_915e3_4 : decode cJx4a65c_elementData_915e3 4 = .ok (.iload_n 1, 1) := by decide +kernel
theorem dJx4a65c_elementData_915e3_5 : decode cJx4a65c_elementData_915e3 5 = .ok (.aaload, 1) := by decide +kernel
theorem dJx4a65c_elementData_915e3_6 : decode cJx4a65c_elementData_915e3 6 = .ok (.areturn, 1) := by decide +kernel
set_option maxRecDepth 20000 in
theorem ggJx4a65c_get_915e3_J15_checkIndex_7cf53 : GoodIn wsJx4a65c_get_915e3 wsJ15_checkIndex_7cf53 := goodIn_r _ [5, 6, 7, 8, 9] (by decide +kernel) (by decide +kernel)
set_option maxRecDepth 20000 in
theorem gJx4a65c_get_915e3_J15_checkIndex_7cf53 : GoodIn wsJx4a65c_get_915e3 (va_wsS RJx4a65c 118 yJ15_checkIndex_7cf53 wsJ15_checkIndex_7cf53) := goodIn_app (goodIn_of _ (by decide +kernel)) ggJx4a65c_get_915e3_J15_checkIndex_7cf53
set_option maxRecDepth 20000 in
theorem ggJx4a65c_get_915e3_Jx4a65c_elementData_915e3 : GoodIn wsJx4a65c_get_915e3 wsJx4a65c_elementData_915e3 := goodIn_r _ [14, 15, 16, 17, 18] (by decide +kernel) (by decide +kernel)
set_option maxRecDepth 20000 in
theorem gJx4a65c_get_915e3_Jx4a65c_elementData_915e3 : GoodIn wsJx4a65c_get_915e3 (wsV RJx4a65c 123 RJx4a65c yJx4a65c_elementData_915e3 wsJx4a65c_elementData_915e3) := goodIn_app (goodIn_of _ (by decide +kernel)) ggJx4a65c_get_915e3_Jx4a65c_elementData_915e3
theorem dJx4a65c_get_915e3_0 : decode cJx4a65c_get_915e3 0 = .ok (.iload_n 1, 1) := by decide +kernel
theorem dJx4a65c_get_915e3_1 : decode cJx4a65c_get_915e3 1 = .ok (.aload_n 0, 1) := by decide +kernel
theorem dJx4a65c_get_915e3_2 : decode cJx4a65c_get_915e3 2 = .ok (.getfield 48, 3) := by decide +kernel
theorem dJx4a65c_get_915e3_5 : decode cJx4a65c_get_915e3 5 = .ok (.invokestatic 118, 3) := by decide +kernel
theorem dJx4a65c_get_915e3_8 : decode cJx4a65c_get_915e3 8 = .ok (.pop, 1) := by decide +kernel
theorem dJx4a65c_get_915e3_9 : decode cJx4a65c_get_915e3 9 = .ok (.aload_n 0, 1) := by decide +kernel
theorem dJx4a65c_get_915e3_10 : decode cJx4a65c_get_915e3 10 = .ok (.iload_n 1, 1) := by decide +kernel
theorem dJx4a65c_get_915e3_11 : decode cJx4a65c_get_915e3 11 = .ok (.invokevirtual 123, 3) := by decide +kernel
theorem dJx4a65c_get_915e3_14 : decode cJx4a65c_get_915e3 14 = .ok (.areturn, 1) := by decide +kernel
set_option maxRecDepth 20000 in
theorem ggJx4a65c_add_72be8_Jx4a65c_grow_d5877 : GoodIn wsJx4a65c_add_72be8 wsJx4a65c_grow_d5877 := goodIn_r _ [6, 1, 7, 8, 9, 5, 10, 11, 12, 13, 14, 15, 16, 17, 18, 19, 20, 21, 22, 23, 24, 25, 26, 27, 28, 29, 30, 31, 32, 33, 34, 35, 36, 37, 38, 39, 40, 41, 42, 43, 44, 45, 46, 47, 48, 49] (by decide +kernel) (by decide +kernel)
set_option maxRecDepth 20000 in
theorem gJx4a65c_add_72be8_Jx4a65c_grow_d5877 : GoodIn wsJx4a65c_add_72be8 (wsV RJx4a65c 129 RJx4a65c yJx4a65c_grow_d5877 wsJx4a65c_grow_d5877) := goodIn_app (goodIn_of _ (by decide +kernel)) ggJx4a65c_add_72be8_Jx4a65c_grow_d5877
theorem dJx4a65c_add_72be8_0 : decode cJx4a65c_add_72be8 0 = .ok (.iload_n 3, 1) := by decide +kernel
theorem dJx4a65c_add_72be8_1 : decode cJx4a65c_add_72be8 1 = .ok (.aload_n 2, 1) := by decide +kernel
theorem dJx4a65c_add_72be8_2 : decode cJx4a65c_add_72be8 2 = .ok (.arraylength, 1) := by decide +kernel
theorem dJx4a65c_add_72be8_3 : decode cJx4a65c_add_72be8 3 = .ok (.if_icmp .ne 8, 3) := by decide +kernel
theorem dJx4a65c_add_72be8_6 : decode cJx4a65c_add_72be8 6 = .ok (.aload_n 0, 1) := by decide +kernel
theorem dJx4a65c_add_72be8_7 : decode cJx4a65c_add_72be8 7 = .ok (.invokevirtual 129, 3) := by decide +kernel
theorem dJx4a65c_add_72be8_10 : decode cJx4a65c_add_72be8 10 = .ok (.astore_n 2, 1) := by decide +kernel
theorem dJx4a65c_add_72be8_11 : decode cJx4a65c_add_72be8 11 = .ok (.aload_n 2, 1) := by decide +kernel
theorem dJx4a65c_add_72be8_12 : decode cJx4a65c_add_72be8 12 = .ok (.iload_n 3, 1) := by decide +kernel
theorem dJx4a65c_add_72be8_13 : decode cJx4a65c_add_72be8 13 = .ok (.aload_n 1, 1) := by decide +kernel
theorem dJx4a65c_add_72be8_14 : decode cJx4a65c_add_72be8 14 = .ok (.aastore, 1) := by decide +kernel
theorem dJx4a65c_add_72be8_15 : decode cJx4a65c_add_72be8 15 = .ok (.aload_n 0, 1) := by decide +kernel
theorem dJx4a65c_add_72be8_16 : decode cJx4a65c_add_72be8 16 = .ok (.iload_n 3, 1) := by decide +kernel
theorem dJx4a65c_add_72be8_17 : decode cJx4a65c_add_72be8 17 = .ok (.iconst 1, 1) := by decide +kernel
theorem dJx4a65c_add_72be8_18 : decode cJx4a65c_add_72be8 18 = .ok (.iadd, 1) := by decide +kernel
theorem dJx4a65c_add_72be8_19 : decode cJx4a65c_add_72be8 19 = .ok (.putfield 48, 3) := by decide +kernel
theorem dJx4a65c_add_72be8_22 : decode cJx4a65c_add_72be8 22 = .ok (.return_, 1) := by decide +kernel
set_option maxRecDepth 20000 in
theorem ggJx4a65c_add_9ea2d_Jx4a65c_add_72be8 : GoodIn wsJx4a65c_add_9ea2d wsJx4a65c_add_72be8 := goodIn_r _ [9, 4, 10, 11, 12, 8, 13, 14, 15, 16, 17, 3, 18, 19, 20, 21, 22, 23, 24, 25, 26, 27, 28, 29, 30, 31, 32, 33, 34, 35, 36, 37, 38, 39, 40, 41, 42, 43, 44, 45, 46, 47, 48, 49, 50, 51, 52, 53, 54, 55] (by decide +kernel) (by decide +kernel)
set_option maxRecDepth 20000 in
theorem gJx4a65c_add_9ea2d_Jx4a65c_add_72be8 : GoodIn wsJx4a65c_add_9ea2d (wsV RJx4a65c 131 RJx4a65c yJx4a65c_add_72be8 wsJx4a65c_add_72be8) := goodIn_app (goodIn_of _ (by decide +kernel)) ggJx4a65c_add_9ea2d_Jx4a65c_add_72be8
theorem dJx4a65c_add_9ea2d_0 : decode cJx4a65c_add_9ea2d 0 = .ok (.aload_n 0, 1) := by decide +kernel
theorem dJx4a65c_add_9ea2d_1 : decode cJx4a65c_add_9ea2d 1 = .ok (.dup, 1) := by decide +kernel
theorem dJx4a65c_add_9ea2d_2 : decode cJx4a65c_add_9ea2d 2 = .ok (.getfield 63, 3) := by decide +kernel
theorem dJx4a65c_add_9ea2d_5 : decode cJx4a65c_add_9ea2d 5 = .ok (.iconst 1, 1) := by decide +kernel
theorem dJx4a65c_add_9ea2d_6 : decode cJx4a65c_add_9ea2d 6 = .ok (.iadd, 1) := by decide +kernel
theorem dJx4a65c_add_9ea2d_7 : decode cJx4a65c_add_9ea2d 7 = .ok (.putfield 63, 3) := by decide +kernel
theorem dJx4a65c_add_9ea2d_10 : decode cJx4a65c_add_9ea2d 10 = .ok (.aload_n 0, 1) := by decide +kernel
theorem dJx4a65c_add_9ea2d_11 : decode cJx4a65c_add_9ea2d 11 = .ok (.aload_n 1, 1) := by decide +kernel
theorem dJx4a65c_add_9ea2d_12 : decode cJx4a65c_add_9ea2d 12 = .ok (.aload_n 0, 1) := by decide +kernel
theorem dJx4a65c_add_9ea2d_13 : decode cJx4a65c_add_9ea2d 13 = .ok (.getfield 9, 3) := by decide +kernel
theorem dJx4a65c_add_9ea2d_16 : decode cJx4a65c_add_9ea2d 16 = .ok (.aload_n 0, 1) := by decide +kernel
theorem dJx4a65c_add_9ea2d_17 : decode cJx4a65c_add_9ea2d 17 = .ok (.getfield 48, 3) := by decide +kernel
theorem dJx4a65c_add_9ea2d_20 : decode cJx4a65c_add_9ea2d 20 = .ok (.invokevirtual 131, 3) := by decide +kernel
theorem dJx4a65c_add_9ea2d_23 : decode cJx4a65c_add_9ea2d 23 = .ok (.iconst 1, 1) := by decide +kernel
theorem dJx4a65c_add_9ea2d_24 : decode cJx4a65c_add_9ea2d 24 = .ok (.ireturn, 1) := by decide +kernel
theorem dJx4a65c_clear_da8c8_0 : decode cJx4a65c_clear_da8c8 0 = .ok (.aload_n 0, 1) := by decide +kernel
theorem dJx4a65c_clear_da8c8_1 : decode cJx4a65c_clear_da8c8 1 = .ok (.dup, 1) := by decide +kernel
theorem dJx4a65c_clear_da8c8_2 : decode cJx4a65c_clear_da8c8 2 = .ok (.getfield 63, 3) := by decide +kernel
theorem dJx4a65c_clear_da8c8_5 : decode cJx4a65c_clear_da8c8 5 = .ok (.iconst 1, 1) := by decide +kernel
theorem dJx4a65c_clear_da8c8_6 : decode cJx4a65c_clear_da8c8 6 = .ok (.iadd, 1) := by decide +kernel
theorem dJx4a65c_clear_da8c8_7 : decode cJx4a65c_clear_da8c8 7 = .ok (.putfield 63, 3) := by decide +kernel
theorem dJx4a65c_clear_da8c8_10 : decode cJx4a65c_clear_da8c8 10 = .ok (.aload_n 0, 1) := by decide +kernel
theorem dJx4a65c_clear_da8c8_11 : decode cJx4a65c_clear_da8c8 11 = .ok (.getfield 9, 3) := by decide +kernel
theorem dJx4a65c_clear_da8c8_14 : decode cJx4a65c_clear_da8c8 14 = .ok (.astore_n 1, 1) := by decide +kernel
theorem dJx4a65c_clear_da8c8_15 : decode cJx4a65c_clear_da8c8 15 = .ok (.aload_n 0, 1) := by decide +kernel
theorem dJx4a65c_clear_da8c8_16 : decode cJx4a65c_clear_da8c8 16 = .ok (.getfield 48, 3) := by decide +kernel
theorem dJx4a65c_clear_da8c8_19 : decode cJx4a65c_clear_da8c8 19 = .ok (.istore_n 2, 1) := by decide +kernel
theorem dJx4a65c_clear_da8c8_20 : decode cJx4a65c_clear_da8c8 20 = .ok (.aload_n 0, 1) := by decide +kernel
theorem dJx4a65c_clear_da8c8_21 : decode cJx4a65c_clear_da8c8 21 = .ok (.iconst 0, 1) := by decide +kernel
theorem dJx4a65c_clear_da8c8_22 : decode cJx4a65c_clear_da8c8 22 = .ok (.dup_x1, 1) := by decide +kernel
theorem dJx4a65c_clear_da8c8_23 : decode cJx4a65c_clear_da8c8 23 = .ok (.putfield 48, 3) := by decide +kernel
theorem dJx4a65c_clear_da8c8_26 : decode cJx4a65c_clear_da8c8 26 = .ok (.istore_n 3, 1) := by decide +kernel
theorem dJx4a65c_clear_da8c8_27 : decode cJx4a65c_clear_da8c8 27 = .ok (.iload_n 3, 1) := by decide +kernel
theorem dJx4a65c_clear_da8c8_28 : decode cJx4a65c_clear_da8c8 28 = .ok (.iload_n 2, 1) := by decide +kernel
theorem dJx4a65c_clear_da8c8_29 : decode cJx4a65c_clear_da8c8 29 = .ok (.if_icmp .ge 13, 3) := by decide +kernel
theorem dJx4a65c_clear_da8c8_32 : decode cJx4a65c_clear_da8c8 32 = .ok (.aload_n 1, 1) := by decide +kernel
theorem dJx4a65c_clear_da8c8_33 : decode cJx4a65c_clear_da8c8 33 = .ok (.iload_n 3, 1) := by decide +kernel
theorem dJx4a65c_clear_da8c8_34 : decode cJx4a65c_clear_da8c8 34 = .ok (.aconst_null, 1) := by decide +kernel
theorem dJx4a65c_clear_da8c8_35 : decode cJx4a65c_clear_da8c8 35 = .ok (.aastore, 1) := by decide +kernel
theorem dJx4a65c_clear_da8c8_36 : decode cJx4a65c_clear_da8c8 36 = .ok (.iinc 3 1, 3) := by decide +kernel
theorem dJx4a65c_clear_da8c8_39 : decode cJx4a65c_clear_da8c8 39 = .ok (.goto (-12), 3) := by decide +kernel
theorem dJx4a65c_clear_da8c8_42 : decode cJx4a65c_clear_da8c8 42 = .ok (.return_, 1) := by decide +kernel
set_option maxRecDepth 20000 in
theorem ggJ7_copyOf_1904c_J7_copyOf_6403c : GoodIn wsJ7_copyOf_1904c wsJ7_copyOf_6403c := goodIn_r _ [8, 9, 10, 11, 12, 13, 14, 15, 16, 17, 18] (by decide +kernel) (by decide +kernel)
set_option maxRecDepth 20000 in
theorem gJ7_copyOf_1904c_J7_copyOf_6403c : GoodIn wsJ7_copyOf_1904c (va_wsS RJ7 300 yJ7_copyOf_6403c wsJ7_copyOf_6403c) := goodIn_app (goodIn_of _ (by decide +kernel)) ggJ7_copyOf_1904c_J7_copyOf_6403c
theorem dJ7_copyOf_1904c_0 : decode cJ7_copyOf_1904c 0 = .ok (.aload_n 0, 1) := by decide +kernel
theorem dJ7_copyOf_1904c_1 : decode cJ7_copyOf_1904c 1 = .ok (.iload_n 1, 1) := by decide +kernel
theorem dJ7_copyOf_1904c_2 : decode cJ7_copyOf_1904c 2 = .ok (.aload_n 0, 1) := by decide +kernel
theorem dJ7_copyOf_1904c_3 : decode cJ7_copyOf_1904c 3 = .ok (.invokevirtual 86, 3) := by decide +kernel
theorem dJ7_copyOf_1904c_6 : decode cJ7_copyOf_1904c 6 = .ok (.invokestatic 300, 3) := by decide +kernel
theorem dJ7_copyOf_1904c_9 : decode cJ7_copyOf_1904c 9 = .ok (.areturn, 1) := by decide +kernel
theorem dJ7_copyOf_6403c_0 : decode cJ7_copyOf_6403c 0 = .ok (.aload_n 2, 1) := by decide +kernel
theorem dJ7_copyOf_6403c_1 : decode cJ7_copyOf_6403c 1 = .ok (.ldc 110, 2) := by decide +kernel
theorem dJ7_copyOf_6403c_3 : decode cJ7_copyOf_6403c 3 = .ok (.if_acmp .ne 10, 3) := by decide +kernel
theorem dJ7_copyOf_6403c_6 : decode cJ7_copyOf_6403c 6 = .ok (.iload_n 1, 1) := by decide +kernel
theorem dJ7_copyOf_6403c_7 : decode cJ7_copyOf_6403c 7 = .ok (.anewarray 2, 3) := by decide +kernel
theorem dJ7_copyOf_6403c_10 : decode cJ7_copyOf_6403c 10 = .ok (.goto 14, 3) := by decide +kernel
theorem dJ7_copyOf_6403c_13 : decode cJ7_copyOf_6403c 13 = .ok (.aload_n 2, 1) := by decide +kernel
theorem dJ7_copyOf_6403c_14 : decode cJ7_copyOf_6403c 14 = .ok (.invokevirtual 90, 3) := by decide +kernel
theorem dJ7_copyOf_6403c_17 : decode cJ7_copyOf_6403c 17 = .ok (.iload_n 1, 1) := by decide +kernel
theorem dJ7_copyOf_6403c_18 : decode cJ7_copyOf_6403c 18 = .ok (.invokestatic 95, 3) := by decide +kernel
theorem dJ7_copyOf_6403c_21 : decode cJ7_copyOf_6403c 21 = .ok (.checkcast 110, 3) := by decide +kernel
theorem dJ7_copyOf_6403c_24 : decode cJ7_copyOf_6403c 24 = .ok (.astore_n 3, 1) := by decide +kernel
theorem dJ7_copyOf_6403c_25 : decode cJ7_copyOf_6403c 25 = .ok (.aload_n 0, 1) := by decide +kernel
theorem dJ7_copyOf_6403c_26 : decode cJ7_copyOf_6403c 26 = .ok (.iconst 0, 1) := by decide +kernel
theorem dJ7_copyOf_6403c_27 : decode cJ7_copyOf_6403c 27 = .ok (.aload_n 3, 1) := by decide +kernel
theorem dJ7_copyOf_6403c_28 : decode cJ7_copyOf_6403c 28 = .ok (.iconst 0, 1) := by decide +kernel
theorem dJ7_copyOf_6403c_29 : decode cJ7_copyOf_6403c 29 = .ok (.aload_n 0, 1) := by decide +kernel
theorem dJ7_copyOf_6403c_30 : decode cJ7_copyOf_6403c 30 = .ok (.arraylength, 1) := by decide +kernel
theorem dJ7_copyOf_6403c_31 : decode cJ7_copyOf_6403c 31 = .ok (.iload_n 1, 1) := by decide +kernel
theorem dJ7_copyOf_6403c_32 : decode cJ7_copyOf_6403c 32 = .ok (.invokestatic 304, 3) := by decide +kernel
theorem dJ7_copyOf_6403c_35 : decode cJ7_copyOf_6403c 35 = .ok (.invokestatic 150, 3) := by decide +kernel
theorem dJ7_copyOf_6403c_38 : decode cJ7_copyOf_6403c 38 = .ok (.aload_n 3, 1) := by decide +kernel
theorem dJ7_copyOf_6403c_39 : decode cJ7_copyOf_6403c 39 = .ok (.areturn, 1) := by decide +kernel
theorem dJ7_copyOf_59c91_0 : decode cJ7_copyOf_59c91 0 = .ok (.iload_n 1, 1) := by decide +kernel
theorem dJ7_copyOf_59c91_1 : decode cJ7_copyOf_59c91 1 = .ok (.aload_n 0, 1) := by decide +kernel
theorem dJ7_copyOf_59c91_2 : decode cJ7_copyOf_59c91 2 = .ok (.arraylength, 1) := by decide +kernel
theorem dJ7_copyOf_59c91_3 : decode cJ7_copyOf_59c91 3 = .ok (.if_icmp .ne 11, 3) := by decide +kernel
theorem dJ7_copyOf_59c91_6 : decode cJ7_copyOf_59c91 6 = .ok (.aload_n 0, 1) := by decide +kernel
theorem dJ7_copyOf_59c91_7 : decode cJ7_copyOf_59c91 7 = .ok (.invokevirtual 316, 3) := by decide +kernel
theorem dJ7_copyOf_59c91_10 : decode cJ7_copyOf_59c91 10 = .ok (.checkcast 317, 3) := by decide +kernel
theorem dJ7_copyOf_59c91_13 : decode cJ7_copyOf_59c91 13 = .ok (.areturn, 1) := by decide +kernel
theorem dJ7_copyOf_59c91_14 : decode cJ7_copyOf_59c91 14 = .ok (.iload_n 1, 1) := by decide +kernel
theorem dJ7_copyOf_59c91_15 : decode cJ7_copyOf_59c91 15 = .ok (.newarray .int, 2) := by decide +kernel
theorem dJ7_copyOf_59c91_17 : decode cJ7_copyOf_59c91 17 = .ok (.astore_n 2, 1) := by decide +kernel
theorem dJ7_copyOf_59c91_18 : decode cJ7_copyOf_59c91 18 = .ok (.aload_n 0, 1) := by decide +kernel
theorem dJ7_copyOf_59c91_19 : decode cJ7_copyOf_59c91 19 = .ok (.iconst 0, 1) := by decide +kernel
theorem dJ7_copyOf_59c91_20 : decode cJ7_copyOf_59c91 20 = .ok (.aload_n 2, 1) := by decide +kernel
theorem dJ7_copyOf_59c91_21 : decode cJ7_copyOf_59c91 21 = .ok (.iconst 0, 1) := by decide +kernel
theorem dJ7_copyOf_59c91_22 : decode cJ7_copyOf_59c91 22 = .ok (.aload_n 0, 1) := by decide +kernel
theorem dJ7_copyOf_59c91_23 : decode cJ7_copyOf_59c91 23 = .ok (.arraylength, 1) := by decide +kernel
theorem dJ7_copyOf_59c91_24 : decode cJ7_copyOf_59c91 24 = .ok (.iload_n 1, 1) := by decide +kernel
theorem dJ7_copyOf_59c91_25 : decode cJ7_copyOf_59c91 25 = .ok (.invokestatic 304, 3) := by decide +kernel
theorem dJ7_copyOf_59c91_28 : decode cJ7_copyOf_59c91 28 = .ok (.invokestatic 150, 3) := by decide +kernel
theorem dJ7_copyOf_59c91_31 : decode cJ7_copyOf_59c91 31 = .ok (.aload_n 2, 1) := by decide +kernel
theorem dJ7_copyOf_59c91_32 : decode cJ7_copyOf_59c91 32 = .ok (.areturn, 1) := by decide +kernel
set_option maxRecDepth 20000 in
theorem ggJ15_checkIndex_7cf53_J3_checkIndex_8e157 : GoodIn wsJ15_checkIndex_7cf53 wsJ3_checkIndex_8e157 := goodIn_r _ [4] (by decide +kernel) (by decide +kernel)
set_option maxRecDepth 20000 in
theorem gJ15_checkIndex_7cf53_J3_checkIndex_8e157 : GoodIn wsJ15_checkIndex_7cf53 (va_wsS RJ15 105 yJ3_checkIndex_8e157 wsJ3_checkIndex_8e157) := goodIn_app (goodIn_of _ (by decide +kernel)) ggJ15_checkIndex_7cf53_J3_checkIndex_8e157
theorem dJ15_checkIndex_7cf53_0 : decode cJ15_checkIndex_7cf53 0 = .ok (.iload_n 0, 1) := by decide +kernel
theorem dJ15_checkIndex_7cf53_1 : decode cJ15_checkIndex_7cf53 1 = .ok (.iload_n 1, 1) := by decide +kernel
theorem dJ15_checkIndex_7cf53_2 : decode cJ15_checkIndex_7cf53 2 = .ok (.aconst_null, 1) := by decide +kernel
theorem dJ15_checkIndex_7cf53_3 : decode cJ15_checkIndex_7cf53 3 = .ok (.invokestatic 105, 3) := by decide +kernel
theorem dJ15_checkIndex_7cf53_6 : decode cJ15_checkIndex_7cf53 6 = .ok (.ireturn, 1) := by decide +kernel
set_option maxRecDepth 20000 in
theorem ggJ8_newLength_cabcc_J8_hugeLength_7cf53 : GoodIn wsJ8_newLength_cabcc wsJ8_hugeLength_7cf53 := goodIn_r _ [9, 5] (by decide +kernel) (by decide +kernel)
set_option maxRecDepth 20000 in
theorem gJ8_newLength_cabcc_J8_hugeLength_7cf53 : GoodIn wsJ8_newLength_cabcc (va_wsS RJ8 201 yJ8_hugeLength_7cf53 wsJ8_hugeLength_7cf53) := goodIn_app (goodIn_of _ (by decide +kernel)) ggJ8_newLength_cabcc_J8_hugeLength_7cf53
theorem dJ8_newLength_cabcc_0 : decode cJ8_newLength_cabcc 0 = .ok (.iload_n 0, 1) := by decide +kernel
theorem dJ8_newLength_cabcc_1 : decode cJ8_newLength_cabcc 1 = .ok (.iload_n 1, 1) := by decide +kernel
theorem dJ8_newLength_cabcc_2 : decode cJ8_newLength_cabcc 2 = .ok (.iload_n 2, 1) := by decide +kernel
theorem dJ8_newLength_cabcc_3 : decode cJ8_newLength_cabcc 3 = .ok (.invokestatic 194, 3) := by decide +kernel
theorem dJ8_newLength_cabcc_6 : decode cJ8_newLength_cabcc 6 = .ok (.iadd, 1) := by decide +kernel
theorem dJ8_newLength_cabcc_7 : decode cJ8_newLength_cabcc 7 = .ok (.istore_n 3, 1) := by decide +kernel
theorem dJ8_newLength_cabcc_8 : decode cJ8_newLength_cabcc 8 = .ok (.iconst 0, 1) := by decide +kernel
theorem dJ8_newLength_cabcc_9 : decode cJ8_newLength_cabcc 9 = .ok (.iload_n 3, 1) := by decide +kernel
theorem dJ8_newLength_cabcc_10 : decode cJ8_newLength_cabcc 10 = .ok (.if_icmp .ge 11, 3) := by decide +kernel
theorem dJ8_newLength_cabcc_13 : decode cJ8_newLength_cabcc 13 = .ok (.iload_n 3, 1) := by decide +kernel
theorem dJ8_newLength_cabcc_14 : decode cJ8_newLength_cabcc 14 = .ok (.ldc 200, 2) := by decide +kernel
theorem dJ8_newLength_cabcc_16 : decode cJ8_newLength_cabcc 16 = .ok (.if_icmp .gt 5, 3) := by decide +kernel
theorem dJ8_newLength_cabcc_19 : decode cJ8_newLength_cabcc 19 = .ok (.iload_n 3, 1) := by decide +kernel
theorem dJ8_newLength_cabcc_20 : decode cJ8_newLength_cabcc 20 = .ok (.ireturn, 1) := by decide +kernel
theorem dJ8_newLength_cabcc_21 : decode cJ8_newLength_cabcc 21 = .ok (.iload_n 0, 1) := by decide +kernel
theorem dJ8_newLength_cabcc_22 : decode cJ8_newLength_cabcc 22 = .ok (.iload_n 1, 1) := by decide +kernel
theorem dJ8_newLength_cabcc_23 : decode cJ8_newLength_cabcc 23 = .ok (.invokestatic 201, 3) := by decide +kernel
theorem dJ8_newLength_cabcc_26 : decode cJ8_newLength_cabcc 26 = .ok (.ireturn, 1) := by decide +kernel
theorem dJ8_hugeLength_7cf53_0 : decode cJ8_hugeLength_7cf53 0 = .ok (.iload_n 0, 1) := by decide +kernel
theorem dJ8_hugeLength_7cf53_1 : decode cJ8_hugeLength_7cf53 1 = .ok (.iload_n 1, 1) := by decide +kernel
theorem dJ8_hugeLength_7cf53_2 : decode cJ8_hugeLength_7cf53 2 = .ok (.iadd, 1) := by decide +kernel
theorem dJ8_hugeLength_7cf53_3 : decode cJ8_hugeLength_7cf53 3 = .ok (.istore_n 2, 1) := by decide +kernel
theorem dJ8_hugeLength_7cf53_4 : decode cJ8_hugeLength_7cf53 4 = .ok (.iload_n 2, 1) := by decide +kernel
theorem dJ8_hugeLength_7cf53_5 : decode cJ8_hugeLength_7cf53 5 = .ok (.ifCond .ge 44, 3) := by decide +kernel
theorem dJ8_hugeLength_7cf53_8 : decode cJ8_hugeLength_7cf53 8 = .ok (.new 204, 3) := by decide +kernel
theorem dJ8_hugeLength_7cf53_11 : decode cJ8_hugeLength_7cf53 11 = .ok (.dup, 1) := by decide +kernel
theorem dJ8_hugeLength_7cf53_12 : decode cJ8_hugeLength_7cf53 12 = .ok (.new 89, 3) := by decide +kernel
theorem dJ8_hugeLength_7cf53_15 : decode cJ8_hugeLength_7cf53 15 = .ok (.dup, 1) := by decide +kernel
theorem dJ8_hugeLength_7cf53_16 : decode cJ8_hugeLength_7cf53 16 = .ok (.invokespecial 91, 3) := by decide +kernel
theorem dJ8_hugeLength_7cf53_19 : decode cJ8_hugeLength_7cf53 19 = .ok (.ldc 206, 2) := by decide +kernel
theorem dJ8_hugeLength_7cf53_21 : decode cJ8_hugeLength_7cf53 21 = .ok (.invokevirtual 94, 3) := by decide +kernel
theorem dJ8_hugeLength_7cf53_24 : decode cJ8_hugeLength_7cf53 24 = .ok (.iload_n 0, 1) := by decide +kernel
theorem dJ8_hugeLength_7cf53_25 : decode cJ8_hugeLength_7cf53 25 = .ok (.invokevirtual 98, 3) := by decide +kernel
theorem dJ8_hugeLength_7cf53_28 : decode cJ8_hugeLength_7cf53 28 = .ok (.ldc 208, 2) := by decide +kernel
theorem dJ8_hugeLength_7cf53_30 : decode cJ8_hugeLength_7cf53 30 = .ok (.invokevirtual 94, 3) := by decide +kernel
theorem dJ8_hugeLength_7cf53_33 : decode cJ8_hugeLength_7cf53 33 = .ok (.iload_n 1, 1) := by decide +kernel
theorem dJ8_hugeLength_7cf53_34 : decode cJ8_hugeLength_7cf53 34 = .ok (.invokevirtual 98, 3) := by decide +kernel
theorem dJ8_hugeLength_7cf53_37 : decode cJ8_hugeLength_7cf53 37 = .ok (.ldc 210, 2) := by decide +kernel
theorem dJ8_hugeLength_7cf53_39 : decode cJ8_hugeLength_7cf53 39 = .ok (.invokevirtual 94, 3) := by decide +kernel
theorem dJ8_hugeLength_7cf53_42 : decode cJ8_hugeLength_7cf53 42 = .ok (.invokevirtual 101, 3) := by decide +kernel
theorem dJ8_hugeLength_7cf53_45 : decode cJ8_hugeLength_7cf53 45 = .ok (.invokespecial 212, 3) := by decide +kernel
theorem dJ8_hugeLength_7cf53_48 : decode cJ8_hugeLength_7cf53 48 = .ok (.athrow, 1) := by decide +kernel
theorem dJ8_hugeLength_7cf53_49 : decode cJ8_hugeLength_7cf53 49 = .ok (.iload_n 2, 1) := by decide +kernel
theorem dJ8_hugeLength_7cf53_50 : decode cJ8_hugeLength_7cf53 50 = .ok (.ldc 200, 2) := by decide +kernel
theorem dJ8_hugeLength_7cf53_52 : decode cJ8_hugeLength_7cf53 52 = .ok (.if_icmp .gt 6, 3) := by decide +kernel
theorem dJ8_hugeLength_7cf53_55 : decode cJ8_hugeLength_7cf53 55 = .ok (.ldc 200, 2) := by decide +kernel
theorem dJ8_hugeLength_7cf53_57 : decode cJ8_hugeLength_7cf53 57 = .ok (.ireturn, 1) := by decide +kernel
theorem dJ8_hugeLength_7cf53_58 : decode cJ8_hugeLength_7cf53 58 = .ok (.iload_n 2, 1) := by decide +kernel
theorem dJ8_hugeLength_7cf53_59 : decode cJ8_hugeLength_7cf53 59 = .ok (.ireturn, 1) := by decide +kernel
theorem dJ3_checkIndex_8e157_0 : decode cJ3_checkIndex_8e157 0 = .ok (.iload_n 0, 1) := by decide +kernel
theorem dJ3_checkIndex_8e157_1 : decode cJ3_checkIndex_8e157 1 = .ok (.ifCond .lt 8, 3) := by decide +kernel
theorem dJ3_checkIndex_8e157_4 : decode cJ3_checkIndex_8e157 4 = .ok (.iload_n 0, 1) := by decide +kernel
theorem dJ3_checkIndex_8e157_5 : decode cJ3_checkIndex_8e157 5 = .ok (.iload_n 1, 1) := by decide +kernel
theorem dJ3_checkIndex_8e157_6 : decode cJ3_checkIndex_8e157 6 = .ok (.if_icmp .lt 10, 3) := by decide +kernel
theorem dJ3_checkIndex_8e157_9 : decode cJ3_checkIndex_8e157 9 = .ok (.aload_n 2, 1) := by decide +kernel
theorem dJ3_checkIndex_8e157_10 : decode cJ3_checkIndex_8e157 10 = .ok (.iload_n 0, 1) := by decide +kernel
theorem dJ3_checkIndex_8e157_11 : decode cJ3_checkIndex_8e157 11 = .ok (.iload_n 1, 1) := by decide +kernel
theorem dJ3_checkIndex_8e157_12 : decode cJ3_checkIndex_8e157 12 = .ok (.invokestatic 95, 3) := by decide +kernel
theorem dJ3_checkIndex_8e157_15 : decode cJ3_checkIndex_8e157 15 = .ok (.athrow, 1) := by decide +kernel
theorem dJ3_checkIndex_8e157_16 : decode cJ3_checkIndex_8e157 16 = .ok (.iload_n 0, 1) := by decide +kernel
theorem dJ3_checkIndex_8e157_17 : decode cJ3_checkIndex_8e157 17 = .ok (.ireturn, 1) := by decide +kernel

theorem dX7_writeStep_1 : decode cX7_writeStep 1 = .ok (.iload_n 1, 1) := by decide +kernel
theorem dX7_writeStep_2 : decode cX7_writeStep 2 = .ok (.invokevirtual 110, 3) := by decide +kernel
theorem dX7_writeStep_5 : decode cX7_writeStep 5 = .ok (.iload_n 2, 1) := by decide +kernel
theorem dX7_writeStep_6 : decode cX7_writeStep 6 = .ok (.invokevirtual 254, 3) := by decide +kernel
theorem dX7_writeStep_9 : decode cX7_writeStep 9 = .ok (.astore_n 3, 1) := by decide +kernel
theorem dX7_writeStep_10 : decode cX7_writeStep 10 = .ok (.aload_n 3, 1) := by decide +kernel
theorem dX7_writeStep_11 : decode cX7_writeStep 11 = .ok (.ifnonnull 14, 3) := by decide +kernel
theorem dX7_writeStep_14 : decode cX7_writeStep 14 = .ok (.new 202, 3) := by decide +kernel
theorem dX7_writeStep_17 : decode cX7_writeStep 17 = .ok (.dup, 1) := by decide +kernel
theorem dX7_writeStep_18 : decode cX7_writeStep 18 = .ok (.ldc_w 258, 3) := by decide +kernel
theorem dX7_writeStep_21 : decode cX7_writeStep 21 = .ok (.invokespecial 206, 3) := by decide +kernel
theorem dX7_writeStep_24 : decode cX7_writeStep 24 = .ok (.athrow, 1) := by decide +kernel
theorem dX7_writeStep_25 : decode cX7_writeStep 25 = .ok (.aload_n 0, 1) := by decide +kernel
theorem dX7_writeStep_26 : decode cX7_writeStep 26 = .ok (.getfield 46, 3) := by decide +kernel
theorem dX7_writeStep_29 : decode cX7_writeStep 29 = .ok (.iconst 0, 1) := by decide +kernel
theorem dX7_writeStep_30 : decode cX7_writeStep 30 = .ok (.invokevirtual 260, 3) := by decide +kernel
theorem dX7_writeStep_33 : decode cX7_writeStep 33 = .ok (.aload_n 0, 1) := by decide +kernel
theorem dX7_writeStep_34 : decode cX7_writeStep 34 = .ok (.getfield 46, 3) := by decide +kernel
theorem dX7_writeStep_37 : decode cX7_writeStep 37 = .ok (.aload_n 3, 1) := by decide +kernel
theorem dX7_writeStep_38 : decode cX7_writeStep 38 = .ok (.getfield 263, 3) := by decide +kernel
theorem dX7_writeStep_41 : decode cX7_writeStep 41 = .ok (.invokevirtual 269, 3) := by decide +kernel
theorem dX7_writeStep_44 : decode cX7_writeStep 44 = .ok (.pop, 1) := by decide +kernel
theorem dX7_writeStep_45 : decode cX7_writeStep 45 = .ok (.aload_n 0, 1) := by decide +kernel
theorem dX7_writeStep_46 : decode cX7_writeStep 46 = .ok (.aload_n 3, 1) := by decide +kernel
theorem dX7_writeStep_47 : decode cX7_writeStep 47 = .ok (.getfield 273, 3) := by decide +kernel
theorem dX7_writeStep_50 : decode cX7_writeStep 50 = .ok (.invokevirtual 276, 3) := by decide +kernel
theorem dX7_writeStep_53 : decode cX7_writeStep 53 = .ok (.aload_n 0, 1) := by decide +kernel
theorem dX7_writeStep_54 : decode cX7_writeStep 54 = .ok (.aload_n 3, 1) := by decide +kernel
theorem dX7_writeStep_55 : decode cX7_writeStep 55 = .ok (.getfield 279, 3) := by decide +kernel
theorem dX7_writeStep_58 : decode cX7_writeStep 58 = .ok (.invokevirtual 276, 3) := by decide +kernel
theorem dX7_writeStep_61 : decode cX7_writeStep 61 = .ok (.aload_n 3, 1) := by decide +kernel
theorem dX7_writeStep_62 : decode cX7_writeStep 62 = .ok (.getfield 263, 3) := by decide +kernel
theorem dX7_writeStep_65 : decode cX7_writeStep 65 = .ok (.bipush 99, 2) := by decide +kernel
theorem dX7_writeStep_67 : decode cX7_writeStep 67 = .ok (.if_icmp .eq 25, 3) := by decide +kernel
theorem dX7_writeStep_70 : decode cX7_writeStep 70 = .ok (.aload_n 0, 1) := by decide +kernel
theorem dX7_writeStep_71 : decode cX7_writeStep 71 = .ok (.getfield 46, 3) := by decide +kernel
theorem dX7_writeStep_74 : decode cX7_writeStep 74 = .ok (.bipush 61, 2) := by decide +kernel
theorem dX7_writeStep_76 : decode cX7_writeStep 76 = .ok (.invokevirtual 269, 3) := by decide +kernel
theorem dX7_writeStep_79 : decode cX7_writeStep 79 = .ok (.pop, 1) := by decide +kernel
theorem dX7_writeStep_80 : decode cX7_writeStep 80 = .ok (.aload_n 0, 1) := by decide +kernel
theorem dX7_writeStep_81 : decode cX7_writeStep 81 = .ok (.getfield 46, 3) := by decide +kernel
theorem dX7_writeStep_84 : decode cX7_writeStep 84 = .ok (.aload_n 3, 1) := by decide +kernel
theorem dX7_writeStep_85 : decode cX7_writeStep 85 = .ok (.getfield 282, 3) := by decide +kernel
theorem dX7_writeStep_88 : decode cX7_writeStep 88 = .ok (.invokevirtual 285, 3) := by decide +kernel
theorem dX7_writeStep_91 : decode cX7_writeStep 91 = .ok (.pop, 1) := by decide +kernel
theorem dX7_writeStep_92 : decode cX7_writeStep 92 = .ok (.aload_n 0, 1) := by decide +kernel
theorem dX7_writeStep_93 : decode cX7_writeStep 93 = .ok (.getfield 46, 3) := by decide +kernel
theorem dX7_writeStep_96 : decode cX7_writeStep 96 = .ok (.invokevirtual 288, 3) := by decide +kernel
theorem dX7_writeStep_99 : decode cX7_writeStep 99 = .ok (.ireturn, 1) := by decide +kernel
set_option maxRecDepth 20000 in
theorem ggX7_textAt_J4_length_8abf5 : GoodIn wsX7_textAt wsJ4_length_8abf5 := goodIn_r _ [8, 9, 10, 11, 12, 13, 14, 15, 62, 63, 64, 65] (by decide +kernel) (by decide +kernel)
set_option maxRecDepth 20000 in
theorem gX7_textAt_J4_length_8abf5 : GoodIn wsX7_textAt (wsV RX7 288 RJ4 yJ4_length_8abf5 wsJ4_length_8abf5) := goodIn_app (goodIn_of _ (by decide +kernel)) ggX7_textAt_J4_length_8abf5
set_option maxRecDepth 20000 in
theorem ggX7_textAt_J4_charAt_5068e : GoodIn wsX7_textAt wsJ4_charAt_5068e := goodIn_r _ [19, 20, 21, 11, 22, 13, 23, 24, 25, 15, 26, 27, 28, 29, 30, 31, 32, 33, 34, 35, 36, 37, 38, 39, 40, 41, 42, 43, 44, 45, 46, 47, 48, 62, 63, 64, 65] (by decide +kernel) (by decide +kernel)
set_option maxRecDepth 20000 in
theorem gX7_textAt_J4_charAt_5068e : GoodIn wsX7_textAt (wsV RX7 293 RJ4 yJ4_charAt_5068e wsJ4_charAt_5068e) := goodIn_app (goodIn_of _ (by decide +kernel)) ggX7_textAt_J4_charAt_5068e
theorem dX7_textAt_0 : decode cX7_textAt 0 = .ok (.iload_n 1, 1) := by decide +kernel
theorem dX7_textAt_1 : decode cX7_textAt 1 = .ok (.ifCond .lt 14, 3) := by decide +kernel
theorem dX7_textAt_4 : decode cX7_textAt 4 = .ok (.iload_n 1, 1) := by decide +kernel
theorem dX7_textAt_5 : decode cX7_textAt 5 = .ok (.aload_n 0, 1) := by decide +kernel
theorem dX7_textAt_6 : decode cX7_textAt 6 = .ok (.getfield 46, 3) := by decide +kernel
theorem dX7_textAt_9 : decode cX7_textAt 9 = .ok (.invokevirtual 288, 3) := by decide +kernel
theorem dX7_textAt_12 : decode cX7_textAt 12 = .ok (.if_icmp .lt 14, 3) := by decide +kernel
theorem dX7_textAt_15 : decode cX7_textAt 15 = .ok (.new 202, 3) := by decide +kernel
theorem dX7_textAt_18 : decode cX7_textAt 18 = .ok (.dup, 1) := by decide +kernel
theorem dX7_textAt_19 : decode cX7_textAt 19 = .ok (.ldc_w 291, 3) := by decide +kernel
theorem dX7_textAt_22 : decode cX7_textAt 22 = .ok (.invokespecial 206, 3) := by decide +kernel
theorem dX7_textAt_25 : decode cX7_textAt 25 = .ok (.athrow, 1) := by decide +kernel
theorem dX7_textAt_26 : decode cX7_textAt 26 = .ok (.aload_n 0, 1) := by decide +kernel
theorem dX7_textAt_27 : decode cX7_textAt 27 = .ok (.getfield 46, 3) := by decide +kernel
theorem dX7_textAt_30 : decode cX7_textAt 30 = .ok (.iload_n 1, 1) := by decide +kernel
theorem dX7_textAt_31 : decode cX7_textAt 31 = .ok (.invokevirtual 293, 3) := by decide +kernel
theorem dX7_textAt_34 : decode cX7_textAt 34 = .ok (.ireturn, 1) := by decide +kernel
set_option maxRecDepth 20000 in
theorem ggX7_macroShare_X0_size : GoodIn wsX7_macroShare wsX0_size := goodIn_r _ [8, 9, 28, 29, 30, 31, 32] (by decide +kernel) (by decide +kernel)
set_option maxRecDepth 20000 in
theorem gX7_macroShare_X0_size : GoodIn wsX7_macroShare (wsV RX7 228 RX0 yX0_size wsX0_size) := goodIn_app (goodIn_of _ (by decide +kernel)) ggX7_macroShare_X0_size
set_option maxRecDepth 20000 in
theorem ggX7_macroShare_X0_countBy : GoodIn wsX7_macroShare wsX0_countBy := goodIn_ca (goodIn_r _ [13, 9, 14, 28, 29, 30, 31, 32] (by decide +kernel) (by decide +kernel)) (goodIn_sub (fun _ h => List.mem_cons_of_mem _ (List.mem_append_right _ h)) (by decide +kernel))
set_option maxRecDepth 20000 in
theorem gX7_macroShare_X0_countBy : GoodIn wsX7_macroShare (wsV RX7 243 RX0 yX0_countBy wsX0_countBy) := goodIn_app (goodIn_of _ (by decide +kernel)) ggX7_macroShare_X0_countBy
theorem dX7_macroShare_0 : decode cX7_macroShare 0 = .ok (.aload_n 0, 1) := by decide +kernel
theorem dX7_macroShare_1 : decode cX7_macroShare 1 = .ok (.getfield 32, 3) := by decide +kernel
theorem dX7_macroShare_4 : decode cX7_macroShare 4 = .ok (.invokevirtual 228, 3) := by decide +kernel
theorem dX7_macroShare_7 : decode cX7_macroShare 7 = .ok (.istore_n 1, 1) := by decide +kernel
theorem dX7_macroShare_8 : decode cX7_macroShare 8 = .ok (.iload_n 1, 1) := by decide +kernel
theorem dX7_macroShare_9 : decode cX7_macroShare 9 = .ok (.ifCond .ne 14, 3) := by decide +kernel
theorem dX7_macroShare_12 : decode cX7_macroShare 12 = .ok (.new 297, 3) := by decide +kernel
theorem dX7_macroShare_15 : decode cX7_macroShare 15 = .ok (.dup, 1) := by decide +kernel
theorem dX7_macroShare_16 : decode cX7_macroShare 16 = .ok (.ldc_w 299, 3) := by decide +kernel
theorem dX7_macroShare_19 : decode cX7_macroShare 19 = .ok (.invokespecial 301, 3) := by decide +kernel
theorem dX7_macroShare_22 : decode cX7_macroShare 22 = .ok (.athrow, 1) := by decide +kernel
theorem dX7_macroShare_23 : decode cX7_macroShare 23 = .ok (.iload_n 1, 1) := by decide +kernel
theorem dX7_macroShare_24 : decode cX7_macroShare 24 = .ok (.aload_n 0, 1) := by decide +kernel
theorem dX7_macroShare_25 : decode cX7_macroShare 25 = .ok (.getfield 32, 3) := by decide +kernel
theorem dX7_macroShare_28 : decode cX7_macroShare 28 = .ok (.iconst (-1), 1) := by decide +kernel
theorem dX7_macroShare_29 : decode cX7_macroShare 29 = .ok (.invokevirtual 243, 3) := by decide +kernel
theorem dX7_macroShare_32 : decode cX7_macroShare 32 = .ok (.isub, 1) := by decide +kernel
theorem dX7_macroShare_33 : decode cX7_macroShare 33 = .ok (.istore_n 2, 1) := by decide +kernel
theorem dX7_macroShare_34 : decode cX7_macroShare 34 = .ok (.iload_n 2, 1) := by decide +kernel
theorem dX7_macroShare_35 : decode cX7_macroShare 35 = .ok (.i2f, 1) := by decide +kernel
theorem dX7_macroShare_36 : decode cX7_macroShare 36 = .ok (.iload_n 1, 1) := by decide +kernel
theorem dX7_macroShare_37 : decode cX7_macroShare 37 = .ok (.i2f, 1) := by decide +kernel
theorem dX7_macroShare_38 : decode cX7_macroShare 38 = .ok (.fdiv, 1) := by decide +kernel
theorem dX7_macroShare_39 : decode cX7_macroShare 39 = .ok (.freturn, 1) := by decide +kernel
set_option maxRecDepth 20000 in
theorem ggX7_meanValue_X1_valueAt : GoodIn wsX7_meanValue wsX1_valueAt := goodIn_ca (goodIn_r _ [8, 9, 10, 11, 12, 7, 13, 27] (by decide +kernel) (by decide +kernel)) (goodIn_sub (fun _ h => List.mem_cons_of_mem _ (List.mem_append_right _ h)) (by decide +kernel))
set_option maxRecDepth 20000 in
theorem gX7_meanValue_X1_valueAt : GoodIn wsX7_meanValue (wsV RX7 81 RX1 yX1_valueAt wsX1_valueAt) := goodIn_app (goodIn_of _ (by decide +kernel)) ggX7_meanValue_X1_valueAt
theorem dX7_meanValue_0 : decode cX7_meanValue 0 = .ok (.iconst 0, 1) := by decide +kernel
theorem dX7_meanValue_1 : decode cX7_meanValue 1 = .ok (.istore_n 1, 1) := by decide +kernel
theorem dX7_meanValue_2 : decode cX7_meanValue 2 = .ok (.iconst 0, 1) := by decide +kernel
theorem dX7_meanValue_3 : decode cX7_meanValue 3 = .ok (.istore_n 2, 1) := by decide +kernel
theorem dX7_meanValue_4 : decode cX7_meanValue 4 = .ok (.iconst 0, 1) := by decide +kernel
theorem dX7_meanValue_5 : decode cX7_meanValue 5 = .ok (.istore_n 3, 1) := by decide +kernel
theorem dX7_meanValue_6 : decode cX7_meanValue 6 = .ok (.iload_n 3, 1) := by decide +kernel
theorem dX7_meanValue_7 : decode cX7_meanValue 7 = .ok (.bipush 48, 2) := by decide +kernel
theorem dX7_meanValue_9 : decode cX7_meanValue 9 = .ok (.if_icmp .ge 32, 3) := by decide +kernel
theorem dX7_meanValue_12 : decode cX7_meanValue 12 = .ok (.aload_n 0, 1) := by decide +kernel
theorem dX7_meanValue_13 : decode cX7_meanValue 13 = .ok (.getfield 12, 3) := by decide +kernel
theorem dX7_meanValue_16 : decode cX7_meanValue 16 = .ok (.iload_n 3, 1) := by decide +kernel
theorem dX7_meanValue_17 : decode cX7_meanValue 17 = .ok (.invokevirtual 81, 3) := by decide +kernel
theorem dX7_meanValue_20 : decode cX7_meanValue 20 = .ok (.istore 4, 2) := by decide +kernel
theorem dX7_meanValue_22 : decode cX7_meanValue 22 = .ok (.iload 4, 2) := by decide +kernel
theorem dX7_meanValue_24 : decode cX7_meanValue 24 = .ok (.ifCond .eq 11, 3) := by decide +kernel
theorem dX7_meanValue_27 : decode cX7_meanValue 27 = .ok (.iload_n 1, 1) := by decide +kernel
theorem dX7_meanValue_28 : decode cX7_meanValue 28 = .ok (.iload 4, 2) := by decide +kernel
theorem dX7_meanValue_30 : decode cX7_meanValue 30 = .ok (.iadd, 1) := by decide +kernel
theorem dX7_meanValue_31 : decode cX7_meanValue 31 = .ok (.istore_n 1, 1) := by decide +kernel
theorem dX7_meanValue_32 : decode cX7_meanValue 32 = .ok (.iinc 2 1, 3) := by decide +kernel
theorem dX7_meanValue_35 : decode cX7_meanValue 35 = .ok (.iinc 3 1, 3) := by decide +kernel
theorem dX7_meanValue_38 : decode cX7_meanValue 38 = .ok (.goto (-32), 3) := by decide +kernel
theorem dX7_meanValue_41 : decode cX7_meanValue 41 = .ok (.iload_n 2, 1) := by decide +kernel
theorem dX7_meanValue_42 : decode cX7_meanValue 42 = .ok (.ifCond .ne 14, 3) := by decide +kernel
theorem dX7_meanValue_45 : decode cX7_meanValue 45 = .ok (.new 297, 3) := by decide +kernel
theorem dX7_meanValue_48 : decode cX7_meanValue 48 = .ok (.dup, 1) := by decide +kernel
theorem dX7_meanValue_49 : decode cX7_meanValue 49 = .ok (.ldc_w 302, 3) := by decide +kernel
theorem dX7_meanValue_52 : decode cX7_meanValue 52 = .ok (.invokespecial 301, 3) := by decide +kernel
theorem dX7_meanValue_55 : decode cX7_meanValue 55 = .ok (.athrow, 1) := by decide +kernel
theorem dX7_meanValue_56 : decode cX7_meanValue 56 = .ok (.iload_n 1, 1) := by decide +kernel
theorem dX7_meanValue_57 : decode cX7_meanValue 57 = .ok (.i2d, 1) := by decide +kernel
theorem dX7_meanValue_58 : decode cX7_meanValue 58 = .ok (.iload_n 2, 1) := by decide +kernel
theorem dX7_meanValue_59 : decode cX7_meanValue 59 = .ok (.i2d, 1) := by decide +kernel
theorem dX7_meanValue_60 : decode cX7_meanValue 60 = .ok (.ddiv, 1) := by decide +kernel
theorem dX7_meanValue_61 : decode cX7_meanValue 61 = .ok (.dreturn, 1) := by decide +kernel
set_option maxRecDepth 20000 in
theorem ggX7_needCell_X7_isCell : GoodIn wsX7_needCell wsX7_isCell := goodIn_r _ [6] (by decide +kernel) (by decide +kernel)
set_option maxRecDepth 20000 in
theorem gX7_needCell_X7_isCell : GoodIn wsX7_needCell (va_wsS RX7 304 yX7_isCell wsX7_isCell) := goodIn_app (goodIn_of _ (by decide +kernel)) ggX7_needCell_X7_isCell
theorem dX7_needCell_0 : decode cX7_needCell 0 = .ok (.iload_n 0, 1) := by decide +kernel
theorem dX7_needCell_1 : decode cX7_needCell 1 = .ok (.iload_n 1, 1) := by decide +kernel
theorem dX7_needCell_2 : decode cX7_needCell 2 = .ok (.invokestatic 304, 3) := by decide +kernel
theorem dX7_needCell_5 : decode cX7_needCell 5 = .ok (.ifCond .ne 14, 3) := by decide +kernel
theorem dX7_needCell_8 : decode cX7_needCell 8 = .ok (.new 202, 3) := by decide +kernel
theorem dX7_needCell_11 : decode cX7_needCell 11 = .ok (.dup, 1) := by decide +kernel
theorem dX7_needCell_12 : decode cX7_needCell 12 = .ok (.ldc_w 307, 3) := by decide +kernel
theorem dX7_needCell_15 : decode cX7_needCell 15 = .ok (.invokespecial 206, 3) := by decide +kernel
theorem dX7_needCell_18 : decode cX7_needCell 18 = .ok (.athrow, 1) := by decide +kernel
theorem dX7_needCell_19 : decode cX7_needCell 19 = .ok (.return_, 1) := by decide +kernel
set_option maxRecDepth 20000 in
theorem ggX7_neededMacro_X7_macroAt : GoodIn wsX7_neededMacro wsX7_macroAt := goodIn_r _ [7, 8, 9, 10, 11, 12, 13, 14, 15, 16, 17, 18, 19, 20, 21, 22, 23, 24, 25, 26, 27, 28, 29, 30, 31, 32, 33, 34, 35, 36, 37, 38, 39, 40, 41, 42, 43, 44, 45, 46, 47, 48] (by decide +kernel) (by decide +kernel)
set_option maxRecDepth 20000 in
theorem gX7_neededMacro_X7_macroAt : GoodIn wsX7_neededMacro (wsV RX7 128 RX7 yX7_macroAt wsX7_macroAt) := goodIn_app (goodIn_of _ (by decide +kernel)) ggX7_neededMacro_X7_macroAt
theorem dX7_neededMacro_0 : decode cX7_neededMacro 0 = .ok (.aload_n 0, 1) := by decide +kernel
theorem dX7_neededMacro_1 : decode cX7_neededMacro 1 = .ok (.iload_n 1, 1) := by decide +kernel
theorem dX7_neededMacro_2 : decode cX7_neededMacro 2 = .ok (.invokevirtual 128, 3) := by decide +kernel
theorem dX7_neededMacro_5 : decode cX7_neededMacro 5 = .ok (.astore_n 2, 1) := by decide +kernel
theorem dX7_neededMacro_6 : decode cX7_neededMacro 6 = .ok (.aload_n 2, 1) := by decide +kernel
theorem dX7_neededMacro_7 : decode cX7_neededMacro 7 = .ok (.ifnonnull 13, 3) := by decide +kernel
theorem dX7_neededMacro_10 : decode cX7_neededMacro 10 = .ok (.new 202, 3) := by decide +kernel
theorem dX7_neededMacro_13 : decode cX7_neededMacro 13 = .ok (.dup, 1) := by decide +kernel
theorem dX7_neededMacro_14 : decode cX7_neededMacro 14 = .ok (.ldc 241, 2) := by decide +kernel
theorem dX7_neededMacro_16 : decode cX7_neededMacro 16 = .ok (.invokespecial 206, 3) := by decide +kernel
theorem dX7_neededMacro_19 : decode cX7_neededMacro 19 = .ok (.athrow, 1) := by decide +kernel
theorem dX7_neededMacro_20 : decode cX7_neededMacro 20 = .ok (.aload_n 2, 1) := by decide +kernel
theorem dX7_neededMacro_21 : decode cX7_neededMacro 21 = .ok (.areturn, 1) := by decide +kernel
theorem dX7_isCell_0 : decode cX7_isCell 0 = .ok (.iload_n 0, 1) := by decide +kernel
theorem dX7_isCell_1 : decode cX7_isCell 1 = .ok (.ifCond .lt 23, 3) := by decide +kernel
theorem dX7_isCell_4 : decode cX7_isCell 4 = .ok (.iload_n 0, 1) := by decide +kernel
theorem dX7_isCell_5 : decode cX7_isCell 5 = .ok (.bipush 6, 2) := by decide +kernel
theorem dX7_isCell_7 : decode cX7_isCell 7 = .ok (.if_icmp .ge 17, 3) := by decide +kernel
theorem dX7_isCell_10 : decode cX7_isCell 10 = .ok (.iload_n 1, 1) := by decide +kernel
theorem dX7_isCell_11 : decode cX7_isCell 11 = .ok (.ifCond .lt 13, 3) := by decide +kernel
theorem dX7_isCell_14 : decode cX7_isCell 14 = .ok (.iload_n 1, 1) := by decide +kernel
theorem dX7_isCell_15 : decode cX7_isCell 15 = .ok (.bipush 8, 2) := by decide +kernel
theorem dX7_isCell_17 : decode cX7_isCell 17 = .ok (.if_icmp .ge 7, 3) := by decide +kernel
theorem dX7_isCell_20 : decode cX7_isCell 20 = .ok (.iconst 1, 1) := by decide +kernel
theorem dX7_isCell_21 : decode cX7_isCell 21 = .ok (.goto 4, 3) := by decide +kernel
theorem dX7_isCell_24 : decode cX7_isCell 24 = .ok (.iconst 0, 1) := by decide +kernel
theorem dX7_isCell_25 : decode cX7_isCell 25 = .ok (.ireturn, 1) := by decide +kernel
theorem dX7_isRange_0 : decode cX7_isRange 0 = .ok (.iload_n 2, 1) := by decide +kernel
theorem dX7_isRange_1 : decode cX7_isRange 1 = .ok (.iload_n 0, 1) := by decide +kernel
theorem dX7_isRange_2 : decode cX7_isRange 2 = .ok (.if_icmp .lt 12, 3) := by decide +kernel
theorem dX7_isRange_5 : decode cX7_isRange 5 = .ok (.iload_n 3, 1) := by decide +kernel
theorem dX7_isRange_6 : decode cX7_isRange 6 = .ok (.iload_n 1, 1) := by decide +kernel
theorem dX7_isRange_7 : decode cX7_isRange 7 = .ok (.if_icmp .lt 7, 3) := by decide +kernel
theorem dX7_isRange_10 : decode cX7_isRange 10 = .ok (.iconst 1, 1) := by decide +kernel
theorem dX7_isRange_11 : decode cX7_isRange 11 = .ok (.goto 4, 3) := by decide +kernel
theorem dX7_isRange_14 : decode cX7_isRange 14 = .ok (.iconst 0, 1) := by decide +kernel
theorem dX7_isRange_15 : decode cX7_isRange 15 = .ok (.ireturn, 1) := by decide +kernel
theorem dX7_isValue_0 : decode cX7_isValue 0 = .ok (.iload_n 0, 1) := by decide +kernel
theorem dX7_isValue_1 : decode cX7_isValue 1 = .ok (.sipush (-9999), 3) := by decide +kernel
theorem dX7_isValue_4 : decode cX7_isValue 4 = .ok (.if_icmp .lt 14, 3) := by decide +kernel
theorem dX7_isValue_7 : decode cX7_isValue 7 = .ok (.iload_n 0, 1) := by decide +kernel
theorem dX7_isValue_8 : decode cX7_isValue 8 = .ok (.sipush 9999, 3) := by decide +kernel
theorem dX7_isValue_11 : decode cX7_isValue 11 = .ok (.if_icmp .gt 7, 3) := by decide +kernel
theorem dX7_isValue_14 : decode cX7_isValue 14 = .ok (.iconst 1, 1) := by decide +kernel
theorem dX7_isValue_15 : decode cX7_isValue 15 = .ok (.goto 4, 3) := by decide +kernel
theorem dX7_isValue_18 : decode cX7_isValue 18 = .ok (.iconst 0, 1) := by decide +kernel
theorem dX7_isValue_19 : decode cX7_isValue 19 = .ok (.ireturn, 1) := by decide +kernel
theorem dX7_isRank_0 : decode cX7_isRank 0 = .ok (.iload_n 0, 1) := by decide +kernel
theorem dX7_isRank_1 : decode cX7_isRank 1 = .ok (.ifCond .lt 13, 3) := by decide +kernel
theorem dX7_isRank_4 : decode cX7_isRank 4 = .ok (.iload_n 0, 1) := by decide +kernel
theorem dX7_isRank_5 : decode cX7_isRank 5 = .ok (.bipush 9, 2) := by decide +kernel
theorem dX7_isRank_7 : decode cX7_isRank 7 = .ok (.if_icmp .gt 7, 3) := by decide +kernel
theorem dX7_isRank_10 : decode cX7_isRank 10 = .ok (.iconst 1, 1) := by decide +kernel
theorem dX7_isRank_11 : decode cX7_isRank 11 = .ok (.goto 4, 3) := by decide +kernel
theorem dX7_isRank_14 : decode cX7_isRank 14 = .ok (.iconst 0, 1) := by decide +kernel
theorem dX7_isRank_15 : decode cX7_isRank 15 = .ok (.ireturn, 1) := by decide +kernel
theorem dX7_placeOf_0 : decode cX7_placeOf 0 = .ok (.iload_n 1, 1) := by decide +kernel
theorem dX7_placeOf_1 : decode cX7_placeOf 1 = .ok (.bipush 6, 2) := by decide +kernel
theorem dX7_placeOf_3 : decode cX7_placeOf 3 = .ok (.imul, 1) := by decide +kernel
theorem dX7_placeOf_4 : decode cX7_placeOf 4 = .ok (.iload_n 0, 1) := by decide +kernel
theorem dX7_placeOf_5 : decode cX7_placeOf 5 = .ok (.iadd, 1) := by decide +kernel
theorem dX7_placeOf_6 : decode cX7_placeOf 6 = .ok (.ireturn, 1) := by decide +kernel
set_option maxRecDepth 20000 in
theorem ggX7_macroAt_Jx4a65c_size_8abf5 : GoodIn wsX7_macroAt wsJx4a65c_size_8abf5 := goodIn_r _ [7, 8, 39, 40, 41] (by decide +kernel) (by decide +kernel)
set_option maxRecDepth 20000 in
theorem gX7_macroAt_Jx4a65c_size_8abf5 : GoodIn wsX7_macroAt (wsV RX7 95 RJx4a65c yJx4a65c_size_8abf5 wsJx4a65c_size_8abf5) := goodIn_app (goodIn_of _ (by decide +kernel)) ggX7_macroAt_Jx4a65c_size_8abf5
set_option maxRecDepth 20000 in
theorem ggX7_macroAt_Jx4a65c_get_915e3 : GoodIn wsX7_macroAt wsJx4a65c_get_915e3 := goodIn_r _ [12, 8, 13, 14, 15, 16, 17, 18, 19, 20, 21, 22, 23, 6, 24, 25, 39, 40, 41] (by decide +kernel) (by decide +kernel)
set_option maxRecDepth 20000 in
theorem gX7_macroAt_Jx4a65c_get_915e3 : GoodIn wsX7_macroAt (wsV RX7 154 RJx4a65c yJx4a65c_get_915e3 wsJx4a65c_get_915e3) := goodIn_app (goodIn_of _ (by decide +kernel)) ggX7_macroAt_Jx4a65c_get_915e3
theorem dX7_macroAt_0 : decode cX7_macroAt 0 = .ok (.iload_n 1, 1) := by decide +kernel
theorem dX7_macroAt_1 : decode cX7_macroAt 1 = .ok (.ifCond .lt 28, 3) := by decide +kernel
theorem dX7_macroAt_4 : decode cX7_macroAt 4 = .ok (.iload_n 1, 1) := by decide +kernel
theorem dX7_macroAt_5 : decode cX7_macroAt 5 = .ok (.aload_n 0, 1) := by decide +kernel
theorem dX7_macroAt_6 : decode cX7_macroAt 6 = .ok (.getfield 22, 3) := by decide +kernel
theorem dX7_macroAt_9 : decode cX7_macroAt 9 = .ok (.invokevirtual 95, 3) := by decide +kernel
theorem dX7_macroAt_12 : decode cX7_macroAt 12 = .ok (.if_icmp .ge 17, 3) := by decide +kernel
theorem dX7_macroAt_15 : decode cX7_macroAt 15 = .ok (.aload_n 0, 1) := by decide +kernel
theorem dX7_macroAt_16 : decode cX7_macroAt 16 = .ok (.getfield 22, 3) := by decide +kernel
theorem dX7_macroAt_19 : decode cX7_macroAt 19 = .ok (.iload_n 1, 1) := by decide +kernel
theorem dX7_macroAt_20 : decode cX7_macroAt 20 = .ok (.invokevirtual 154, 3) := by decide +kernel
theorem dX7_macroAt_23 : decode cX7_macroAt 23 = .ok (.checkcast 101, 3) := by decide +kernel
theorem dX7_macroAt_26 : decode cX7_macroAt 26 = .ok (.goto 4, 3) := by decide +kernel
theorem dX7_macroAt_29 : decode cX7_macroAt 29 = .ok (.aconst_null, 1) := by decide +kernel
theorem dX7_macroAt_30 : decode cX7_macroAt 30 = .ok (.areturn, 1) := by decide +kernel
set_option maxRecDepth 20000 in
theorem ggX7_ruleAt_Jx4a65c_size_8abf5 : GoodIn wsX7_ruleAt wsJx4a65c_size_8abf5 := goodIn_r _ [7, 8, 39, 40, 41] (by decide +kernel) (by decide +kernel)
set_option maxRecDepth 20000 in
theorem gX7_ruleAt_Jx4a65c_size_8abf5 : GoodIn wsX7_ruleAt (wsV RX7 95 RJx4a65c yJx4a65c_size_8abf5 wsJx4a65c_size_8abf5) := goodIn_app (goodIn_of _ (by decide +kernel)) ggX7_ruleAt_Jx4a65c_size_8abf5
set_option maxRecDepth 20000 in
theorem ggX7_ruleAt_Jx4a65c_get_915e3 : GoodIn wsX7_ruleAt wsJx4a65c_get_915e3 := goodIn_r _ [12, 8, 13, 14, 15, 16, 17, 18, 19, 20, 21, 22, 23, 6, 24, 25, 39, 40, 41] (by decide +kernel) (by decide +kernel)
set_option maxRecDepth 20000 in
theorem gX7_ruleAt_Jx4a65c_get_915e3 : GoodIn wsX7_ruleAt (wsV RX7 154 RJx4a65c yJx4a65c_get_915e3 wsJx4a65c_get_915e3) := goodIn_app (goodIn_of _ (by decide +kernel)) ggX7_ruleAt_Jx4a65c_get_915e3
theorem dX7_ruleAt_0 : decode cX7_ruleAt 0 = .ok (.iload_n 1, 1) := by decide +kernel
theorem dX7_ruleAt_1 : decode cX7_ruleAt 1 = .ok (.ifCond .lt 28, 3) := by decide +kernel
theorem dX7_ruleAt_4 : decode cX7_ruleAt 4 = .ok (.iload_n 1, 1) := by decide +kernel
theorem dX7_ruleAt_5 : decode cX7_ruleAt 5 = .ok (.aload_n 0, 1) := by decide +kernel
theorem dX7_ruleAt_6 : decode cX7_ruleAt 6 = .ok (.getfield 26, 3) := by decide +kernel
theorem dX7_ruleAt_9 : decode cX7_ruleAt 9 = .ok (.invokevirtual 95, 3) := by decide +kernel
theorem dX7_ruleAt_12 : decode cX7_ruleAt 12 = .ok (.if_icmp .ge 17, 3) := by decide +kernel
theorem dX7_ruleAt_15 : decode cX7_ruleAt 15 = .ok (.aload_n 0, 1) := by decide +kernel
theorem dX7_ruleAt_16 : decode cX7_ruleAt 16 = .ok (.getfield 26, 3) := by decide +kernel
theorem dX7_ruleAt_19 : decode cX7_ruleAt 19 = .ok (.iload_n 1, 1) := by decide +kernel
theorem dX7_ruleAt_20 : decode cX7_ruleAt 20 = .ok (.invokevirtual 154, 3) := by decide +kernel
theorem dX7_ruleAt_23 : decode cX7_ruleAt 23 = .ok (.checkcast 193, 3) := by decide +kernel
theorem dX7_ruleAt_26 : decode cX7_ruleAt 26 = .ok (.goto 4, 3) := by decide +kernel
theorem dX7_ruleAt_29 : decode cX7_ruleAt 29 = .ok (.aconst_null, 1) := by decide +kernel
theorem dX7_ruleAt_30 : decode cX7_ruleAt 30 = .ok (.areturn, 1) := by decide +kernel
set_option maxRecDepth 20000 in
theorem ggX7_ruleNumberFor_Jx4a65c_size_8abf5 : GoodIn wsX7_ruleNumberFor wsJx4a65c_size_8abf5 := goodIn_r _ [7, 8, 51, 52, 53] (by decide +kernel) (by decide +kernel)
set_option maxRecDepth 20000 in
theorem gX7_ruleNumberFor_Jx4a65c_size_8abf5 : GoodIn wsX7_ruleNumberFor (wsV RX7 95 RJx4a65c yJx4a65c_size_8abf5 wsJx4a65c_size_8abf5) := goodIn_app (goodIn_of _ (by decide +kernel)) ggX7_ruleNumberFor_Jx4a65c_size_8abf5
set_option maxRecDepth 20000 in
theorem ggX7_ruleNumberFor_Jx4a65c_get_915e3 : GoodIn wsX7_ruleNumberFor wsJx4a65c_get_915e3 := goodIn_r _ [12, 8, 13, 14, 15, 16, 17, 18, 19, 20, 21, 22, 23, 6, 24, 25, 51, 52, 53] (by decide +kernel) (by decide +kernel)
set_option maxRecDepth 20000 in
theorem gX7_ruleNumberFor_Jx4a65c_get_915e3 : GoodIn wsX7_ruleNumberFor (wsV RX7 154 RJx4a65c yJx4a65c_get_915e3 wsJx4a65c_get_915e3) := goodIn_app (goodIn_of _ (by decide +kernel)) ggX7_ruleNumberFor_Jx4a65c_get_915e3
set_option maxRecDepth 20000 in
theorem ggX7_ruleNumberFor_X4_holds : GoodIn wsX7_ruleNumberFor wsX4_holds := goodIn_r _ [30, 31, 32, 33, 34, 54, 55, 56, 57] (by decide +kernel) (by decide +kernel)
set_option maxRecDepth 20000 in
theorem gX7_ruleNumberFor_X4_holds : GoodIn wsX7_ruleNumberFor (wsV RX7 313 RX4 yX4_holds wsX4_holds) := goodIn_app (goodIn_of _ (by decide +kernel)) ggX7_ruleNumberFor_X4_holds
theorem dX7_ruleNumberFor_0 : decode cX7_ruleNumberFor 0 = .ok (.iconst (-1), 1) := by decide +kernel
theorem dX7_ruleNumberFor_1 : decode cX7_ruleNumberFor 1 = .ok (.istore_n 3, 1) := by decide +kernel
theorem dX7_ruleNumberFor_2 : decode cX7_ruleNumberFor 2 = .ok (.iconst (-1), 1) := by decide +kernel
theorem dX7_ruleNumberFor_3 : decode cX7_ruleNumberFor 3 = .ok (.istore 4, 2) := by decide +kernel
theorem dX7_ruleNumberFor_5 : decode cX7_ruleNumberFor 5 = .ok (.iconst 0, 1) := by decide +kernel
theorem dX7_ruleNumberFor_6 : decode cX7_ruleNumberFor 6 = .ok (.istore 5, 2) := by decide +kernel
theorem dX7_ruleNumberFor_8 : decode cX7_ruleNumberFor 8 = .ok (.iload 5, 2) := by decide +kernel
theorem dX7_ruleNumberFor_10 : decode cX7_ruleNumberFor 10 = .ok (.aload_n 0, 1) := by decide +kernel
theorem dX7_ruleNumberFor_11 : decode cX7_ruleNumberFor 11 = .ok (.getfield 26, 3) := by decide +kernel
theorem dX7_ruleNumberFor_14 : decode cX7_ruleNumberFor 14 = .ok (.invokevirtual 95, 3) := by decide +kernel
theorem dX7_ruleNumberFor_17 : decode cX7_ruleNumberFor 17 = .ok (.if_icmp .ge 56, 3) := by decide +kernel
theorem dX7_ruleNumberFor_20 : decode cX7_ruleNumberFor 20 = .ok (.aload_n 0, 1) := by decide +kernel
theorem dX7_ruleNumberFor_21 : decode cX7_ruleNumberFor 21 = .ok (.getfield 26, 3) := by decide +kernel
theorem dX7_ruleNumberFor_24 : decode cX7_ruleNumberFor 24 = .ok (.iload 5, 2) := by decide +kernel
theorem dX7_ruleNumberFor_26 : decode cX7_ruleNumberFor 26 = .ok (.invokevirtual 154, 3) := by decide +kernel
theorem dX7_ruleNumberFor_29 : decode cX7_ruleNumberFor 29 = .ok (.checkcast 193, 3) := by decide +kernel
theorem dX7_ruleNumberFor_32 : decode cX7_ruleNumberFor 32 = .ok (.astore 6, 2) := by decide +kernel
theorem dX7_ruleNumberFor_34 : decode cX7_ruleNumberFor 34 = .ok (.aload 6, 2) := by decide +kernel
theorem dX7_ruleNumberFor_36 : decode cX7_ruleNumberFor 36 = .ok (.getfield 209, 3) := by decide +kernel
theorem dX7_ruleNumberFor_39 : decode cX7_ruleNumberFor 39 = .ok (.iload 4, 2) := by decide +kernel
theorem dX7_ruleNumberFor_41 : decode cX7_ruleNumberFor 41 = .ok (.if_icmp .le 26, 3) := by decide +kernel
theorem dX7_ruleNumberFor_44 : decode cX7_ruleNumberFor 44 = .ok (.aload 6, 2) := by decide +kernel
theorem dX7_ruleNumberFor_46 : decode cX7_ruleNumberFor 46 = .ok (.getfield 309, 3) := by decide +kernel
theorem dX7_ruleNumberFor_49 : decode cX7_ruleNumberFor 49 = .ok (.iload_n 1, 1) := by decide +kernel
theorem dX7_ruleNumberFor_50 : decode cX7_ruleNumberFor 50 = .ok (.iload_n 2, 1) := by decide +kernel
theorem dX7_ruleNumberFor_51 : decode cX7_ruleNumberFor 51 = .ok (.invokevirtual 313, 3) := by decide +kernel
theorem dX7_ruleNumberFor_54 : decode cX7_ruleNumberFor 54 = .ok (.ifCond .eq 13, 3) := by decide +kernel
theorem dX7_ruleNumberFor_57 : decode cX7_ruleNumberFor 57 = .ok (.iload 5, 2) := by decide +kernel
theorem dX7_ruleNumberFor_59 : decode cX7_ruleNumberFor 59 = .ok (.istore_n 3, 1) := by decide +kernel
theorem dX7_ruleNumberFor_60 : decode cX7_ruleNumberFor 60 = .ok (.aload 6, 2) := by decide +kernel
theorem dX7_ruleNumberFor_62 : decode cX7_ruleNumberFor 62 = .ok (.getfield 209, 3) := by decide +kernel
theorem dX7_ruleNumberFor_65 : decode cX7_ruleNumberFor 65 = .ok (.istore 4, 2) := by decide +kernel
theorem dX7_ruleNumberFor_67 : decode cX7_ruleNumberFor 67 = .ok (.iinc 5 1, 3) := by decide +kernel
theorem dX7_ruleNumberFor_70 : decode cX7_ruleNumberFor 70 = .ok (.goto (-62), 3) := by decide +kernel
theorem dX7_ruleNumberFor_73 : decode cX7_ruleNumberFor 73 = .ok (.iload_n 3, 1) := by decide +kernel
theorem dX7_ruleNumberFor_74 : decode cX7_ruleNumberFor 74 = .ok (.ireturn, 1) := by decide +kernel
set_option maxRecDepth 20000 in
theorem ggX7_changeByHand_X6_init : GoodIn wsX7_changeByHand wsX6_init := goodIn_r _ [9, 10, 11, 12, 13, 14, 15, 16, 255, 256, 257, 258] (by decide +kernel) (by decide +kernel)
set_option maxRecDepth 20000 in
theorem gX7_changeByHand_X6_init : GoodIn wsX7_changeByHand (wsX6_init) := ggX7_changeByHand_X6_init
set_option maxRecDepth 20000 in
theorem ggX7_changeByHand_X7_macroAt : GoodIn wsX7_changeByHand wsX7_macroAt := goodIn_r _ [21, 22, 23, 24, 25, 26, 27, 28, 29, 30, 31, 32, 33, 34, 35, 36, 37, 38, 39, 40, 41, 42, 43, 44, 45, 46, 259, 260, 261, 262, 263, 264, 265, 266, 267, 268, 269, 270, 271, 272, 273, 274] (by decide +kernel) (by decide +kernel)
set_option maxRecDepth 20000 in
theorem gX7_changeByHand_X7_macroAt : GoodIn wsX7_changeByHand (wsV RX7 128 RX7 yX7_macroAt wsX7_macroAt) := goodIn_app (goodIn_of _ (by decide +kernel)) ggX7_changeByHand_X7_macroAt
set_option maxRecDepth 20000 in
theorem ggX7_changeByHand_X3_keepStep : GoodIn wsX7_changeByHand wsX3_keepStep := goodIn_r _ [51, 52, 53, 25, 26, 27, 28, 29, 54, 55, 56, 57, 58, 59, 46, 60, 61, 62, 63, 64, 65, 66, 67, 68, 69, 70, 71, 72, 73, 74, 75, 76, 77, 78, 79, 80, 81, 82, 83, 84, 85, 86, 87, 88, 89, 90, 91, 92, 93, 94, 95, 96, 97, 98, 99, 100, 101, 102, 103, 104, 105, 106, 275, 276, 277, 272, 273, 274] (by decide +kernel) (by decide +kernel)
set_option maxRecDepth 20000 in
theorem gX7_changeByHand_X3_keepStep : GoodIn wsX7_changeByHand (wsV RX7 319 RX3 yX3_keepStep wsX3_keepStep) := goodIn_app (goodIn_of _ (by decide +kernel)) ggX7_changeByHand_X3_keepStep
set_option maxRecDepth 20000 in
theorem ggX7_changeByHand_X7_beginAction : GoodIn wsX7_changeByHand wsX7_beginAction := goodIn_r _ [110, 111, 112, 113, 114, 115, 116, 117, 118, 119, 120, 121, 122, 123, 124, 125, 126, 127, 128, 129, 89, 130, 131, 132, 133, 134, 135, 136, 137, 100, 101, 75, 102, 103, 104, 105, 106, 259, 260, 261, 262, 263, 264, 265, 266, 267, 268, 269, 270, 271, 278, 279, 280, 281, 282] (by decide +kernel) (by decide +kernel)
set_option maxRecDepth 20000 in
theorem gX7_changeByHand_X7_beginAction : GoodIn wsX7_changeByHand (wsV RX7 173 RX7 yX7_beginAction wsX7_beginAction) := goodIn_app (goodIn_of _ (by decide +kernel)) ggX7_changeByHand_X7_beginAction
set_option maxRecDepth 20000 in
theorem ggX7_changeByHand_X7_placeOf : GoodIn wsX7_changeByHand wsX7_placeOf := goodIn_r _ [140] (by decide +kernel) (by decide +kernel)
set_option maxRecDepth 20000 in
theorem gX7_changeByHand_X7_placeOf : GoodIn wsX7_changeByHand (va_wsS RX7 77 yX7_placeOf wsX7_placeOf) := goodIn_app (goodIn_of _ (by decide +kernel)) ggX7_changeByHand_X7_placeOf
set_option maxRecDepth 20000 in
theorem ggX7_changeByHand_X7_change : GoodIn wsX7_changeByHand wsX7_change := goodIn_ca (goodIn_r _ [144, 145, 111, 112, 146, 147, 148, 149, 150, 151, 152, 153, 154, 155, 156, 157, 158, 159, 3, 160, 13, 16, 113, 114, 115, 116, 117, 118, 161, 162, 163, 164, 123, 165, 166, 167, 168, 125, 126, 127, 169, 170, 171, 172, 259, 260, 261, 262, 263, 264, 265, 266, 267, 268, 269, 270, 271, 283, 255, 256, 257, 258, 278, 279, 280, 281, 282] (by decide +kernel) (by decide +kernel)) (goodIn_sub (fun _ h => List.mem_cons_of_mem _ (List.mem_append_right _ h)) (by decide +kernel))
set_option maxRecDepth 20000 in
theorem gX7_changeByHand_X7_change : GoodIn wsX7_changeByHand (wsV RX7 323 RX7 yX7_change wsX7_change) := goodIn_app (goodIn_of _ (by decide +kernel)) ggX7_changeByHand_X7_change
set_option maxRecDepth 20000 in
theorem ggX7_changeByHand_X7_runRules : GoodIn wsX7_changeByHand wsX7_runRules := goodIn_ca (goodIn_r _ [176, 146, 112, 111, 113, 114, 115, 116, 117, 118, 177, 178, 179, 180, 123, 181, 182, 183, 20, 184, 6, 185, 186, 187, 188, 189, 190, 191, 24, 25, 26, 27, 28, 29, 30, 31, 32, 33, 34, 35, 36, 37, 38, 39, 40, 41, 42, 43, 44, 45, 46, 192, 193, 194, 195, 196, 197, 198, 199, 200, 201, 202, 203, 204, 205, 206, 207, 208, 209, 145, 210, 211, 212, 150, 213, 152, 214, 104, 105, 106, 138, 139, 140, 215, 216, 217, 50, 218, 52, 53, 219, 220, 221, 222, 223, 224, 225, 226, 227, 228, 229, 230, 231, 232, 233, 234, 147, 148, 149, 151, 153, 154, 155, 156, 157, 158, 159, 3, 160, 13, 16, 235, 236, 237, 169, 170, 171, 172, 238, 239, 240, 241, 141, 142, 143, 144, 161, 162, 163, 164, 165, 166, 167, 168, 125, 126, 127, 259, 260, 261, 262, 263, 264, 265, 266, 267, 268, 269, 270, 271, 278, 279, 280, 281, 282, 284, 285, 286, 275, 276, 277, 272, 273, 274, 287, 288, 289, 290, 255, 256, 257, 258, 283] (by decide +kernel) (by decide +kernel)) (goodIn_sub (fun _ h => List.mem_cons_of_mem _ (List.mem_append_right _ h)) (by decide +kernel))
set_option maxRecDepth 20000 in
theorem gX7_changeByHand_X7_runRules : GoodIn wsX7_changeByHand (wsV RX7 180 RX7 yX7_runRules wsX7_runRules) := goodIn_app (goodIn_of _ (by decide +kernel)) ggX7_changeByHand_X7_runRules
set_option maxRecDepth 20000 in
theorem ggX7_changeByHand_X3_stepCount : GoodIn wsX7_changeByHand wsX3_stepCount := goodIn_r _ [218, 52, 53, 25, 26, 27, 28, 29, 275, 276, 277, 272, 273, 274] (by decide +kernel) (by decide +kernel)
set_option maxRecDepth 20000 in
theorem gX7_changeByHand_X3_stepCount : GoodIn wsX7_changeByHand (wsV RX7 116 RX3 yX3_stepCount wsX3_stepCount) := goodIn_app (goodIn_of _ (by decide +kernel)) ggX7_changeByHand_X3_stepCount
set_option maxRecDepth 20000 in
theorem ggX7_changeByHand_X7_endAction : GoodIn wsX7_changeByHand wsX7_endAction := goodIn_ca (goodIn_r _ [245, 111, 112, 246, 113, 114, 115, 116, 117, 118, 247, 248, 249, 250, 251, 252, 253, 254, 104, 105, 106, 259, 260, 261, 262, 263, 264, 265, 266, 267, 268, 269, 270, 271, 278, 279, 280, 281, 282, 291, 292] (by decide +kernel) (by decide +kernel)) (goodIn_sub (fun _ h => List.mem_cons_of_mem _ (List.mem_append_right _ h)) (by decide +kernel))
set_option maxRecDepth 20000 in
theorem gX7_changeByHand_X7_endAction : GoodIn wsX7_changeByHand (wsV RX7 183 RX7 yX7_endAction wsX7_endAction) := goodIn_app (goodIn_of _ (by decide +kernel)) ggX7_changeByHand_X7_endAction
theorem dX7_changeByHand_0 : decode cX7_changeByHand 0 = .ok (.new 264, 3) := by decide +kernel
theorem dX7_changeByHand_3 : decode cX7_changeByHand 3 = .ok (.dup, 1) := by decide +kernel
theorem dX7_changeByHand_4 : decode cX7_changeByHand 4 = .ok (.iload_n 1, 1) := by decide +kernel
theorem dX7_changeByHand_5 : decode cX7_changeByHand 5 = .ok (.iload_n 2, 1) := by decide +kernel
theorem dX7_changeByHand_6 : decode cX7_changeByHand 6 = .ok (.aload_n 0, 1) := by decide +kernel
theorem dX7_changeByHand_7 : decode cX7_changeByHand 7 = .ok (.getfield 122, 3) := by decide +kernel
theorem dX7_changeByHand_10 : decode cX7_changeByHand 10 = .ok (.isub, 1) := by decide +kernel
theorem dX7_changeByHand_11 : decode cX7_changeByHand 11 = .ok (.iload_n 3, 1) := by decide +kernel
theorem dX7_changeByHand_12 : decode cX7_changeByHand 12 = .ok (.aload_n 0, 1) := by decide +kernel
theorem dX7_changeByHand_13 : decode cX7_changeByHand 13 = .ok (.getfield 125, 3) := by decide +kernel
theorem dX7_changeByHand_16 : decode cX7_changeByHand 16 = .ok (.isub, 1) := by decide +kernel
theorem dX7_changeByHand_17 : decode cX7_changeByHand 17 = .ok (.iload 4, 2) := by decide +kernel
theorem dX7_changeByHand_19 : decode cX7_changeByHand 19 = .ok (.invokespecial 316, 3) := by decide +kernel
theorem dX7_changeByHand_22 : decode cX7_changeByHand 22 = .ok (.astore 5, 2) := by decide +kernel
theorem dX7_changeByHand_24 : decode cX7_changeByHand 24 = .ok (.aload_n 0, 1) := by decide +kernel
theorem dX7_changeByHand_25 : decode cX7_changeByHand 25 = .ok (.aload_n 0, 1) := by decide +kernel
theorem dX7_changeByHand_26 : decode cX7_changeByHand 26 = .ok (.getfield 54, 3) := by decide +kernel
theorem dX7_changeByHand_29 : decode cX7_changeByHand 29 = .ok (.invokevirtual 128, 3) := by decide +kernel
theorem dX7_changeByHand_32 : decode cX7_changeByHand 32 = .ok (.astore 6, 2) := by decide +kernel
theorem dX7_changeByHand_34 : decode cX7_changeByHand 34 = .ok (.aload 6, 2) := by decide +kernel
theorem dX7_changeByHand_36 : decode cX7_changeByHand 36 = .ok (.ifnull 10, 3) := by decide +kernel
theorem dX7_changeByHand_39 : decode cX7_changeByHand 39 = .ok (.aload 6, 2) := by decide +kernel
theorem dX7_changeByHand_41 : decode cX7_changeByHand 41 = .ok (.aload 5, 2) := by decide +kernel
theorem dX7_changeByHand_43 : decode cX7_changeByHand 43 = .ok (.invokevirtual 319, 3) := by decide +kernel
theorem dX7_changeByHand_46 : decode cX7_changeByHand 46 = .ok (.aload_n 0, 1) := by decide +kernel
theorem dX7_changeByHand_47 : decode cX7_changeByHand 47 = .ok (.invokevirtual 173, 3) := by decide +kernel
theorem dX7_changeByHand_50 : decode cX7_changeByHand 50 = .ok (.aload_n 0, 1) := by decide +kernel
theorem dX7_changeByHand_51 : decode cX7_changeByHand 51 = .ok (.getfield 122, 3) := by decide +kernel
theorem dX7_changeByHand_54 : decode cX7_changeByHand 54 = .ok (.aload_n 0, 1) := by decide +kernel
theorem dX7_changeByHand_55 : decode cX7_changeByHand 55 = .ok (.getfield 125, 3) := by decide +kernel
theorem dX7_changeByHand_58 : decode cX7_changeByHand 58 = .ok (.invokestatic 77, 3) := by decide +kernel
theorem dX7_changeByHand_61 : decode cX7_changeByHand 61 = .ok (.istore 7, 2) := by decide +kernel
theorem dX7_changeByHand_63 : decode cX7_changeByHand 63 = .ok (.aload_n 0, 1) := by decide +kernel
theorem dX7_changeByHand_64 : decode cX7_changeByHand 64 = .ok (.iload_n 2, 1) := by decide +kernel
theorem dX7_changeByHand_65 : decode cX7_changeByHand 65 = .ok (.iload_n 3, 1) := by decide +kernel
theorem dX7_changeByHand_66 : decode cX7_changeByHand 66 = .ok (.invokestatic 77, 3) := by decide +kernel
theorem dX7_changeByHand_69 : decode cX7_changeByHand 69 = .ok (.aload 5, 2) := by decide +kernel
theorem dX7_changeByHand_71 : decode cX7_changeByHand 71 = .ok (.iload 7, 2) := by decide +kernel
theorem dX7_changeByHand_73 : decode cX7_changeByHand 73 = .ok (.iconst (-1), 1) := by decide +kernel
theorem dX7_changeByHand_74 : decode cX7_changeByHand 74 = .ok (.iconst 0, 1) := by decide +kernel
theorem dX7_changeByHand_75 : decode cX7_changeByHand 75 = .ok (.invokevirtual 323, 3) := by decide +kernel
theorem dX7_changeByHand_78 : decode cX7_changeByHand 78 = .ok (.aload_n 0, 1) := by decide +kernel
theorem dX7_changeByHand_79 : decode cX7_changeByHand 79 = .ok (.invokevirtual 180, 3) := by decide +kernel
theorem dX7_changeByHand_82 : decode cX7_changeByHand 82 = .ok (.aload 6, 2) := by decide +kernel
theorem dX7_changeByHand_84 : decode cX7_changeByHand 84 = .ok (.ifnull 18, 3) := by decide +kernel
theorem dX7_changeByHand_87 : decode cX7_changeByHand 87 = .ok (.aload 6, 2) := by decide +kernel
theorem dX7_changeByHand_89 : decode cX7_changeByHand 89 = .ok (.invokevirtual 116, 3) := by decide +kernel
theorem dX7_changeByHand_92 : decode cX7_changeByHand 92 = .ok (.bipush 10, 2) := by decide +kernel
theorem dX7_changeByHand_94 : decode cX7_changeByHand 94 = .ok (.if_icmp .lt 8, 3) := by decide +kernel
theorem dX7_changeByHand_97 : decode cX7_changeByHand 97 = .ok (.aload_n 0, 1) := by decide +kernel
theorem dX7_changeByHand_98 : decode cX7_changeByHand 98 = .ok (.iconst (-1), 1) := by decide +kernel
theorem dX7_changeByHand_99 : decode cX7_changeByHand 99 = .ok (.putfield 54, 3) := by decide +kernel
theorem dX7_changeByHand_102 : decode cX7_changeByHand 102 = .ok (.aload_n 0, 1) := by decide +kernel
theorem dX7_changeByHand_103 : decode cX7_changeByHand 103 = .ok (.invokevirtual 183, 3) := by decide +kernel
theorem dX7_changeByHand_106 : decode cX7_changeByHand 106 = .ok (.ireturn, 1) := by decide +kernel
set_option maxRecDepth 20000 in
theorem ggX7_beginAction_X0_size : GoodIn wsX7_beginAction wsX0_size := goodIn_r _ [7, 8, 50, 51, 52, 53, 54] (by decide +kernel) (by decide +kernel)
set_option maxRecDepth 20000 in
theorem gX7_beginAction_X0_size : GoodIn wsX7_beginAction (wsV RX7 228 RX0 yX0_size wsX0_size) := goodIn_app (goodIn_of _ (by decide +kernel)) ggX7_beginAction_X0_size
set_option maxRecDepth 20000 in
theorem ggX7_beginAction_X0_makeRoom : GoodIn wsX7_beginAction wsX0_makeRoom := goodIn_r _ [12, 13, 8, 14, 15, 16, 17, 18, 19, 20, 21, 22, 23, 24, 25, 26, 27, 28, 29, 30, 31, 32, 33, 34, 35, 36, 50, 51, 52, 53, 54] (by decide +kernel) (by decide +kernel)
set_option maxRecDepth 20000 in
theorem gX7_beginAction_X0_makeRoom : GoodIn wsX7_beginAction (wsV RX7 330 RX0 yX0_makeRoom wsX0_makeRoom) := goodIn_app (goodIn_of _ (by decide +kernel)) ggX7_beginAction_X0_makeRoom
theorem dX7_beginAction_0 : decode cX7_beginAction 0 = .ok (.aload_n 0, 1) := by decide +kernel
theorem dX7_beginAction_1 : decode cX7_beginAction 1 = .ok (.aload_n 0, 1) := by decide +kernel
theorem dX7_beginAction_2 : decode cX7_beginAction 2 = .ok (.getfield 32, 3) := by decide +kernel
theorem dX7_beginAction_5 : decode cX7_beginAction 5 = .ok (.invokevirtual 228, 3) := by decide +kernel
theorem dX7_beginAction_8 : decode cX7_beginAction 8 = .ok (.putfield 327, 3) := by decide +kernel
theorem dX7_beginAction_11 : decode cX7_beginAction 11 = .ok (.aload_n 0, 1) := by decide +kernel
theorem dX7_beginAction_12 : decode cX7_beginAction 12 = .ok (.getfield 32, 3) := by decide +kernel
theorem dX7_beginAction_15 : decode cX7_beginAction 15 = .ok (.invokevirtual 330, 3) := by decide +kernel
theorem dX7_beginAction_18 : decode cX7_beginAction 18 = .ok (.return_, 1) := by decide +kernel
set_option maxRecDepth 20000 in
theorem ggX7_endAction_X0_size : GoodIn wsX7_endAction wsX0_size := goodIn_r _ [8, 9, 34, 35, 36, 37, 38] (by decide +kernel) (by decide +kernel)
set_option maxRecDepth 20000 in
theorem gX7_endAction_X0_size : GoodIn wsX7_endAction (wsV RX7 228 RX0 yX0_size wsX0_size) := goodIn_app (goodIn_of _ (by decide +kernel)) ggX7_endAction_X0_size
set_option maxRecDepth 20000 in
theorem ggX7_endAction_X2_keep : GoodIn wsX7_endAction wsX2_keep := goodIn_ca (goodIn_r _ [14, 15, 16, 17, 18, 19, 20, 39, 40] (by decide +kernel) (by decide +kernel)) (goodIn_sub (fun _ h => List.mem_cons_of_mem _ (List.mem_append_right _ h)) (by decide +kernel))
set_option maxRecDepth 20000 in
theorem gX7_endAction_X2_keep : GoodIn wsX7_endAction (wsV RX7 333 RX2 yX2_keep wsX2_keep) := goodIn_app (goodIn_of _ (by decide +kernel)) ggX7_endAction_X2_keep
theorem dX7_endAction_0 : decode cX7_endAction 0 = .ok (.aload_n 0, 1) := by decide +kernel
theorem dX7_endAction_1 : decode cX7_endAction 1 = .ok (.getfield 32, 3) := by decide +kernel
theorem dX7_endAction_4 : decode cX7_endAction 4 = .ok (.invokevirtual 228, 3) := by decide +kernel
theorem dX7_endAction_7 : decode cX7_endAction 7 = .ok (.aload_n 0, 1) := by decide +kernel
theorem dX7_endAction_8 : decode cX7_endAction 8 = .ok (.getfield 327, 3) := by decide +kernel
theorem dX7_endAction_11 : decode cX7_endAction 11 = .ok (.isub, 1) := by decide +kernel
theorem dX7_endAction_12 : decode cX7_endAction 12 = .ok (.istore_n 1, 1) := by decide +kernel
theorem dX7_endAction_13 : decode cX7_endAction 13 = .ok (.iload_n 1, 1) := by decide +kernel
theorem dX7_endAction_14 : decode cX7_endAction 14 = .ok (.ifCond .le 14, 3) := by decide +kernel
theorem dX7_endAction_17 : decode cX7_endAction 17 = .ok (.aload_n 0, 1) := by decide +kernel
theorem dX7_endAction_18 : decode cX7_endAction 18 = .ok (.getfield 39, 3) := by decide +kernel
theorem dX7_endAction_21 : decode cX7_endAction 21 = .ok (.aload_n 0, 1) := by decide +kernel
theorem dX7_endAction_22 : decode cX7_endAction 22 = .ok (.getfield 327, 3) := by decide +kernel
theorem dX7_endAction_25 : decode cX7_endAction 25 = .ok (.invokevirtual 333, 3) := by decide +kernel
theorem dX7_endAction_28 : decode cX7_endAction 28 = .ok (.iload_n 1, 1) := by decide +kernel
theorem dX7_endAction_29 : decode cX7_endAction 29 = .ok (.ireturn, 1) := by decide +kernel
set_option maxRecDepth 20000 in
theorem ggX7_runRules_X0_size : GoodIn wsX7_runRules wsX0_size := goodIn_r _ [8, 9, 160, 161, 162, 163, 164] (by decide +kernel) (by decide +kernel)
set_option maxRecDepth 20000 in
theorem gX7_runRules_X0_size : GoodIn wsX7_runRules (wsV RX7 228 RX0 yX0_size wsX0_size) := goodIn_app (goodIn_of _ (by decide +kernel)) ggX7_runRules_X0_size
set_option maxRecDepth 20000 in
theorem ggX7_runRules_X0_placeAt : GoodIn wsX7_runRules wsX0_placeAt := goodIn_ca (goodIn_r _ [13, 9, 14, 160, 161, 162, 163, 164] (by decide +kernel) (by decide +kernel)) (goodIn_sub (fun _ h => List.mem_cons_of_mem _ (List.mem_append_right _ h)) (by decide +kernel))
set_option maxRecDepth 20000 in
theorem gX7_runRules_X0_placeAt : GoodIn wsX7_runRules (wsV RX7 229 RX0 yX0_placeAt wsX0_placeAt) := goodIn_app (goodIn_of _ (by decide +kernel)) ggX7_runRules_X0_placeAt
set_option maxRecDepth 20000 in
theorem ggX7_runRules_X7_runRuleFor : GoodIn wsX7_runRules wsX7_runRuleFor := goodIn_ca (goodIn_r _ [19, 20, 21, 22, 23, 24, 18, 25, 26, 27, 28, 29, 30, 31, 32, 33, 34, 35, 36, 37, 38, 39, 40, 41, 42, 43, 44, 45, 46, 47, 48, 49, 50, 51, 52, 53, 54, 55, 56, 57, 58, 59, 60, 61, 62, 63, 64, 65, 66, 67, 68, 69, 70, 71, 72, 73, 74, 75, 76, 77, 78, 79, 80, 81, 82, 83, 84, 85, 86, 87, 88, 89, 90, 91, 92, 93, 94, 95, 96, 97, 98, 99, 100, 101, 102, 103, 104, 105, 106, 107, 108, 109, 110, 111, 112, 113, 114, 115, 116, 117, 118, 119, 120, 121, 122, 123, 124, 125, 126, 127, 128, 129, 130, 131, 132, 133, 134, 135, 3, 2, 1, 4, 5, 6, 7, 8, 9, 136, 137, 138, 139, 14, 140, 141, 142, 143, 144, 145, 146, 165, 166, 167, 168, 169, 170, 147, 148, 149, 150, 151, 152, 153, 154, 155, 156, 157, 158, 159, 171, 172, 173, 174, 175, 176, 177, 178, 179, 180, 181, 182, 160, 161, 162, 163, 164] (by decide +kernel) (by decide +kernel)) (goodIn_sub (fun _ h => List.mem_cons_of_mem _ (List.mem_append_right _ h)) (by decide +kernel))
set_option maxRecDepth 20000 in
theorem gX7_runRules_X7_runRuleFor : GoodIn wsX7_runRules (wsV RX7 336 RX7 yX7_runRuleFor wsX7_runRuleFor) := goodIn_app (goodIn_of _ (by decide +kernel)) ggX7_runRules_X7_runRuleFor
theorem dX7_runRules_0 : decode cX7_runRules 0 = .ok (.iconst 0, 1) := by decide +kernel
theorem dX7_runRules_1 : decode cX7_runRules 1 = .ok (.istore_n 1, 1) := by decide +kernel
theorem dX7_runRules_2 : decode cX7_runRules 2 = .ok (.iconst 0, 1) := by decide +kernel
theorem dX7_runRules_3 : decode cX7_runRules 3 = .ok (.istore_n 2, 1) := by decide +kernel
theorem dX7_runRules_4 : decode cX7_runRules 4 = .ok (.iload_n 2, 1) := by decide +kernel
theorem dX7_runRules_5 : decode cX7_runRules 5 = .ok (.aload_n 0, 1) := by decide +kernel
theorem dX7_runRules_6 : decode cX7_runRules 6 = .ok (.getfield 50, 3) := by decide +kernel
theorem dX7_runRules_9 : decode cX7_runRules 9 = .ok (.arraylength, 1) := by decide +kernel
theorem dX7_runRules_10 : decode cX7_runRules 10 = .ok (.if_icmp .ge 69, 3) := by decide +kernel
theorem dX7_runRules_13 : decode cX7_runRules 13 = .ok (.aload_n 0, 1) := by decide +kernel
theorem dX7_runRules_14 : decode cX7_runRules 14 = .ok (.getfield 327, 3) := by decide +kernel
theorem dX7_runRules_17 : decode cX7_runRules 17 = .ok (.iload_n 2, 1) := by decide +kernel
theorem dX7_runRules_18 : decode cX7_runRules 18 = .ok (.iadd, 1) := by decide +kernel
theorem dX7_runRules_19 : decode cX7_runRules 19 = .ok (.aload_n 0, 1) := by decide +kernel
theorem dX7_runRules_20 : decode cX7_runRules 20 = .ok (.getfield 32, 3) := by decide +kernel
theorem dX7_runRules_23 : decode cX7_runRules 23 = .ok (.invokevirtual 228, 3) := by decide +kernel
theorem dX7_runRules_26 : decode cX7_runRules 26 = .ok (.if_icmp .ge 53, 3) := by decide +kernel
theorem dX7_runRules_29 : decode cX7_runRules 29 = .ok (.aload_n 0, 1) := by decide +kernel
theorem dX7_runRules_30 : decode cX7_runRules 30 = .ok (.getfield 50, 3) := by decide +kernel
theorem dX7_runRules_33 : decode cX7_runRules 33 = .ok (.iload_n 2, 1) := by decide +kernel
theorem dX7_runRules_34 : decode cX7_runRules 34 = .ok (.iaload, 1) := by decide +kernel
theorem dX7_runRules_35 : decode cX7_runRules 35 = .ok (.istore_n 3, 1) := by decide +kernel
theorem dX7_runRules_36 : decode cX7_runRules 36 = .ok (.iload_n 3, 1) := by decide +kernel
theorem dX7_runRules_37 : decode cX7_runRules 37 = .ok (.iconst 3, 1) := by decide +kernel
theorem dX7_runRules_38 : decode cX7_runRules 38 = .ok (.if_icmp .ge 35, 3) := by decide +kernel
theorem dX7_runRules_41 : decode cX7_runRules 41 = .ok (.iload_n 1, 1) := by decide +kernel
theorem dX7_runRules_42 : decode cX7_runRules 42 = .ok (.bipush 20, 2) := by decide +kernel
theorem dX7_runRules_44 : decode cX7_runRules 44 = .ok (.if_icmp .ge 29, 3) := by decide +kernel
theorem dX7_runRules_47 : decode cX7_runRules 47 = .ok (.aload_n 0, 1) := by decide +kernel
theorem dX7_runRules_48 : decode cX7_runRules 48 = .ok (.aload_n 0, 1) := by decide +kernel
theorem dX7_runRules_49 : decode cX7_runRules 49 = .ok (.getfield 32, 3) := by decide +kernel
theorem dX7_runRules_52 : decode cX7_runRules 52 = .ok (.aload_n 0, 1) := by decide +kernel
theorem dX7_runRules_53 : decode cX7_runRules 53 = .ok (.getfield 327, 3) := by decide +kernel
theorem dX7_runRules_56 : decode cX7_runRules 56 = .ok (.iload_n 2, 1) := by decide +kernel
theorem dX7_runRules_57 : decode cX7_runRules 57 = .ok (.iadd, 1) := by decide +kernel
theorem dX7_runRules_58 : decode cX7_runRules 58 = .ok (.invokevirtual 229, 3) := by decide +kernel
theorem dX7_runRules_61 : decode cX7_runRules 61 = .ok (.iload_n 3, 1) := by decide +kernel
theorem dX7_runRules_62 : decode cX7_runRules 62 = .ok (.iconst 1, 1) := by decide +kernel
theorem dX7_runRules_63 : decode cX7_runRules 63 = .ok (.iadd, 1) := by decide +kernel
theorem dX7_runRules_64 : decode cX7_runRules 64 = .ok (.invokevirtual 336, 3) := by decide +kernel
theorem dX7_runRules_67 : decode cX7_runRules 67 = .ok (.ifCond .eq 6, 3) := by decide +kernel
theorem dX7_runRules_70 : decode cX7_runRules 70 = .ok (.iinc 1 1, 3) := by decide +kernel
theorem dX7_runRules_73 : decode cX7_runRules 73 = .ok (.iinc 2 1, 3) := by decide +kernel
theorem dX7_runRules_76 : decode cX7_runRules 76 = .ok (.goto (-72), 3) := by decide +kernel
theorem dX7_runRules_79 : decode cX7_runRules 79 = .ok (.return_, 1) := by decide +kernel
set_option maxRecDepth 20000 in
theorem ggX7_runRuleFor_X7_ruleNumberFor : GoodIn wsX7_runRuleFor wsX7_ruleNumberFor := goodIn_r _ [7, 8, 9, 10, 11, 12, 13, 14, 15, 16, 17, 18, 19, 20, 21, 22, 23, 24, 25, 26, 27, 28, 29, 30, 31, 32, 33, 34, 35, 36, 37, 38, 39, 40, 41, 145, 146, 147, 148, 149, 150, 151, 152, 153, 154, 155, 156, 157, 139, 140, 141, 158, 159, 160, 161, 162, 163, 164] (by decide +kernel) (by decide +kernel)
set_option maxRecDepth 20000 in
theorem gX7_runRuleFor_X7_ruleNumberFor : GoodIn wsX7_runRuleFor (wsV RX7 212 RX7 yX7_ruleNumberFor wsX7_ruleNumberFor) := goodIn_app (goodIn_of _ (by decide +kernel)) ggX7_runRuleFor_X7_ruleNumberFor
set_option maxRecDepth 20000 in
theorem ggX7_runRuleFor_X7_ruleAt : GoodIn wsX7_runRuleFor wsX7_ruleAt := goodIn_r _ [45, 8, 9, 10, 11, 12, 13, 14, 15, 16, 17, 18, 19, 20, 21, 22, 23, 24, 25, 26, 27, 28, 29, 30, 31, 32, 145, 146, 147, 148, 149, 150, 151, 152, 153, 154, 155, 156, 157, 158, 159, 160] (by decide +kernel) (by decide +kernel)
set_option maxRecDepth 20000 in
theorem gX7_runRuleFor_X7_ruleAt : GoodIn wsX7_runRuleFor (wsV RX7 198 RX7 yX7_ruleAt wsX7_ruleAt) := goodIn_app (goodIn_of _ (by decide +kernel)) ggX7_runRuleFor_X7_ruleAt
set_option maxRecDepth 20000 in
theorem ggX7_runRuleFor_X7_reasonAgainst : GoodIn wsX7_runRuleFor wsX7_reasonAgainst := goodIn_ca (goodIn_r _ [49, 50, 51, 52, 53, 54, 55, 56, 57, 58, 59, 60, 61, 62, 63, 6, 64, 65, 66, 67, 68, 69, 70, 71, 11, 12, 13, 14, 15, 72, 73, 74, 75, 76, 77, 17, 18, 19, 20, 21, 22, 23, 24, 25, 26, 27, 28, 29, 30, 31, 32, 78, 79, 80, 81, 82, 83, 84, 85, 86, 87, 34, 35, 36, 37, 38, 39, 40, 41, 88, 89, 90, 91, 92, 93, 94, 95, 96, 97, 98, 99, 100, 101, 102, 103, 104, 105, 106, 107, 108, 109, 145, 146, 147, 148, 149, 150, 151, 152, 153, 154, 155, 156, 157, 165, 166, 167, 168, 169, 142, 143, 144, 158, 159, 160, 161, 162, 163, 164] (by decide +kernel) (by decide +kernel)) (goodIn_sub (fun _ h => List.mem_cons_of_mem _ (List.mem_append_right _ h)) (by decide +kernel))
set_option maxRecDepth 20000 in
theorem gX7_runRuleFor_X7_reasonAgainst : GoodIn wsX7_runRuleFor (wsV RX7 162 RX7 yX7_reasonAgainst wsX7_reasonAgainst) := goodIn_app (goodIn_of _ (by decide +kernel)) ggX7_runRuleFor_X7_reasonAgainst
set_option maxRecDepth 20000 in
theorem ggX7_runRuleFor_X7_makeSteps : GoodIn wsX7_runRuleFor wsX7_makeSteps := goodIn_ca (goodIn_r _ [113, 62, 63, 6, 64, 65, 66, 67, 68, 69, 70, 71, 11, 12, 13, 14, 15, 72, 73, 74, 75, 76, 77, 17, 18, 19, 20, 21, 22, 23, 24, 25, 26, 27, 28, 29, 30, 31, 32, 114, 115, 116, 117, 51, 118, 119, 120, 88, 89, 90, 55, 91, 57, 92, 93, 94, 95, 96, 97, 98, 99, 100, 101, 102, 121, 122, 123, 124, 125, 126, 127, 128, 129, 130, 131, 132, 133, 134, 135, 136, 137, 138, 106, 107, 108, 109, 165, 166, 167, 168, 142, 143, 144, 158, 159, 160, 145, 146, 147, 148, 149, 150, 151, 152, 153, 154, 155, 156, 157, 169, 170, 171, 172, 173, 174] (by decide +kernel) (by decide +kernel)) (goodIn_sub (fun _ h => List.mem_cons_of_mem _ (List.mem_append_right _ h)) (by decide +kernel))
set_option maxRecDepth 20000 in
theorem gX7_runRuleFor_X7_makeSteps : GoodIn wsX7_runRuleFor (wsV RX7 176 RX7 yX7_makeSteps wsX7_makeSteps) := goodIn_app (goodIn_of _ (by decide +kernel)) ggX7_runRuleFor_X7_makeSteps
theorem dX7_runRuleFor_0 : decode cX7_runRuleFor 0 = .ok (.iload_n 1, 1) := by decide +kernel
theorem dX7_runRuleFor_1 : decode cX7_runRuleFor 1 = .ok (.bipush 6, 2) := by decide +kernel
theorem dX7_runRuleFor_3 : decode cX7_runRuleFor 3 = .ok (.irem, 1) := by decide +kernel
theorem dX7_runRuleFor_4 : decode cX7_runRuleFor 4 = .ok (.istore_n 3, 1) := by decide +kernel
theorem dX7_runRuleFor_5 : decode cX7_runRuleFor 5 = .ok (.iload_n 1, 1) := by decide +kernel
theorem dX7_runRuleFor_6 : decode cX7_runRuleFor 6 = .ok (.bipush 6, 2) := by decide +kernel
theorem dX7_runRuleFor_8 : decode cX7_runRuleFor 8 = .ok (.idiv, 1) := by decide +kernel
theorem dX7_runRuleFor_9 : decode cX7_runRuleFor 9 = .ok (.istore 4, 2) := by decide +kernel
theorem dX7_runRuleFor_11 : decode cX7_runRuleFor 11 = .ok (.aload_n 0, 1) := by decide +kernel
theorem dX7_runRuleFor_12 : decode cX7_runRuleFor 12 = .ok (.aload_n 0, 1) := by decide +kernel
theorem dX7_runRuleFor_13 : decode cX7_runRuleFor 13 = .ok (.iload_n 3, 1) := by decide +kernel
theorem dX7_runRuleFor_14 : decode cX7_runRuleFor 14 = .ok (.iload 4, 2) := by decide +kernel
theorem dX7_runRuleFor_16 : decode cX7_runRuleFor 16 = .ok (.invokevirtual 212, 3) := by decide +kernel
theorem dX7_runRuleFor_19 : decode cX7_runRuleFor 19 = .ok (.invokevirtual 198, 3) := by decide +kernel
theorem dX7_runRuleFor_22 : decode cX7_runRuleFor 22 = .ok (.astore 5, 2) := by decide +kernel
theorem dX7_runRuleFor_24 : decode cX7_runRuleFor 24 = .ok (.aload 5, 2) := by decide +kernel
theorem dX7_runRuleFor_26 : decode cX7_runRuleFor 26 = .ok (.ifnull 18, 3) := by decide +kernel
theorem dX7_runRuleFor_29 : decode cX7_runRuleFor 29 = .ok (.aload 5, 2) := by decide +kernel
theorem dX7_runRuleFor_31 : decode cX7_runRuleFor 31 = .ok (.getfield 339, 3) := by decide +kernel
theorem dX7_runRuleFor_34 : decode cX7_runRuleFor 34 = .ok (.getfield 343, 3) := by decide +kernel
theorem dX7_runRuleFor_37 : decode cX7_runRuleFor 37 = .ok (.aload_n 0, 1) := by decide +kernel
theorem dX7_runRuleFor_38 : decode cX7_runRuleFor 38 = .ok (.getfield 54, 3) := by decide +kernel
theorem dX7_runRuleFor_41 : decode cX7_runRuleFor 41 = .ok (.if_icmp .ne 5, 3) := by decide +kernel
theorem dX7_runRuleFor_44 : decode cX7_runRuleFor 44 = .ok (.iconst 0, 1) := by decide +kernel
theorem dX7_runRuleFor_45 : decode cX7_runRuleFor 45 = .ok (.ireturn, 1) := by decide +kernel
theorem dX7_runRuleFor_46 : decode cX7_runRuleFor 46 = .ok (.aload_n 0, 1) := by decide +kernel
theorem dX7_runRuleFor_47 : decode cX7_runRuleFor 47 = .ok (.aload 5, 2) := by decide +kernel
theorem dX7_runRuleFor_49 : decode cX7_runRuleFor 49 = .ok (.getfield 339, 3) := by decide +kernel
theorem dX7_runRuleFor_52 : decode cX7_runRuleFor 52 = .ok (.iload_n 3, 1) := by decide +kernel
theorem dX7_runRuleFor_53 : decode cX7_runRuleFor 53 = .ok (.iload 4, 2) := by decide +kernel
theorem dX7_runRuleFor_55 : decode cX7_runRuleFor 55 = .ok (.invokevirtual 162, 3) := by decide +kernel
theorem dX7_runRuleFor_58 : decode cX7_runRuleFor 58 = .ok (.bipush 45, 2) := by decide +kernel
theorem dX7_runRuleFor_60 : decode cX7_runRuleFor 60 = .ok (.if_icmp .eq 15, 3) := by decide +kernel
theorem dX7_runRuleFor_63 : decode cX7_runRuleFor 63 = .ok (.aload_n 0, 1) := by decide +kernel
theorem dX7_runRuleFor_64 : decode cX7_runRuleFor 64 = .ok (.dup, 1) := by decide +kernel
theorem dX7_runRuleFor_65 : decode cX7_runRuleFor 65 = .ok (.getfield 220, 3) := by decide +kernel
theorem dX7_runRuleFor_68 : decode cX7_runRuleFor 68 = .ok (.iconst 1, 1) := by decide +kernel
theorem dX7_runRuleFor_69 : decode cX7_runRuleFor 69 = .ok (.iadd, 1) := by decide +kernel
theorem dX7_runRuleFor_70 : decode cX7_runRuleFor 70 = .ok (.putfield 220, 3) := by decide +kernel
theorem dX7_runRuleFor_73 : decode cX7_runRuleFor 73 = .ok (.iconst 0, 1) := by decide +kernel
theorem dX7_runRuleFor_74 : decode cX7_runRuleFor 74 = .ok (.ireturn, 1) := by decide +kernel
theorem dX7_runRuleFor_75 : decode cX7_runRuleFor 75 = .ok (.aload_n 0, 1) := by decide +kernel
theorem dX7_runRuleFor_76 : decode cX7_runRuleFor 76 = .ok (.aload 5, 2) := by decide +kernel
theorem dX7_runRuleFor_78 : decode cX7_runRuleFor 78 = .ok (.getfield 339, 3) := by decide +kernel
theorem dX7_runRuleFor_81 : decode cX7_runRuleFor 81 = .ok (.iload_n 3, 1) := by decide +kernel
theorem dX7_runRuleFor_82 : decode cX7_runRuleFor 82 = .ok (.iload 4, 2) := by decide +kernel
theorem dX7_runRuleFor_84 : decode cX7_runRuleFor 84 = .ok (.iload_n 2, 1) := by decide +kernel
theorem dX7_runRuleFor_85 : decode cX7_runRuleFor 85 = .ok (.invokevirtual 176, 3) := by decide +kernel
theorem dX7_runRuleFor_88 : decode cX7_runRuleFor 88 = .ok (.iconst 1, 1) := by decide +kernel
theorem dX7_runRuleFor_89 : decode cX7_runRuleFor 89 = .ok (.ireturn, 1) := by decide +kernel
set_option maxRecDepth 20000 in
theorem ggX7_reasonAgainst_X1_copyFrom : GoodIn wsX7_reasonAgainst wsX1_copyFrom := goodIn_r _ [7, 8, 9, 10, 11, 12, 108] (by decide +kernel) (by decide +kernel)
set_option maxRecDepth 20000 in
theorem gX7_reasonAgainst_X1_copyFrom : GoodIn wsX7_reasonAgainst (wsV RX7 344 RX1 yX1_copyFrom wsX1_copyFrom) := goodIn_app (goodIn_of _ (by decide +kernel)) ggX7_reasonAgainst_X1_copyFrom
set_option maxRecDepth 20000 in
theorem ggX7_reasonAgainst_X7_placeOf : GoodIn wsX7_reasonAgainst wsX7_placeOf := goodIn_r _ [16] (by decide +kernel) (by decide +kernel)
set_option maxRecDepth 20000 in
theorem gX7_reasonAgainst_X7_placeOf : GoodIn wsX7_reasonAgainst (va_wsS RX7 77 yX7_placeOf wsX7_placeOf) := goodIn_app (goodIn_of _ (by decide +kernel)) ggX7_reasonAgainst_X7_placeOf
set_option maxRecDepth 20000 in
theorem ggX7_reasonAgainst_X3_stepCount : GoodIn wsX7_reasonAgainst wsX3_stepCount := goodIn_r _ [21, 22, 23, 24, 25, 26, 27, 28, 109, 110, 111, 112, 113, 114] (by decide +kernel) (by decide +kernel)
set_option maxRecDepth 20000 in
theorem gX7_reasonAgainst_X3_stepCount : GoodIn wsX7_reasonAgainst (wsV RX7 116 RX3 yX3_stepCount wsX3_stepCount) := goodIn_app (goodIn_of _ (by decide +kernel)) ggX7_reasonAgainst_X3_stepCount
set_option maxRecDepth 20000 in
theorem ggX7_reasonAgainst_X3_stepAt : GoodIn wsX7_reasonAgainst wsX3_stepAt := goodIn_r _ [32, 22, 33, 23, 24, 25, 26, 27, 28, 34, 35, 36, 37, 38, 39, 40, 41, 42, 43, 44, 45, 46, 47, 48, 49, 50, 109, 110, 111, 112, 113, 114] (by decide +kernel) (by decide +kernel)
set_option maxRecDepth 20000 in
theorem gX7_reasonAgainst_X3_stepAt : GoodIn wsX7_reasonAgainst (wsV RX7 254 RX3 yX3_stepAt wsX3_stepAt) := goodIn_app (goodIn_of _ (by decide +kernel)) ggX7_reasonAgainst_X3_stepAt
set_option maxRecDepth 20000 in
theorem ggX7_reasonAgainst_X7_isCell : GoodIn wsX7_reasonAgainst wsX7_isCell := goodIn_r _ [53] (by decide +kernel) (by decide +kernel)
set_option maxRecDepth 20000 in
theorem gX7_reasonAgainst_X7_isCell : GoodIn wsX7_reasonAgainst (va_wsS RX7 304 yX7_isCell wsX7_isCell) := goodIn_app (goodIn_of _ (by decide +kernel)) ggX7_reasonAgainst_X7_isCell
set_option maxRecDepth 20000 in
theorem ggX7_reasonAgainst_X3_mayChange : GoodIn wsX7_reasonAgainst wsX3_mayChange := goodIn_r _ [57, 58, 59, 23, 24, 25, 26, 27, 28, 34, 35, 36, 37, 38, 39, 40, 41, 42, 43, 44, 45, 46, 47, 48, 49, 50, 60, 61, 62, 63, 64, 65, 66, 67, 68, 109, 110, 111, 112, 113, 114, 115, 116, 117, 118] (by decide +kernel) (by decide +kernel)
set_option maxRecDepth 20000 in
theorem gX7_reasonAgainst_X3_mayChange : GoodIn wsX7_reasonAgainst (wsV RX7 158 RX3 yX3_mayChange wsX3_mayChange) := goodIn_app (goodIn_of _ (by decide +kernel)) ggX7_reasonAgainst_X3_mayChange
set_option maxRecDepth 20000 in
theorem ggX7_reasonAgainst_X1_valueAt : GoodIn wsX7_reasonAgainst wsX1_valueAt := goodIn_ca (goodIn_r _ [72, 8, 73, 74, 75, 6, 76, 108] (by decide +kernel) (by decide +kernel)) (goodIn_sub (fun _ h => List.mem_cons_of_mem _ (List.mem_append_right _ h)) (by decide +kernel))
set_option maxRecDepth 20000 in
theorem gX7_reasonAgainst_X1_valueAt : GoodIn wsX7_reasonAgainst (wsV RX7 81 RX1 yX1_valueAt wsX1_valueAt) := goodIn_app (goodIn_of _ (by decide +kernel)) ggX7_reasonAgainst_X1_valueAt
set_option maxRecDepth 20000 in
theorem ggX7_reasonAgainst_X6_valueBehind : GoodIn wsX7_reasonAgainst wsX6_valueBehind := goodIn_r _ [81, 82, 83, 104, 105, 106, 107] (by decide +kernel) (by decide +kernel)
set_option maxRecDepth 20000 in
theorem gX7_reasonAgainst_X6_valueBehind : GoodIn wsX7_reasonAgainst (wsV RX7 348 RX6 yX6_valueBehind wsX6_valueBehind) := goodIn_app (goodIn_of _ (by decide +kernel)) ggX7_reasonAgainst_X6_valueBehind
set_option maxRecDepth 20000 in
theorem ggX7_reasonAgainst_X7_isValue : GoodIn wsX7_reasonAgainst wsX7_isValue := goodIn_r _ [86] (by decide +kernel) (by decide +kernel)
set_option maxRecDepth 20000 in
theorem gX7_reasonAgainst_X7_isValue : GoodIn wsX7_reasonAgainst (va_wsS RX7 62 yX7_isValue wsX7_isValue) := goodIn_app (goodIn_of _ (by decide +kernel)) ggX7_reasonAgainst_X7_isValue
set_option maxRecDepth 20000 in
theorem ggX7_reasonAgainst_X1_put : GoodIn wsX7_reasonAgainst wsX1_put := goodIn_ca (goodIn_r _ [90, 8, 73, 74, 75, 6, 76, 108] (by decide +kernel) (by decide +kernel)) (goodIn_sub (fun _ h => List.mem_cons_of_mem _ (List.mem_append_right _ h)) (by decide +kernel))
set_option maxRecDepth 20000 in
theorem gX7_reasonAgainst_X1_put : GoodIn wsX7_reasonAgainst (wsV RX7 235 RX1 yX1_put wsX1_put) := goodIn_app (goodIn_of _ (by decide +kernel)) ggX7_reasonAgainst_X1_put
theorem dX7_reasonAgainst_0 : decode cX7_reasonAgainst 0 = .ok (.aload_n 0, 1) := by decide +kernel
theorem dX7_reasonAgainst_1 : decode cX7_reasonAgainst 1 = .ok (.getfield 16, 3) := by decide +kernel
theorem dX7_reasonAgainst_4 : decode cX7_reasonAgainst 4 = .ok (.aload_n 0, 1) := by decide +kernel
theorem dX7_reasonAgainst_5 : decode cX7_reasonAgainst 5 = .ok (.getfield 12, 3) := by decide +kernel
theorem dX7_reasonAgainst_8 : decode cX7_reasonAgainst 8 = .ok (.invokevirtual 344, 3) := by decide +kernel
theorem dX7_reasonAgainst_11 : decode cX7_reasonAgainst 11 = .ok (.iload_n 2, 1) := by decide +kernel
theorem dX7_reasonAgainst_12 : decode cX7_reasonAgainst 12 = .ok (.iload_n 3, 1) := by decide +kernel
theorem dX7_reasonAgainst_13 : decode cX7_reasonAgainst 13 = .ok (.invokestatic 77, 3) := by decide +kernel
theorem dX7_reasonAgainst_16 : decode cX7_reasonAgainst 16 = .ok (.istore 4, 2) := by decide +kernel
theorem dX7_reasonAgainst_18 : decode cX7_reasonAgainst 18 = .ok (.iconst 0, 1) := by decide +kernel
theorem dX7_reasonAgainst_19 : decode cX7_reasonAgainst 19 = .ok (.istore 5, 2) := by decide +kernel
theorem dX7_reasonAgainst_21 : decode cX7_reasonAgainst 21 = .ok (.iload 5, 2) := by decide +kernel
theorem dX7_reasonAgainst_23 : decode cX7_reasonAgainst 23 = .ok (.aload_n 1, 1) := by decide +kernel
theorem dX7_reasonAgainst_24 : decode cX7_reasonAgainst 24 = .ok (.invokevirtual 116, 3) := by decide +kernel
theorem dX7_reasonAgainst_27 : decode cX7_reasonAgainst 27 = .ok (.if_icmp .ge 126, 3) := by decide +kernel
theorem dX7_reasonAgainst_30 : decode cX7_reasonAgainst 30 = .ok (.aload_n 1, 1) := by decide +kernel
theorem dX7_reasonAgainst_31 : decode cX7_reasonAgainst 31 = .ok (.iload 5, 2) := by decide +kernel
theorem dX7_reasonAgainst_33 : decode cX7_reasonAgainst 33 = .ok (.invokevirtual 254, 3) := by decide +kernel
theorem dX7_reasonAgainst_36 : decode cX7_reasonAgainst 36 = .ok (.astore 6, 2) := by decide +kernel
theorem dX7_reasonAgainst_38 : decode cX7_reasonAgainst 38 = .ok (.aload 6, 2) := by decide +kernel
theorem dX7_reasonAgainst_40 : decode cX7_reasonAgainst 40 = .ok (.ifnonnull 6, 3) := by decide +kernel
theorem dX7_reasonAgainst_43 : decode cX7_reasonAgainst 43 = .ok (.goto 104, 3) := by decide +kernel
theorem dX7_reasonAgainst_46 : decode cX7_reasonAgainst 46 = .ok (.iload_n 2, 1) := by decide +kernel
theorem dX7_reasonAgainst_47 : decode cX7_reasonAgainst 47 = .ok (.aload 6, 2) := by decide +kernel
theorem dX7_reasonAgainst_49 : decode cX7_reasonAgainst 49 = .ok (.getfield 273, 3) := by decide +kernel
theorem dX7_reasonAgainst_52 : decode cX7_reasonAgainst 52 = .ok (.iadd, 1) := by decide +kernel
theorem dX7_reasonAgainst_53 : decode cX7_reasonAgainst 53 = .ok (.istore 7, 2) := by decide +kernel
theorem dX7_reasonAgainst_55 : decode cX7_reasonAgainst 55 = .ok (.iload_n 3, 1) := by decide +kernel
theorem dX7_reasonAgainst_56 : decode cX7_reasonAgainst 56 = .ok (.aload 6, 2) := by decide +kernel
theorem dX7_reasonAgainst_58 : decode cX7_reasonAgainst 58 = .ok (.getfield 279, 3) := by decide +kernel
theorem dX7_reasonAgainst_61 : decode cX7_reasonAgainst 61 = .ok (.iadd, 1) := by decide +kernel
theorem dX7_reasonAgainst_62 : decode cX7_reasonAgainst 62 = .ok (.istore 8, 2) := by decide +kernel
theorem dX7_reasonAgainst_64 : decode cX7_reasonAgainst 64 = .ok (.iload 7, 2) := by decide +kernel
theorem dX7_reasonAgainst_66 : decode cX7_reasonAgainst 66 = .ok (.iload 8, 2) := by decide +kernel
theorem dX7_reasonAgainst_68 : decode cX7_reasonAgainst 68 = .ok (.invokestatic 304, 3) := by decide +kernel
theorem dX7_reasonAgainst_71 : decode cX7_reasonAgainst 71 = .ok (.ifCond .ne 6, 3) := by decide +kernel
theorem dX7_reasonAgainst_74 : decode cX7_reasonAgainst 74 = .ok (.bipush 111, 2) := by decide +kernel
theorem dX7_reasonAgainst_76 : decode cX7_reasonAgainst 76 = .ok (.ireturn, 1) := by decide +kernel
theorem dX7_reasonAgainst_77 : decode cX7_reasonAgainst 77 = .ok (.aload_n 1, 1) := by decide +kernel
theorem dX7_reasonAgainst_78 : decode cX7_reasonAgainst 78 = .ok (.iload 7, 2) := by decide +kernel
theorem dX7_reasonAgainst_80 : decode cX7_reasonAgainst 80 = .ok (.iload 8, 2) := by decide +kernel
theorem dX7_reasonAgainst_82 : decode cX7_reasonAgainst 82 = .ok (.invokevirtual 158, 3) := by decide +kernel
theorem dX7_reasonAgainst_85 : decode cX7_reasonAgainst 85 = .ok (.ifCond .ne 6, 3) := by decide +kernel
theorem dX7_reasonAgainst_88 : decode cX7_reasonAgainst 88 = .ok (.bipush 103, 2) := by decide +kernel
theorem dX7_reasonAgainst_90 : decode cX7_reasonAgainst 90 = .ok (.ireturn, 1) := by decide +kernel
theorem dX7_reasonAgainst_91 : decode cX7_reasonAgainst 91 = .ok (.iload 7, 2) := by decide +kernel
theorem dX7_reasonAgainst_93 : decode cX7_reasonAgainst 93 = .ok (.iload 8, 2) := by decide +kernel
theorem dX7_reasonAgainst_95 : decode cX7_reasonAgainst 95 = .ok (.invokestatic 77, 3) := by decide +kernel
theorem dX7_reasonAgainst_98 : decode cX7_reasonAgainst 98 = .ok (.istore 9, 2) := by decide +kernel
theorem dX7_reasonAgainst_100 : decode cX7_reasonAgainst 100 = .ok (.aload 6, 2) := by decide +kernel
theorem dX7_reasonAgainst_102 : decode cX7_reasonAgainst 102 = .ok (.aload_n 0, 1) := by decide +kernel
theorem dX7_reasonAgainst_103 : decode cX7_reasonAgainst 103 = .ok (.getfield 16, 3) := by decide +kernel
theorem dX7_reasonAgainst_106 : decode cX7_reasonAgainst 106 = .ok (.iload 9, 2) := by decide +kernel
theorem dX7_reasonAgainst_108 : decode cX7_reasonAgainst 108 = .ok (.invokevirtual 81, 3) := by decide +kernel
theorem dX7_reasonAgainst_111 : decode cX7_reasonAgainst 111 = .ok (.aload_n 0, 1) := by decide +kernel
theorem dX7_reasonAgainst_112 : decode cX7_reasonAgainst 112 = .ok (.getfield 16, 3) := by decide +kernel
theorem dX7_reasonAgainst_115 : decode cX7_reasonAgainst 115 = .ok (.iload 4, 2) := by decide +kernel
theorem dX7_reasonAgainst_117 : decode cX7_reasonAgainst 117 = .ok (.invokevirtual 81, 3) := by decide +kernel
theorem dX7_reasonAgainst_120 : decode cX7_reasonAgainst 120 = .ok (.invokevirtual 348, 3) := by decide +kernel
theorem dX7_reasonAgainst_123 : decode cX7_reasonAgainst 123 = .ok (.istore 10, 2) := by decide +kernel
theorem dX7_reasonAgainst_125 : decode cX7_reasonAgainst 125 = .ok (.iload 10, 2) := by decide +kernel
theorem dX7_reasonAgainst_127 : decode cX7_reasonAgainst 127 = .ok (.invokestatic 62, 3) := by decide +kernel
theorem dX7_reasonAgainst_130 : decode cX7_reasonAgainst 130 = .ok (.ifCond .ne 6, 3) := by decide +kernel
theorem dX7_reasonAgainst_133 : decode cX7_reasonAgainst 133 = .ok (.bipush 118, 2) := by decide +kernel
theorem dX7_reasonAgainst_135 : decode cX7_reasonAgainst 135 = .ok (.ireturn, 1) := by decide +kernel
theorem dX7_reasonAgainst_136 : decode cX7_reasonAgainst 136 = .ok (.aload_n 0, 1) := by decide +kernel
theorem dX7_reasonAgainst_137 : decode cX7_reasonAgainst 137 = .ok (.getfield 16, 3) := by decide +kernel
theorem dX7_reasonAgainst_140 : decode cX7_reasonAgainst 140 = .ok (.iload 9, 2) := by decide +kernel
theorem dX7_reasonAgainst_142 : decode cX7_reasonAgainst 142 = .ok (.iload 10, 2) := by decide +kernel
theorem dX7_reasonAgainst_144 : decode cX7_reasonAgainst 144 = .ok (.invokevirtual 235, 3) := by decide +kernel
theorem dX7_reasonAgainst_147 : decode cX7_reasonAgainst 147 = .ok (.iinc 5 1, 3) := by decide +kernel
theorem dX7_reasonAgainst_150 : decode cX7_reasonAgainst 150 = .ok (.goto (-129), 3) := by decide +kernel
theorem dX7_reasonAgainst_153 : decode cX7_reasonAgainst 153 = .ok (.bipush 45, 2) := by decide +kernel
theorem dX7_reasonAgainst_155 : decode cX7_reasonAgainst 155 = .ok (.ireturn, 1) := by decide +kernel
set_option maxRecDepth 20000 in
theorem ggX7_makeSteps_X7_placeOf : GoodIn wsX7_makeSteps wsX7_placeOf := goodIn_r _ [4] (by decide +kernel) (by decide +kernel)
set_option maxRecDepth 20000 in
theorem gX7_makeSteps_X7_placeOf : GoodIn wsX7_makeSteps (va_wsS RX7 77 yX7_placeOf wsX7_placeOf) := goodIn_app (goodIn_of _ (by decide +kernel)) ggX7_makeSteps_X7_placeOf
set_option maxRecDepth 20000 in
theorem ggX7_makeSteps_X3_stepCount : GoodIn wsX7_makeSteps wsX3_stepCount := goodIn_r _ [9, 10, 11, 12, 13, 14, 15, 16, 90, 91, 92, 93, 94, 95] (by decide +kernel) (by decide +kernel)
set_option maxRecDepth 20000 in
theorem gX7_makeSteps_X3_stepCount : GoodIn wsX7_makeSteps (wsV RX7 116 RX3 yX3_stepCount wsX3_stepCount) := goodIn_app (goodIn_of _ (by decide +kernel)) ggX7_makeSteps_X3_stepCount
set_option maxRecDepth 20000 in
theorem ggX7_makeSteps_X3_stepAt : GoodIn wsX7_makeSteps wsX3_stepAt := goodIn_r _ [20, 10, 21, 11, 12, 13, 14, 15, 16, 22, 23, 24, 25, 26, 27, 28, 29, 30, 31, 32, 33, 34, 35, 36, 37, 38, 90, 91, 92, 93, 94, 95] (by decide +kernel) (by decide +kernel)
set_option maxRecDepth 20000 in
theorem gX7_makeSteps_X3_stepAt : GoodIn wsX7_makeSteps (wsV RX7 254 RX3 yX3_stepAt wsX3_stepAt) := goodIn_app (goodIn_of _ (by decide +kernel)) ggX7_makeSteps_X3_stepAt
set_option maxRecDepth 20000 in
theorem ggX7_makeSteps_X7_change : GoodIn wsX7_makeSteps wsX7_change := goodIn_ca (goodIn_r _ [42, 43, 44, 45, 46, 47, 48, 49, 50, 51, 52, 53, 54, 55, 56, 57, 58, 59, 60, 61, 62, 63, 64, 65, 66, 67, 68, 69, 70, 71, 72, 73, 74, 75, 76, 77, 78, 79, 80, 81, 82, 83, 84, 85, 96, 97, 98, 99, 100, 101, 102, 103, 104, 105, 106, 107, 108, 109, 86, 87, 88, 89, 110, 111, 112, 113, 114] (by decide +kernel) (by decide +kernel)) (goodIn_sub (fun _ h => List.mem_cons_of_mem _ (List.mem_append_right _ h)) (by decide +kernel))
set_option maxRecDepth 20000 in
theorem gX7_makeSteps_X7_change : GoodIn wsX7_makeSteps (wsV RX7 323 RX7 yX7_change wsX7_change) := goodIn_app (goodIn_of _ (by decide +kernel)) ggX7_makeSteps_X7_change
theorem dX7_makeSteps_0 : decode cX7_makeSteps 0 = .ok (.iload_n 2, 1) := by decide +kernel
theorem dX7_makeSteps_1 : decode cX7_makeSteps 1 = .ok (.iload_n 3, 1) := by decide +kernel
theorem dX7_makeSteps_2 : decode cX7_makeSteps 2 = .ok (.invokestatic 77, 3) := by decide +kernel
theorem dX7_makeSteps_5 : decode cX7_makeSteps 5 = .ok (.istore 5, 2) := by decide +kernel
theorem dX7_makeSteps_7 : decode cX7_makeSteps 7 = .ok (.iconst 0, 1) := by decide +kernel
theorem dX7_makeSteps_8 : decode cX7_makeSteps 8 = .ok (.istore 6, 2) := by decide +kernel
theorem dX7_makeSteps_10 : decode cX7_makeSteps 10 = .ok (.iload 6, 2) := by decide +kernel
theorem dX7_makeSteps_12 : decode cX7_makeSteps 12 = .ok (.aload_n 1, 1) := by decide +kernel
theorem dX7_makeSteps_13 : decode cX7_makeSteps 13 = .ok (.invokevirtual 116, 3) := by decide +kernel
theorem dX7_makeSteps_16 : decode cX7_makeSteps 16 = .ok (.if_icmp .ge 57, 3) := by decide +kernel
theorem dX7_makeSteps_19 : decode cX7_makeSteps 19 = .ok (.aload_n 1, 1) := by decide +kernel
theorem dX7_makeSteps_20 : decode cX7_makeSteps 20 = .ok (.iload 6, 2) := by decide +kernel
theorem dX7_makeSteps_22 : decode cX7_makeSteps 22 = .ok (.invokevirtual 254, 3) := by decide +kernel
theorem dX7_makeSteps_25 : decode cX7_makeSteps 25 = .ok (.astore 7, 2) := by decide +kernel
theorem dX7_makeSteps_27 : decode cX7_makeSteps 27 = .ok (.aload 7, 2) := by decide +kernel
theorem dX7_makeSteps_29 : decode cX7_makeSteps 29 = .ok (.ifnull 38, 3) := by decide +kernel
theorem dX7_makeSteps_32 : decode cX7_makeSteps 32 = .ok (.iload_n 2, 1) := by decide +kernel
theorem dX7_makeSteps_33 : decode cX7_makeSteps 33 = .ok (.aload 7, 2) := by decide +kernel
theorem dX7_makeSteps_35 : decode cX7_makeSteps 35 = .ok (.getfield 273, 3) := by decide +kernel
theorem dX7_makeSteps_38 : decode cX7_makeSteps 38 = .ok (.iadd, 1) := by decide +kernel
theorem dX7_makeSteps_39 : decode cX7_makeSteps 39 = .ok (.iload_n 3, 1) := by decide +kernel
theorem dX7_makeSteps_40 : decode cX7_makeSteps 40 = .ok (.aload 7, 2) := by decide +kernel
theorem dX7_makeSteps_42 : decode cX7_makeSteps 42 = .ok (.getfield 279, 3) := by decide +kernel
theorem dX7_makeSteps_45 : decode cX7_makeSteps 45 = .ok (.iadd, 1) := by decide +kernel
theorem dX7_makeSteps_46 : decode cX7_makeSteps 46 = .ok (.invokestatic 77, 3) := by decide +kernel
theorem dX7_makeSteps_49 : decode cX7_makeSteps 49 = .ok (.istore 8, 2) := by decide +kernel
theorem dX7_makeSteps_51 : decode cX7_makeSteps 51 = .ok (.aload_n 0, 1) := by decide +kernel
theorem dX7_makeSteps_52 : decode cX7_makeSteps 52 = .ok (.iload 8, 2) := by decide +kernel
theorem dX7_makeSteps_54 : decode cX7_makeSteps 54 = .ok (.aload 7, 2) := by decide +kernel
theorem dX7_makeSteps_56 : decode cX7_makeSteps 56 = .ok (.iload 5, 2) := by decide +kernel
theorem dX7_makeSteps_58 : decode cX7_makeSteps 58 = .ok (.aload_n 1, 1) := by decide +kernel
theorem dX7_makeSteps_59 : decode cX7_makeSteps 59 = .ok (.getfield 343, 3) := by decide +kernel
theorem dX7_makeSteps_62 : decode cX7_makeSteps 62 = .ok (.iload 4, 2) := by decide +kernel
theorem dX7_makeSteps_64 : decode cX7_makeSteps 64 = .ok (.invokevirtual 323, 3) := by decide +kernel
theorem dX7_makeSteps_67 : decode cX7_makeSteps 67 = .ok (.iinc 6 1, 3) := by decide +kernel
theorem dX7_makeSteps_70 : decode cX7_makeSteps 70 = .ok (.goto (-60), 3) := by decide +kernel
theorem dX7_makeSteps_73 : decode cX7_makeSteps 73 = .ok (.return_, 1) := by decide +kernel
set_option maxRecDepth 20000 in
theorem ggX7_change_X1_valueAt : GoodIn wsX7_change wsX1_valueAt := goodIn_ca (goodIn_r _ [9, 10, 11, 12, 13, 8, 14, 57] (by decide +kernel) (by decide +kernel)) (goodIn_sub (fun _ h => List.mem_cons_of_mem _ (List.mem_append_right _ h)) (by decide +kernel))
set_option maxRecDepth 20000 in
theorem gX7_change_X1_valueAt : GoodIn wsX7_change (wsV RX7 81 RX1 yX1_valueAt wsX1_valueAt) := goodIn_app (goodIn_of _ (by decide +kernel)) ggX7_change_X1_valueAt
set_option maxRecDepth 20000 in
theorem ggX7_change_X6_valueBehind : GoodIn wsX7_change wsX6_valueBehind := goodIn_r _ [19, 20, 21, 58, 59, 60, 61] (by decide +kernel) (by decide +kernel)
set_option maxRecDepth 20000 in
theorem gX7_change_X6_valueBehind : GoodIn wsX7_change (wsV RX7 348 RX6 yX6_valueBehind wsX6_valueBehind) := goodIn_app (goodIn_of _ (by decide +kernel)) ggX7_change_X6_valueBehind
set_option maxRecDepth 20000 in
theorem ggX7_change_X0_size : GoodIn wsX7_change wsX0_size := goodIn_r _ [26, 27, 62, 63, 64, 65, 66] (by decide +kernel) (by decide +kernel)
set_option maxRecDepth 20000 in
theorem gX7_change_X0_size : GoodIn wsX7_change (wsV RX7 228 RX0 yX0_size wsX0_size) := goodIn_app (goodIn_of _ (by decide +kernel)) ggX7_change_X0_size
set_option maxRecDepth 20000 in
theorem ggX7_change_X0_isFull : GoodIn wsX7_change wsX0_isFull := goodIn_r _ [31, 27, 32, 62, 63, 64, 65, 66] (by decide +kernel) (by decide +kernel)
set_option maxRecDepth 20000 in
theorem gX7_change_X0_isFull : GoodIn wsX7_change (wsV RX7 351 RX0 yX0_isFull wsX0_isFull) := goodIn_app (goodIn_of _ (by decide +kernel)) ggX7_change_X0_isFull
set_option maxRecDepth 20000 in
theorem ggX7_change_X0_note : GoodIn wsX7_change wsX0_note := goodIn_ca (goodIn_r _ [36, 27, 32, 37, 38, 39, 62, 63, 64, 65, 66] (by decide +kernel) (by decide +kernel)) (goodIn_sub (fun _ h => List.mem_cons_of_mem _ (List.mem_append_right _ h)) (by decide +kernel))
set_option maxRecDepth 20000 in
theorem gX7_change_X0_note : GoodIn wsX7_change (wsV RX7 355 RX0 yX0_note wsX0_note) := goodIn_app (goodIn_of _ (by decide +kernel)) ggX7_change_X0_note
set_option maxRecDepth 20000 in
theorem ggX7_change_X1_put : GoodIn wsX7_change wsX1_put := goodIn_ca (goodIn_r _ [43, 10, 11, 12, 13, 8, 14, 57] (by decide +kernel) (by decide +kernel)) (goodIn_sub (fun _ h => List.mem_cons_of_mem _ (List.mem_append_right _ h)) (by decide +kernel))
set_option maxRecDepth 20000 in
theorem gX7_change_X1_put : GoodIn wsX7_change (wsV RX7 235 RX1 yX1_put wsX1_put) := goodIn_app (goodIn_of _ (by decide +kernel)) ggX7_change_X1_put
theorem dX7_change_0 : decode cX7_change 0 = .ok (.aload_n 0, 1) := by decide +kernel
theorem dX7_change_1 : decode cX7_change 1 = .ok (.getfield 12, 3) := by decide +kernel
theorem dX7_change_4 : decode cX7_change 4 = .ok (.iload_n 1, 1) := by decide +kernel
theorem dX7_change_5 : decode cX7_change 5 = .ok (.invokevirtual 81, 3) := by decide +kernel
theorem dX7_change_8 : decode cX7_change 8 = .ok (.istore 6, 2) := by decide +kernel
theorem dX7_change_10 : decode cX7_change 10 = .ok (.aload_n 2, 1) := by decide +kernel
theorem dX7_change_11 : decode cX7_change 11 = .ok (.iload 6, 2) := by decide +kernel
theorem dX7_change_13 : decode cX7_change 13 = .ok (.aload_n 0, 1) := by decide +kernel
theorem dX7_change_14 : decode cX7_change 14 = .ok (.getfield 12, 3) := by decide +kernel
theorem dX7_change_17 : decode cX7_change 17 = .ok (.iload_n 3, 1) := by decide +kernel
theorem dX7_change_18 : decode cX7_change 18 = .ok (.invokevirtual 81, 3) := by decide +kernel
theorem dX7_change_21 : decode cX7_change 21 = .ok (.invokevirtual 348, 3) := by decide +kernel
theorem dX7_change_24 : decode cX7_change 24 = .ok (.istore 7, 2) := by decide +kernel
theorem dX7_change_26 : decode cX7_change 26 = .ok (.aload_n 0, 1) := by decide +kernel
theorem dX7_change_27 : decode cX7_change 27 = .ok (.getfield 32, 3) := by decide +kernel
theorem dX7_change_30 : decode cX7_change 30 = .ok (.invokevirtual 228, 3) := by decide +kernel
theorem dX7_change_33 : decode cX7_change 33 = .ok (.aload_n 0, 1) := by decide +kernel
theorem dX7_change_34 : decode cX7_change 34 = .ok (.getfield 327, 3) := by decide +kernel
theorem dX7_change_37 : decode cX7_change 37 = .ok (.isub, 1) := by decide +kernel
theorem dX7_change_38 : decode cX7_change 38 = .ok (.istore 8, 2) := by decide +kernel
theorem dX7_change_40 : decode cX7_change 40 = .ok (.iload 7, 2) := by decide +kernel
theorem dX7_change_42 : decode cX7_change 42 = .ok (.iload 6, 2) := by decide +kernel
theorem dX7_change_44 : decode cX7_change 44 = .ok (.if_icmp .eq 28, 3) := by decide +kernel
theorem dX7_change_47 : decode cX7_change 47 = .ok (.iload 8, 2) := by decide +kernel
theorem dX7_change_49 : decode cX7_change 49 = .ok (.ifCond .lt 23, 3) := by decide +kernel
theorem dX7_change_52 : decode cX7_change 52 = .ok (.iload 8, 2) := by decide +kernel
theorem dX7_change_54 : decode cX7_change 54 = .ok (.aload_n 0, 1) := by decide +kernel
theorem dX7_change_55 : decode cX7_change 55 = .ok (.getfield 50, 3) := by decide +kernel
theorem dX7_change_58 : decode cX7_change 58 = .ok (.arraylength, 1) := by decide +kernel
theorem dX7_change_59 : decode cX7_change 59 = .ok (.if_icmp .ge 13, 3) := by decide +kernel
theorem dX7_change_62 : decode cX7_change 62 = .ok (.aload_n 0, 1) := by decide +kernel
theorem dX7_change_63 : decode cX7_change 63 = .ok (.getfield 32, 3) := by decide +kernel
theorem dX7_change_66 : decode cX7_change 66 = .ok (.invokevirtual 351, 3) := by decide +kernel
theorem dX7_change_69 : decode cX7_change 69 = .ok (.ifCond .eq 4, 3) := by decide +kernel
theorem dX7_change_72 : decode cX7_change 72 = .ok (.return_, 1) := by decide +kernel
theorem dX7_change_73 : decode cX7_change 73 = .ok (.aload_n 0, 1) := by decide +kernel
theorem dX7_change_74 : decode cX7_change 74 = .ok (.getfield 50, 3) := by decide +kernel
theorem dX7_change_77 : decode cX7_change 77 = .ok (.iload 8, 2) := by decide +kernel
theorem dX7_change_79 : decode cX7_change 79 = .ok (.iload 5, 2) := by decide +kernel
theorem dX7_change_81 : decode cX7_change 81 = .ok (.iastore, 1) := by decide +kernel
theorem dX7_change_82 : decode cX7_change 82 = .ok (.aload_n 0, 1) := by decide +kernel
theorem dX7_change_83 : decode cX7_change 83 = .ok (.getfield 32, 3) := by decide +kernel
theorem dX7_change_86 : decode cX7_change 86 = .ok (.iload_n 1, 1) := by decide +kernel
theorem dX7_change_87 : decode cX7_change 87 = .ok (.iload 6, 2) := by decide +kernel
theorem dX7_change_89 : decode cX7_change 89 = .ok (.iload 7, 2) := by decide +kernel
theorem dX7_change_91 : decode cX7_change 91 = .ok (.iload 4, 2) := by decide +kernel
theorem dX7_change_93 : decode cX7_change 93 = .ok (.invokevirtual 355, 3) := by decide +kernel
theorem dX7_change_96 : decode cX7_change 96 = .ok (.aload_n 0, 1) := by decide +kernel
theorem dX7_change_97 : decode cX7_change 97 = .ok (.getfield 12, 3) := by decide +kernel
theorem dX7_change_100 : decode cX7_change 100 = .ok (.iload_n 1, 1) := by decide +kernel
theorem dX7_change_101 : decode cX7_change 101 = .ok (.iload 7, 2) := by decide +kernel
theorem dX7_change_103 : decode cX7_change 103 = .ok (.invokevirtual 235, 3) := by decide +kernel
theorem dX7_change_106 : decode cX7_change 106 = .ok (.return_, 1) := by decide +kernel
set_option maxRecDepth 20000 in
theorem ggX7_writeDistance_J4_append_cf468 : GoodIn wsX7_writeDistance wsJ4_append_cf468 := goodIn_r _ [10, 11, 12, 13, 14, 15, 16, 17, 18, 19, 20, 21, 22, 23, 24, 25, 26, 27, 28, 29, 30, 31, 32, 33, 34, 35, 36, 4, 37, 38, 39, 40, 41, 42, 43, 44, 45, 46, 47, 48, 49, 50, 51, 52, 53, 54, 55, 56, 57, 58, 59, 60, 61, 62, 63, 64, 65, 66, 67, 68, 69, 70, 71, 72, 73, 74, 75, 76, 77, 78, 79, 80, 81, 82, 83, 84, 85, 86, 87, 88, 89, 90, 91, 92, 93, 94, 95, 96, 97, 98, 99, 100, 101, 102, 103, 104, 105, 106, 107, 108, 109, 110, 111, 112, 113, 114, 115, 116, 117, 118, 119, 120, 121, 169, 170, 171, 172] (by decide +kernel) (by decide +kernel)
set_option maxRecDepth 20000 in
theorem gX7_writeDistance_J4_append_cf468 : GoodIn wsX7_writeDistance (wsV RX7 269 RJ4 yJ4_append_cf468 wsJ4_append_cf468) := goodIn_app (goodIn_of _ (by decide +kernel)) ggX7_writeDistance_J4_append_cf468
set_option maxRecDepth 20000 in
theorem ggX7_writeDistance_J4_append_bf812 : GoodIn wsX7_writeDistance wsJ4_append_bf812 := goodIn_r _ [125, 126, 127, 13, 128, 15, 129, 17, 18, 130, 131, 132, 133, 19, 20, 21, 22, 23, 24, 25, 26, 27, 28, 29, 30, 31, 32, 33, 34, 35, 36, 4, 37, 38, 39, 40, 41, 42, 43, 44, 45, 46, 47, 48, 49, 50, 51, 52, 53, 54, 55, 56, 57, 58, 59, 60, 61, 62, 63, 64, 65, 134, 135, 136, 137, 138, 139, 140, 77, 141, 107, 142, 143, 144, 92, 93, 94, 145, 146, 97, 147, 99, 148, 149, 102, 150, 151, 152, 153, 154, 155, 104, 105, 106, 108, 109, 169, 170, 171, 172] (by decide +kernel) (by decide +kernel)
set_option maxRecDepth 20000 in
theorem gX7_writeDistance_J4_append_bf812 : GoodIn wsX7_writeDistance (wsV RX7 285 RJ4 yJ4_append_bf812 wsJ4_append_bf812) := goodIn_app (goodIn_of _ (by decide +kernel)) ggX7_writeDistance_J4_append_bf812
theorem dX7_writeDistance_0 : decode cX7_writeDistance 0 = .ok (.aload_n 0, 1) := by decide +kernel
theorem dX7_writeDistance_1 : decode cX7_writeDistance 1 = .ok (.getfield 46, 3) := by decide +kernel
theorem dX7_writeDistance_4 : decode cX7_writeDistance 4 = .ok (.iload_n 1, 1) := by decide +kernel
theorem dX7_writeDistance_5 : decode cX7_writeDistance 5 = .ok (.ifCond .ge 8, 3) := by decide +kernel
theorem dX7_writeDistance_8 : decode cX7_writeDistance 8 = .ok (.bipush 45, 2) := by decide +kernel
theorem dX7_writeDistance_10 : decode cX7_writeDistance 10 = .ok (.goto 5, 3) := by decide +kernel
theorem dX7_writeDistance_13 : decode cX7_writeDistance 13 = .ok (.bipush 43, 2) := by decide +kernel
theorem dX7_writeDistance_15 : decode cX7_writeDistance 15 = .ok (.invokevirtual 269, 3) := by decide +kernel
theorem dX7_writeDistance_18 : decode cX7_writeDistance 18 = .ok (.pop, 1) := by decide +kernel
theorem dX7_writeDistance_19 : decode cX7_writeDistance 19 = .ok (.aload_n 0, 1) := by decide +kernel
theorem dX7_writeDistance_20 : decode cX7_writeDistance 20 = .ok (.getfield 46, 3) := by decide +kernel
theorem dX7_writeDistance_23 : decode cX7_writeDistance 23 = .ok (.iload_n 1, 1) := by decide +kernel
theorem dX7_writeDistance_24 : decode cX7_writeDistance 24 = .ok (.invokestatic 358, 3) := by decide +kernel
theorem dX7_writeDistance_27 : decode cX7_writeDistance 27 = .ok (.invokevirtual 285, 3) := by decide +kernel
theorem dX7_writeDistance_30 : decode cX7_writeDistance 30 = .ok (.pop, 1) := by decide +kernel
theorem dX7_writeDistance_31 : decode cX7_writeDistance 31 = .ok (.return_, 1) := by decide +kernel
theorem dX8_init_0 : decode cX8_init 0 = .ok (.aload_n 0, 1) := by decide +kernel
theorem dX8_init_1 : decode cX8_init 1 = .ok (.invokespecial 3, 3) := by decide +kernel
theorem dX8_init_4 : decode cX8_init 4 = .ok (.aload_n 0, 1) := by decide +kernel
theorem dX8_init_5 : decode cX8_init 5 = .ok (.bipush 48, 2) := by decide +kernel
theorem dX8_init_7 : decode cX8_init 7 = .ok (.newarray .int, 2) := by decide +kernel
theorem dX8_init_9 : decode cX8_init 9 = .ok (.putfield 9, 3) := by decide +kernel
theorem dX8_init_12 : decode cX8_init 12 = .ok (.aload_n 0, 1) := by decide +kernel
theorem dX8_init_13 : decode cX8_init 13 = .ok (.bipush 48, 2) := by decide +kernel
theorem dX8_init_15 : decode cX8_init 15 = .ok (.newarray .int, 2) := by decide +kernel
theorem dX8_init_17 : decode cX8_init 17 = .ok (.putfield 13, 3) := by decide +kernel
theorem dX8_init_20 : decode cX8_init 20 = .ok (.aload_n 0, 1) := by decide +kernel
theorem dX8_init_21 : decode cX8_init 21 = .ok (.bipush 48, 2) := by decide +kernel
theorem dX8_init_23 : decode cX8_init 23 = .ok (.newarray .int, 2) := by decide +kernel
theorem dX8_init_25 : decode cX8_init 25 = .ok (.putfield 16, 3) := by decide +kernel
theorem dX8_init_28 : decode cX8_init 28 = .ok (.aload_n 0, 1) := by decide +kernel
theorem dX8_init_29 : decode cX8_init 29 = .ok (.bipush 7, 2) := by decide +kernel
theorem dX8_init_31 : decode cX8_init 31 = .ok (.newarray .int, 2) := by decide +kernel
theorem dX8_init_33 : decode cX8_init 33 = .ok (.putfield 19, 3) := by decide +kernel
theorem dX8_init_36 : decode cX8_init 36 = .ok (.aload_n 0, 1) := by decide +kernel
theorem dX8_init_37 : decode cX8_init 37 = .ok (.bipush 6, 2) := by decide +kernel
theorem dX8_init_39 : decode cX8_init 39 = .ok (.newarray .int, 2) := by decide +kernel
theorem dX8_init_41 : decode cX8_init 41 = .ok (.putfield 22, 3) := by decide +kernel
theorem dX8_init_44 : decode cX8_init 44 = .ok (.aload_n 0, 1) := by decide +kernel
theorem dX8_init_45 : decode cX8_init 45 = .ok (.bipush 60, 2) := by decide +kernel
theorem dX8_init_47 : decode cX8_init 47 = .ok (.newarray .int, 2) := by decide +kernel
theorem dX8_init_49 : decode cX8_init 49 = .ok (.putfield 25, 3) := by decide +kernel
theorem dX8_init_52 : decode cX8_init 52 = .ok (.aload_n 0, 1) := by decide +kernel
theorem dX8_init_53 : decode cX8_init 53 = .ok (.bipush 60, 2) := by decide +kernel
theorem dX8_init_55 : decode cX8_init 55 = .ok (.newarray .int, 2) := by decide +kernel
theorem dX8_init_57 : decode cX8_init 57 = .ok (.putfield 28, 3) := by decide +kernel
theorem dX8_init_60 : decode cX8_init 60 = .ok (.aload_n 0, 1) := by decide +kernel
theorem dX8_init_61 : decode cX8_init 61 = .ok (.bipush 60, 2) := by decide +kernel
theorem dX8_init_63 : decode cX8_init 63 = .ok (.newarray .int, 2) := by decide +kernel
theorem dX8_init_65 : decode cX8_init 65 = .ok (.putfield 31, 3) := by decide +kernel
theorem dX8_init_68 : decode cX8_init 68 = .ok (.aload_n 0, 1) := by decide +kernel
theorem dX8_init_69 : decode cX8_init 69 = .ok (.bipush 60, 2) := by decide +kernel
theorem dX8_init_71 : decode cX8_init 71 = .ok (.newarray .int, 2) := by decide +kernel
theorem dX8_init_73 : decode cX8_init 73 = .ok (.putfield 34, 3) := by decide +kernel
theorem dX8_init_76 : decode cX8_init 76 = .ok (.aload_n 0, 1) := by decide +kernel
theorem dX8_init_77 : decode cX8_init 77 = .ok (.bipush 6, 2) := by decide +kernel
theorem dX8_init_79 : decode cX8_init 79 = .ok (.newarray .int, 2) := by decide +kernel
theorem dX8_init_81 : decode cX8_init 81 = .ok (.putfield 37, 3) := by decide +kernel
theorem dX8_init_84 : decode cX8_init 84 = .ok (.aload_n 0, 1) := by decide +kernel
theorem dX8_init_85 : decode cX8_init 85 = .ok (.bipush 24, 2) := by decide +kernel
theorem dX8_init_87 : decode cX8_init 87 = .ok (.newarray .int, 2) := by decide +kernel
theorem dX8_init_89 : decode cX8_init 89 = .ok (.putfield 40, 3) := by decide +kernel
theorem dX8_init_92 : decode cX8_init 92 = .ok (.aload_n 0, 1) := by decide +kernel
theorem dX8_init_93 : decode cX8_init 93 = .ok (.bipush 24, 2) := by decide +kernel
theorem dX8_init_95 : decode cX8_init 95 = .ok (.newarray .int, 2) := by decide +kernel
theorem dX8_init_97 : decode cX8_init 97 = .ok (.putfield 43, 3) := by decide +kernel
theorem dX8_init_100 : decode cX8_init 100 = .ok (.aload_n 0, 1) := by decide +kernel
theorem dX8_init_101 : decode cX8_init 101 = .ok (.bipush 6, 2) := by decide +kernel
theorem dX8_init_103 : decode cX8_init 103 = .ok (.newarray .int, 2) := by decide +kernel
theorem dX8_init_105 : decode cX8_init 105 = .ok (.putfield 46, 3) := by decide +kernel
theorem dX8_init_108 : decode cX8_init 108 = .ok (.aload_n 0, 1) := by decide +kernel
theorem dX8_init_109 : decode cX8_init 109 = .ok (.bipush 6, 2) := by decide +kernel
theorem dX8_init_111 : decode cX8_init 111 = .ok (.newarray .int, 2) := by decide +kernel
theorem dX8_init_113 : decode cX8_init 113 = .ok (.putfield 49, 3) := by decide +kernel
theorem dX8_init_116 : decode cX8_init 116 = .ok (.aload_n 0, 1) := by decide +kernel
theorem dX8_init_117 : decode cX8_init 117 = .ok (.bipush 6, 2) := by decide +kernel
theorem dX8_init_119 : decode cX8_init 119 = .ok (.newarray .int, 2) := by decide +kernel
theorem dX8_init_121 : decode cX8_init 121 = .ok (.putfield 52, 3) := by decide +kernel
theorem dX8_init_124 : decode cX8_init 124 = .ok (.aload_n 0, 1) := by decide +kernel
theorem dX8_init_125 : decode cX8_init 125 = .ok (.bipush 6, 2) := by decide +kernel
theorem dX8_init_127 : decode cX8_init 127 = .ok (.newarray .int, 2) := by decide +kernel
theorem dX8_init_129 : decode cX8_init 129 = .ok (.putfield 55, 3) := by decide +kernel
theorem dX8_init_132 : decode cX8_init 132 = .ok (.aload_n 0, 1) := by decide +kernel
theorem dX8_init_133 : decode cX8_init 133 = .ok (.sipush 2100, 3) := by decide +kernel
theorem dX8_init_136 : decode cX8_init 136 = .ok (.newarray .int, 2) := by decide +kernel
theorem dX8_init_138 : decode cX8_init 138 = .ok (.putfield 58, 3) := by decide +kernel
theorem dX8_init_141 : decode cX8_init 141 = .ok (.aload_n 0, 1) := by decide +kernel
theorem dX8_init_142 : decode cX8_init 142 = .ok (.sipush 2100, 3) := by decide +kernel
theorem dX8_init_145 : decode cX8_init 145 = .ok (.newarray .int, 2) := by decide +kernel
theorem dX8_init_147 : decode cX8_init 147 = .ok (.putfield 61, 3) := by decide +kernel
theorem dX8_init_150 : decode cX8_init 150 = .ok (.aload_n 0, 1) := by decide +kernel
theorem dX8_init_151 : decode cX8_init 151 = .ok (.sipush 2100, 3) := by decide +kernel
theorem dX8_init_154 : decode cX8_init 154 = .ok (.newarray .int, 2) := by decide +kernel
theorem dX8_init_156 : decode cX8_init 156 = .ok (.putfield 64, 3) := by decide +kernel
theorem dX8_init_159 : decode cX8_init 159 = .ok (.aload_n 0, 1) := by decide +kernel
theorem dX8_init_160 : decode cX8_init 160 = .ok (.sipush 2100, 3) := by decide +kernel
theorem dX8_init_163 : decode cX8_init 163 = .ok (.newarray .int, 2) := by decide +kernel
theorem dX8_init_165 : decode cX8_init 165 = .ok (.putfield 67, 3) := by decide +kernel
theorem dX8_init_168 : decode cX8_init 168 = .ok (.aload_n 0, 1) := by decide +kernel
theorem dX8_init_169 : decode cX8_init 169 = .ok (.bipush 9, 2) := by decide +kernel
theorem dX8_init_171 : decode cX8_init 171 = .ok (.newarray .int, 2) := by decide +kernel
theorem dX8_init_173 : decode cX8_init 173 = .ok (.putfield 70, 3) := by decide +kernel
theorem dX8_init_176 : decode cX8_init 176 = .ok (.aload_n 0, 1) := by decide +kernel
theorem dX8_init_177 : decode cX8_init 177 = .ok (.bipush 40, 2) := by decide +kernel
theorem dX8_init_179 : decode cX8_init 179 = .ok (.newarray .char, 2) := by decide +kernel
theorem dX8_init_181 : decode cX8_init 181 = .ok (.putfield 73, 3) := by decide +kernel
theorem dX8_init_184 : decode cX8_init 184 = .ok (.aload_n 0, 1) := by decide +kernel
theorem dX8_init_185 : decode cX8_init 185 = .ok (.iconst (-1), 1) := by decide +kernel
theorem dX8_init_186 : decode cX8_init 186 = .ok (.putfield 77, 3) := by decide +kernel
theorem dX8_init_189 : decode cX8_init 189 = .ok (.iconst 0, 1) := by decide +kernel
theorem dX8_init_190 : decode cX8_init 190 = .ok (.istore_n 1, 1) := by decide +kernel
theorem dX8_init_191 : decode cX8_init 191 = .ok (.iload_n 1, 1) := by decide +kernel
theorem dX8_init_192 : decode cX8_init 192 = .ok (.bipush 48, 2) := by decide +kernel
theorem dX8_init_194 : decode cX8_init 194 = .ok (.if_icmp .ge 17, 3) := by decide +kernel
theorem dX8_init_197 : decode cX8_init 197 = .ok (.aload_n 0, 1) := by decide +kernel
theorem dX8_init_198 : decode cX8_init 198 = .ok (.getfield 16, 3) := by decide +kernel
theorem dX8_init_201 : decode cX8_init 201 = .ok (.iload_n 1, 1) := by decide +kernel
theorem dX8_init_202 : decode cX8_init 202 = .ok (.bipush (-2), 2) := by decide +kernel
theorem dX8_init_204 : decode cX8_init 204 = .ok (.iastore, 1) := by decide +kernel
theorem dX8_init_205 : decode cX8_init 205 = .ok (.iinc 1 1, 3) := by decide +kernel
theorem dX8_init_208 : decode cX8_init 208 = .ok (.goto (-17), 3) := by decide +kernel
theorem dX8_init_211 : decode cX8_init 211 = .ok (.return_, 1) := by decide +kernel
theorem dX8_thrown_0 : decode cX8_thrown 0 = .ok (.aload_n 0, 1) := by decide +kernel
theorem dX8_thrown_1 : decode cX8_thrown 1 = .ok (.getfield 81, 3) := by decide +kernel
theorem dX8_thrown_4 : decode cX8_thrown 4 = .ok (.ireturn, 1) := by decide +kernel
theorem dX8_isIn_0 : decode cX8_isIn 0 = .ok (.iload_n 0, 1) := by decide +kernel
theorem dX8_isIn_1 : decode cX8_isIn 1 = .ok (.iload_n 1, 1) := by decide +kernel
theorem dX8_isIn_2 : decode cX8_isIn 2 = .ok (.if_icmp .lt 12, 3) := by decide +kernel
theorem dX8_isIn_5 : decode cX8_isIn 5 = .ok (.iload_n 0, 1) := by decide +kernel
theorem dX8_isIn_6 : decode cX8_isIn 6 = .ok (.iload_n 2, 1) := by decide +kernel
theorem dX8_isIn_7 : decode cX8_isIn 7 = .ok (.if_icmp .gt 7, 3) := by decide +kernel
theorem dX8_isIn_10 : decode cX8_isIn 10 = .ok (.iconst 1, 1) := by decide +kernel
theorem dX8_isIn_11 : decode cX8_isIn 11 = .ok (.goto 4, 3) := by decide +kernel
theorem dX8_isIn_14 : decode cX8_isIn 14 = .ok (.iconst 0, 1) := by decide +kernel
theorem dX8_isIn_15 : decode cX8_isIn 15 = .ok (.ireturn, 1) := by decide +kernel
theorem dX8_isThrown_0 : decode cX8_isThrown 0 = .ok (.aload_n 0, 1) := by decide +kernel
theorem dX8_isThrown_1 : decode cX8_isThrown 1 = .ok (.iload_n 1, 1) := by decide +kernel
theorem dX8_isThrown_2 : decode cX8_isThrown 2 = .ok (.ifCond .eq 7, 3) := by decide +kernel
theorem dX8_isThrown_5 : decode cX8_isThrown 5 = .ok (.iload_n 2, 1) := by decide +kernel
theorem dX8_isThrown_6 : decode cX8_isThrown 6 = .ok (.goto 4, 3) := by decide +kernel
theorem dX8_isThrown_9 : decode cX8_isThrown 9 = .ok (.iconst 0, 1) := by decide +kernel
theorem dX8_isThrown_10 : decode cX8_isThrown 10 = .ok (.putfield 81, 3) := by decide +kernel
theorem dX8_isThrown_13 : decode cX8_isThrown 13 = .ok (.iload_n 1, 1) := by decide +kernel
theorem dX8_isThrown_14 : decode cX8_isThrown 14 = .ok (.ireturn, 1) := by decide +kernel
set_option maxRecDepth 20000 in
theorem ggX8_isCell_X8_isIn : GoodIn wsX8_isCell wsX8_isIn := goodIn_r _ [4] (by decide +kernel) (by decide +kernel)
set_option maxRecDepth 20000 in
theorem gX8_isCell_X8_isIn : GoodIn wsX8_isCell (va_wsS RX8 84 yX8_isIn wsX8_isIn) := goodIn_app (goodIn_of _ (by decide +kernel)) ggX8_isCell_X8_isIn
theorem dX8_isCell_0 : decode cX8_isCell 0 = .ok (.iload_n 0, 1) := by decide +kernel
theorem dX8_isCell_1 : decode cX8_isCell 1 = .ok (.iconst 0, 1) := by decide +kernel
theorem dX8_isCell_2 : decode cX8_isCell 2 = .ok (.iconst 5, 1) := by decide +kernel
theorem dX8_isCell_3 : decode cX8_isCell 3 = .ok (.invokestatic 84, 3) := by decide +kernel
theorem dX8_isCell_6 : decode cX8_isCell 6 = .ok (.ifCond .eq 17, 3) := by decide +kernel
theorem dX8_isCell_9 : decode cX8_isCell 9 = .ok (.iload_n 1, 1) := by decide +kernel
theorem dX8_isCell_10 : decode cX8_isCell 10 = .ok (.iconst 0, 1) := by decide +kernel
theorem dX8_isCell_11 : decode cX8_isCell 11 = .ok (.bipush 7, 2) := by decide +kernel
theorem dX8_isCell_13 : decode cX8_isCell 13 = .ok (.invokestatic 84, 3) := by decide +kernel
theorem dX8_isCell_16 : decode cX8_isCell 16 = .ok (.ifCond .eq 7, 3) := by decide +kernel
theorem dX8_isCell_19 : decode cX8_isCell 19 = .ok (.iconst 1, 1) := by decide +kernel
theorem dX8_isCell_20 : decode cX8_isCell 20 = .ok (.goto 4, 3) := by decide +kernel
theorem dX8_isCell_23 : decode cX8_isCell 23 = .ok (.iconst 0, 1) := by decide +kernel
theorem dX8_isCell_24 : decode cX8_isCell 24 = .ok (.ireturn, 1) := by decide +kernel
set_option maxRecDepth 20000 in
theorem ggX8_isNoCell_X8_isCell : GoodIn wsX8_isNoCell wsX8_isCell := goodIn_r _ [4, 5, 6, 3, 7] (by decide +kernel) (by decide +kernel)
set_option maxRecDepth 20000 in
theorem gX8_isNoCell_X8_isCell : GoodIn wsX8_isNoCell (va_wsS RX8 88 yX8_isCell wsX8_isCell) := goodIn_app (goodIn_of _ (by decide +kernel)) ggX8_isNoCell_X8_isCell
set_option maxRecDepth 20000 in
theorem ggX8_isNoCell_X8_isThrown : GoodIn wsX8_isNoCell wsX8_isThrown := goodIn_r _ [11, 12, 13, 14, 15, 16, 17, 18, 19, 20, 21, 22, 23, 24, 25, 26, 27, 28, 29, 30, 31, 32, 33, 34, 35, 36, 37, 38, 39, 40, 41, 42, 43, 44] (by decide +kernel) (by decide +kernel)
set_option maxRecDepth 20000 in
theorem gX8_isNoCell_X8_isThrown : GoodIn wsX8_isNoCell (wsV RX8 92 RX8 yX8_isThrown wsX8_isThrown) := goodIn_app (goodIn_of _ (by decide +kernel)) ggX8_isNoCell_X8_isThrown
theorem dX8_isNoCell_0 : decode cX8_isNoCell 0 = .ok (.aload_n 0, 1) := by decide +kernel
theorem dX8_isNoCell_1 : decode cX8_isNoCell 1 = .ok (.iload_n 1, 1) := by decide +kernel
theorem dX8_isNoCell_2 : decode cX8_isNoCell 2 = .ok (.iload_n 2, 1) := by decide +kernel
theorem dX8_isNoCell_3 : decode cX8_isNoCell 3 = .ok (.invokestatic 88, 3) := by decide +kernel
theorem dX8_isNoCell_6 : decode cX8_isNoCell 6 = .ok (.ifCond .ne 7, 3) := by decide +kernel
theorem dX8_isNoCell_9 : decode cX8_isNoCell 9 = .ok (.iconst 1, 1) := by decide +kernel
theorem dX8_isNoCell_10 : decode cX8_isNoCell 10 = .ok (.goto 4, 3) := by decide +kernel
theorem dX8_isNoCell_13 : decode cX8_isNoCell 13 = .ok (.iconst 0, 1) := by decide +kernel
theorem dX8_isNoCell_14 : decode cX8_isNoCell 14 = .ok (.iconst 1, 1) := by decide +kernel
theorem dX8_isNoCell_15 : decode cX8_isNoCell 15 = .ok (.invokevirtual 92, 3) := by decide +kernel
theorem dX8_isNoCell_18 : decode cX8_isNoCell 18 = .ok (.ireturn, 1) := by decide +kernel
set_option maxRecDepth 20000 in
theorem ggX8_isNoMacro_X8_isIn : GoodIn wsX8_isNoMacro wsX8_isIn := goodIn_r _ [5] (by decide +kernel) (by decide +kernel)
set_option maxRecDepth 20000 in
theorem gX8_isNoMacro_X8_isIn : GoodIn wsX8_isNoMacro (va_wsS RX8 84 yX8_isIn wsX8_isIn) := goodIn_app (goodIn_of _ (by decide +kernel)) ggX8_isNoMacro_X8_isIn
set_option maxRecDepth 20000 in
theorem ggX8_isNoMacro_X8_isThrown : GoodIn wsX8_isNoMacro wsX8_isThrown := goodIn_r _ [9, 10, 11, 12, 13, 14, 15, 16, 17, 18, 19, 20, 21, 22, 23, 24, 25, 26, 27, 28, 29, 30, 31, 32, 33, 34, 35, 36, 37, 38, 39, 40, 41, 42] (by decide +kernel) (by decide +kernel)
set_option maxRecDepth 20000 in
theorem gX8_isNoMacro_X8_isThrown : GoodIn wsX8_isNoMacro (wsV RX8 92 RX8 yX8_isThrown wsX8_isThrown) := goodIn_app (goodIn_of _ (by decide +kernel)) ggX8_isNoMacro_X8_isThrown
theorem dX8_isNoMacro_0 : decode cX8_isNoMacro 0 = .ok (.aload_n 0, 1) := by decide +kernel
theorem dX8_isNoMacro_1 : decode cX8_isNoMacro 1 = .ok (.iload_n 1, 1) := by decide +kernel
theorem dX8_isNoMacro_2 : decode cX8_isNoMacro 2 = .ok (.iconst 0, 1) := by decide +kernel
theorem dX8_isNoMacro_3 : decode cX8_isNoMacro 3 = .ok (.aload_n 0, 1) := by decide +kernel
theorem dX8_isNoMacro_4 : decode cX8_isNoMacro 4 = .ok (.getfield 96, 3) := by decide +kernel
theorem dX8_isNoMacro_7 : decode cX8_isNoMacro 7 = .ok (.iconst 1, 1) := by decide +kernel
theorem dX8_isNoMacro_8 : decode cX8_isNoMacro 8 = .ok (.isub, 1) := by decide +kernel
theorem dX8_isNoMacro_9 : decode cX8_isNoMacro 9 = .ok (.invokestatic 84, 3) := by decide +kernel
theorem dX8_isNoMacro_12 : decode cX8_isNoMacro 12 = .ok (.ifCond .ne 7, 3) := by decide +kernel
theorem dX8_isNoMacro_15 : decode cX8_isNoMacro 15 = .ok (.iconst 1, 1) := by decide +kernel
theorem dX8_isNoMacro_16 : decode cX8_isNoMacro 16 = .ok (.goto 4, 3) := by decide +kernel
theorem dX8_isNoMacro_19 : decode cX8_isNoMacro 19 = .ok (.iconst 0, 1) := by decide +kernel
theorem dX8_isNoMacro_20 : decode cX8_isNoMacro 20 = .ok (.iconst 1, 1) := by decide +kernel
theorem dX8_isNoMacro_21 : decode cX8_isNoMacro 21 = .ok (.invokevirtual 92, 3) := by decide +kernel
theorem dX8_isNoMacro_24 : decode cX8_isNoMacro 24 = .ok (.ireturn, 1) := by decide +kernel
theorem dX8_at_0 : decode cX8_at 0 = .ok (.bipush 6, 2) := by decide +kernel
theorem dX8_at_2 : decode cX8_at 2 = .ok (.iload_n 1, 1) := by decide +kernel
theorem dX8_at_3 : decode cX8_at 3 = .ok (.imul, 1) := by decide +kernel
theorem dX8_at_4 : decode cX8_at 4 = .ok (.iload_n 0, 1) := by decide +kernel
theorem dX8_at_5 : decode cX8_at 5 = .ok (.iadd, 1) := by decide +kernel
theorem dX8_at_6 : decode cX8_at 6 = .ok (.ireturn, 1) := by decide +kernel
set_option maxRecDepth 20000 in
theorem ggX8_isValue_X8_isIn : GoodIn wsX8_isValue wsX8_isIn := goodIn_r _ [4] (by decide +kernel) (by decide +kernel)
set_option maxRecDepth 20000 in
theorem gX8_isValue_X8_isIn : GoodIn wsX8_isValue (va_wsS RX8 84 yX8_isIn wsX8_isIn) := goodIn_app (goodIn_of _ (by decide +kernel)) ggX8_isValue_X8_isIn
theorem dX8_isValue_0 : decode cX8_isValue 0 = .ok (.iload_n 0, 1) := by decide +kernel
theorem dX8_isValue_1 : decode cX8_isValue 1 = .ok (.sipush (-9999), 3) := by decide +kernel
theorem dX8_isValue_4 : decode cX8_isValue 4 = .ok (.sipush 9999, 3) := by decide +kernel
theorem dX8_isValue_7 : decode cX8_isValue 7 = .ok (.invokestatic 84, 3) := by decide +kernel
theorem dX8_isValue_10 : decode cX8_isValue 10 = .ok (.ireturn, 1) := by decide +kernel
set_option maxRecDepth 20000 in
theorem ggX8_isWithin_X8_isIn : GoodIn wsX8_isWithin wsX8_isIn := goodIn_r _ [4] (by decide +kernel) (by decide +kernel)
set_option maxRecDepth 20000 in
theorem gX8_isWithin_X8_isIn : GoodIn wsX8_isWithin (va_wsS RX8 84 yX8_isIn wsX8_isIn) := goodIn_app (goodIn_of _ (by decide +kernel)) ggX8_isWithin_X8_isIn
theorem dX8_isWithin_0 : decode cX8_isWithin 0 = .ok (.iload_n 0, 1) := by decide +kernel
theorem dX8_isWithin_1 : decode cX8_isWithin 1 = .ok (.bipush 6, 2) := by decide +kernel
theorem dX8_isWithin_3 : decode cX8_isWithin 3 = .ok (.irem, 1) := by decide +kernel
theorem dX8_isWithin_4 : decode cX8_isWithin 4 = .ok (.iload_n 1, 1) := by decide +kernel
theorem dX8_isWithin_5 : decode cX8_isWithin 5 = .ok (.bipush 6, 2) := by decide +kernel
theorem dX8_isWithin_7 : decode cX8_isWithin 7 = .ok (.irem, 1) := by decide +kernel
theorem dX8_isWithin_8 : decode cX8_isWithin 8 = .ok (.iload_n 2, 1) := by decide +kernel
theorem dX8_isWithin_9 : decode cX8_isWithin 9 = .ok (.bipush 6, 2) := by decide +kernel
theorem dX8_isWithin_11 : decode cX8_isWithin 11 = .ok (.irem, 1) := by decide +kernel
theorem dX8_isWithin_12 : decode cX8_isWithin 12 = .ok (.invokestatic 84, 3) := by decide +kernel
theorem dX8_isWithin_15 : decode cX8_isWithin 15 = .ok (.ifCond .eq 25, 3) := by decide +kernel
theorem dX8_isWithin_18 : decode cX8_isWithin 18 = .ok (.iload_n 0, 1) := by decide +kernel
theorem dX8_isWithin_19 : decode cX8_isWithin 19 = .ok (.bipush 6, 2) := by decide +kernel
theorem dX8_isWithin_21 : decode cX8_isWithin 21 = .ok (.idiv, 1) := by decide +kernel
theorem dX8_isWithin_22 : decode cX8_isWithin 22 = .ok (.iload_n 1, 1) := by decide +kernel
theorem dX8_isWithin_23 : decode cX8_isWithin 23 = .ok (.bipush 6, 2) := by decide +kernel
theorem dX8_isWithin_25 : decode cX8_isWithin 25 = .ok (.idiv, 1) := by decide +kernel
theorem dX8_isWithin_26 : decode cX8_isWithin 26 = .ok (.iload_n 2, 1) := by decide +kernel
theorem dX8_isWithin_27 : decode cX8_isWithin 27 = .ok (.bipush 6, 2) := by decide +kernel
theorem dX8_isWithin_29 : decode cX8_isWithin 29 = .ok (.idiv, 1) := by decide +kernel
theorem dX8_isWithin_30 : decode cX8_isWithin 30 = .ok (.invokestatic 84, 3) := by decide +kernel
theorem dX8_isWithin_33 : decode cX8_isWithin 33 = .ok (.ifCond .eq 7, 3) := by decide +kernel
theorem dX8_isWithin_36 : decode cX8_isWithin 36 = .ok (.iconst 1, 1) := by decide +kernel
theorem dX8_isWithin_37 : decode cX8_isWithin 37 = .ok (.goto 4, 3) := by decide +kernel
theorem dX8_isWithin_40 : decode cX8_isWithin 40 = .ok (.iconst 0, 1) := by decide +kernel
theorem dX8_isWithin_41 : decode cX8_isWithin 41 = .ok (.ireturn, 1) := by decide +kernel
theorem dX8_becomes_0 : decode cX8_becomes 0 = .ok (.aload_n 0, 1) := by decide +kernel
theorem dX8_becomes_1 : decode cX8_becomes 1 = .ok (.getfield 9, 3) := by decide +kernel
theorem dX8_becomes_4 : decode cX8_becomes 4 = .ok (.iload_n 1, 1) := by decide +kernel
theorem dX8_becomes_5 : decode cX8_becomes 5 = .ok (.iaload, 1) := by decide +kernel
theorem dX8_becomes_6 : decode cX8_becomes 6 = .ok (.iload_n 2, 1) := by decide +kernel
theorem dX8_becomes_7 : decode cX8_becomes 7 = .ok (.if_icmp .eq 66, 3) := by decide +kernel
theorem dX8_becomes_10 : decode cX8_becomes 10 = .ok (.aload_n 0, 1) := by decide +kernel
theorem dX8_becomes_11 : decode cX8_becomes 11 = .ok (.getfield 58, 3) := by decide +kernel
theorem dX8_becomes_14 : decode cX8_becomes 14 = .ok (.aload_n 0, 1) := by decide +kernel
theorem dX8_becomes_15 : decode cX8_becomes 15 = .ok (.getfield 99, 3) := by decide +kernel
theorem dX8_becomes_18 : decode cX8_becomes 18 = .ok (.iload_n 1, 1) := by decide +kernel
theorem dX8_becomes_19 : decode cX8_becomes 19 = .ok (.iastore, 1) := by decide +kernel
theorem dX8_becomes_20 : decode cX8_becomes 20 = .ok (.aload_n 0, 1) := by decide +kernel
theorem dX8_becomes_21 : decode cX8_becomes 21 = .ok (.getfield 61, 3) := by decide +kernel
theorem dX8_becomes_24 : decode cX8_becomes 24 = .ok (.aload_n 0, 1) := by decide +kernel
theorem dX8_becomes_25 : decode cX8_becomes 25 = .ok (.getfield 99, 3) := by decide +kernel
theorem dX8_becomes_28 : decode cX8_becomes 28 = .ok (.aload_n 0, 1) := by decide +kernel
theorem dX8_becomes_29 : decode cX8_becomes 29 = .ok (.getfield 9, 3) := by decide +kernel
theorem dX8_becomes_32 : decode cX8_becomes 32 = .ok (.iload_n 1, 1) := by decide +kernel
theorem dX8_becomes_33 : decode cX8_becomes 33 = .ok (.iaload, 1) := by decide +kernel
theorem dX8_becomes_34 : decode cX8_becomes 34 = .ok (.iastore, 1) := by decide +kernel
theorem dX8_becomes_35 : decode cX8_becomes 35 = .ok (.aload_n 0, 1) := by decide +kernel
theorem dX8_becomes_36 : decode cX8_becomes 36 = .ok (.getfield 64, 3) := by decide +kernel
theorem dX8_becomes_39 : decode cX8_becomes 39 = .ok (.aload_n 0, 1) := by decide +kernel
theorem dX8_becomes_40 : decode cX8_becomes 40 = .ok (.getfield 99, 3) := by decide +kernel
theorem dX8_becomes_43 : decode cX8_becomes 43 = .ok (.iload_n 3, 1) := by decide +kernel
theorem dX8_becomes_44 : decode cX8_becomes 44 = .ok (.iastore, 1) := by decide +kernel
theorem dX8_becomes_45 : decode cX8_becomes 45 = .ok (.aload_n 0, 1) := by decide +kernel
theorem dX8_becomes_46 : decode cX8_becomes 46 = .ok (.getfield 67, 3) := by decide +kernel
theorem dX8_becomes_49 : decode cX8_becomes 49 = .ok (.aload_n 0, 1) := by decide +kernel
theorem dX8_becomes_50 : decode cX8_becomes 50 = .ok (.getfield 99, 3) := by decide +kernel
theorem dX8_becomes_53 : decode cX8_becomes 53 = .ok (.iload 4, 2) := by decide +kernel
theorem dX8_becomes_55 : decode cX8_becomes 55 = .ok (.iastore, 1) := by decide +kernel
theorem dX8_becomes_56 : decode cX8_becomes 56 = .ok (.aload_n 0, 1) := by decide +kernel
theorem dX8_becomes_57 : decode cX8_becomes 57 = .ok (.dup, 1) := by decide +kernel
theorem dX8_becomes_58 : decode cX8_becomes 58 = .ok (.getfield 99, 3) := by decide +kernel
theorem dX8_becomes_61 : decode cX8_becomes 61 = .ok (.iconst 1, 1) := by decide +kernel
theorem dX8_becomes_62 : decode cX8_becomes 62 = .ok (.iadd, 1) := by decide +kernel
theorem dX8_becomes_63 : decode cX8_becomes 63 = .ok (.putfield 99, 3) := by decide +kernel
theorem dX8_becomes_66 : decode cX8_becomes 66 = .ok (.aload_n 0, 1) := by decide +kernel
theorem dX8_becomes_67 : decode cX8_becomes 67 = .ok (.getfield 9, 3) := by decide +kernel
theorem dX8_becomes_70 : decode cX8_becomes 70 = .ok (.iload_n 1, 1) := by decide +kernel
theorem dX8_becomes_71 : decode cX8_becomes 71 = .ok (.iload_n 2, 1) := by decide +kernel
theorem dX8_becomes_72 : decode cX8_becomes 72 = .ok (.iastore, 1) := by decide +kernel
theorem dX8_becomes_73 : decode cX8_becomes 73 = .ok (.return_, 1) := by decide +kernel
theorem dX8_settles_0 : decode cX8_settles 0 = .ok (.aload_n 0, 1) := by decide +kernel
theorem dX8_settles_1 : decode cX8_settles 1 = .ok (.getfield 70, 3) := by decide +kernel
theorem dX8_settles_4 : decode cX8_settles 4 = .ok (.iconst 1, 1) := by decide +kernel
theorem dX8_settles_5 : decode cX8_settles 5 = .ok (.iaload, 1) := by decide +kernel
theorem dX8_settles_6 : decode cX8_settles 6 = .ok (.istore_n 1, 1) := by decide +kernel
theorem dX8_settles_7 : decode cX8_settles 7 = .ok (.iconst 0, 1) := by decide +kernel
theorem dX8_settles_8 : decode cX8_settles 8 = .ok (.istore_n 2, 1) := by decide +kernel
theorem dX8_settles_9 : decode cX8_settles 9 = .ok (.iload_n 2, 1) := by decide +kernel
theorem dX8_settles_10 : decode cX8_settles 10 = .ok (.iload_n 1, 1) := by decide +kernel
theorem dX8_settles_11 : decode cX8_settles 11 = .ok (.if_icmp .ge 43, 3) := by decide +kernel
theorem dX8_settles_14 : decode cX8_settles 14 = .ok (.aload_n 0, 1) := by decide +kernel
theorem dX8_settles_15 : decode cX8_settles 15 = .ok (.getfield 19, 3) := by decide +kernel
theorem dX8_settles_18 : decode cX8_settles 18 = .ok (.aload_n 0, 1) := by decide +kernel
theorem dX8_settles_19 : decode cX8_settles 19 = .ok (.getfield 64, 3) := by decide +kernel
theorem dX8_settles_22 : decode cX8_settles 22 = .ok (.iload_n 2, 1) := by decide +kernel
theorem dX8_settles_23 : decode cX8_settles 23 = .ok (.iaload, 1) := by decide +kernel
theorem dX8_settles_24 : decode cX8_settles 24 = .ok (.iconst 1, 1) := by decide +kernel
theorem dX8_settles_25 : decode cX8_settles 25 = .ok (.iadd, 1) := by decide +kernel
theorem dX8_settles_26 : decode cX8_settles 26 = .ok (.dup2, 1) := by decide +kernel
theorem dX8_settles_27 : decode cX8_settles 27 = .ok (.iaload, 1) := by decide +kernel
theorem dX8_settles_28 : decode cX8_settles 28 = .ok (.iconst 1, 1) := by decide +kernel
theorem dX8_settles_29 : decode cX8_settles 29 = .ok (.iadd, 1) := by decide +kernel
theorem dX8_settles_30 : decode cX8_settles 30 = .ok (.iastore, 1) := by decide +kernel
theorem dX8_settles_31 : decode cX8_settles 31 = .ok (.aload_n 0, 1) := by decide +kernel
theorem dX8_settles_32 : decode cX8_settles 32 = .ok (.getfield 16, 3) := by decide +kernel
theorem dX8_settles_35 : decode cX8_settles 35 = .ok (.aload_n 0, 1) := by decide +kernel
theorem dX8_settles_36 : decode cX8_settles 36 = .ok (.getfield 58, 3) := by decide +kernel
theorem dX8_settles_39 : decode cX8_settles 39 = .ok (.iload_n 2, 1) := by decide +kernel
theorem dX8_settles_40 : decode cX8_settles 40 = .ok (.iaload, 1) := by decide +kernel
theorem dX8_settles_41 : decode cX8_settles 41 = .ok (.aload_n 0, 1) := by decide +kernel
theorem dX8_settles_42 : decode cX8_settles 42 = .ok (.getfield 64, 3) := by decide +kernel
theorem dX8_settles_45 : decode cX8_settles 45 = .ok (.iload_n 2, 1) := by decide +kernel
theorem dX8_settles_46 : decode cX8_settles 46 = .ok (.iaload, 1) := by decide +kernel
theorem dX8_settles_47 : decode cX8_settles 47 = .ok (.iastore, 1) := by decide +kernel
theorem dX8_settles_48 : decode cX8_settles 48 = .ok (.iinc 2 1, 3) := by decide +kernel
theorem dX8_settles_51 : decode cX8_settles 51 = .ok (.goto (-42), 3) := by decide +kernel
theorem dX8_settles_54 : decode cX8_settles 54 = .ok (.aload_n 0, 1) := by decide +kernel
theorem dX8_settles_55 : decode cX8_settles 55 = .ok (.dup, 1) := by decide +kernel
theorem dX8_settles_56 : decode cX8_settles 56 = .ok (.getfield 102, 3) := by decide +kernel
theorem dX8_settles_59 : decode cX8_settles 59 = .ok (.iload_n 1, 1) := by decide +kernel
theorem dX8_settles_60 : decode cX8_settles 60 = .ok (.iadd, 1) := by decide +kernel
theorem dX8_settles_61 : decode cX8_settles 61 = .ok (.putfield 102, 3) := by decide +kernel
theorem dX8_settles_64 : decode cX8_settles 64 = .ok (.iload_n 1, 1) := by decide +kernel
theorem dX8_settles_65 : decode cX8_settles 65 = .ok (.istore_n 2, 1) := by decide +kernel
theorem dX8_settles_66 : decode cX8_settles 66 = .ok (.iload_n 2, 1) := by decide +kernel
theorem dX8_settles_67 : decode cX8_settles 67 = .ok (.aload_n 0, 1) := by decide +kernel
theorem dX8_settles_68 : decode cX8_settles 68 = .ok (.getfield 99, 3) := by decide +kernel
theorem dX8_settles_71 : decode cX8_settles 71 = .ok (.if_icmp .ge 65, 3) := by decide +kernel
theorem dX8_settles_74 : decode cX8_settles 74 = .ok (.aload_n 0, 1) := by decide +kernel
theorem dX8_settles_75 : decode cX8_settles 75 = .ok (.getfield 58, 3) := by decide +kernel
theorem dX8_settles_78 : decode cX8_settles 78 = .ok (.iload_n 2, 1) := by decide +kernel
theorem dX8_settles_79 : decode cX8_settles 79 = .ok (.iload_n 1, 1) := by decide +kernel
theorem dX8_settles_80 : decode cX8_settles 80 = .ok (.isub, 1) := by decide +kernel
theorem dX8_settles_81 : decode cX8_settles 81 = .ok (.aload_n 0, 1) := by decide +kernel
theorem dX8_settles_82 : decode cX8_settles 82 = .ok (.getfield 58, 3) := by decide +kernel
theorem dX8_settles_85 : decode cX8_settles 85 = .ok (.iload_n 2, 1) := by decide +kernel
theorem dX8_settles_86 : decode cX8_settles 86 = .ok (.iaload, 1) := by decide +kernel
theorem dX8_settles_87 : decode cX8_settles 87 = .ok (.iastore, 1) := by decide +kernel
theorem dX8_settles_88 : decode cX8_settles 88 = .ok (.aload_n 0, 1) := by decide +kernel
theorem dX8_settles_89 : decode cX8_settles 89 = .ok (.getfield 61, 3) := by decide +kernel
theorem dX8_settles_92 : decode cX8_settles 92 = .ok (.iload_n 2, 1) := by decide +kernel
theorem dX8_settles_93 : decode cX8_settles 93 = .ok (.iload_n 1, 1) := by decide +kernel
theorem dX8_settles_94 : decode cX8_settles 94 = .ok (.isub, 1) := by decide +kernel
theorem dX8_settles_95 : decode cX8_settles 95 = .ok (.aload_n 0, 1) := by decide +kernel
theorem dX8_settles_96 : decode cX8_settles 96 = .ok (.getfield 61, 3) := by decide +kernel
theorem dX8_settles_99 : decode cX8_settles 99 = .ok (.iload_n 2, 1) := by decide +kernel
theorem dX8_settles_100 : decode cX8_settles 100 = .ok (.iaload, 1) := by decide +kernel
theorem dX8_settles_101 : decode cX8_settles 101 = .ok (.iastore, 1) := by decide +kernel
theorem dX8_settles_102 : decode cX8_settles 102 = .ok (.aload_n 0, 1) := by decide +kernel
theorem dX8_settles_103 : decode cX8_settles 103 = .ok (.getfield 64, 3) := by decide +kernel
theorem dX8_settles_106 : decode cX8_settles 106 = .ok (.iload_n 2, 1) := by decide +kernel
theorem dX8_settles_107 : decode cX8_settles 107 = .ok (.iload_n 1, 1) := by decide +kernel
theorem dX8_settles_108 : decode cX8_settles 108 = .ok (.isub, 1) := by decide +kernel
theorem dX8_settles_109 : decode cX8_settles 109 = .ok (.aload_n 0, 1) := by decide +kernel
theorem dX8_settles_110 : decode cX8_settles 110 = .ok (.getfield 64, 3) := by decide +kernel
theorem dX8_settles_113 : decode cX8_settles 113 = .ok (.iload_n 2, 1) := by decide +kernel
theorem dX8_settles_114 : decode cX8_settles 114 = .ok (.iaload, 1) := by decide +kernel
theorem dX8_settles_115 : decode cX8_settles 115 = .ok (.iastore, 1) := by decide +kernel
theorem dX8_settles_116 : decode cX8_settles 116 = .ok (.aload_n 0, 1) := by decide +kernel
theorem dX8_settles_117 : decode cX8_settles 117 = .ok (.getfield 67, 3) := by decide +kernel
theorem dX8_settles_120 : decode cX8_settles 120 = .ok (.iload_n 2, 1) := by decide +kernel
theorem dX8_settles_121 : decode cX8_settles 121 = .ok (.iload_n 1, 1) := by decide +kernel
theorem dX8_settles_122 : decode cX8_settles 122 = .ok (.isub, 1) := by decide +kernel
theorem dX8_settles_123 : decode cX8_settles 123 = .ok (.aload_n 0, 1) := by decide +kernel
theorem dX8_settles_124 : decode cX8_settles 124 = .ok (.getfield 67, 3) := by decide +kernel
theorem dX8_settles_127 : decode cX8_settles 127 = .ok (.iload_n 2, 1) := by decide +kernel
theorem dX8_settles_128 : decode cX8_settles 128 = .ok (.iaload, 1) := by decide +kernel
theorem dX8_settles_129 : decode cX8_settles 129 = .ok (.iastore, 1) := by decide +kernel
theorem dX8_settles_130 : decode cX8_settles 130 = .ok (.iinc 2 1, 3) := by decide +kernel
theorem dX8_settles_133 : decode cX8_settles 133 = .ok (.goto (-67), 3) := by decide +kernel
theorem dX8_settles_136 : decode cX8_settles 136 = .ok (.aload_n 0, 1) := by decide +kernel
theorem dX8_settles_137 : decode cX8_settles 137 = .ok (.dup, 1) := by decide +kernel
theorem dX8_settles_138 : decode cX8_settles 138 = .ok (.getfield 99, 3) := by decide +kernel
theorem dX8_settles_141 : decode cX8_settles 141 = .ok (.iload_n 1, 1) := by decide +kernel
theorem dX8_settles_142 : decode cX8_settles 142 = .ok (.isub, 1) := by decide +kernel
theorem dX8_settles_143 : decode cX8_settles 143 = .ok (.putfield 99, 3) := by decide +kernel
theorem dX8_settles_146 : decode cX8_settles 146 = .ok (.iconst 0, 1) := by decide +kernel
theorem dX8_settles_147 : decode cX8_settles 147 = .ok (.istore_n 2, 1) := by decide +kernel
theorem dX8_settles_148 : decode cX8_settles 148 = .ok (.iload_n 2, 1) := by decide +kernel
theorem dX8_settles_149 : decode cX8_settles 149 = .ok (.aload_n 0, 1) := by decide +kernel
theorem dX8_settles_150 : decode cX8_settles 150 = .ok (.getfield 105, 3) := by decide +kernel
theorem dX8_settles_153 : decode cX8_settles 153 = .ok (.if_icmp .ge 25, 3) := by decide +kernel
theorem dX8_settles_156 : decode cX8_settles 156 = .ok (.aload_n 0, 1) := by decide +kernel
theorem dX8_settles_157 : decode cX8_settles 157 = .ok (.getfield 70, 3) := by decide +kernel
theorem dX8_settles_160 : decode cX8_settles 160 = .ok (.iload_n 2, 1) := by decide +kernel
theorem dX8_settles_161 : decode cX8_settles 161 = .ok (.aload_n 0, 1) := by decide +kernel
theorem dX8_settles_162 : decode cX8_settles 162 = .ok (.getfield 70, 3) := by decide +kernel
theorem dX8_settles_165 : decode cX8_settles 165 = .ok (.iload_n 2, 1) := by decide +kernel
theorem dX8_settles_166 : decode cX8_settles 166 = .ok (.iconst 1, 1) := by decide +kernel
theorem dX8_settles_167 : decode cX8_settles 167 = .ok (.iadd, 1) := by decide +kernel
theorem dX8_settles_168 : decode cX8_settles 168 = .ok (.iaload, 1) := by decide +kernel
theorem dX8_settles_169 : decode cX8_settles 169 = .ok (.iload_n 1, 1) := by decide +kernel
theorem dX8_settles_170 : decode cX8_settles 170 = .ok (.isub, 1) := by decide +kernel
theorem dX8_settles_171 : decode cX8_settles 171 = .ok (.iastore, 1) := by decide +kernel
theorem dX8_settles_172 : decode cX8_settles 172 = .ok (.iinc 2 1, 3) := by decide +kernel
theorem dX8_settles_175 : decode cX8_settles 175 = .ok (.goto (-27), 3) := by decide +kernel
theorem dX8_settles_178 : decode cX8_settles 178 = .ok (.aload_n 0, 1) := by decide +kernel
theorem dX8_settles_179 : decode cX8_settles 179 = .ok (.dup, 1) := by decide +kernel
theorem dX8_settles_180 : decode cX8_settles 180 = .ok (.getfield 105, 3) := by decide +kernel
theorem dX8_settles_183 : decode cX8_settles 183 = .ok (.iconst 1, 1) := by decide +kernel
theorem dX8_settles_184 : decode cX8_settles 184 = .ok (.isub, 1) := by decide +kernel
theorem dX8_settles_185 : decode cX8_settles 185 = .ok (.putfield 105, 3) := by decide +kernel
theorem dX8_settles_188 : decode cX8_settles 188 = .ok (.return_, 1) := by decide +kernel
set_option maxRecDepth 20000 in
theorem ggX8_stepped_X8_goal : GoodIn wsX8_stepped wsX8_goal := goodIn_ca (goodIn_r _ [8, 9, 10, 11, 12, 7, 13, 14, 15, 16, 17, 18, 19, 20, 21, 22, 23, 24, 25, 26, 27, 28, 29, 30, 31, 32, 33, 34, 35, 36, 37, 38, 39, 40, 41, 42, 43, 44, 45] (by decide +kernel) (by decide +kernel)) (goodIn_sub (fun _ h => List.mem_cons_of_mem _ (List.mem_append_right _ h)) (by decide +kernel))
set_option maxRecDepth 20000 in
theorem gX8_stepped_X8_goal : GoodIn wsX8_stepped (wsV RX8 108 RX8 yX8_goal wsX8_goal) := goodIn_app (goodIn_of _ (by decide +kernel)) ggX8_stepped_X8_goal
theorem dX8_stepped_0 : decode cX8_stepped 0 = .ok (.aload_n 0, 1) := by decide +kernel
theorem dX8_stepped_1 : decode cX8_stepped 1 = .ok (.getfield 25, 3) := by decide +kernel
theorem dX8_stepped_4 : decode cX8_stepped 4 = .ok (.bipush 10, 2) := by decide +kernel
theorem dX8_stepped_6 : decode cX8_stepped 6 = .ok (.iload_n 1, 1) := by decide +kernel
theorem dX8_stepped_7 : decode cX8_stepped 7 = .ok (.imul, 1) := by decide +kernel
theorem dX8_stepped_8 : decode cX8_stepped 8 = .ok (.iload_n 2, 1) := by decide +kernel
theorem dX8_stepped_9 : decode cX8_stepped 9 = .ok (.iadd, 1) := by decide +kernel
theorem dX8_stepped_10 : decode cX8_stepped 10 = .ok (.iaload, 1) := by decide +kernel
theorem dX8_stepped_11 : decode cX8_stepped 11 = .ok (.bipush 115, 2) := by decide +kernel
theorem dX8_stepped_13 : decode cX8_stepped 13 = .ok (.if_icmp .ne 17, 3) := by decide +kernel
theorem dX8_stepped_16 : decode cX8_stepped 16 = .ok (.aload_n 0, 1) := by decide +kernel
theorem dX8_stepped_17 : decode cX8_stepped 17 = .ok (.getfield 34, 3) := by decide +kernel
theorem dX8_stepped_20 : decode cX8_stepped 20 = .ok (.bipush 10, 2) := by decide +kernel
theorem dX8_stepped_22 : decode cX8_stepped 22 = .ok (.iload_n 1, 1) := by decide +kernel
theorem dX8_stepped_23 : decode cX8_stepped 23 = .ok (.imul, 1) := by decide +kernel
theorem dX8_stepped_24 : decode cX8_stepped 24 = .ok (.iload_n 2, 1) := by decide +kernel
theorem dX8_stepped_25 : decode cX8_stepped 25 = .ok (.iadd, 1) := by decide +kernel
theorem dX8_stepped_26 : decode cX8_stepped 26 = .ok (.iaload, 1) := by decide +kernel
theorem dX8_stepped_27 : decode cX8_stepped 27 = .ok (.goto 52, 3) := by decide +kernel
theorem dX8_stepped_30 : decode cX8_stepped 30 = .ok (.aload_n 0, 1) := by decide +kernel
theorem dX8_stepped_31 : decode cX8_stepped 31 = .ok (.getfield 25, 3) := by decide +kernel
theorem dX8_stepped_34 : decode cX8_stepped 34 = .ok (.bipush 10, 2) := by decide +kernel
theorem dX8_stepped_36 : decode cX8_stepped 36 = .ok (.iload_n 1, 1) := by decide +kernel
theorem dX8_stepped_37 : decode cX8_stepped 37 = .ok (.imul, 1) := by decide +kernel
theorem dX8_stepped_38 : decode cX8_stepped 38 = .ok (.iload_n 2, 1) := by decide +kernel
theorem dX8_stepped_39 : decode cX8_stepped 39 = .ok (.iadd, 1) := by decide +kernel
theorem dX8_stepped_40 : decode cX8_stepped 40 = .ok (.iaload, 1) := by decide +kernel
theorem dX8_stepped_41 : decode cX8_stepped 41 = .ok (.bipush 97, 2) := by decide +kernel
theorem dX8_stepped_43 : decode cX8_stepped 43 = .ok (.if_icmp .ne 30, 3) := by decide +kernel
theorem dX8_stepped_46 : decode cX8_stepped 46 = .ok (.aload_n 0, 1) := by decide +kernel
theorem dX8_stepped_47 : decode cX8_stepped 47 = .ok (.getfield 13, 3) := by decide +kernel
theorem dX8_stepped_50 : decode cX8_stepped 50 = .ok (.aload_n 0, 1) := by decide +kernel
theorem dX8_stepped_51 : decode cX8_stepped 51 = .ok (.iload_n 1, 1) := by decide +kernel
theorem dX8_stepped_52 : decode cX8_stepped 52 = .ok (.iload_n 2, 1) := by decide +kernel
theorem dX8_stepped_53 : decode cX8_stepped 53 = .ok (.iload_n 3, 1) := by decide +kernel
theorem dX8_stepped_54 : decode cX8_stepped 54 = .ok (.invokevirtual 108, 3) := by decide +kernel
theorem dX8_stepped_57 : decode cX8_stepped 57 = .ok (.iaload, 1) := by decide +kernel
theorem dX8_stepped_58 : decode cX8_stepped 58 = .ok (.aload_n 0, 1) := by decide +kernel
theorem dX8_stepped_59 : decode cX8_stepped 59 = .ok (.getfield 34, 3) := by decide +kernel
theorem dX8_stepped_62 : decode cX8_stepped 62 = .ok (.bipush 10, 2) := by decide +kernel
theorem dX8_stepped_64 : decode cX8_stepped 64 = .ok (.iload_n 1, 1) := by decide +kernel
theorem dX8_stepped_65 : decode cX8_stepped 65 = .ok (.imul, 1) := by decide +kernel
theorem dX8_stepped_66 : decode cX8_stepped 66 = .ok (.iload_n 2, 1) := by decide +kernel
theorem dX8_stepped_67 : decode cX8_stepped 67 = .ok (.iadd, 1) := by decide +kernel
theorem dX8_stepped_68 : decode cX8_stepped 68 = .ok (.iaload, 1) := by decide +kernel
theorem dX8_stepped_69 : decode cX8_stepped 69 = .ok (.iadd, 1) := by decide +kernel
theorem dX8_stepped_70 : decode cX8_stepped 70 = .ok (.goto 9, 3) := by decide +kernel
theorem dX8_stepped_73 : decode cX8_stepped 73 = .ok (.aload_n 0, 1) := by decide +kernel
theorem dX8_stepped_74 : decode cX8_stepped 74 = .ok (.getfield 13, 3) := by decide +kernel
theorem dX8_stepped_77 : decode cX8_stepped 77 = .ok (.iload_n 3, 1) := by decide +kernel
theorem dX8_stepped_78 : decode cX8_stepped 78 = .ok (.iaload, 1) := by decide +kernel
theorem dX8_stepped_79 : decode cX8_stepped 79 = .ok (.ireturn, 1) := by decide +kernel
set_option maxRecDepth 20000 in
theorem ggX8_isOut_X8_isCell : GoodIn wsX8_isOut wsX8_isCell := goodIn_r _ [6, 7, 8, 5, 9] (by decide +kernel) (by decide +kernel)
set_option maxRecDepth 20000 in
theorem gX8_isOut_X8_isCell : GoodIn wsX8_isOut (va_wsS RX8 88 yX8_isCell wsX8_isCell) := goodIn_app (goodIn_of _ (by decide +kernel)) ggX8_isOut_X8_isCell
theorem dX8_isOut_0 : decode cX8_isOut 0 = .ok (.iload_n 3, 1) := by decide +kernel
theorem dX8_isOut_1 : decode cX8_isOut 1 = .ok (.bipush 6, 2) := by decide +kernel
theorem dX8_isOut_3 : decode cX8_isOut 3 = .ok (.irem, 1) := by decide +kernel
theorem dX8_isOut_4 : decode cX8_isOut 4 = .ok (.aload_n 0, 1) := by decide +kernel
theorem dX8_isOut_5 : decode cX8_isOut 5 = .ok (.getfield 28, 3) := by decide +kernel
theorem dX8_isOut_8 : decode cX8_isOut 8 = .ok (.bipush 10, 2) := by decide +kernel
theorem dX8_isOut_10 : decode cX8_isOut 10 = .ok (.iload_n 1, 1) := by decide +kernel
theorem dX8_isOut_11 : decode cX8_isOut 11 = .ok (.imul, 1) := by decide +kernel
theorem dX8_isOut_12 : decode cX8_isOut 12 = .ok (.iload_n 2, 1) := by decide +kernel
theorem dX8_isOut_13 : decode cX8_isOut 13 = .ok (.iadd, 1) := by decide +kernel
theorem dX8_isOut_14 : decode cX8_isOut 14 = .ok (.iaload, 1) := by decide +kernel
theorem dX8_isOut_15 : decode cX8_isOut 15 = .ok (.iadd, 1) := by decide +kernel
theorem dX8_isOut_16 : decode cX8_isOut 16 = .ok (.iload_n 3, 1) := by decide +kernel
theorem dX8_isOut_17 : decode cX8_isOut 17 = .ok (.bipush 6, 2) := by decide +kernel
theorem dX8_isOut_19 : decode cX8_isOut 19 = .ok (.idiv, 1) := by decide +kernel
theorem dX8_isOut_20 : decode cX8_isOut 20 = .ok (.aload_n 0, 1) := by decide +kernel
theorem dX8_isOut_21 : decode cX8_isOut 21 = .ok (.getfield 31, 3) := by decide +kernel
theorem dX8_isOut_24 : decode cX8_isOut 24 = .ok (.bipush 10, 2) := by decide +kernel
theorem dX8_isOut_26 : decode cX8_isOut 26 = .ok (.iload_n 1, 1) := by decide +kernel
theorem dX8_isOut_27 : decode cX8_isOut 27 = .ok (.imul, 1) := by decide +kernel
theorem dX8_isOut_28 : decode cX8_isOut 28 = .ok (.iload_n 2, 1) := by decide +kernel
theorem dX8_isOut_29 : decode cX8_isOut 29 = .ok (.iadd, 1) := by decide +kernel
theorem dX8_isOut_30 : decode cX8_isOut 30 = .ok (.iaload, 1) := by decide +kernel
theorem dX8_isOut_31 : decode cX8_isOut 31 = .ok (.iadd, 1) := by decide +kernel
theorem dX8_isOut_32 : decode cX8_isOut 32 = .ok (.invokestatic 88, 3) := by decide +kernel
theorem dX8_isOut_35 : decode cX8_isOut 35 = .ok (.ifCond .ne 7, 3) := by decide +kernel
theorem dX8_isOut_38 : decode cX8_isOut 38 = .ok (.iconst 1, 1) := by decide +kernel
theorem dX8_isOut_39 : decode cX8_isOut 39 = .ok (.goto 4, 3) := by decide +kernel
theorem dX8_isOut_42 : decode cX8_isOut 42 = .ok (.iconst 0, 1) := by decide +kernel
theorem dX8_isOut_43 : decode cX8_isOut 43 = .ok (.ireturn, 1) := by decide +kernel
set_option maxRecDepth 20000 in
theorem ggX8_goal_X8_at : GoodIn wsX8_goal wsX8_at := goodIn_r _ [6] (by decide +kernel) (by decide +kernel)
set_option maxRecDepth 20000 in
theorem gX8_goal_X8_at : GoodIn wsX8_goal (va_wsS RX8 112 yX8_at wsX8_at) := goodIn_app (goodIn_of _ (by decide +kernel)) ggX8_goal_X8_at
theorem dX8_goal_0 : decode cX8_goal 0 = .ok (.iload_n 3, 1) := by decide +kernel
theorem dX8_goal_1 : decode cX8_goal 1 = .ok (.bipush 6, 2) := by decide +kernel
theorem dX8_goal_3 : decode cX8_goal 3 = .ok (.irem, 1) := by decide +kernel
theorem dX8_goal_4 : decode cX8_goal 4 = .ok (.aload_n 0, 1) := by decide +kernel
theorem dX8_goal_5 : decode cX8_goal 5 = .ok (.getfield 28, 3) := by decide +kernel
theorem dX8_goal_8 : decode cX8_goal 8 = .ok (.bipush 10, 2) := by decide +kernel
theorem dX8_goal_10 : decode cX8_goal 10 = .ok (.iload_n 1, 1) := by decide +kernel
theorem dX8_goal_11 : decode cX8_goal 11 = .ok (.imul, 1) := by decide +kernel
theorem dX8_goal_12 : decode cX8_goal 12 = .ok (.iload_n 2, 1) := by decide +kernel
theorem dX8_goal_13 : decode cX8_goal 13 = .ok (.iadd, 1) := by decide +kernel
theorem dX8_goal_14 : decode cX8_goal 14 = .ok (.iaload, 1) := by decide +kernel
theorem dX8_goal_15 : decode cX8_goal 15 = .ok (.iadd, 1) := by decide +kernel
theorem dX8_goal_16 : decode cX8_goal 16 = .ok (.iload_n 3, 1) := by decide +kernel
theorem dX8_goal_17 : decode cX8_goal 17 = .ok (.bipush 6, 2) := by decide +kernel
theorem dX8_goal_19 : decode cX8_goal 19 = .ok (.idiv, 1) := by decide +kernel
theorem dX8_goal_20 : decode cX8_goal 20 = .ok (.aload_n 0, 1) := by decide +kernel
theorem dX8_goal_21 : decode cX8_goal 21 = .ok (.getfield 31, 3) := by decide +kernel
theorem dX8_goal_24 : decode cX8_goal 24 = .ok (.bipush 10, 2) := by decide +kernel
theorem dX8_goal_26 : decode cX8_goal 26 = .ok (.iload_n 1, 1) := by decide +kernel
theorem dX8_goal_27 : decode cX8_goal 27 = .ok (.imul, 1) := by decide +kernel
theorem dX8_goal_28 : decode cX8_goal 28 = .ok (.iload_n 2, 1) := by decide +kernel
theorem dX8_goal_29 : decode cX8_goal 29 = .ok (.iadd, 1) := by decide +kernel
theorem dX8_goal_30 : decode cX8_goal 30 = .ok (.iaload, 1) := by decide +kernel
theorem dX8_goal_31 : decode cX8_goal 31 = .ok (.iadd, 1) := by decide +kernel
theorem dX8_goal_32 : decode cX8_goal 32 = .ok (.invokestatic 112, 3) := by decide +kernel
theorem dX8_goal_35 : decode cX8_goal 35 = .ok (.ireturn, 1) := by decide +kernel
set_option maxRecDepth 20000 in
theorem ggX8_isGranted_X8_isWithin : GoodIn wsX8_isGranted wsX8_isWithin := goodIn_r _ [7, 8, 9, 6, 10] (by decide +kernel) (by decide +kernel)
set_option maxRecDepth 20000 in
theorem gX8_isGranted_X8_isWithin : GoodIn wsX8_isGranted (va_wsS RX8 116 yX8_isWithin wsX8_isWithin) := goodIn_app (goodIn_of _ (by decide +kernel)) ggX8_isGranted_X8_isWithin
theorem dX8_isGranted_0 : decode cX8_isGranted 0 = .ok (.iconst 0, 1) := by decide +kernel
theorem dX8_isGranted_1 : decode cX8_isGranted 1 = .ok (.istore_n 3, 1) := by decide +kernel
theorem dX8_isGranted_2 : decode cX8_isGranted 2 = .ok (.iconst 4, 1) := by decide +kernel
theorem dX8_isGranted_3 : decode cX8_isGranted 3 = .ok (.iload_n 1, 1) := by decide +kernel
theorem dX8_isGranted_4 : decode cX8_isGranted 4 = .ok (.imul, 1) := by decide +kernel
theorem dX8_isGranted_5 : decode cX8_isGranted 5 = .ok (.istore 4, 2) := by decide +kernel
theorem dX8_isGranted_7 : decode cX8_isGranted 7 = .ok (.iload 4, 2) := by decide +kernel
theorem dX8_isGranted_9 : decode cX8_isGranted 9 = .ok (.iconst 4, 1) := by decide +kernel
theorem dX8_isGranted_10 : decode cX8_isGranted 10 = .ok (.iload_n 1, 1) := by decide +kernel
theorem dX8_isGranted_11 : decode cX8_isGranted 11 = .ok (.imul, 1) := by decide +kernel
theorem dX8_isGranted_12 : decode cX8_isGranted 12 = .ok (.aload_n 0, 1) := by decide +kernel
theorem dX8_isGranted_13 : decode cX8_isGranted 13 = .ok (.getfield 37, 3) := by decide +kernel
theorem dX8_isGranted_16 : decode cX8_isGranted 16 = .ok (.iload_n 1, 1) := by decide +kernel
theorem dX8_isGranted_17 : decode cX8_isGranted 17 = .ok (.iaload, 1) := by decide +kernel
theorem dX8_isGranted_18 : decode cX8_isGranted 18 = .ok (.iadd, 1) := by decide +kernel
theorem dX8_isGranted_19 : decode cX8_isGranted 19 = .ok (.if_icmp .ge 30, 3) := by decide +kernel
theorem dX8_isGranted_22 : decode cX8_isGranted 22 = .ok (.iload_n 3, 1) := by decide +kernel
theorem dX8_isGranted_23 : decode cX8_isGranted 23 = .ok (.iload_n 2, 1) := by decide +kernel
theorem dX8_isGranted_24 : decode cX8_isGranted 24 = .ok (.aload_n 0, 1) := by decide +kernel
theorem dX8_isGranted_25 : decode cX8_isGranted 25 = .ok (.getfield 40, 3) := by decide +kernel
theorem dX8_isGranted_28 : decode cX8_isGranted 28 = .ok (.iload 4, 2) := by decide +kernel
theorem dX8_isGranted_30 : decode cX8_isGranted 30 = .ok (.iaload, 1) := by decide +kernel
theorem dX8_isGranted_31 : decode cX8_isGranted 31 = .ok (.aload_n 0, 1) := by decide +kernel
theorem dX8_isGranted_32 : decode cX8_isGranted 32 = .ok (.getfield 43, 3) := by decide +kernel
theorem dX8_isGranted_35 : decode cX8_isGranted 35 = .ok (.iload 4, 2) := by decide +kernel
theorem dX8_isGranted_37 : decode cX8_isGranted 37 = .ok (.iaload, 1) := by decide +kernel
theorem dX8_isGranted_38 : decode cX8_isGranted 38 = .ok (.invokestatic 116, 3) := by decide +kernel
theorem dX8_isGranted_41 : decode cX8_isGranted 41 = .ok (.ior, 1) := by decide +kernel
theorem dX8_isGranted_42 : decode cX8_isGranted 42 = .ok (.istore_n 3, 1) := by decide +kernel
theorem dX8_isGranted_43 : decode cX8_isGranted 43 = .ok (.iinc 4 1, 3) := by decide +kernel
theorem dX8_isGranted_46 : decode cX8_isGranted 46 = .ok (.goto (-39), 3) := by decide +kernel
theorem dX8_isGranted_49 : decode cX8_isGranted 49 = .ok (.iload_n 3, 1) := by decide +kernel
theorem dX8_isGranted_50 : decode cX8_isGranted 50 = .ok (.ireturn, 1) := by decide +kernel
set_option maxRecDepth 20000 in
theorem ggX8_why_X8_isOut : GoodIn wsX8_why wsX8_isOut := goodIn_ca (goodIn_r _ [8, 9, 10, 11, 12, 7, 13, 14, 15, 16, 43, 44, 45, 46, 47, 48, 49, 50, 51, 52, 53, 54, 55, 56, 57, 58, 59, 60, 61, 62, 63, 64, 65, 66, 67, 68, 69, 70, 71, 72, 73, 74] (by decide +kernel) (by decide +kernel)) (goodIn_sub (fun _ h => List.mem_cons_of_mem _ (List.mem_append_right _ h)) (by decide +kernel))
set_option maxRecDepth 20000 in
theorem gX8_why_X8_isOut : GoodIn wsX8_why (wsV RX8 119 RX8 yX8_isOut wsX8_isOut) := goodIn_app (goodIn_of _ (by decide +kernel)) ggX8_why_X8_isOut
set_option maxRecDepth 20000 in
theorem ggX8_why_X8_goal : GoodIn wsX8_why wsX8_goal := goodIn_ca (goodIn_r _ [20, 9, 10, 21, 22, 7, 23, 43, 44, 45, 46, 47, 48, 49, 50, 51, 52, 53, 54, 55, 56, 57, 58, 59, 60, 61, 62, 63, 64, 65, 66, 67, 68, 69, 70, 71, 72, 73, 74] (by decide +kernel) (by decide +kernel)) (goodIn_sub (fun _ h => List.mem_cons_of_mem _ (List.mem_append_right _ h)) (by decide +kernel))
set_option maxRecDepth 20000 in
theorem gX8_why_X8_goal : GoodIn wsX8_why (wsV RX8 108 RX8 yX8_goal wsX8_goal) := goodIn_app (goodIn_of _ (by decide +kernel)) ggX8_why_X8_goal
set_option maxRecDepth 20000 in
theorem ggX8_why_X8_isGranted : GoodIn wsX8_why wsX8_isGranted := goodIn_ca (goodIn_r _ [27, 28, 29, 30, 31, 32, 7, 33, 14, 15, 16, 43, 44, 45, 46, 47, 48, 49, 50, 51, 52, 53, 54, 55, 56, 57, 58, 59, 60, 61, 62, 63, 64, 65, 66, 67, 68, 69, 70, 71, 72, 73, 74] (by decide +kernel) (by decide +kernel)) (goodIn_sub (fun _ h => List.mem_cons_of_mem _ (List.mem_append_right _ h)) (by decide +kernel))
set_option maxRecDepth 20000 in
theorem gX8_why_X8_isGranted : GoodIn wsX8_why (wsV RX8 122 RX8 yX8_isGranted wsX8_isGranted) := goodIn_app (goodIn_of _ (by decide +kernel)) ggX8_why_X8_isGranted
set_option maxRecDepth 20000 in
theorem ggX8_why_X8_stepped : GoodIn wsX8_why wsX8_stepped := goodIn_ca (goodIn_r _ [37, 38, 39, 1, 17, 18, 19, 7, 20, 9, 10, 21, 22, 23, 43, 44, 45, 46, 47, 48, 49, 50, 51, 52, 53, 54, 55, 56, 57, 58, 59, 60, 61, 62, 63, 64, 65, 66, 67, 68, 69, 70, 71, 72, 73, 74] (by decide +kernel) (by decide +kernel)) (goodIn_sub (fun _ h => List.mem_cons_of_mem _ (List.mem_append_right _ h)) (by decide +kernel))
set_option maxRecDepth 20000 in
theorem gX8_why_X8_stepped : GoodIn wsX8_why (wsV RX8 125 RX8 yX8_stepped wsX8_stepped) := goodIn_app (goodIn_of _ (by decide +kernel)) ggX8_why_X8_stepped
set_option maxRecDepth 20000 in
theorem ggX8_why_X8_isValue : GoodIn wsX8_why wsX8_isValue := goodIn_r _ [42, 14, 15, 7, 16] (by decide +kernel) (by decide +kernel)
set_option maxRecDepth 20000 in
theorem gX8_why_X8_isValue : GoodIn wsX8_why (va_wsS RX8 128 yX8_isValue wsX8_isValue) := goodIn_app (goodIn_of _ (by decide +kernel)) ggX8_why_X8_isValue
theorem dX8_why_0 : decode cX8_why 0 = .ok (.iconst 0, 1) := by decide +kernel
theorem dX8_why_1 : decode cX8_why 1 = .ok (.istore_n 3, 1) := by decide +kernel
theorem dX8_why_2 : decode cX8_why 2 = .ok (.iload_n 3, 1) := by decide +kernel
theorem dX8_why_3 : decode cX8_why 3 = .ok (.bipush 48, 2) := by decide +kernel
theorem dX8_why_5 : decode cX8_why 5 = .ok (.if_icmp .ge 21, 3) := by decide +kernel
theorem dX8_why_8 : decode cX8_why 8 = .ok (.aload_n 0, 1) := by decide +kernel
theorem dX8_why_9 : decode cX8_why 9 = .ok (.getfield 13, 3) := by decide +kernel
theorem dX8_why_12 : decode cX8_why 12 = .ok (.iload_n 3, 1) := by decide +kernel
theorem dX8_why_13 : decode cX8_why 13 = .ok (.aload_n 0, 1) := by decide +kernel
theorem dX8_why_14 : decode cX8_why 14 = .ok (.getfield 9, 3) := by decide +kernel
theorem dX8_why_17 : decode cX8_why 17 = .ok (.iload_n 3, 1) := by decide +kernel
theorem dX8_why_18 : decode cX8_why 18 = .ok (.iaload, 1) := by decide +kernel
theorem dX8_why_19 : decode cX8_why 19 = .ok (.iastore, 1) := by decide +kernel
theorem dX8_why_20 : decode cX8_why 20 = .ok (.iinc 3 1, 3) := by decide +kernel
theorem dX8_why_23 : decode cX8_why 23 = .ok (.goto (-21), 3) := by decide +kernel
theorem dX8_why_26 : decode cX8_why 26 = .ok (.iconst 0, 1) := by decide +kernel
theorem dX8_why_27 : decode cX8_why 27 = .ok (.istore_n 3, 1) := by decide +kernel
theorem dX8_why_28 : decode cX8_why 28 = .ok (.iload_n 3, 1) := by decide +kernel
theorem dX8_why_29 : decode cX8_why 29 = .ok (.aload_n 0, 1) := by decide +kernel
theorem dX8_why_30 : decode cX8_why 30 = .ok (.getfield 22, 3) := by decide +kernel
theorem dX8_why_33 : decode cX8_why 33 = .ok (.iload_n 1, 1) := by decide +kernel
theorem dX8_why_34 : decode cX8_why 34 = .ok (.iaload, 1) := by decide +kernel
theorem dX8_why_35 : decode cX8_why 35 = .ok (.if_icmp .ge 74, 3) := by decide +kernel
theorem dX8_why_38 : decode cX8_why 38 = .ok (.aload_n 0, 1) := by decide +kernel
theorem dX8_why_39 : decode cX8_why 39 = .ok (.iload_n 1, 1) := by decide +kernel
theorem dX8_why_40 : decode cX8_why 40 = .ok (.iload_n 3, 1) := by decide +kernel
theorem dX8_why_41 : decode cX8_why 41 = .ok (.iload_n 2, 1) := by decide +kernel
theorem dX8_why_42 : decode cX8_why 42 = .ok (.invokevirtual 119, 3) := by decide +kernel
theorem dX8_why_45 : decode cX8_why 45 = .ok (.ifCond .eq 6, 3) := by decide +kernel
theorem dX8_why_48 : decode cX8_why 48 = .ok (.bipush 111, 2) := by decide +kernel
theorem dX8_why_50 : decode cX8_why 50 = .ok (.ireturn, 1) := by decide +kernel
theorem dX8_why_51 : decode cX8_why 51 = .ok (.aload_n 0, 1) := by decide +kernel
theorem dX8_why_52 : decode cX8_why 52 = .ok (.iload_n 1, 1) := by decide +kernel
theorem dX8_why_53 : decode cX8_why 53 = .ok (.aload_n 0, 1) := by decide +kernel
theorem dX8_why_54 : decode cX8_why 54 = .ok (.iload_n 1, 1) := by decide +kernel
theorem dX8_why_55 : decode cX8_why 55 = .ok (.iload_n 3, 1) := by decide +kernel
theorem dX8_why_56 : decode cX8_why 56 = .ok (.iload_n 2, 1) := by decide +kernel
theorem dX8_why_57 : decode cX8_why 57 = .ok (.invokevirtual 108, 3) := by decide +kernel
theorem dX8_why_60 : decode cX8_why 60 = .ok (.invokevirtual 122, 3) := by decide +kernel
theorem dX8_why_63 : decode cX8_why 63 = .ok (.ifCond .ne 6, 3) := by decide +kernel
theorem dX8_why_66 : decode cX8_why 66 = .ok (.bipush 103, 2) := by decide +kernel
theorem dX8_why_68 : decode cX8_why 68 = .ok (.ireturn, 1) := by decide +kernel
theorem dX8_why_69 : decode cX8_why 69 = .ok (.aload_n 0, 1) := by decide +kernel
theorem dX8_why_70 : decode cX8_why 70 = .ok (.iload_n 1, 1) := by decide +kernel
theorem dX8_why_71 : decode cX8_why 71 = .ok (.iload_n 3, 1) := by decide +kernel
theorem dX8_why_72 : decode cX8_why 72 = .ok (.iload_n 2, 1) := by decide +kernel
theorem dX8_why_73 : decode cX8_why 73 = .ok (.invokevirtual 125, 3) := by decide +kernel
theorem dX8_why_76 : decode cX8_why 76 = .ok (.istore 4, 2) := by decide +kernel
theorem dX8_why_78 : decode cX8_why 78 = .ok (.iload 4, 2) := by decide +kernel
theorem dX8_why_80 : decode cX8_why 80 = .ok (.invokestatic 128, 3) := by decide +kernel
theorem dX8_why_83 : decode cX8_why 83 = .ok (.ifCond .ne 6, 3) := by decide +kernel
theorem dX8_why_86 : decode cX8_why 86 = .ok (.bipush 118, 2) := by decide +kernel
theorem dX8_why_88 : decode cX8_why 88 = .ok (.ireturn, 1) := by decide +kernel
theorem dX8_why_89 : decode cX8_why 89 = .ok (.aload_n 0, 1) := by decide +kernel
theorem dX8_why_90 : decode cX8_why 90 = .ok (.getfield 13, 3) := by decide +kernel
theorem dX8_why_93 : decode cX8_why 93 = .ok (.aload_n 0, 1) := by decide +kernel
theorem dX8_why_94 : decode cX8_why 94 = .ok (.iload_n 1, 1) := by decide +kernel
theorem dX8_why_95 : decode cX8_why 95 = .ok (.iload_n 3, 1) := by decide +kernel
theorem dX8_why_96 : decode cX8_why 96 = .ok (.iload_n 2, 1) := by decide +kernel
theorem dX8_why_97 : decode cX8_why 97 = .ok (.invokevirtual 108, 3) := by decide +kernel
theorem dX8_why_100 : decode cX8_why 100 = .ok (.iload 4, 2) := by decide +kernel
theorem dX8_why_102 : decode cX8_why 102 = .ok (.iastore, 1) := by decide +kernel
theorem dX8_why_103 : decode cX8_why 103 = .ok (.iinc 3 1, 3) := by decide +kernel
theorem dX8_why_106 : decode cX8_why 106 = .ok (.goto (-78), 3) := by decide +kernel
theorem dX8_why_109 : decode cX8_why 109 = .ok (.bipush 45, 2) := by decide +kernel
theorem dX8_why_111 : decode cX8_why 111 = .ok (.ireturn, 1) := by decide +kernel
set_option maxRecDepth 20000 in
theorem ggX8_runs_X8_stepped : GoodIn wsX8_runs wsX8_stepped := goodIn_ca (goodIn_r _ [8, 9, 10, 1, 11, 12, 13, 7, 14, 15, 16, 17, 18, 19, 29, 30, 31, 32, 33, 34, 35, 36, 37, 38, 39, 40, 41, 42, 43, 44, 45, 46, 47, 48, 49, 50, 51, 52, 53, 54, 55, 56, 57, 58, 59, 60] (by decide +kernel) (by decide +kernel)) (goodIn_sub (fun _ h => List.mem_cons_of_mem _ (List.mem_append_right _ h)) (by decide +kernel))
set_option maxRecDepth 20000 in
theorem gX8_runs_X8_stepped : GoodIn wsX8_runs (wsV RX8 125 RX8 yX8_stepped wsX8_stepped) := goodIn_app (goodIn_of _ (by decide +kernel)) ggX8_runs_X8_stepped
set_option maxRecDepth 20000 in
theorem ggX8_runs_X8_goal : GoodIn wsX8_runs wsX8_goal := goodIn_ca (goodIn_r _ [14, 15, 16, 17, 18, 7, 19, 29, 30, 31, 32, 33, 34, 35, 36, 37, 38, 39, 40, 41, 42, 43, 44, 45, 46, 47, 48, 49, 50, 51, 52, 53, 54, 55, 56, 57, 58, 59, 60] (by decide +kernel) (by decide +kernel)) (goodIn_sub (fun _ h => List.mem_cons_of_mem _ (List.mem_append_right _ h)) (by decide +kernel))
set_option maxRecDepth 20000 in
theorem gX8_runs_X8_goal : GoodIn wsX8_runs (wsV RX8 108 RX8 yX8_goal wsX8_goal) := goodIn_app (goodIn_of _ (by decide +kernel)) ggX8_runs_X8_goal
set_option maxRecDepth 20000 in
theorem ggX8_runs_X8_becomes : GoodIn wsX8_runs wsX8_becomes := goodIn_ca (goodIn_r _ [23, 2, 24, 25, 26, 27, 28, 29, 30, 31, 32, 33, 34, 35, 36, 37, 38, 39, 40, 41, 42, 43, 44, 45, 46, 47, 48, 49, 50, 51, 52, 53, 54, 55, 56, 57, 58, 59, 60] (by decide +kernel) (by decide +kernel)) (goodIn_sub (fun _ h => List.mem_cons_of_mem _ (List.mem_append_right _ h)) (by decide +kernel))
set_option maxRecDepth 20000 in
theorem gX8_runs_X8_becomes : GoodIn wsX8_runs (wsV RX8 132 RX8 yX8_becomes wsX8_becomes) := goodIn_app (goodIn_of _ (by decide +kernel)) ggX8_runs_X8_becomes
theorem dX8_runs_0 : decode cX8_runs 0 = .ok (.iconst 0, 1) := by decide +kernel

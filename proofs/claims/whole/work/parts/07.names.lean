theorem dX8_runs_1 : decode cX8_runs 1 = .ok (.istore 4, 2) := by decide +kernel
theorem dX8_runs_3 : decode cX8_runs 3 = .ok (.iload 4, 2) := by decide +kernel
theorem dX8_runs_5 : decode cX8_runs 5 = .ok (.bipush 48, 2) := by decide +kernel
theorem dX8_runs_7 : decode cX8_runs 7 = .ok (.if_icmp .ge 23, 3) := by decide +kernel
theorem dX8_runs_10 : decode cX8_runs 10 = .ok (.aload_n 0, 1) := by decide +kernel
theorem dX8_runs_11 : decode cX8_runs 11 = .ok (.getfield 13, 3) := by decide +kernel
theorem dX8_runs_14 : decode cX8_runs 14 = .ok (.iload 4, 2) := by decide +kernel
theorem dX8_runs_16 : decode cX8_runs 16 = .ok (.aload_n 0, 1) := by decide +kernel
theorem dX8_runs_17 : decode cX8_runs 17 = .ok (.getfield 9, 3) := by decide +kernel
theorem dX8_runs_20 : decode cX8_runs 20 = .ok (.iload 4, 2) := by decide +kernel
theorem dX8_runs_22 : decode cX8_runs 22 = .ok (.iaload, 1) := by decide +kernel
theorem dX8_runs_23 : decode cX8_runs 23 = .ok (.iastore, 1) := by decide +kernel
theorem dX8_runs_24 : decode cX8_runs 24 = .ok (.iinc 4 1, 3) := by decide +kernel
theorem dX8_runs_27 : decode cX8_runs 27 = .ok (.goto (-24), 3) := by decide +kernel
theorem dX8_runs_30 : decode cX8_runs 30 = .ok (.iconst 0, 1) := by decide +kernel
theorem dX8_runs_31 : decode cX8_runs 31 = .ok (.istore 4, 2) := by decide +kernel
theorem dX8_runs_33 : decode cX8_runs 33 = .ok (.iload 4, 2) := by decide +kernel
theorem dX8_runs_35 : decode cX8_runs 35 = .ok (.aload_n 0, 1) := by decide +kernel
theorem dX8_runs_36 : decode cX8_runs 36 = .ok (.getfield 22, 3) := by decide +kernel
theorem dX8_runs_39 : decode cX8_runs 39 = .ok (.iload_n 1, 1) := by decide +kernel
theorem dX8_runs_40 : decode cX8_runs 40 = .ok (.iaload, 1) := by decide +kernel
theorem dX8_runs_41 : decode cX8_runs 41 = .ok (.if_icmp .ge 50, 3) := by decide +kernel
theorem dX8_runs_44 : decode cX8_runs 44 = .ok (.aload_n 0, 1) := by decide +kernel
theorem dX8_runs_45 : decode cX8_runs 45 = .ok (.iload_n 1, 1) := by decide +kernel
theorem dX8_runs_46 : decode cX8_runs 46 = .ok (.iload 4, 2) := by decide +kernel
theorem dX8_runs_48 : decode cX8_runs 48 = .ok (.iload_n 2, 1) := by decide +kernel
theorem dX8_runs_49 : decode cX8_runs 49 = .ok (.invokevirtual 125, 3) := by decide +kernel
theorem dX8_runs_52 : decode cX8_runs 52 = .ok (.istore 5, 2) := by decide +kernel
theorem dX8_runs_54 : decode cX8_runs 54 = .ok (.aload_n 0, 1) := by decide +kernel
theorem dX8_runs_55 : decode cX8_runs 55 = .ok (.getfield 13, 3) := by decide +kernel
theorem dX8_runs_58 : decode cX8_runs 58 = .ok (.aload_n 0, 1) := by decide +kernel
theorem dX8_runs_59 : decode cX8_runs 59 = .ok (.iload_n 1, 1) := by decide +kernel
theorem dX8_runs_60 : decode cX8_runs 60 = .ok (.iload 4, 2) := by decide +kernel
theorem dX8_runs_62 : decode cX8_runs 62 = .ok (.iload_n 2, 1) := by decide +kernel
theorem dX8_runs_63 : decode cX8_runs 63 = .ok (.invokevirtual 108, 3) := by decide +kernel
theorem dX8_runs_66 : decode cX8_runs 66 = .ok (.iload 5, 2) := by decide +kernel
theorem dX8_runs_68 : decode cX8_runs 68 = .ok (.iastore, 1) := by decide +kernel
theorem dX8_runs_69 : decode cX8_runs 69 = .ok (.aload_n 0, 1) := by decide +kernel
theorem dX8_runs_70 : decode cX8_runs 70 = .ok (.aload_n 0, 1) := by decide +kernel
theorem dX8_runs_71 : decode cX8_runs 71 = .ok (.iload_n 1, 1) := by decide +kernel
theorem dX8_runs_72 : decode cX8_runs 72 = .ok (.iload 4, 2) := by decide +kernel
theorem dX8_runs_74 : decode cX8_runs 74 = .ok (.iload_n 2, 1) := by decide +kernel
theorem dX8_runs_75 : decode cX8_runs 75 = .ok (.invokevirtual 108, 3) := by decide +kernel
theorem dX8_runs_78 : decode cX8_runs 78 = .ok (.iload 5, 2) := by decide +kernel
theorem dX8_runs_80 : decode cX8_runs 80 = .ok (.iload_n 1, 1) := by decide +kernel
theorem dX8_runs_81 : decode cX8_runs 81 = .ok (.iload_n 3, 1) := by decide +kernel
theorem dX8_runs_82 : decode cX8_runs 82 = .ok (.invokevirtual 132, 3) := by decide +kernel
theorem dX8_runs_85 : decode cX8_runs 85 = .ok (.iinc 4 1, 3) := by decide +kernel
theorem dX8_runs_88 : decode cX8_runs 88 = .ok (.goto (-55), 3) := by decide +kernel
theorem dX8_runs_91 : decode cX8_runs 91 = .ok (.return_, 1) := by decide +kernel
set_option maxRecDepth 20000 in
theorem ggX8_ruled_X8_isWithin : GoodIn wsX8_ruled wsX8_isWithin := goodIn_r _ [8, 9, 10, 7, 11] (by decide +kernel) (by decide +kernel)
set_option maxRecDepth 20000 in
theorem gX8_ruled_X8_isWithin : GoodIn wsX8_ruled (va_wsS RX8 116 yX8_isWithin wsX8_isWithin) := goodIn_app (goodIn_of _ (by decide +kernel)) ggX8_ruled_X8_isWithin
theorem dX8_ruled_0 : decode cX8_ruled 0 = .ok (.iconst (-1), 1) := by decide +kernel
theorem dX8_ruled_1 : decode cX8_ruled 1 = .ok (.istore_n 2, 1) := by decide +kernel
theorem dX8_ruled_2 : decode cX8_ruled 2 = .ok (.iconst 0, 1) := by decide +kernel
theorem dX8_ruled_3 : decode cX8_ruled 3 = .ok (.istore_n 3, 1) := by decide +kernel
theorem dX8_ruled_4 : decode cX8_ruled 4 = .ok (.iload_n 3, 1) := by decide +kernel
theorem dX8_ruled_5 : decode cX8_ruled 5 = .ok (.aload_n 0, 1) := by decide +kernel
theorem dX8_ruled_6 : decode cX8_ruled 6 = .ok (.getfield 136, 3) := by decide +kernel
theorem dX8_ruled_9 : decode cX8_ruled 9 = .ok (.if_icmp .ge 53, 3) := by decide +kernel
theorem dX8_ruled_12 : decode cX8_ruled 12 = .ok (.iload_n 1, 1) := by decide +kernel
theorem dX8_ruled_13 : decode cX8_ruled 13 = .ok (.aload_n 0, 1) := by decide +kernel
theorem dX8_ruled_14 : decode cX8_ruled 14 = .ok (.getfield 46, 3) := by decide +kernel
theorem dX8_ruled_17 : decode cX8_ruled 17 = .ok (.iload_n 3, 1) := by decide +kernel
theorem dX8_ruled_18 : decode cX8_ruled 18 = .ok (.iaload, 1) := by decide +kernel
theorem dX8_ruled_19 : decode cX8_ruled 19 = .ok (.aload_n 0, 1) := by decide +kernel
theorem dX8_ruled_20 : decode cX8_ruled 20 = .ok (.getfield 49, 3) := by decide +kernel
theorem dX8_ruled_23 : decode cX8_ruled 23 = .ok (.iload_n 3, 1) := by decide +kernel
theorem dX8_ruled_24 : decode cX8_ruled 24 = .ok (.iaload, 1) := by decide +kernel
theorem dX8_ruled_25 : decode cX8_ruled 25 = .ok (.invokestatic 116, 3) := by decide +kernel
theorem dX8_ruled_28 : decode cX8_ruled 28 = .ok (.ifCond .eq 26, 3) := by decide +kernel
theorem dX8_ruled_31 : decode cX8_ruled 31 = .ok (.iload_n 2, 1) := by decide +kernel
theorem dX8_ruled_32 : decode cX8_ruled 32 = .ok (.ifCond .lt 18, 3) := by decide +kernel
theorem dX8_ruled_35 : decode cX8_ruled 35 = .ok (.aload_n 0, 1) := by decide +kernel
theorem dX8_ruled_36 : decode cX8_ruled 36 = .ok (.getfield 55, 3) := by decide +kernel
theorem dX8_ruled_39 : decode cX8_ruled 39 = .ok (.iload_n 3, 1) := by decide +kernel
theorem dX8_ruled_40 : decode cX8_ruled 40 = .ok (.iaload, 1) := by decide +kernel
theorem dX8_ruled_41 : decode cX8_ruled 41 = .ok (.aload_n 0, 1) := by decide +kernel
theorem dX8_ruled_42 : decode cX8_ruled 42 = .ok (.getfield 55, 3) := by decide +kernel
theorem dX8_ruled_45 : decode cX8_ruled 45 = .ok (.iload_n 2, 1) := by decide +kernel
theorem dX8_ruled_46 : decode cX8_ruled 46 = .ok (.iaload, 1) := by decide +kernel
theorem dX8_ruled_47 : decode cX8_ruled 47 = .ok (.if_icmp .le 7, 3) := by decide +kernel
theorem dX8_ruled_50 : decode cX8_ruled 50 = .ok (.iload_n 3, 1) := by decide +kernel
theorem dX8_ruled_51 : decode cX8_ruled 51 = .ok (.goto 4, 3) := by decide +kernel
theorem dX8_ruled_54 : decode cX8_ruled 54 = .ok (.iload_n 2, 1) := by decide +kernel
theorem dX8_ruled_55 : decode cX8_ruled 55 = .ok (.istore_n 2, 1) := by decide +kernel
theorem dX8_ruled_56 : decode cX8_ruled 56 = .ok (.iinc 3 1, 3) := by decide +kernel
theorem dX8_ruled_59 : decode cX8_ruled 59 = .ok (.goto (-55), 3) := by decide +kernel
theorem dX8_ruled_62 : decode cX8_ruled 62 = .ok (.iload_n 2, 1) := by decide +kernel
theorem dX8_ruled_63 : decode cX8_ruled 63 = .ok (.ireturn, 1) := by decide +kernel
theorem dX8_records_0 : decode cX8_records 0 = .ok (.aload_n 0, 1) := by decide +kernel
theorem dX8_records_1 : decode cX8_records 1 = .ok (.getfield 77, 3) := by decide +kernel
theorem dX8_records_4 : decode cX8_records 4 = .ok (.ifCond .lt 89, 3) := by decide +kernel
theorem dX8_records_7 : decode cX8_records 7 = .ok (.bipush 10, 2) := by decide +kernel
theorem dX8_records_9 : decode cX8_records 9 = .ok (.aload_n 0, 1) := by decide +kernel
theorem dX8_records_10 : decode cX8_records 10 = .ok (.getfield 77, 3) := by decide +kernel
theorem dX8_records_13 : decode cX8_records 13 = .ok (.imul, 1) := by decide +kernel
theorem dX8_records_14 : decode cX8_records 14 = .ok (.aload_n 0, 1) := by decide +kernel
theorem dX8_records_15 : decode cX8_records 15 = .ok (.getfield 22, 3) := by decide +kernel
theorem dX8_records_18 : decode cX8_records 18 = .ok (.aload_n 0, 1) := by decide +kernel
theorem dX8_records_19 : decode cX8_records 19 = .ok (.getfield 77, 3) := by decide +kernel
theorem dX8_records_22 : decode cX8_records 22 = .ok (.iaload, 1) := by decide +kernel
theorem dX8_records_23 : decode cX8_records 23 = .ok (.iadd, 1) := by decide +kernel
theorem dX8_records_24 : decode cX8_records 24 = .ok (.istore 4, 2) := by decide +kernel
theorem dX8_records_26 : decode cX8_records 26 = .ok (.aload_n 0, 1) := by decide +kernel
theorem dX8_records_27 : decode cX8_records 27 = .ok (.getfield 25, 3) := by decide +kernel
theorem dX8_records_30 : decode cX8_records 30 = .ok (.iload 4, 2) := by decide +kernel
theorem dX8_records_32 : decode cX8_records 32 = .ok (.iload_n 1, 1) := by decide +kernel
theorem dX8_records_33 : decode cX8_records 33 = .ok (.iastore, 1) := by decide +kernel
theorem dX8_records_34 : decode cX8_records 34 = .ok (.aload_n 0, 1) := by decide +kernel
theorem dX8_records_35 : decode cX8_records 35 = .ok (.getfield 28, 3) := by decide +kernel
theorem dX8_records_38 : decode cX8_records 38 = .ok (.iload 4, 2) := by decide +kernel
theorem dX8_records_40 : decode cX8_records 40 = .ok (.iload_n 2, 1) := by decide +kernel
theorem dX8_records_41 : decode cX8_records 41 = .ok (.bipush 6, 2) := by decide +kernel
theorem dX8_records_43 : decode cX8_records 43 = .ok (.irem, 1) := by decide +kernel
theorem dX8_records_44 : decode cX8_records 44 = .ok (.aload_n 0, 1) := by decide +kernel
theorem dX8_records_45 : decode cX8_records 45 = .ok (.getfield 139, 3) := by decide +kernel
theorem dX8_records_48 : decode cX8_records 48 = .ok (.bipush 6, 2) := by decide +kernel
theorem dX8_records_50 : decode cX8_records 50 = .ok (.irem, 1) := by decide +kernel
theorem dX8_records_51 : decode cX8_records 51 = .ok (.isub, 1) := by decide +kernel
theorem dX8_records_52 : decode cX8_records 52 = .ok (.iastore, 1) := by decide +kernel
theorem dX8_records_53 : decode cX8_records 53 = .ok (.aload_n 0, 1) := by decide +kernel
theorem dX8_records_54 : decode cX8_records 54 = .ok (.getfield 31, 3) := by decide +kernel
theorem dX8_records_57 : decode cX8_records 57 = .ok (.iload 4, 2) := by decide +kernel
theorem dX8_records_59 : decode cX8_records 59 = .ok (.iload_n 2, 1) := by decide +kernel
theorem dX8_records_60 : decode cX8_records 60 = .ok (.bipush 6, 2) := by decide +kernel
theorem dX8_records_62 : decode cX8_records 62 = .ok (.idiv, 1) := by decide +kernel
theorem dX8_records_63 : decode cX8_records 63 = .ok (.aload_n 0, 1) := by decide +kernel
theorem dX8_records_64 : decode cX8_records 64 = .ok (.getfield 139, 3) := by decide +kernel
theorem dX8_records_67 : decode cX8_records 67 = .ok (.bipush 6, 2) := by decide +kernel
theorem dX8_records_69 : decode cX8_records 69 = .ok (.idiv, 1) := by decide +kernel
theorem dX8_records_70 : decode cX8_records 70 = .ok (.isub, 1) := by decide +kernel
theorem dX8_records_71 : decode cX8_records 71 = .ok (.iastore, 1) := by decide +kernel
theorem dX8_records_72 : decode cX8_records 72 = .ok (.aload_n 0, 1) := by decide +kernel
theorem dX8_records_73 : decode cX8_records 73 = .ok (.getfield 34, 3) := by decide +kernel
theorem dX8_records_76 : decode cX8_records 76 = .ok (.iload 4, 2) := by decide +kernel
theorem dX8_records_78 : decode cX8_records 78 = .ok (.iload_n 3, 1) := by decide +kernel
theorem dX8_records_79 : decode cX8_records 79 = .ok (.iastore, 1) := by decide +kernel
theorem dX8_records_80 : decode cX8_records 80 = .ok (.aload_n 0, 1) := by decide +kernel
theorem dX8_records_81 : decode cX8_records 81 = .ok (.getfield 22, 3) := by decide +kernel
theorem dX8_records_84 : decode cX8_records 84 = .ok (.aload_n 0, 1) := by decide +kernel
theorem dX8_records_85 : decode cX8_records 85 = .ok (.getfield 77, 3) := by decide +kernel
theorem dX8_records_88 : decode cX8_records 88 = .ok (.dup2, 1) := by decide +kernel
theorem dX8_records_89 : decode cX8_records 89 = .ok (.iaload, 1) := by decide +kernel
theorem dX8_records_90 : decode cX8_records 90 = .ok (.iconst 1, 1) := by decide +kernel
theorem dX8_records_91 : decode cX8_records 91 = .ok (.iadd, 1) := by decide +kernel
theorem dX8_records_92 : decode cX8_records 92 = .ok (.iastore, 1) := by decide +kernel
theorem dX8_records_93 : decode cX8_records 93 = .ok (.return_, 1) := by decide +kernel
set_option maxRecDepth 20000 in
theorem ggX8_byHand_X8_records : GoodIn wsX8_byHand wsX8_records := goodIn_ca (goodIn_r _ [8, 2, 3, 9, 10, 11, 12, 13, 93, 94, 95, 96, 97, 98, 99, 100, 101, 102, 103, 104, 105, 106, 107, 108, 109, 110, 111, 112, 113, 114, 115, 116, 117, 118, 119, 120, 121, 122, 123, 124] (by decide +kernel) (by decide +kernel)) (goodIn_sub (fun _ h => List.mem_cons_of_mem _ (List.mem_append_right _ h)) (by decide +kernel))
set_option maxRecDepth 20000 in
theorem gX8_byHand_X8_records : GoodIn wsX8_byHand (wsV RX8 142 RX8 yX8_records wsX8_records) := goodIn_app (goodIn_of _ (by decide +kernel)) ggX8_byHand_X8_records
set_option maxRecDepth 20000 in
theorem ggX8_byHand_X8_becomes : GoodIn wsX8_byHand wsX8_becomes := goodIn_ca (goodIn_r _ [17, 18, 19, 1, 20, 21, 22, 93, 94, 95, 96, 97, 98, 99, 100, 101, 102, 103, 104, 105, 106, 107, 108, 109, 110, 111, 112, 113, 114, 115, 116, 117, 118, 119, 120, 121, 122, 123, 124] (by decide +kernel) (by decide +kernel)) (goodIn_sub (fun _ h => List.mem_cons_of_mem _ (List.mem_append_right _ h)) (by decide +kernel))
set_option maxRecDepth 20000 in
theorem gX8_byHand_X8_becomes : GoodIn wsX8_byHand (wsV RX8 132 RX8 yX8_becomes wsX8_becomes) := goodIn_app (goodIn_of _ (by decide +kernel)) ggX8_byHand_X8_becomes
set_option maxRecDepth 20000 in
theorem ggX8_byHand_X8_ends : GoodIn wsX8_byHand wsX8_ends := goodIn_ca (goodIn_r _ [26, 27, 28, 1, 29, 30, 31, 7, 32, 19, 22, 33, 2, 34, 35, 36, 37, 38, 39, 40, 41, 42, 43, 44, 45, 46, 47, 48, 49, 50, 51, 52, 53, 18, 3, 54, 55, 56, 57, 10, 12, 58, 59, 60, 61, 62, 63, 64, 65, 66, 67, 68, 69, 70, 71, 72, 73, 74, 75, 76, 77, 78, 9, 13, 79, 80, 81, 82, 83, 84, 85, 14, 15, 16, 17, 20, 21, 86, 87, 88, 89, 90, 91, 92, 93, 94, 95, 96, 97, 98, 99, 100, 101, 102, 103, 104, 105, 106, 107, 108, 109, 110, 111, 112, 113, 114, 115, 116, 117, 118, 119, 120, 121, 122, 123, 124] (by decide +kernel) (by decide +kernel)) (goodIn_sub (fun _ h => List.mem_cons_of_mem _ (List.mem_append_right _ h)) (by decide +kernel))
set_option maxRecDepth 20000 in
theorem gX8_byHand_X8_ends : GoodIn wsX8_byHand (wsV RX8 146 RX8 yX8_ends wsX8_ends) := goodIn_app (goodIn_of _ (by decide +kernel)) ggX8_byHand_X8_ends
theorem dX8_byHand_0 : decode cX8_byHand 0 = .ok (.aload_n 0, 1) := by decide +kernel
theorem dX8_byHand_1 : decode cX8_byHand 1 = .ok (.iload_n 1, 1) := by decide +kernel
theorem dX8_byHand_2 : decode cX8_byHand 2 = .ok (.iload_n 2, 1) := by decide +kernel
theorem dX8_byHand_3 : decode cX8_byHand 3 = .ok (.iload 4, 2) := by decide +kernel
theorem dX8_byHand_5 : decode cX8_byHand 5 = .ok (.invokevirtual 142, 3) := by decide +kernel
theorem dX8_byHand_8 : decode cX8_byHand 8 = .ok (.aload_n 0, 1) := by decide +kernel
theorem dX8_byHand_9 : decode cX8_byHand 9 = .ok (.getfield 99, 3) := by decide +kernel
theorem dX8_byHand_12 : decode cX8_byHand 12 = .ok (.istore 5, 2) := by decide +kernel
theorem dX8_byHand_14 : decode cX8_byHand 14 = .ok (.aload_n 0, 1) := by decide +kernel
theorem dX8_byHand_15 : decode cX8_byHand 15 = .ok (.iload_n 2, 1) := by decide +kernel
theorem dX8_byHand_16 : decode cX8_byHand 16 = .ok (.iload_n 3, 1) := by decide +kernel
theorem dX8_byHand_17 : decode cX8_byHand 17 = .ok (.iconst (-1), 1) := by decide +kernel
theorem dX8_byHand_18 : decode cX8_byHand 18 = .ok (.iconst 0, 1) := by decide +kernel
theorem dX8_byHand_19 : decode cX8_byHand 19 = .ok (.invokevirtual 132, 3) := by decide +kernel
theorem dX8_byHand_22 : decode cX8_byHand 22 = .ok (.aload_n 0, 1) := by decide +kernel
theorem dX8_byHand_23 : decode cX8_byHand 23 = .ok (.iload 5, 2) := by decide +kernel
theorem dX8_byHand_25 : decode cX8_byHand 25 = .ok (.invokevirtual 146, 3) := by decide +kernel
theorem dX8_byHand_28 : decode cX8_byHand 28 = .ok (.istore 6, 2) := by decide +kernel
theorem dX8_byHand_30 : decode cX8_byHand 30 = .ok (.aload_n 0, 1) := by decide +kernel
theorem dX8_byHand_31 : decode cX8_byHand 31 = .ok (.aload_n 0, 1) := by decide +kernel
theorem dX8_byHand_32 : decode cX8_byHand 32 = .ok (.getfield 77, 3) := by decide +kernel
theorem dX8_byHand_35 : decode cX8_byHand 35 = .ok (.ifCond .lt 21, 3) := by decide +kernel
theorem dX8_byHand_38 : decode cX8_byHand 38 = .ok (.aload_n 0, 1) := by decide +kernel
theorem dX8_byHand_39 : decode cX8_byHand 39 = .ok (.getfield 22, 3) := by decide +kernel
theorem dX8_byHand_42 : decode cX8_byHand 42 = .ok (.aload_n 0, 1) := by decide +kernel
theorem dX8_byHand_43 : decode cX8_byHand 43 = .ok (.getfield 77, 3) := by decide +kernel
theorem dX8_byHand_46 : decode cX8_byHand 46 = .ok (.iaload, 1) := by decide +kernel
theorem dX8_byHand_47 : decode cX8_byHand 47 = .ok (.bipush 10, 2) := by decide +kernel
theorem dX8_byHand_49 : decode cX8_byHand 49 = .ok (.if_icmp .ne 7, 3) := by decide +kernel
theorem dX8_byHand_52 : decode cX8_byHand 52 = .ok (.iconst (-1), 1) := by decide +kernel
theorem dX8_byHand_53 : decode cX8_byHand 53 = .ok (.goto 7, 3) := by decide +kernel
theorem dX8_byHand_56 : decode cX8_byHand 56 = .ok (.aload_n 0, 1) := by decide +kernel
theorem dX8_byHand_57 : decode cX8_byHand 57 = .ok (.getfield 77, 3) := by decide +kernel
theorem dX8_byHand_60 : decode cX8_byHand 60 = .ok (.putfield 77, 3) := by decide +kernel
theorem dX8_byHand_63 : decode cX8_byHand 63 = .ok (.iload 6, 2) := by decide +kernel
theorem dX8_byHand_65 : decode cX8_byHand 65 = .ok (.ireturn, 1) := by decide +kernel
set_option maxRecDepth 20000 in
theorem ggX8_ends_X8_changesOf : GoodIn wsX8_ends wsX8_changesOf := goodIn_ca (goodIn_r _ [8, 3, 9, 10, 11, 12, 13, 14, 15, 16, 7, 17, 18, 19, 20, 21, 22, 23, 24, 25, 26, 27, 28, 29, 30, 31, 32, 33, 34, 35, 36, 37, 38, 39, 40, 41, 42, 43, 44, 45, 46, 47, 48, 49, 50, 51, 52, 53, 54, 55, 56, 57, 58, 59, 60, 61, 62, 63, 64, 65, 66, 67, 68, 69, 70, 71, 72, 73, 74, 75, 76, 84, 85, 86, 87, 88, 89, 90, 91, 92, 93, 94, 95, 96, 97, 98, 99, 100, 101, 102, 103, 104, 105, 106, 107, 108, 109, 110, 111, 112, 113, 114, 115] (by decide +kernel) (by decide +kernel)) (goodIn_sub (fun _ h => List.mem_cons_of_mem _ (List.mem_append_right _ h)) (by decide +kernel))
set_option maxRecDepth 20000 in
theorem gX8_ends_X8_changesOf : GoodIn wsX8_ends (wsV RX8 150 RX8 yX8_changesOf wsX8_changesOf) := goodIn_app (goodIn_of _ (by decide +kernel)) ggX8_ends_X8_changesOf
set_option maxRecDepth 20000 in
theorem ggX8_ends_X8_settles : GoodIn wsX8_ends wsX8_settles := goodIn_ca (goodIn_r _ [80, 2, 81, 76, 82, 9, 83, 3, 75, 10, 1, 84, 85, 86, 87, 88, 89, 90, 91, 92, 93, 94, 95, 96, 97, 98, 99, 100, 101, 102, 103, 104, 105, 106, 107, 108, 109, 110, 111, 112, 113, 114, 115] (by decide +kernel) (by decide +kernel)) (goodIn_sub (fun _ h => List.mem_cons_of_mem _ (List.mem_append_right _ h)) (by decide +kernel))
set_option maxRecDepth 20000 in
theorem gX8_ends_X8_settles : GoodIn wsX8_ends (wsV RX8 153 RX8 yX8_settles wsX8_settles) := goodIn_app (goodIn_of _ (by decide +kernel)) ggX8_ends_X8_settles
theorem dX8_ends_0 : decode cX8_ends 0 = .ok (.aload_n 0, 1) := by decide +kernel
theorem dX8_ends_1 : decode cX8_ends 1 = .ok (.iload_n 1, 1) := by decide +kernel
theorem dX8_ends_2 : decode cX8_ends 2 = .ok (.invokevirtual 150, 3) := by decide +kernel
theorem dX8_ends_5 : decode cX8_ends 5 = .ok (.istore_n 2, 1) := by decide +kernel
theorem dX8_ends_6 : decode cX8_ends 6 = .ok (.iload_n 2, 1) := by decide +kernel
theorem dX8_ends_7 : decode cX8_ends 7 = .ok (.ifCond .le 62, 3) := by decide +kernel
theorem dX8_ends_10 : decode cX8_ends 10 = .ok (.aload_n 0, 1) := by decide +kernel
theorem dX8_ends_11 : decode cX8_ends 11 = .ok (.getfield 105, 3) := by decide +kernel
theorem dX8_ends_14 : decode cX8_ends 14 = .ok (.bipush 8, 2) := by decide +kernel
theorem dX8_ends_16 : decode cX8_ends 16 = .ok (.if_icmp .ne 15, 3) := by decide +kernel
theorem dX8_ends_19 : decode cX8_ends 19 = .ok (.aload_n 0, 1) := by decide +kernel
theorem dX8_ends_20 : decode cX8_ends 20 = .ok (.getfield 70, 3) := by decide +kernel
theorem dX8_ends_23 : decode cX8_ends 23 = .ok (.bipush 8, 2) := by decide +kernel
theorem dX8_ends_25 : decode cX8_ends 25 = .ok (.iload_n 1, 1) := by decide +kernel
theorem dX8_ends_26 : decode cX8_ends 26 = .ok (.iastore, 1) := by decide +kernel
theorem dX8_ends_27 : decode cX8_ends 27 = .ok (.aload_n 0, 1) := by decide +kernel
theorem dX8_ends_28 : decode cX8_ends 28 = .ok (.invokevirtual 153, 3) := by decide +kernel
theorem dX8_ends_31 : decode cX8_ends 31 = .ok (.aload_n 0, 1) := by decide +kernel
theorem dX8_ends_32 : decode cX8_ends 32 = .ok (.getfield 70, 3) := by decide +kernel
theorem dX8_ends_35 : decode cX8_ends 35 = .ok (.aload_n 0, 1) := by decide +kernel
theorem dX8_ends_36 : decode cX8_ends 36 = .ok (.getfield 105, 3) := by decide +kernel
theorem dX8_ends_39 : decode cX8_ends 39 = .ok (.aload_n 0, 1) := by decide +kernel
theorem dX8_ends_40 : decode cX8_ends 40 = .ok (.getfield 99, 3) := by decide +kernel
theorem dX8_ends_43 : decode cX8_ends 43 = .ok (.iload_n 2, 1) := by decide +kernel
theorem dX8_ends_44 : decode cX8_ends 44 = .ok (.isub, 1) := by decide +kernel
theorem dX8_ends_45 : decode cX8_ends 45 = .ok (.iastore, 1) := by decide +kernel
theorem dX8_ends_46 : decode cX8_ends 46 = .ok (.aload_n 0, 1) := by decide +kernel
theorem dX8_ends_47 : decode cX8_ends 47 = .ok (.dup, 1) := by decide +kernel
theorem dX8_ends_48 : decode cX8_ends 48 = .ok (.getfield 105, 3) := by decide +kernel
theorem dX8_ends_51 : decode cX8_ends 51 = .ok (.iconst 1, 1) := by decide +kernel
theorem dX8_ends_52 : decode cX8_ends 52 = .ok (.iadd, 1) := by decide +kernel
theorem dX8_ends_53 : decode cX8_ends 53 = .ok (.putfield 105, 3) := by decide +kernel
theorem dX8_ends_56 : decode cX8_ends 56 = .ok (.aload_n 0, 1) := by decide +kernel
theorem dX8_ends_57 : decode cX8_ends 57 = .ok (.getfield 70, 3) := by decide +kernel
theorem dX8_ends_60 : decode cX8_ends 60 = .ok (.aload_n 0, 1) := by decide +kernel
theorem dX8_ends_61 : decode cX8_ends 61 = .ok (.getfield 105, 3) := by decide +kernel
theorem dX8_ends_64 : decode cX8_ends 64 = .ok (.aload_n 0, 1) := by decide +kernel
theorem dX8_ends_65 : decode cX8_ends 65 = .ok (.getfield 99, 3) := by decide +kernel
theorem dX8_ends_68 : decode cX8_ends 68 = .ok (.iastore, 1) := by decide +kernel
theorem dX8_ends_69 : decode cX8_ends 69 = .ok (.iload_n 2, 1) := by decide +kernel
theorem dX8_ends_70 : decode cX8_ends 70 = .ok (.ireturn, 1) := by decide +kernel
set_option maxRecDepth 20000 in
theorem ggX8_changesOf_X8_ruled : GoodIn wsX8_changesOf wsX8_ruled := goodIn_ca (goodIn_r _ [11, 12, 13, 14, 15, 16, 17, 10, 18, 19, 20, 21, 71, 72, 73, 74, 75, 76, 77, 78, 79, 80, 81, 82, 83, 84, 85, 86, 87, 88, 89, 90, 91, 92, 93, 94, 95, 96, 97, 98, 99, 100, 101, 102] (by decide +kernel) (by decide +kernel)) (goodIn_sub (fun _ h => List.mem_cons_of_mem _ (List.mem_append_right _ h)) (by decide +kernel))
set_option maxRecDepth 20000 in
theorem gX8_changesOf_X8_ruled : GoodIn wsX8_changesOf (wsV RX8 156 RX8 yX8_ruled wsX8_ruled) := goodIn_app (goodIn_of _ (by decide +kernel)) ggX8_changesOf_X8_ruled
set_option maxRecDepth 20000 in
theorem ggX8_changesOf_X8_why : GoodIn wsX8_changesOf wsX8_why := goodIn_ca (goodIn_r _ [25, 26, 27, 28, 29, 30, 31, 10, 32, 33, 34, 35, 36, 37, 19, 20, 21, 38, 39, 40, 41, 42, 43, 44, 45, 46, 47, 48, 49, 50, 51, 16, 17, 18, 52, 53, 54, 55, 56, 57, 58, 59, 60, 71, 72, 73, 74, 75, 76, 77, 78, 79, 80, 81, 82, 83, 84, 85, 86, 87, 88, 89, 90, 91, 92, 93, 94, 95, 96, 97, 98, 99, 100, 101, 102] (by decide +kernel) (by decide +kernel)) (goodIn_sub (fun _ h => List.mem_cons_of_mem _ (List.mem_append_right _ h)) (by decide +kernel))
set_option maxRecDepth 20000 in
theorem gX8_changesOf_X8_why : GoodIn wsX8_changesOf (wsV RX8 159 RX8 yX8_why wsX8_why) := goodIn_app (goodIn_of _ (by decide +kernel)) ggX8_changesOf_X8_why
set_option maxRecDepth 20000 in
theorem ggX8_changesOf_X8_runs : GoodIn wsX8_changesOf wsX8_runs := goodIn_ca (goodIn_r _ [64, 26, 27, 28, 52, 53, 54, 10, 55, 56, 57, 38, 39, 40, 41, 33, 34, 42, 43, 44, 65, 66, 67, 68, 2, 1, 69, 70, 3, 71, 72, 73, 74, 75, 76, 77, 78, 79, 80, 81, 82, 83, 84, 85, 86, 87, 88, 89, 90, 91, 92, 93, 94, 95, 96, 97, 98, 99, 100, 101, 102] (by decide +kernel) (by decide +kernel)) (goodIn_sub (fun _ h => List.mem_cons_of_mem _ (List.mem_append_right _ h)) (by decide +kernel))
set_option maxRecDepth 20000 in
theorem gX8_changesOf_X8_runs : GoodIn wsX8_changesOf (wsV RX8 166 RX8 yX8_runs wsX8_runs) := goodIn_app (goodIn_of _ (by decide +kernel)) ggX8_changesOf_X8_runs
theorem dX8_changesOf_0 : decode cX8_changesOf 0 = .ok (.iconst 0, 1) := by decide +kernel
theorem dX8_changesOf_1 : decode cX8_changesOf 1 = .ok (.istore_n 2, 1) := by decide +kernel
theorem dX8_changesOf_2 : decode cX8_changesOf 2 = .ok (.iload_n 1, 1) := by decide +kernel
theorem dX8_changesOf_3 : decode cX8_changesOf 3 = .ok (.istore_n 3, 1) := by decide +kernel
theorem dX8_changesOf_4 : decode cX8_changesOf 4 = .ok (.iload_n 3, 1) := by decide +kernel
theorem dX8_changesOf_5 : decode cX8_changesOf 5 = .ok (.aload_n 0, 1) := by decide +kernel
theorem dX8_changesOf_6 : decode cX8_changesOf 6 = .ok (.getfield 99, 3) := by decide +kernel
theorem dX8_changesOf_9 : decode cX8_changesOf 9 = .ok (.if_icmp .ge 147, 3) := by decide +kernel
theorem dX8_changesOf_12 : decode cX8_changesOf 12 = .ok (.aload_n 0, 1) := by decide +kernel
theorem dX8_changesOf_13 : decode cX8_changesOf 13 = .ok (.aload_n 0, 1) := by decide +kernel
theorem dX8_changesOf_14 : decode cX8_changesOf 14 = .ok (.getfield 58, 3) := by decide +kernel
theorem dX8_changesOf_17 : decode cX8_changesOf 17 = .ok (.iload_n 3, 1) := by decide +kernel
theorem dX8_changesOf_18 : decode cX8_changesOf 18 = .ok (.iaload, 1) := by decide +kernel
theorem dX8_changesOf_19 : decode cX8_changesOf 19 = .ok (.invokevirtual 156, 3) := by decide +kernel
theorem dX8_changesOf_22 : decode cX8_changesOf 22 = .ok (.istore 4, 2) := by decide +kernel
theorem dX8_changesOf_24 : decode cX8_changesOf 24 = .ok (.iload 4, 2) := by decide +kernel
theorem dX8_changesOf_26 : decode cX8_changesOf 26 = .ok (.ifCond .lt 124, 3) := by decide +kernel
theorem dX8_changesOf_29 : decode cX8_changesOf 29 = .ok (.aload_n 0, 1) := by decide +kernel
theorem dX8_changesOf_30 : decode cX8_changesOf 30 = .ok (.getfield 67, 3) := by decide +kernel
theorem dX8_changesOf_33 : decode cX8_changesOf 33 = .ok (.iload_n 3, 1) := by decide +kernel
theorem dX8_changesOf_34 : decode cX8_changesOf 34 = .ok (.iaload, 1) := by decide +kernel
theorem dX8_changesOf_35 : decode cX8_changesOf 35 = .ok (.iconst 3, 1) := by decide +kernel
theorem dX8_changesOf_36 : decode cX8_changesOf 36 = .ok (.if_icmp .ge 114, 3) := by decide +kernel
theorem dX8_changesOf_39 : decode cX8_changesOf 39 = .ok (.aload_n 0, 1) := by decide +kernel
theorem dX8_changesOf_40 : decode cX8_changesOf 40 = .ok (.getfield 52, 3) := by decide +kernel
theorem dX8_changesOf_43 : decode cX8_changesOf 43 = .ok (.iload 4, 2) := by decide +kernel
theorem dX8_changesOf_45 : decode cX8_changesOf 45 = .ok (.iaload, 1) := by decide +kernel
theorem dX8_changesOf_46 : decode cX8_changesOf 46 = .ok (.aload_n 0, 1) := by decide +kernel
theorem dX8_changesOf_47 : decode cX8_changesOf 47 = .ok (.getfield 77, 3) := by decide +kernel
theorem dX8_changesOf_50 : decode cX8_changesOf 50 = .ok (.if_icmp .eq 100, 3) := by decide +kernel
theorem dX8_changesOf_53 : decode cX8_changesOf 53 = .ok (.iload_n 2, 1) := by decide +kernel
theorem dX8_changesOf_54 : decode cX8_changesOf 54 = .ok (.bipush 20, 2) := by decide +kernel
theorem dX8_changesOf_56 : decode cX8_changesOf 56 = .ok (.if_icmp .ge 94, 3) := by decide +kernel
theorem dX8_changesOf_59 : decode cX8_changesOf 59 = .ok (.aload_n 0, 1) := by decide +kernel
theorem dX8_changesOf_60 : decode cX8_changesOf 60 = .ok (.aload_n 0, 1) := by decide +kernel
theorem dX8_changesOf_61 : decode cX8_changesOf 61 = .ok (.getfield 52, 3) := by decide +kernel
theorem dX8_changesOf_64 : decode cX8_changesOf 64 = .ok (.iload 4, 2) := by decide +kernel
theorem dX8_changesOf_66 : decode cX8_changesOf 66 = .ok (.iaload, 1) := by decide +kernel
theorem dX8_changesOf_67 : decode cX8_changesOf 67 = .ok (.aload_n 0, 1) := by decide +kernel
theorem dX8_changesOf_68 : decode cX8_changesOf 68 = .ok (.getfield 58, 3) := by decide +kernel
theorem dX8_changesOf_71 : decode cX8_changesOf 71 = .ok (.iload_n 3, 1) := by decide +kernel
theorem dX8_changesOf_72 : decode cX8_changesOf 72 = .ok (.iaload, 1) := by decide +kernel
theorem dX8_changesOf_73 : decode cX8_changesOf 73 = .ok (.invokevirtual 159, 3) := by decide +kernel
theorem dX8_changesOf_76 : decode cX8_changesOf 76 = .ok (.bipush 45, 2) := by decide +kernel
theorem dX8_changesOf_78 : decode cX8_changesOf 78 = .ok (.if_icmp .ne 7, 3) := by decide +kernel
theorem dX8_changesOf_81 : decode cX8_changesOf 81 = .ok (.iconst 1, 1) := by decide +kernel
theorem dX8_changesOf_82 : decode cX8_changesOf 82 = .ok (.goto 4, 3) := by decide +kernel
theorem dX8_changesOf_85 : decode cX8_changesOf 85 = .ok (.iconst 0, 1) := by decide +kernel
theorem dX8_changesOf_86 : decode cX8_changesOf 86 = .ok (.istore 5, 2) := by decide +kernel
theorem dX8_changesOf_88 : decode cX8_changesOf 88 = .ok (.iload_n 2, 1) := by decide +kernel
theorem dX8_changesOf_89 : decode cX8_changesOf 89 = .ok (.iload 5, 2) := by decide +kernel
theorem dX8_changesOf_91 : decode cX8_changesOf 91 = .ok (.ifCond .eq 7, 3) := by decide +kernel
theorem dX8_changesOf_94 : decode cX8_changesOf 94 = .ok (.iconst 1, 1) := by decide +kernel
theorem dX8_changesOf_95 : decode cX8_changesOf 95 = .ok (.goto 4, 3) := by decide +kernel
theorem dX8_changesOf_98 : decode cX8_changesOf 98 = .ok (.iconst 0, 1) := by decide +kernel
theorem dX8_changesOf_99 : decode cX8_changesOf 99 = .ok (.iadd, 1) := by decide +kernel
theorem dX8_changesOf_100 : decode cX8_changesOf 100 = .ok (.istore_n 2, 1) := by decide +kernel
theorem dX8_changesOf_101 : decode cX8_changesOf 101 = .ok (.aload_n 0, 1) := by decide +kernel
theorem dX8_changesOf_102 : decode cX8_changesOf 102 = .ok (.dup, 1) := by decide +kernel
theorem dX8_changesOf_103 : decode cX8_changesOf 103 = .ok (.getfield 163, 3) := by decide +kernel
theorem dX8_changesOf_106 : decode cX8_changesOf 106 = .ok (.iload 5, 2) := by decide +kernel
theorem dX8_changesOf_108 : decode cX8_changesOf 108 = .ok (.ifCond .eq 7, 3) := by decide +kernel
theorem dX8_changesOf_111 : decode cX8_changesOf 111 = .ok (.iconst 0, 1) := by decide +kernel
theorem dX8_changesOf_112 : decode cX8_changesOf 112 = .ok (.goto 4, 3) := by decide +kernel
theorem dX8_changesOf_115 : decode cX8_changesOf 115 = .ok (.iconst 1, 1) := by decide +kernel
theorem dX8_changesOf_116 : decode cX8_changesOf 116 = .ok (.iadd, 1) := by decide +kernel
theorem dX8_changesOf_117 : decode cX8_changesOf 117 = .ok (.putfield 163, 3) := by decide +kernel
theorem dX8_changesOf_120 : decode cX8_changesOf 120 = .ok (.iload 5, 2) := by decide +kernel
theorem dX8_changesOf_122 : decode cX8_changesOf 122 = .ok (.ifCond .eq 28, 3) := by decide +kernel
theorem dX8_changesOf_125 : decode cX8_changesOf 125 = .ok (.aload_n 0, 1) := by decide +kernel
theorem dX8_changesOf_126 : decode cX8_changesOf 126 = .ok (.aload_n 0, 1) := by decide +kernel
theorem dX8_changesOf_127 : decode cX8_changesOf 127 = .ok (.getfield 52, 3) := by decide +kernel
theorem dX8_changesOf_130 : decode cX8_changesOf 130 = .ok (.iload 4, 2) := by decide +kernel
theorem dX8_changesOf_132 : decode cX8_changesOf 132 = .ok (.iaload, 1) := by decide +kernel
theorem dX8_changesOf_133 : decode cX8_changesOf 133 = .ok (.aload_n 0, 1) := by decide +kernel
theorem dX8_changesOf_134 : decode cX8_changesOf 134 = .ok (.getfield 58, 3) := by decide +kernel
theorem dX8_changesOf_137 : decode cX8_changesOf 137 = .ok (.iload_n 3, 1) := by decide +kernel
theorem dX8_changesOf_138 : decode cX8_changesOf 138 = .ok (.iaload, 1) := by decide +kernel
theorem dX8_changesOf_139 : decode cX8_changesOf 139 = .ok (.aload_n 0, 1) := by decide +kernel
theorem dX8_changesOf_140 : decode cX8_changesOf 140 = .ok (.getfield 67, 3) := by decide +kernel
theorem dX8_changesOf_143 : decode cX8_changesOf 143 = .ok (.iload_n 3, 1) := by decide +kernel
theorem dX8_changesOf_144 : decode cX8_changesOf 144 = .ok (.iaload, 1) := by decide +kernel
theorem dX8_changesOf_145 : decode cX8_changesOf 145 = .ok (.iconst 1, 1) := by decide +kernel
theorem dX8_changesOf_146 : decode cX8_changesOf 146 = .ok (.iadd, 1) := by decide +kernel
theorem dX8_changesOf_147 : decode cX8_changesOf 147 = .ok (.invokevirtual 166, 3) := by decide +kernel
theorem dX8_changesOf_150 : decode cX8_changesOf 150 = .ok (.iinc 3 1, 3) := by decide +kernel
theorem dX8_changesOf_153 : decode cX8_changesOf 153 = .ok (.goto (-149), 3) := by decide +kernel
theorem dX8_changesOf_156 : decode cX8_changesOf 156 = .ok (.aload_n 0, 1) := by decide +kernel
theorem dX8_changesOf_157 : decode cX8_changesOf 157 = .ok (.getfield 99, 3) := by decide +kernel
theorem dX8_changesOf_160 : decode cX8_changesOf 160 = .ok (.iload_n 1, 1) := by decide +kernel
theorem dX8_changesOf_161 : decode cX8_changesOf 161 = .ok (.isub, 1) := by decide +kernel
theorem dX8_changesOf_162 : decode cX8_changesOf 162 = .ok (.ireturn, 1) := by decide +kernel
set_option maxRecDepth 20000 in
theorem ggX8_set_X8_isNoCell : GoodIn wsX8_set wsX8_isNoCell := goodIn_r _ [5, 6, 7, 4, 8, 9, 10, 11, 12, 13, 14, 15, 16, 106, 107, 108, 109, 110, 111, 112, 113, 114, 115, 116, 117, 118, 119, 120, 121, 122, 123, 124, 125, 126, 127, 128, 129, 130, 131, 132, 133, 134, 135, 136, 137] (by decide +kernel) (by decide +kernel)
set_option maxRecDepth 20000 in
theorem gX8_set_X8_isNoCell : GoodIn wsX8_set (wsV RX8 169 RX8 yX8_isNoCell wsX8_isNoCell) := goodIn_app (goodIn_of _ (by decide +kernel)) ggX8_set_X8_isNoCell
set_option maxRecDepth 20000 in
theorem ggX8_set_X8_isValue : GoodIn wsX8_set wsX8_isValue := goodIn_r _ [19, 9, 10, 4, 11] (by decide +kernel) (by decide +kernel)
set_option maxRecDepth 20000 in
theorem gX8_set_X8_isValue : GoodIn wsX8_set (va_wsS RX8 128 yX8_isValue wsX8_isValue) := goodIn_app (goodIn_of _ (by decide +kernel)) ggX8_set_X8_isValue
set_option maxRecDepth 20000 in
theorem ggX8_set_X8_isThrown : GoodIn wsX8_set wsX8_isThrown := goodIn_r _ [15, 16, 106, 107, 108, 109, 110, 111, 112, 113, 114, 115, 116, 117, 118, 119, 120, 121, 122, 123, 124, 125, 126, 127, 128, 129, 130, 131, 132, 133, 134, 135, 136, 137] (by decide +kernel) (by decide +kernel)
set_option maxRecDepth 20000 in
theorem gX8_set_X8_isThrown : GoodIn wsX8_set (wsV RX8 92 RX8 yX8_isThrown wsX8_isThrown) := goodIn_app (goodIn_of _ (by decide +kernel)) ggX8_set_X8_isThrown
set_option maxRecDepth 20000 in
theorem ggX8_set_X8_at : GoodIn wsX8_set wsX8_at := goodIn_r _ [22] (by decide +kernel) (by decide +kernel)
set_option maxRecDepth 20000 in
theorem gX8_set_X8_at : GoodIn wsX8_set (va_wsS RX8 112 yX8_at wsX8_at) := goodIn_app (goodIn_of _ (by decide +kernel)) ggX8_set_X8_at
set_option maxRecDepth 20000 in
theorem ggX8_set_X8_byHand : GoodIn wsX8_set wsX8_byHand := goodIn_ca (goodIn_r _ [26, 27, 28, 29, 30, 31, 32, 4, 33, 34, 35, 36, 37, 38, 39, 40, 41, 42, 43, 44, 45, 46, 47, 48, 49, 50, 51, 52, 53, 54, 55, 56, 57, 58, 59, 60, 61, 62, 63, 64, 65, 66, 67, 68, 69, 70, 9, 10, 11, 71, 72, 73, 74, 75, 76, 77, 78, 79, 6, 7, 8, 80, 81, 82, 83, 20, 21, 22, 84, 85, 86, 87, 88, 89, 90, 91, 92, 93, 94, 17, 18, 19, 95, 96, 97, 98, 99, 100, 101, 102, 103, 104, 105, 106, 107, 108, 109, 110, 111, 112, 113, 114, 115, 116, 117, 118, 119, 120, 121, 122, 123, 124, 125, 126, 127, 128, 129, 130, 131, 132, 133, 134, 135, 136, 137] (by decide +kernel) (by decide +kernel)) (goodIn_sub (fun _ h => List.mem_cons_of_mem _ (List.mem_append_right _ h)) (by decide +kernel))
set_option maxRecDepth 20000 in
theorem gX8_set_X8_byHand : GoodIn wsX8_set (wsV RX8 172 RX8 yX8_byHand wsX8_byHand) := goodIn_app (goodIn_of _ (by decide +kernel)) ggX8_set_X8_byHand
theorem dX8_set_0 : decode cX8_set 0 = .ok (.aload_n 0, 1) := by decide +kernel
theorem dX8_set_1 : decode cX8_set 1 = .ok (.iload_n 1, 1) := by decide +kernel
theorem dX8_set_2 : decode cX8_set 2 = .ok (.iload_n 2, 1) := by decide +kernel
theorem dX8_set_3 : decode cX8_set 3 = .ok (.invokevirtual 169, 3) := by decide +kernel
theorem dX8_set_6 : decode cX8_set 6 = .ok (.ifCond .ne 23, 3) := by decide +kernel
theorem dX8_set_9 : decode cX8_set 9 = .ok (.aload_n 0, 1) := by decide +kernel
theorem dX8_set_10 : decode cX8_set 10 = .ok (.iload_n 3, 1) := by decide +kernel
theorem dX8_set_11 : decode cX8_set 11 = .ok (.invokestatic 128, 3) := by decide +kernel
theorem dX8_set_14 : decode cX8_set 14 = .ok (.ifCond .ne 7, 3) := by decide +kernel
theorem dX8_set_17 : decode cX8_set 17 = .ok (.iconst 1, 1) := by decide +kernel
theorem dX8_set_18 : decode cX8_set 18 = .ok (.goto 4, 3) := by decide +kernel
theorem dX8_set_21 : decode cX8_set 21 = .ok (.iconst 0, 1) := by decide +kernel
theorem dX8_set_22 : decode cX8_set 22 = .ok (.iconst 2, 1) := by decide +kernel
theorem dX8_set_23 : decode cX8_set 23 = .ok (.invokevirtual 92, 3) := by decide +kernel
theorem dX8_set_26 : decode cX8_set 26 = .ok (.ifCond .eq 7, 3) := by decide +kernel
theorem dX8_set_29 : decode cX8_set 29 = .ok (.iconst 0, 1) := by decide +kernel
theorem dX8_set_30 : decode cX8_set 30 = .ok (.goto 16, 3) := by decide +kernel
theorem dX8_set_33 : decode cX8_set 33 = .ok (.aload_n 0, 1) := by decide +kernel
theorem dX8_set_34 : decode cX8_set 34 = .ok (.bipush 115, 2) := by decide +kernel
theorem dX8_set_36 : decode cX8_set 36 = .ok (.iload_n 1, 1) := by decide +kernel
theorem dX8_set_37 : decode cX8_set 37 = .ok (.iload_n 2, 1) := by decide +kernel
theorem dX8_set_38 : decode cX8_set 38 = .ok (.invokestatic 112, 3) := by decide +kernel
theorem dX8_set_41 : decode cX8_set 41 = .ok (.iload_n 3, 1) := by decide +kernel
theorem dX8_set_42 : decode cX8_set 42 = .ok (.iload_n 3, 1) := by decide +kernel
theorem dX8_set_43 : decode cX8_set 43 = .ok (.invokevirtual 172, 3) := by decide +kernel
theorem dX8_set_46 : decode cX8_set 46 = .ok (.ireturn, 1) := by decide +kernel
set_option maxRecDepth 20000 in
theorem ggX8_add_X8_isNoCell : GoodIn wsX8_add wsX8_isNoCell := goodIn_r _ [6, 7, 8, 5, 9, 10, 11, 12, 13, 14, 15, 16, 17, 106, 107, 108, 109, 110, 111, 112, 113, 114, 115, 116, 117, 118, 119, 120, 121, 122, 123, 124, 125, 126, 127, 128, 129, 130, 131, 132, 133, 134, 135, 136, 137] (by decide +kernel) (by decide +kernel)
set_option maxRecDepth 20000 in
theorem gX8_add_X8_isNoCell : GoodIn wsX8_add (wsV RX8 169 RX8 yX8_isNoCell wsX8_isNoCell) := goodIn_app (goodIn_of _ (by decide +kernel)) ggX8_add_X8_isNoCell
set_option maxRecDepth 20000 in
theorem ggX8_add_X8_isValue : GoodIn wsX8_add wsX8_isValue := goodIn_r _ [20, 10, 11, 5, 12] (by decide +kernel) (by decide +kernel)
set_option maxRecDepth 20000 in
theorem gX8_add_X8_isValue : GoodIn wsX8_add (va_wsS RX8 128 yX8_isValue wsX8_isValue) := goodIn_app (goodIn_of _ (by decide +kernel)) ggX8_add_X8_isValue
set_option maxRecDepth 20000 in
theorem ggX8_add_X8_at : GoodIn wsX8_add wsX8_at := goodIn_r _ [23] (by decide +kernel) (by decide +kernel)
set_option maxRecDepth 20000 in
theorem gX8_add_X8_at : GoodIn wsX8_add (va_wsS RX8 112 yX8_at wsX8_at) := goodIn_app (goodIn_of _ (by decide +kernel)) ggX8_add_X8_at
set_option maxRecDepth 20000 in
theorem ggX8_add_X8_isThrown : GoodIn wsX8_add wsX8_isThrown := goodIn_r _ [16, 17, 106, 107, 108, 109, 110, 111, 112, 113, 114, 115, 116, 117, 118, 119, 120, 121, 122, 123, 124, 125, 126, 127, 128, 129, 130, 131, 132, 133, 134, 135, 136, 137] (by decide +kernel) (by decide +kernel)
set_option maxRecDepth 20000 in
theorem gX8_add_X8_isThrown : GoodIn wsX8_add (wsV RX8 92 RX8 yX8_isThrown wsX8_isThrown) := goodIn_app (goodIn_of _ (by decide +kernel)) ggX8_add_X8_isThrown
set_option maxRecDepth 20000 in
theorem ggX8_add_X8_byHand : GoodIn wsX8_add wsX8_byHand := goodIn_ca (goodIn_r _ [27, 28, 29, 30, 31, 32, 33, 5, 34, 35, 36, 37, 38, 39, 40, 41, 42, 43, 1, 44, 45, 46, 47, 48, 49, 50, 51, 52, 53, 54, 55, 56, 57, 58, 59, 60, 61, 62, 63, 64, 65, 66, 67, 68, 69, 70, 10, 11, 12, 71, 72, 73, 74, 75, 76, 77, 78, 79, 7, 8, 9, 80, 81, 82, 83, 21, 22, 23, 84, 85, 86, 87, 88, 89, 90, 91, 92, 93, 94, 18, 19, 20, 95, 96, 97, 98, 99, 100, 101, 102, 103, 104, 105, 106, 107, 108, 109, 110, 111, 112, 113, 114, 115, 116, 117, 118, 119, 120, 121, 122, 123, 124, 125, 126, 127, 128, 129, 130, 131, 132, 133, 134, 135, 136, 137] (by decide +kernel) (by decide +kernel)) (goodIn_sub (fun _ h => List.mem_cons_of_mem _ (List.mem_append_right _ h)) (by decide +kernel))
set_option maxRecDepth 20000 in
theorem gX8_add_X8_byHand : GoodIn wsX8_add (wsV RX8 172 RX8 yX8_byHand wsX8_byHand) := goodIn_app (goodIn_of _ (by decide +kernel)) ggX8_add_X8_byHand
theorem dX8_add_0 : decode cX8_add 0 = .ok (.aload_n 0, 1) := by decide +kernel
theorem dX8_add_1 : decode cX8_add 1 = .ok (.iload_n 1, 1) := by decide +kernel
theorem dX8_add_2 : decode cX8_add 2 = .ok (.iload_n 2, 1) := by decide +kernel
theorem dX8_add_3 : decode cX8_add 3 = .ok (.invokevirtual 169, 3) := by decide +kernel
theorem dX8_add_6 : decode cX8_add 6 = .ok (.ifCond .ne 41, 3) := by decide +kernel
theorem dX8_add_9 : decode cX8_add 9 = .ok (.aload_n 0, 1) := by decide +kernel
theorem dX8_add_10 : decode cX8_add 10 = .ok (.iload_n 3, 1) := by decide +kernel
theorem dX8_add_11 : decode cX8_add 11 = .ok (.invokestatic 128, 3) := by decide +kernel
theorem dX8_add_14 : decode cX8_add 14 = .ok (.ifCond .eq 21, 3) := by decide +kernel
theorem dX8_add_17 : decode cX8_add 17 = .ok (.aload_n 0, 1) := by decide +kernel
theorem dX8_add_18 : decode cX8_add 18 = .ok (.getfield 9, 3) := by decide +kernel
theorem dX8_add_21 : decode cX8_add 21 = .ok (.iload_n 1, 1) := by decide +kernel
theorem dX8_add_22 : decode cX8_add 22 = .ok (.iload_n 2, 1) := by decide +kernel
theorem dX8_add_23 : decode cX8_add 23 = .ok (.invokestatic 112, 3) := by decide +kernel
theorem dX8_add_26 : decode cX8_add 26 = .ok (.iaload, 1) := by decide +kernel
theorem dX8_add_27 : decode cX8_add 27 = .ok (.iload_n 3, 1) := by decide +kernel
theorem dX8_add_28 : decode cX8_add 28 = .ok (.iadd, 1) := by decide +kernel
theorem dX8_add_29 : decode cX8_add 29 = .ok (.invokestatic 128, 3) := by decide +kernel
theorem dX8_add_32 : decode cX8_add 32 = .ok (.ifCond .ne 7, 3) := by decide +kernel
theorem dX8_add_35 : decode cX8_add 35 = .ok (.iconst 1, 1) := by decide +kernel
theorem dX8_add_36 : decode cX8_add 36 = .ok (.goto 4, 3) := by decide +kernel
theorem dX8_add_39 : decode cX8_add 39 = .ok (.iconst 0, 1) := by decide +kernel
theorem dX8_add_40 : decode cX8_add 40 = .ok (.iconst 2, 1) := by decide +kernel
theorem dX8_add_41 : decode cX8_add 41 = .ok (.invokevirtual 92, 3) := by decide +kernel
theorem dX8_add_44 : decode cX8_add 44 = .ok (.ifCond .eq 5, 3) := by decide +kernel
theorem dX8_add_47 : decode cX8_add 47 = .ok (.iconst 0, 1) := by decide +kernel
theorem dX8_add_48 : decode cX8_add 48 = .ok (.ireturn, 1) := by decide +kernel
theorem dX8_add_49 : decode cX8_add 49 = .ok (.aload_n 0, 1) := by decide +kernel
theorem dX8_add_50 : decode cX8_add 50 = .ok (.bipush 97, 2) := by decide +kernel
theorem dX8_add_52 : decode cX8_add 52 = .ok (.iload_n 1, 1) := by decide +kernel
theorem dX8_add_53 : decode cX8_add 53 = .ok (.iload_n 2, 1) := by decide +kernel
theorem dX8_add_54 : decode cX8_add 54 = .ok (.invokestatic 112, 3) := by decide +kernel
theorem dX8_add_57 : decode cX8_add 57 = .ok (.aload_n 0, 1) := by decide +kernel
theorem dX8_add_58 : decode cX8_add 58 = .ok (.getfield 9, 3) := by decide +kernel
theorem dX8_add_61 : decode cX8_add 61 = .ok (.iload_n 1, 1) := by decide +kernel
theorem dX8_add_62 : decode cX8_add 62 = .ok (.iload_n 2, 1) := by decide +kernel
theorem dX8_add_63 : decode cX8_add 63 = .ok (.invokestatic 112, 3) := by decide +kernel
theorem dX8_add_66 : decode cX8_add 66 = .ok (.iaload, 1) := by decide +kernel
theorem dX8_add_67 : decode cX8_add 67 = .ok (.iload_n 3, 1) := by decide +kernel
theorem dX8_add_68 : decode cX8_add 68 = .ok (.iadd, 1) := by decide +kernel
theorem dX8_add_69 : decode cX8_add 69 = .ok (.iload_n 3, 1) := by decide +kernel
theorem dX8_add_70 : decode cX8_add 70 = .ok (.invokevirtual 172, 3) := by decide +kernel
theorem dX8_add_73 : decode cX8_add 73 = .ok (.ireturn, 1) := by decide +kernel
set_option maxRecDepth 20000 in
theorem ggX8_copyBase_X8_isNoCell : GoodIn wsX8_copyBase wsX8_isNoCell := goodIn_r _ [8, 9, 10, 7, 11, 12, 13, 14, 15, 16, 17, 18, 19, 106, 107, 108, 109, 110, 111, 112, 113, 114, 115, 116, 117, 118, 119, 120, 121, 122, 123, 124, 125, 126, 127, 128, 129, 130, 131, 132, 133, 134, 135, 136, 137] (by decide +kernel) (by decide +kernel)
set_option maxRecDepth 20000 in
theorem gX8_copyBase_X8_isNoCell : GoodIn wsX8_copyBase (wsV RX8 169 RX8 yX8_isNoCell wsX8_isNoCell) := goodIn_app (goodIn_of _ (by decide +kernel)) ggX8_copyBase_X8_isNoCell
set_option maxRecDepth 20000 in
theorem ggX8_copyBase_X8_isThrown : GoodIn wsX8_copyBase wsX8_isThrown := goodIn_r _ [18, 19, 106, 107, 108, 109, 110, 111, 112, 113, 114, 115, 116, 117, 118, 119, 120, 121, 122, 123, 124, 125, 126, 127, 128, 129, 130, 131, 132, 133, 134, 135, 136, 137] (by decide +kernel) (by decide +kernel)
set_option maxRecDepth 20000 in
theorem gX8_copyBase_X8_isThrown : GoodIn wsX8_copyBase (wsV RX8 92 RX8 yX8_isThrown wsX8_isThrown) := goodIn_app (goodIn_of _ (by decide +kernel)) ggX8_copyBase_X8_isThrown
set_option maxRecDepth 20000 in
theorem ggX8_copyBase_X8_at : GoodIn wsX8_copyBase wsX8_at := goodIn_r _ [22] (by decide +kernel) (by decide +kernel)
set_option maxRecDepth 20000 in
theorem gX8_copyBase_X8_at : GoodIn wsX8_copyBase (va_wsS RX8 112 yX8_at wsX8_at) := goodIn_app (goodIn_of _ (by decide +kernel)) ggX8_copyBase_X8_at
set_option maxRecDepth 20000 in
theorem ggX8_copyBase_X8_byHand : GoodIn wsX8_copyBase wsX8_byHand := goodIn_ca (goodIn_r _ [26, 27, 1, 28, 29, 30, 31, 7, 32, 33, 34, 3, 35, 36, 37, 38, 39, 40, 2, 41, 42, 43, 44, 45, 46, 47, 48, 49, 50, 51, 52, 53, 54, 55, 56, 57, 58, 59, 60, 61, 62, 63, 64, 65, 66, 67, 12, 13, 14, 68, 69, 70, 71, 72, 73, 74, 75, 76, 9, 10, 11, 77, 78, 79, 80, 20, 21, 22, 81, 82, 83, 84, 85, 86, 87, 88, 89, 90, 91, 92, 93, 94, 95, 96, 97, 98, 99, 100, 101, 102, 103, 104, 105, 106, 107, 108, 109, 110, 111, 112, 113, 114, 115, 116, 117, 118, 119, 120, 121, 122, 123, 124, 125, 126, 127, 128, 129, 130, 131, 132, 133, 134, 135, 136, 137] (by decide +kernel) (by decide +kernel)) (goodIn_sub (fun _ h => List.mem_cons_of_mem _ (List.mem_append_right _ h)) (by decide +kernel))
set_option maxRecDepth 20000 in
theorem gX8_copyBase_X8_byHand : GoodIn wsX8_copyBase (wsV RX8 172 RX8 yX8_byHand wsX8_byHand) := goodIn_app (goodIn_of _ (by decide +kernel)) ggX8_copyBase_X8_byHand
theorem dX8_copyBase_0 : decode cX8_copyBase 0 = .ok (.aload_n 0, 1) := by decide +kernel
theorem dX8_copyBase_1 : decode cX8_copyBase 1 = .ok (.iload_n 1, 1) := by decide +kernel
theorem dX8_copyBase_2 : decode cX8_copyBase 2 = .ok (.iload_n 2, 1) := by decide +kernel
theorem dX8_copyBase_3 : decode cX8_copyBase 3 = .ok (.invokevirtual 169, 3) := by decide +kernel
theorem dX8_copyBase_6 : decode cX8_copyBase 6 = .ok (.ifCond .ne 23, 3) := by decide +kernel
theorem dX8_copyBase_9 : decode cX8_copyBase 9 = .ok (.aload_n 0, 1) := by decide +kernel
theorem dX8_copyBase_10 : decode cX8_copyBase 10 = .ok (.aload_n 0, 1) := by decide +kernel
theorem dX8_copyBase_11 : decode cX8_copyBase 11 = .ok (.getfield 77, 3) := by decide +kernel
theorem dX8_copyBase_14 : decode cX8_copyBase 14 = .ok (.ifCond .ge 7, 3) := by decide +kernel
theorem dX8_copyBase_17 : decode cX8_copyBase 17 = .ok (.iconst 1, 1) := by decide +kernel
theorem dX8_copyBase_18 : decode cX8_copyBase 18 = .ok (.goto 4, 3) := by decide +kernel
theorem dX8_copyBase_21 : decode cX8_copyBase 21 = .ok (.iconst 0, 1) := by decide +kernel
theorem dX8_copyBase_22 : decode cX8_copyBase 22 = .ok (.iconst 2, 1) := by decide +kernel
theorem dX8_copyBase_23 : decode cX8_copyBase 23 = .ok (.invokevirtual 92, 3) := by decide +kernel
theorem dX8_copyBase_26 : decode cX8_copyBase 26 = .ok (.ifCond .eq 7, 3) := by decide +kernel
theorem dX8_copyBase_29 : decode cX8_copyBase 29 = .ok (.iconst 0, 1) := by decide +kernel
theorem dX8_copyBase_30 : decode cX8_copyBase 30 = .ok (.goto 24, 3) := by decide +kernel
theorem dX8_copyBase_33 : decode cX8_copyBase 33 = .ok (.aload_n 0, 1) := by decide +kernel
theorem dX8_copyBase_34 : decode cX8_copyBase 34 = .ok (.bipush 99, 2) := by decide +kernel
theorem dX8_copyBase_36 : decode cX8_copyBase 36 = .ok (.iload_n 1, 1) := by decide +kernel
theorem dX8_copyBase_37 : decode cX8_copyBase 37 = .ok (.iload_n 2, 1) := by decide +kernel
theorem dX8_copyBase_38 : decode cX8_copyBase 38 = .ok (.invokestatic 112, 3) := by decide +kernel
theorem dX8_copyBase_41 : decode cX8_copyBase 41 = .ok (.aload_n 0, 1) := by decide +kernel
theorem dX8_copyBase_42 : decode cX8_copyBase 42 = .ok (.getfield 9, 3) := by decide +kernel
theorem dX8_copyBase_45 : decode cX8_copyBase 45 = .ok (.aload_n 0, 1) := by decide +kernel
theorem dX8_copyBase_46 : decode cX8_copyBase 46 = .ok (.getfield 139, 3) := by decide +kernel
theorem dX8_copyBase_49 : decode cX8_copyBase 49 = .ok (.iaload, 1) := by decide +kernel
theorem dX8_copyBase_50 : decode cX8_copyBase 50 = .ok (.iconst 0, 1) := by decide +kernel
theorem dX8_copyBase_51 : decode cX8_copyBase 51 = .ok (.invokevirtual 172, 3) := by decide +kernel
theorem dX8_copyBase_54 : decode cX8_copyBase 54 = .ok (.ireturn, 1) := by decide +kernel
set_option maxRecDepth 20000 in
theorem ggX8_cell_X8_isNoCell : GoodIn wsX8_cell wsX8_isNoCell := goodIn_r _ [6, 7, 8, 5, 9, 10, 11, 12, 13, 14, 15, 16, 17, 21, 22, 23, 24, 25, 26, 27, 28, 29, 30, 31, 32, 33, 34, 35, 36, 37, 38, 39, 40, 41, 42, 43, 44, 45, 46, 47, 48, 49, 50, 51, 52] (by decide +kernel) (by decide +kernel)
set_option maxRecDepth 20000 in
theorem gX8_cell_X8_isNoCell : GoodIn wsX8_cell (wsV RX8 169 RX8 yX8_isNoCell wsX8_isNoCell) := goodIn_app (goodIn_of _ (by decide +kernel)) ggX8_cell_X8_isNoCell
set_option maxRecDepth 20000 in
theorem ggX8_cell_X8_at : GoodIn wsX8_cell wsX8_at := goodIn_r _ [20] (by decide +kernel) (by decide +kernel)
set_option maxRecDepth 20000 in
theorem gX8_cell_X8_at : GoodIn wsX8_cell (va_wsS RX8 112 yX8_at wsX8_at) := goodIn_app (goodIn_of _ (by decide +kernel)) ggX8_cell_X8_at
theorem dX8_cell_0 : decode cX8_cell 0 = .ok (.aload_n 0, 1) := by decide +kernel
theorem dX8_cell_1 : decode cX8_cell 1 = .ok (.iload_n 1, 1) := by decide +kernel
theorem dX8_cell_2 : decode cX8_cell 2 = .ok (.iload_n 2, 1) := by decide +kernel
theorem dX8_cell_3 : decode cX8_cell 3 = .ok (.invokevirtual 169, 3) := by decide +kernel
theorem dX8_cell_6 : decode cX8_cell 6 = .ok (.ifCond .eq 7, 3) := by decide +kernel
theorem dX8_cell_9 : decode cX8_cell 9 = .ok (.iconst 0, 1) := by decide +kernel
theorem dX8_cell_10 : decode cX8_cell 10 = .ok (.goto 13, 3) := by decide +kernel
theorem dX8_cell_13 : decode cX8_cell 13 = .ok (.aload_n 0, 1) := by decide +kernel
theorem dX8_cell_14 : decode cX8_cell 14 = .ok (.getfield 9, 3) := by decide +kernel
theorem dX8_cell_17 : decode cX8_cell 17 = .ok (.iload_n 1, 1) := by decide +kernel
theorem dX8_cell_18 : decode cX8_cell 18 = .ok (.iload_n 2, 1) := by decide +kernel
theorem dX8_cell_19 : decode cX8_cell 19 = .ok (.invokestatic 112, 3) := by decide +kernel
theorem dX8_cell_22 : decode cX8_cell 22 = .ok (.iaload, 1) := by decide +kernel
theorem dX8_cell_23 : decode cX8_cell 23 = .ok (.ireturn, 1) := by decide +kernel
set_option maxRecDepth 20000 in
theorem ggX8_cellByAudit_X8_cell : GoodIn wsX8_cellByAudit wsX8_cell := goodIn_ca (goodIn_r _ [5, 6, 7, 8, 9, 4, 10, 11, 12, 13, 14, 15, 16, 17, 18, 19, 20, 21, 22, 23, 24, 25, 26, 27, 28, 29, 30, 31, 32, 33, 34, 35, 36, 37, 38, 39, 40, 41, 42, 43, 44, 45, 46, 47, 48, 49, 50, 51, 52, 53, 54, 55, 56] (by decide +kernel) (by decide +kernel)) (goodIn_sub (fun _ h => List.mem_cons_of_mem _ (List.mem_append_right _ h)) (by decide +kernel))
set_option maxRecDepth 20000 in
theorem gX8_cellByAudit_X8_cell : GoodIn wsX8_cellByAudit (wsV RX8 176 RX8 yX8_cell wsX8_cell) := goodIn_app (goodIn_of _ (by decide +kernel)) ggX8_cellByAudit_X8_cell
theorem dX8_cellByAudit_0 : decode cX8_cellByAudit 0 = .ok (.aload_n 0, 1) := by decide +kernel
theorem dX8_cellByAudit_1 : decode cX8_cellByAudit 1 = .ok (.iload_n 1, 1) := by decide +kernel
theorem dX8_cellByAudit_2 : decode cX8_cellByAudit 2 = .ok (.iload_n 2, 1) := by decide +kernel
theorem dX8_cellByAudit_3 : decode cX8_cellByAudit 3 = .ok (.invokevirtual 176, 3) := by decide +kernel
theorem dX8_cellByAudit_6 : decode cX8_cellByAudit 6 = .ok (.ireturn, 1) := by decide +kernel
set_option maxRecDepth 20000 in
theorem ggX8_addMacro_X8_isThrown : GoodIn wsX8_addMacro wsX8_isThrown := goodIn_r _ [6, 7, 8, 9, 10, 11, 12, 13, 14, 15, 16, 17, 18, 19, 20, 21, 22, 23, 24, 25, 26, 27, 28, 29, 30, 31, 32, 33, 34, 35, 36, 37, 38, 39] (by decide +kernel) (by decide +kernel)
set_option maxRecDepth 20000 in
theorem gX8_addMacro_X8_isThrown : GoodIn wsX8_addMacro (wsV RX8 92 RX8 yX8_isThrown wsX8_isThrown) := goodIn_app (goodIn_of _ (by decide +kernel)) ggX8_addMacro_X8_isThrown
theorem dX8_addMacro_0 : decode cX8_addMacro 0 = .ok (.aload_n 0, 1) := by decide +kernel
theorem dX8_addMacro_1 : decode cX8_addMacro 1 = .ok (.aload_n 0, 1) := by decide +kernel
theorem dX8_addMacro_2 : decode cX8_addMacro 2 = .ok (.getfield 96, 3) := by decide +kernel
theorem dX8_addMacro_5 : decode cX8_addMacro 5 = .ok (.bipush 6, 2) := by decide +kernel
theorem dX8_addMacro_7 : decode cX8_addMacro 7 = .ok (.if_icmp .ne 7, 3) := by decide +kernel
theorem dX8_addMacro_10 : decode cX8_addMacro 10 = .ok (.iconst 1, 1) := by decide +kernel
theorem dX8_addMacro_11 : decode cX8_addMacro 11 = .ok (.goto 4, 3) := by decide +kernel
theorem dX8_addMacro_14 : decode cX8_addMacro 14 = .ok (.iconst 0, 1) := by decide +kernel
theorem dX8_addMacro_15 : decode cX8_addMacro 15 = .ok (.iconst 1, 1) := by decide +kernel
theorem dX8_addMacro_16 : decode cX8_addMacro 16 = .ok (.invokevirtual 92, 3) := by decide +kernel
theorem dX8_addMacro_19 : decode cX8_addMacro 19 = .ok (.ifCond .eq 5, 3) := by decide +kernel
theorem dX8_addMacro_22 : decode cX8_addMacro 22 = .ok (.iconst 0, 1) := by decide +kernel
theorem dX8_addMacro_23 : decode cX8_addMacro 23 = .ok (.ireturn, 1) := by decide +kernel
theorem dX8_addMacro_24 : decode cX8_addMacro 24 = .ok (.aload_n 0, 1) := by decide +kernel
theorem dX8_addMacro_25 : decode cX8_addMacro 25 = .ok (.dup, 1) := by decide +kernel
theorem dX8_addMacro_26 : decode cX8_addMacro 26 = .ok (.getfield 96, 3) := by decide +kernel
theorem dX8_addMacro_29 : decode cX8_addMacro 29 = .ok (.iconst 1, 1) := by decide +kernel
theorem dX8_addMacro_30 : decode cX8_addMacro 30 = .ok (.iadd, 1) := by decide +kernel
theorem dX8_addMacro_31 : decode cX8_addMacro 31 = .ok (.putfield 96, 3) := by decide +kernel
theorem dX8_addMacro_34 : decode cX8_addMacro 34 = .ok (.aload_n 0, 1) := by decide +kernel
theorem dX8_addMacro_35 : decode cX8_addMacro 35 = .ok (.getfield 96, 3) := by decide +kernel
theorem dX8_addMacro_38 : decode cX8_addMacro 38 = .ok (.iconst 1, 1) := by decide +kernel
theorem dX8_addMacro_39 : decode cX8_addMacro 39 = .ok (.isub, 1) := by decide +kernel
theorem dX8_addMacro_40 : decode cX8_addMacro 40 = .ok (.ireturn, 1) := by decide +kernel
set_option maxRecDepth 20000 in
theorem ggX8_record_X8_isIn : GoodIn wsX8_record wsX8_isIn := goodIn_r _ [8] (by decide +kernel) (by decide +kernel)
set_option maxRecDepth 20000 in
theorem gX8_record_X8_isIn : GoodIn wsX8_record (va_wsS RX8 84 yX8_isIn wsX8_isIn) := goodIn_app (goodIn_of _ (by decide +kernel)) ggX8_record_X8_isIn
set_option maxRecDepth 20000 in
theorem ggX8_record_X8_isCell : GoodIn wsX8_record wsX8_isCell := goodIn_r _ [11, 5, 6, 7, 8] (by decide +kernel) (by decide +kernel)
set_option maxRecDepth 20000 in
theorem gX8_record_X8_isCell : GoodIn wsX8_record (va_wsS RX8 88 yX8_isCell wsX8_isCell) := goodIn_app (goodIn_of _ (by decide +kernel)) ggX8_record_X8_isCell
set_option maxRecDepth 20000 in
theorem ggX8_record_X8_isThrown : GoodIn wsX8_record wsX8_isThrown := goodIn_r _ [15, 16, 20, 21, 22, 23, 24, 25, 26, 27, 28, 29, 30, 31, 32, 33, 34, 35, 36, 37, 38, 39, 40, 41, 42, 43, 44, 45, 46, 47, 48, 49, 50, 51] (by decide +kernel) (by decide +kernel)
set_option maxRecDepth 20000 in
theorem gX8_record_X8_isThrown : GoodIn wsX8_record (wsV RX8 92 RX8 yX8_isThrown wsX8_isThrown) := goodIn_app (goodIn_of _ (by decide +kernel)) ggX8_record_X8_isThrown
set_option maxRecDepth 20000 in
theorem ggX8_record_X8_at : GoodIn wsX8_record wsX8_at := goodIn_r _ [19] (by decide +kernel) (by decide +kernel)
set_option maxRecDepth 20000 in
theorem gX8_record_X8_at : GoodIn wsX8_record (va_wsS RX8 112 yX8_at wsX8_at) := goodIn_app (goodIn_of _ (by decide +kernel)) ggX8_record_X8_at
theorem dX8_record_0 : decode cX8_record 0 = .ok (.aload_n 0, 1) := by decide +kernel
theorem dX8_record_1 : decode cX8_record 1 = .ok (.iload_n 1, 1) := by decide +kernel
theorem dX8_record_2 : decode cX8_record 2 = .ok (.iconst 0, 1) := by decide +kernel
theorem dX8_record_3 : decode cX8_record 3 = .ok (.aload_n 0, 1) := by decide +kernel
theorem dX8_record_4 : decode cX8_record 4 = .ok (.getfield 96, 3) := by decide +kernel
theorem dX8_record_7 : decode cX8_record 7 = .ok (.iconst 1, 1) := by decide +kernel
theorem dX8_record_8 : decode cX8_record 8 = .ok (.isub, 1) := by decide +kernel
theorem dX8_record_9 : decode cX8_record 9 = .ok (.invokestatic 84, 3) := by decide +kernel
theorem dX8_record_12 : decode cX8_record 12 = .ok (.ifCond .eq 11, 3) := by decide +kernel
theorem dX8_record_15 : decode cX8_record 15 = .ok (.iload_n 2, 1) := by decide +kernel
theorem dX8_record_16 : decode cX8_record 16 = .ok (.iload_n 3, 1) := by decide +kernel
theorem dX8_record_17 : decode cX8_record 17 = .ok (.invokestatic 88, 3) := by decide +kernel
theorem dX8_record_20 : decode cX8_record 20 = .ok (.ifCond .ne 7, 3) := by decide +kernel
theorem dX8_record_23 : decode cX8_record 23 = .ok (.iconst 1, 1) := by decide +kernel
theorem dX8_record_24 : decode cX8_record 24 = .ok (.goto 4, 3) := by decide +kernel
theorem dX8_record_27 : decode cX8_record 27 = .ok (.iconst 0, 1) := by decide +kernel
theorem dX8_record_28 : decode cX8_record 28 = .ok (.iconst 1, 1) := by decide +kernel
theorem dX8_record_29 : decode cX8_record 29 = .ok (.invokevirtual 92, 3) := by decide +kernel
theorem dX8_record_32 : decode cX8_record 32 = .ok (.ifCond .ne 23, 3) := by decide +kernel
theorem dX8_record_35 : decode cX8_record 35 = .ok (.aload_n 0, 1) := by decide +kernel
theorem dX8_record_36 : decode cX8_record 36 = .ok (.aload_n 0, 1) := by decide +kernel
theorem dX8_record_37 : decode cX8_record 37 = .ok (.getfield 77, 3) := by decide +kernel
theorem dX8_record_40 : decode cX8_record 40 = .ok (.ifCond .lt 7, 3) := by decide +kernel
theorem dX8_record_43 : decode cX8_record 43 = .ok (.iconst 1, 1) := by decide +kernel
theorem dX8_record_44 : decode cX8_record 44 = .ok (.goto 4, 3) := by decide +kernel
theorem dX8_record_47 : decode cX8_record 47 = .ok (.iconst 0, 1) := by decide +kernel
theorem dX8_record_48 : decode cX8_record 48 = .ok (.iconst 2, 1) := by decide +kernel
theorem dX8_record_49 : decode cX8_record 49 = .ok (.invokevirtual 92, 3) := by decide +kernel
theorem dX8_record_52 : decode cX8_record 52 = .ok (.ifCond .eq 5, 3) := by decide +kernel
theorem dX8_record_55 : decode cX8_record 55 = .ok (.iconst 0, 1) := by decide +kernel
theorem dX8_record_56 : decode cX8_record 56 = .ok (.ireturn, 1) := by decide +kernel
theorem dX8_record_57 : decode cX8_record 57 = .ok (.aload_n 0, 1) := by decide +kernel
theorem dX8_record_58 : decode cX8_record 58 = .ok (.getfield 22, 3) := by decide +kernel
theorem dX8_record_61 : decode cX8_record 61 = .ok (.iload_n 1, 1) := by decide +kernel
theorem dX8_record_62 : decode cX8_record 62 = .ok (.iaload, 1) := by decide +kernel
theorem dX8_record_63 : decode cX8_record 63 = .ok (.istore 4, 2) := by decide +kernel
theorem dX8_record_65 : decode cX8_record 65 = .ok (.aload_n 0, 1) := by decide +kernel
theorem dX8_record_66 : decode cX8_record 66 = .ok (.getfield 22, 3) := by decide +kernel
theorem dX8_record_69 : decode cX8_record 69 = .ok (.iload_n 1, 1) := by decide +kernel
theorem dX8_record_70 : decode cX8_record 70 = .ok (.iconst 0, 1) := by decide +kernel
theorem dX8_record_71 : decode cX8_record 71 = .ok (.iastore, 1) := by decide +kernel
theorem dX8_record_72 : decode cX8_record 72 = .ok (.aload_n 0, 1) := by decide +kernel
theorem dX8_record_73 : decode cX8_record 73 = .ok (.iload_n 1, 1) := by decide +kernel
theorem dX8_record_74 : decode cX8_record 74 = .ok (.putfield 77, 3) := by decide +kernel
theorem dX8_record_77 : decode cX8_record 77 = .ok (.aload_n 0, 1) := by decide +kernel
theorem dX8_record_78 : decode cX8_record 78 = .ok (.iload_n 2, 1) := by decide +kernel
theorem dX8_record_79 : decode cX8_record 79 = .ok (.iload_n 3, 1) := by decide +kernel
theorem dX8_record_80 : decode cX8_record 80 = .ok (.invokestatic 112, 3) := by decide +kernel
theorem dX8_record_83 : decode cX8_record 83 = .ok (.putfield 139, 3) := by decide +kernel
theorem dX8_record_86 : decode cX8_record 86 = .ok (.iload 4, 2) := by decide +kernel
theorem dX8_record_88 : decode cX8_record 88 = .ok (.ireturn, 1) := by decide +kernel
set_option maxRecDepth 20000 in
theorem ggX8_stop_X8_isThrown : GoodIn wsX8_stop wsX8_isThrown := goodIn_r _ [7, 8, 9, 10, 11, 12, 13, 14, 15, 16, 17, 18, 19, 20, 21, 22, 23, 24, 25, 26, 27, 28, 29, 30, 31, 32, 33, 34, 35, 36, 37, 38, 39, 40] (by decide +kernel) (by decide +kernel)
set_option maxRecDepth 20000 in
theorem gX8_stop_X8_isThrown : GoodIn wsX8_stop (wsV RX8 92 RX8 yX8_isThrown wsX8_isThrown) := goodIn_app (goodIn_of _ (by decide +kernel)) ggX8_stop_X8_isThrown
theorem dX8_stop_0 : decode cX8_stop 0 = .ok (.aload_n 0, 1) := by decide +kernel
theorem dX8_stop_1 : decode cX8_stop 1 = .ok (.aload_n 0, 1) := by decide +kernel
theorem dX8_stop_2 : decode cX8_stop 2 = .ok (.getfield 77, 3) := by decide +kernel
theorem dX8_stop_5 : decode cX8_stop 5 = .ok (.ifCond .ge 7, 3) := by decide +kernel
theorem dX8_stop_8 : decode cX8_stop 8 = .ok (.iconst 1, 1) := by decide +kernel
theorem dX8_stop_9 : decode cX8_stop 9 = .ok (.goto 4, 3) := by decide +kernel
theorem dX8_stop_12 : decode cX8_stop 12 = .ok (.iconst 0, 1) := by decide +kernel
theorem dX8_stop_13 : decode cX8_stop 13 = .ok (.iconst 1, 1) := by decide +kernel
theorem dX8_stop_14 : decode cX8_stop 14 = .ok (.invokevirtual 92, 3) := by decide +kernel
theorem dX8_stop_17 : decode cX8_stop 17 = .ok (.ifCond .eq 5, 3) := by decide +kernel
theorem dX8_stop_20 : decode cX8_stop 20 = .ok (.iconst 0, 1) := by decide +kernel
theorem dX8_stop_21 : decode cX8_stop 21 = .ok (.ireturn, 1) := by decide +kernel
theorem dX8_stop_22 : decode cX8_stop 22 = .ok (.aload_n 0, 1) := by decide +kernel
theorem dX8_stop_23 : decode cX8_stop 23 = .ok (.getfield 22, 3) := by decide +kernel
theorem dX8_stop_26 : decode cX8_stop 26 = .ok (.aload_n 0, 1) := by decide +kernel
theorem dX8_stop_27 : decode cX8_stop 27 = .ok (.getfield 77, 3) := by decide +kernel
theorem dX8_stop_30 : decode cX8_stop 30 = .ok (.iaload, 1) := by decide +kernel
theorem dX8_stop_31 : decode cX8_stop 31 = .ok (.istore_n 1, 1) := by decide +kernel
theorem dX8_stop_32 : decode cX8_stop 32 = .ok (.aload_n 0, 1) := by decide +kernel
theorem dX8_stop_33 : decode cX8_stop 33 = .ok (.iconst (-1), 1) := by decide +kernel
theorem dX8_stop_34 : decode cX8_stop 34 = .ok (.putfield 77, 3) := by decide +kernel
theorem dX8_stop_37 : decode cX8_stop 37 = .ok (.iload_n 1, 1) := by decide +kernel
theorem dX8_stop_38 : decode cX8_stop 38 = .ok (.ireturn, 1) := by decide +kernel
set_option maxRecDepth 20000 in
theorem ggX8_steps_X8_isNoMacro : GoodIn wsX8_steps wsX8_isNoMacro := goodIn_r _ [6, 7, 8, 9, 5, 10, 11, 12, 13, 14, 15, 16, 17, 18, 19, 20, 21, 22, 23, 24, 25, 26, 27, 28, 29, 30, 31, 32, 33, 34, 35, 36, 37, 38, 39, 40, 41, 42, 43, 44, 45, 46, 47] (by decide +kernel) (by decide +kernel)
set_option maxRecDepth 20000 in
theorem gX8_steps_X8_isNoMacro : GoodIn wsX8_steps (wsV RX8 178 RX8 yX8_isNoMacro wsX8_isNoMacro) := goodIn_app (goodIn_of _ (by decide +kernel)) ggX8_steps_X8_isNoMacro
theorem dX8_steps_0 : decode cX8_steps 0 = .ok (.aload_n 0, 1) := by decide +kernel
theorem dX8_steps_1 : decode cX8_steps 1 = .ok (.iload_n 1, 1) := by decide +kernel
theorem dX8_steps_2 : decode cX8_steps 2 = .ok (.invokevirtual 178, 3) := by decide +kernel
theorem dX8_steps_5 : decode cX8_steps 5 = .ok (.ifCond .eq 7, 3) := by decide +kernel
theorem dX8_steps_8 : decode cX8_steps 8 = .ok (.iconst 0, 1) := by decide +kernel
theorem dX8_steps_9 : decode cX8_steps 9 = .ok (.goto 9, 3) := by decide +kernel
theorem dX8_steps_12 : decode cX8_steps 12 = .ok (.aload_n 0, 1) := by decide +kernel
theorem dX8_steps_13 : decode cX8_steps 13 = .ok (.getfield 22, 3) := by decide +kernel
theorem dX8_steps_16 : decode cX8_steps 16 = .ok (.iload_n 1, 1) := by decide +kernel
theorem dX8_steps_17 : decode cX8_steps 17 = .ok (.iaload, 1) := by decide +kernel
theorem dX8_steps_18 : decode cX8_steps 18 = .ok (.ireturn, 1) := by decide +kernel
theorem dX8_isRange_0 : decode cX8_isRange 0 = .ok (.iload_n 0, 1) := by decide +kernel
theorem dX8_isRange_1 : decode cX8_isRange 1 = .ok (.iload_n 2, 1) := by decide +kernel
theorem dX8_isRange_2 : decode cX8_isRange 2 = .ok (.if_icmp .gt 12, 3) := by decide +kernel
theorem dX8_isRange_5 : decode cX8_isRange 5 = .ok (.iload_n 1, 1) := by decide +kernel
theorem dX8_isRange_6 : decode cX8_isRange 6 = .ok (.iload_n 3, 1) := by decide +kernel
theorem dX8_isRange_7 : decode cX8_isRange 7 = .ok (.if_icmp .gt 7, 3) := by decide +kernel
theorem dX8_isRange_10 : decode cX8_isRange 10 = .ok (.iconst 1, 1) := by decide +kernel
theorem dX8_isRange_11 : decode cX8_isRange 11 = .ok (.goto 4, 3) := by decide +kernel
theorem dX8_isRange_14 : decode cX8_isRange 14 = .ok (.iconst 0, 1) := by decide +kernel
theorem dX8_isRange_15 : decode cX8_isRange 15 = .ok (.ireturn, 1) := by decide +kernel
set_option maxRecDepth 20000 in
theorem ggX8_grant_X8_isIn : GoodIn wsX8_grant wsX8_isIn := goodIn_r _ [8] (by decide +kernel) (by decide +kernel)
set_option maxRecDepth 20000 in
theorem gX8_grant_X8_isIn : GoodIn wsX8_grant (va_wsS RX8 84 yX8_isIn wsX8_isIn) := goodIn_app (goodIn_of _ (by decide +kernel)) ggX8_grant_X8_isIn
set_option maxRecDepth 20000 in
theorem ggX8_grant_X8_isCell : GoodIn wsX8_grant wsX8_isCell := goodIn_r _ [11, 5, 6, 7, 8] (by decide +kernel) (by decide +kernel)
set_option maxRecDepth 20000 in
theorem gX8_grant_X8_isCell : GoodIn wsX8_grant (va_wsS RX8 88 yX8_isCell wsX8_isCell) := goodIn_app (goodIn_of _ (by decide +kernel)) ggX8_grant_X8_isCell
set_option maxRecDepth 20000 in
theorem ggX8_grant_X8_isThrown : GoodIn wsX8_grant wsX8_isThrown := goodIn_r _ [15, 16, 23, 24, 25, 26, 27, 28, 29, 30, 31, 32, 33, 34, 35, 36, 37, 38, 39, 40, 41, 42, 43, 44, 45, 46, 47, 48, 49, 50, 51, 52, 53, 54] (by decide +kernel) (by decide +kernel)
set_option maxRecDepth 20000 in
theorem gX8_grant_X8_isThrown : GoodIn wsX8_grant (wsV RX8 92 RX8 yX8_isThrown wsX8_isThrown) := goodIn_app (goodIn_of _ (by decide +kernel)) ggX8_grant_X8_isThrown
set_option maxRecDepth 20000 in
theorem ggX8_grant_X8_isRange : GoodIn wsX8_grant wsX8_isRange := goodIn_r _ [19] (by decide +kernel) (by decide +kernel)
set_option maxRecDepth 20000 in
theorem gX8_grant_X8_isRange : GoodIn wsX8_grant (va_wsS RX8 181 yX8_isRange wsX8_isRange) := goodIn_app (goodIn_of _ (by decide +kernel)) ggX8_grant_X8_isRange
set_option maxRecDepth 20000 in
theorem ggX8_grant_X8_at : GoodIn wsX8_grant wsX8_at := goodIn_r _ [22] (by decide +kernel) (by decide +kernel)
set_option maxRecDepth 20000 in
theorem gX8_grant_X8_at : GoodIn wsX8_grant (va_wsS RX8 112 yX8_at wsX8_at) := goodIn_app (goodIn_of _ (by decide +kernel)) ggX8_grant_X8_at
theorem dX8_grant_0 : decode cX8_grant 0 = .ok (.aload_n 0, 1) := by decide +kernel
theorem dX8_grant_1 : decode cX8_grant 1 = .ok (.iload_n 1, 1) := by decide +kernel
theorem dX8_grant_2 : decode cX8_grant 2 = .ok (.iconst 0, 1) := by decide +kernel
theorem dX8_grant_3 : decode cX8_grant 3 = .ok (.aload_n 0, 1) := by decide +kernel
theorem dX8_grant_4 : decode cX8_grant 4 = .ok (.getfield 96, 3) := by decide +kernel
theorem dX8_grant_7 : decode cX8_grant 7 = .ok (.iconst 1, 1) := by decide +kernel
theorem dX8_grant_8 : decode cX8_grant 8 = .ok (.isub, 1) := by decide +kernel
theorem dX8_grant_9 : decode cX8_grant 9 = .ok (.invokestatic 84, 3) := by decide +kernel
theorem dX8_grant_12 : decode cX8_grant 12 = .ok (.ifCond .eq 21, 3) := by decide +kernel
theorem dX8_grant_15 : decode cX8_grant 15 = .ok (.iload_n 2, 1) := by decide +kernel
theorem dX8_grant_16 : decode cX8_grant 16 = .ok (.iload_n 3, 1) := by decide +kernel
theorem dX8_grant_17 : decode cX8_grant 17 = .ok (.invokestatic 88, 3) := by decide +kernel
theorem dX8_grant_20 : decode cX8_grant 20 = .ok (.ifCond .eq 13, 3) := by decide +kernel
theorem dX8_grant_23 : decode cX8_grant 23 = .ok (.iload 4, 2) := by decide +kernel
theorem dX8_grant_25 : decode cX8_grant 25 = .ok (.iload 5, 2) := by decide +kernel
theorem dX8_grant_27 : decode cX8_grant 27 = .ok (.invokestatic 88, 3) := by decide +kernel
theorem dX8_grant_30 : decode cX8_grant 30 = .ok (.ifCond .ne 7, 3) := by decide +kernel
theorem dX8_grant_33 : decode cX8_grant 33 = .ok (.iconst 1, 1) := by decide +kernel
theorem dX8_grant_34 : decode cX8_grant 34 = .ok (.goto 4, 3) := by decide +kernel
theorem dX8_grant_37 : decode cX8_grant 37 = .ok (.iconst 0, 1) := by decide +kernel
theorem dX8_grant_38 : decode cX8_grant 38 = .ok (.iconst 1, 1) := by decide +kernel
theorem dX8_grant_39 : decode cX8_grant 39 = .ok (.invokevirtual 92, 3) := by decide +kernel
theorem dX8_grant_42 : decode cX8_grant 42 = .ok (.ifCond .ne 51, 3) := by decide +kernel
theorem dX8_grant_45 : decode cX8_grant 45 = .ok (.aload_n 0, 1) := by decide +kernel
theorem dX8_grant_46 : decode cX8_grant 46 = .ok (.iload_n 2, 1) := by decide +kernel
theorem dX8_grant_47 : decode cX8_grant 47 = .ok (.iload_n 3, 1) := by decide +kernel
theorem dX8_grant_48 : decode cX8_grant 48 = .ok (.iload 4, 2) := by decide +kernel
theorem dX8_grant_50 : decode cX8_grant 50 = .ok (.iload 5, 2) := by decide +kernel
theorem dX8_grant_52 : decode cX8_grant 52 = .ok (.invokestatic 181, 3) := by decide +kernel
theorem dX8_grant_55 : decode cX8_grant 55 = .ok (.ifCond .ne 7, 3) := by decide +kernel
theorem dX8_grant_58 : decode cX8_grant 58 = .ok (.iconst 1, 1) := by decide +kernel
theorem dX8_grant_59 : decode cX8_grant 59 = .ok (.goto 4, 3) := by decide +kernel
theorem dX8_grant_62 : decode cX8_grant 62 = .ok (.iconst 0, 1) := by decide +kernel
theorem dX8_grant_63 : decode cX8_grant 63 = .ok (.iconst 2, 1) := by decide +kernel
theorem dX8_grant_64 : decode cX8_grant 64 = .ok (.invokevirtual 92, 3) := by decide +kernel
theorem dX8_grant_67 : decode cX8_grant 67 = .ok (.ifCond .ne 26, 3) := by decide +kernel
theorem dX8_grant_70 : decode cX8_grant 70 = .ok (.aload_n 0, 1) := by decide +kernel
theorem dX8_grant_71 : decode cX8_grant 71 = .ok (.aload_n 0, 1) := by decide +kernel
theorem dX8_grant_72 : decode cX8_grant 72 = .ok (.getfield 37, 3) := by decide +kernel
theorem dX8_grant_75 : decode cX8_grant 75 = .ok (.iload_n 1, 1) := by decide +kernel
theorem dX8_grant_76 : decode cX8_grant 76 = .ok (.iaload, 1) := by decide +kernel
theorem dX8_grant_77 : decode cX8_grant 77 = .ok (.iconst 4, 1) := by decide +kernel
theorem dX8_grant_78 : decode cX8_grant 78 = .ok (.if_icmp .ne 7, 3) := by decide +kernel
theorem dX8_grant_81 : decode cX8_grant 81 = .ok (.iconst 1, 1) := by decide +kernel
theorem dX8_grant_82 : decode cX8_grant 82 = .ok (.goto 4, 3) := by decide +kernel
theorem dX8_grant_85 : decode cX8_grant 85 = .ok (.iconst 0, 1) := by decide +kernel
theorem dX8_grant_86 : decode cX8_grant 86 = .ok (.iconst 3, 1) := by decide +kernel
theorem dX8_grant_87 : decode cX8_grant 87 = .ok (.invokevirtual 92, 3) := by decide +kernel
theorem dX8_grant_90 : decode cX8_grant 90 = .ok (.ifCond .eq 5, 3) := by decide +kernel
theorem dX8_grant_93 : decode cX8_grant 93 = .ok (.iconst 0, 1) := by decide +kernel
theorem dX8_grant_94 : decode cX8_grant 94 = .ok (.ireturn, 1) := by decide +kernel
theorem dX8_grant_95 : decode cX8_grant 95 = .ok (.aload_n 0, 1) := by decide +kernel
theorem dX8_grant_96 : decode cX8_grant 96 = .ok (.getfield 40, 3) := by decide +kernel
theorem dX8_grant_99 : decode cX8_grant 99 = .ok (.iconst 4, 1) := by decide +kernel
theorem dX8_grant_100 : decode cX8_grant 100 = .ok (.iload_n 1, 1) := by decide +kernel
theorem dX8_grant_101 : decode cX8_grant 101 = .ok (.imul, 1) := by decide +kernel
theorem dX8_grant_102 : decode cX8_grant 102 = .ok (.aload_n 0, 1) := by decide +kernel
theorem dX8_grant_103 : decode cX8_grant 103 = .ok (.getfield 37, 3) := by decide +kernel
theorem dX8_grant_106 : decode cX8_grant 106 = .ok (.iload_n 1, 1) := by decide +kernel
theorem dX8_grant_107 : decode cX8_grant 107 = .ok (.iaload, 1) := by decide +kernel
theorem dX8_grant_108 : decode cX8_grant 108 = .ok (.iadd, 1) := by decide +kernel
theorem dX8_grant_109 : decode cX8_grant 109 = .ok (.iload_n 2, 1) := by decide +kernel
theorem dX8_grant_110 : decode cX8_grant 110 = .ok (.iload_n 3, 1) := by decide +kernel
theorem dX8_grant_111 : decode cX8_grant 111 = .ok (.invokestatic 112, 3) := by decide +kernel
theorem dX8_grant_114 : decode cX8_grant 114 = .ok (.iastore, 1) := by decide +kernel
theorem dX8_grant_115 : decode cX8_grant 115 = .ok (.aload_n 0, 1) := by decide +kernel
theorem dX8_grant_116 : decode cX8_grant 116 = .ok (.getfield 43, 3) := by decide +kernel
theorem dX8_grant_119 : decode cX8_grant 119 = .ok (.iconst 4, 1) := by decide +kernel
theorem dX8_grant_120 : decode cX8_grant 120 = .ok (.iload_n 1, 1) := by decide +kernel
theorem dX8_grant_121 : decode cX8_grant 121 = .ok (.imul, 1) := by decide +kernel
theorem dX8_grant_122 : decode cX8_grant 122 = .ok (.aload_n 0, 1) := by decide +kernel
theorem dX8_grant_123 : decode cX8_grant 123 = .ok (.getfield 37, 3) := by decide +kernel
theorem dX8_grant_126 : decode cX8_grant 126 = .ok (.iload_n 1, 1) := by decide +kernel
theorem dX8_grant_127 : decode cX8_grant 127 = .ok (.iaload, 1) := by decide +kernel
theorem dX8_grant_128 : decode cX8_grant 128 = .ok (.iadd, 1) := by decide +kernel
theorem dX8_grant_129 : decode cX8_grant 129 = .ok (.iload 4, 2) := by decide +kernel
theorem dX8_grant_131 : decode cX8_grant 131 = .ok (.iload 5, 2) := by decide +kernel
theorem dX8_grant_133 : decode cX8_grant 133 = .ok (.invokestatic 112, 3) := by decide +kernel
theorem dX8_grant_136 : decode cX8_grant 136 = .ok (.iastore, 1) := by decide +kernel
theorem dX8_grant_137 : decode cX8_grant 137 = .ok (.aload_n 0, 1) := by decide +kernel
theorem dX8_grant_138 : decode cX8_grant 138 = .ok (.getfield 37, 3) := by decide +kernel
theorem dX8_grant_141 : decode cX8_grant 141 = .ok (.iload_n 1, 1) := by decide +kernel
theorem dX8_grant_142 : decode cX8_grant 142 = .ok (.dup2, 1) := by decide +kernel
theorem dX8_grant_143 : decode cX8_grant 143 = .ok (.iaload, 1) := by decide +kernel
theorem dX8_grant_144 : decode cX8_grant 144 = .ok (.iconst 1, 1) := by decide +kernel
theorem dX8_grant_145 : decode cX8_grant 145 = .ok (.iadd, 1) := by decide +kernel
theorem dX8_grant_146 : decode cX8_grant 146 = .ok (.iastore, 1) := by decide +kernel
theorem dX8_grant_147 : decode cX8_grant 147 = .ok (.aload_n 0, 1) := by decide +kernel
theorem dX8_grant_148 : decode cX8_grant 148 = .ok (.getfield 37, 3) := by decide +kernel
theorem dX8_grant_151 : decode cX8_grant 151 = .ok (.iload_n 1, 1) := by decide +kernel
theorem dX8_grant_152 : decode cX8_grant 152 = .ok (.iaload, 1) := by decide +kernel
theorem dX8_grant_153 : decode cX8_grant 153 = .ok (.ireturn, 1) := by decide +kernel
set_option maxRecDepth 20000 in
theorem ggX8_takeGrants_X8_isNoMacro : GoodIn wsX8_takeGrants wsX8_isNoMacro := goodIn_r _ [6, 7, 8, 9, 5, 10, 11, 12, 13, 14, 15, 16, 17, 18, 19, 20, 21, 22, 23, 24, 25, 26, 27, 28, 29, 30, 31, 32, 33, 34, 35, 36, 37, 38, 39, 40, 41, 42, 43, 44, 45, 46, 47] (by decide +kernel) (by decide +kernel)
set_option maxRecDepth 20000 in
theorem gX8_takeGrants_X8_isNoMacro : GoodIn wsX8_takeGrants (wsV RX8 178 RX8 yX8_isNoMacro wsX8_isNoMacro) := goodIn_app (goodIn_of _ (by decide +kernel)) ggX8_takeGrants_X8_isNoMacro
theorem dX8_takeGrants_0 : decode cX8_takeGrants 0 = .ok (.aload_n 0, 1) := by decide +kernel
theorem dX8_takeGrants_1 : decode cX8_takeGrants 1 = .ok (.iload_n 1, 1) := by decide +kernel
theorem dX8_takeGrants_2 : decode cX8_takeGrants 2 = .ok (.invokevirtual 178, 3) := by decide +kernel
theorem dX8_takeGrants_5 : decode cX8_takeGrants 5 = .ok (.ifCond .eq 5, 3) := by decide +kernel
theorem dX8_takeGrants_8 : decode cX8_takeGrants 8 = .ok (.iconst 0, 1) := by decide +kernel
theorem dX8_takeGrants_9 : decode cX8_takeGrants 9 = .ok (.ireturn, 1) := by decide +kernel
theorem dX8_takeGrants_10 : decode cX8_takeGrants 10 = .ok (.aload_n 0, 1) := by decide +kernel
theorem dX8_takeGrants_11 : decode cX8_takeGrants 11 = .ok (.getfield 37, 3) := by decide +kernel
theorem dX8_takeGrants_14 : decode cX8_takeGrants 14 = .ok (.iload_n 1, 1) := by decide +kernel
theorem dX8_takeGrants_15 : decode cX8_takeGrants 15 = .ok (.iaload, 1) := by decide +kernel
theorem dX8_takeGrants_16 : decode cX8_takeGrants 16 = .ok (.istore_n 2, 1) := by decide +kernel
theorem dX8_takeGrants_17 : decode cX8_takeGrants 17 = .ok (.aload_n 0, 1) := by decide +kernel
theorem dX8_takeGrants_18 : decode cX8_takeGrants 18 = .ok (.getfield 37, 3) := by decide +kernel
theorem dX8_takeGrants_21 : decode cX8_takeGrants 21 = .ok (.iload_n 1, 1) := by decide +kernel
theorem dX8_takeGrants_22 : decode cX8_takeGrants 22 = .ok (.iconst 0, 1) := by decide +kernel
theorem dX8_takeGrants_23 : decode cX8_takeGrants 23 = .ok (.iastore, 1) := by decide +kernel
theorem dX8_takeGrants_24 : decode cX8_takeGrants 24 = .ok (.iload_n 2, 1) := by decide +kernel
theorem dX8_takeGrants_25 : decode cX8_takeGrants 25 = .ok (.ireturn, 1) := by decide +kernel
set_option maxRecDepth 20000 in
theorem ggX8_granted_X8_isNoCell : GoodIn wsX8_granted wsX8_isNoCell := goodIn_r _ [6, 7, 8, 5, 9, 10, 11, 12, 13, 14, 15, 16, 17, 31, 32, 33, 34, 35, 36, 37, 38, 39, 40, 41, 42, 43, 44, 45, 46, 47, 48, 49, 50, 51, 52, 53, 54, 55, 56, 57, 58, 59, 60, 61, 62] (by decide +kernel) (by decide +kernel)
set_option maxRecDepth 20000 in
theorem gX8_granted_X8_isNoCell : GoodIn wsX8_granted (wsV RX8 169 RX8 yX8_isNoCell wsX8_isNoCell) := goodIn_app (goodIn_of _ (by decide +kernel)) ggX8_granted_X8_isNoCell
set_option maxRecDepth 20000 in
theorem ggX8_granted_X8_at : GoodIn wsX8_granted wsX8_at := goodIn_r _ [20] (by decide +kernel) (by decide +kernel)
set_option maxRecDepth 20000 in
theorem gX8_granted_X8_at : GoodIn wsX8_granted (va_wsS RX8 112 yX8_at wsX8_at) := goodIn_app (goodIn_of _ (by decide +kernel)) ggX8_granted_X8_at
set_option maxRecDepth 20000 in
theorem ggX8_granted_X8_isGranted : GoodIn wsX8_granted wsX8_isGranted := goodIn_ca (goodIn_r _ [24, 25, 26, 27, 28, 29, 5, 30, 10, 11, 12, 31, 32, 33, 34, 35, 36, 37, 38, 39, 40, 41, 42, 43, 44, 45, 46, 47, 48, 49, 50, 51, 52, 53, 54, 55, 56, 57, 58, 59, 60, 61, 62] (by decide +kernel) (by decide +kernel)) (goodIn_sub (fun _ h => List.mem_cons_of_mem _ (List.mem_append_right _ h)) (by decide +kernel))
set_option maxRecDepth 20000 in
theorem gX8_granted_X8_isGranted : GoodIn wsX8_granted (wsV RX8 122 RX8 yX8_isGranted wsX8_isGranted) := goodIn_app (goodIn_of _ (by decide +kernel)) ggX8_granted_X8_isGranted
theorem dX8_granted_0 : decode cX8_granted 0 = .ok (.aload_n 0, 1) := by decide +kernel
theorem dX8_granted_1 : decode cX8_granted 1 = .ok (.iload_n 1, 1) := by decide +kernel
theorem dX8_granted_2 : decode cX8_granted 2 = .ok (.iload_n 2, 1) := by decide +kernel
theorem dX8_granted_3 : decode cX8_granted 3 = .ok (.invokevirtual 169, 3) := by decide +kernel
theorem dX8_granted_6 : decode cX8_granted 6 = .ok (.ifCond .eq 5, 3) := by decide +kernel
theorem dX8_granted_9 : decode cX8_granted 9 = .ok (.iconst 0, 1) := by decide +kernel
theorem dX8_granted_10 : decode cX8_granted 10 = .ok (.ireturn, 1) := by decide +kernel
theorem dX8_granted_11 : decode cX8_granted 11 = .ok (.iconst 0, 1) := by decide +kernel
theorem dX8_granted_12 : decode cX8_granted 12 = .ok (.istore_n 3, 1) := by decide +kernel
theorem dX8_granted_13 : decode cX8_granted 13 = .ok (.iconst 0, 1) := by decide +kernel
theorem dX8_granted_14 : decode cX8_granted 14 = .ok (.istore 4, 2) := by decide +kernel
theorem dX8_granted_16 : decode cX8_granted 16 = .ok (.iload 4, 2) := by decide +kernel
theorem dX8_granted_18 : decode cX8_granted 18 = .ok (.aload_n 0, 1) := by decide +kernel
theorem dX8_granted_19 : decode cX8_granted 19 = .ok (.getfield 96, 3) := by decide +kernel
theorem dX8_granted_22 : decode cX8_granted 22 = .ok (.if_icmp .ge 31, 3) := by decide +kernel
theorem dX8_granted_25 : decode cX8_granted 25 = .ok (.iload_n 3, 1) := by decide +kernel
theorem dX8_granted_26 : decode cX8_granted 26 = .ok (.aload_n 0, 1) := by decide +kernel
theorem dX8_granted_27 : decode cX8_granted 27 = .ok (.iload 4, 2) := by decide +kernel
theorem dX8_granted_29 : decode cX8_granted 29 = .ok (.iload_n 1, 1) := by decide +kernel
theorem dX8_granted_30 : decode cX8_granted 30 = .ok (.iload_n 2, 1) := by decide +kernel
theorem dX8_granted_31 : decode cX8_granted 31 = .ok (.invokestatic 112, 3) := by decide +kernel
theorem dX8_granted_34 : decode cX8_granted 34 = .ok (.invokevirtual 122, 3) := by decide +kernel
theorem dX8_granted_37 : decode cX8_granted 37 = .ok (.ifCond .eq 7, 3) := by decide +kernel
theorem dX8_granted_40 : decode cX8_granted 40 = .ok (.iconst 1, 1) := by decide +kernel
theorem dX8_granted_41 : decode cX8_granted 41 = .ok (.goto 4, 3) := by decide +kernel
theorem dX8_granted_44 : decode cX8_granted 44 = .ok (.iconst 0, 1) := by decide +kernel
theorem dX8_granted_45 : decode cX8_granted 45 = .ok (.iadd, 1) := by decide +kernel
theorem dX8_granted_46 : decode cX8_granted 46 = .ok (.istore_n 3, 1) := by decide +kernel
theorem dX8_granted_47 : decode cX8_granted 47 = .ok (.iinc 4 1, 3) := by decide +kernel
theorem dX8_granted_50 : decode cX8_granted 50 = .ok (.goto (-34), 3) := by decide +kernel
theorem dX8_granted_53 : decode cX8_granted 53 = .ok (.iload_n 3, 1) := by decide +kernel
theorem dX8_granted_54 : decode cX8_granted 54 = .ok (.ireturn, 1) := by decide +kernel
set_option maxRecDepth 20000 in
theorem ggX8_isNoRun_X8_isIn : GoodIn wsX8_isNoRun wsX8_isIn := goodIn_r _ [5] (by decide +kernel) (by decide +kernel)
set_option maxRecDepth 20000 in
theorem gX8_isNoRun_X8_isIn : GoodIn wsX8_isNoRun (va_wsS RX8 84 yX8_isIn wsX8_isIn) := goodIn_app (goodIn_of _ (by decide +kernel)) ggX8_isNoRun_X8_isIn
set_option maxRecDepth 20000 in
theorem ggX8_isNoRun_X8_isCell : GoodIn wsX8_isNoRun wsX8_isCell := goodIn_r _ [8, 2, 3, 4, 5] (by decide +kernel) (by decide +kernel)
set_option maxRecDepth 20000 in
theorem gX8_isNoRun_X8_isCell : GoodIn wsX8_isNoRun (va_wsS RX8 88 yX8_isCell wsX8_isCell) := goodIn_app (goodIn_of _ (by decide +kernel)) ggX8_isNoRun_X8_isCell
set_option maxRecDepth 20000 in
theorem ggX8_isNoRun_X8_isThrown : GoodIn wsX8_isNoRun wsX8_isThrown := goodIn_r _ [12, 13, 14, 15, 16, 17, 18, 19, 20, 21, 22, 23, 24, 25, 26, 27, 28, 29, 30, 31, 32, 33, 34, 35, 36, 37, 38, 39, 40, 41, 42, 43, 44, 45] (by decide +kernel) (by decide +kernel)
set_option maxRecDepth 20000 in
theorem gX8_isNoRun_X8_isThrown : GoodIn wsX8_isNoRun (wsV RX8 92 RX8 yX8_isThrown wsX8_isThrown) := goodIn_app (goodIn_of _ (by decide +kernel)) ggX8_isNoRun_X8_isThrown
theorem dX8_isNoRun_0 : decode cX8_isNoRun 0 = .ok (.aload_n 0, 1) := by decide +kernel
theorem dX8_isNoRun_1 : decode cX8_isNoRun 1 = .ok (.iload_n 1, 1) := by decide +kernel
theorem dX8_isNoRun_2 : decode cX8_isNoRun 2 = .ok (.iconst 0, 1) := by decide +kernel
theorem dX8_isNoRun_3 : decode cX8_isNoRun 3 = .ok (.aload_n 0, 1) := by decide +kernel
theorem dX8_isNoRun_4 : decode cX8_isNoRun 4 = .ok (.getfield 96, 3) := by decide +kernel
theorem dX8_isNoRun_7 : decode cX8_isNoRun 7 = .ok (.iconst 1, 1) := by decide +kernel
theorem dX8_isNoRun_8 : decode cX8_isNoRun 8 = .ok (.isub, 1) := by decide +kernel
theorem dX8_isNoRun_9 : decode cX8_isNoRun 9 = .ok (.invokestatic 84, 3) := by decide +kernel
theorem dX8_isNoRun_12 : decode cX8_isNoRun 12 = .ok (.ifCond .eq 11, 3) := by decide +kernel
theorem dX8_isNoRun_15 : decode cX8_isNoRun 15 = .ok (.iload_n 2, 1) := by decide +kernel
theorem dX8_isNoRun_16 : decode cX8_isNoRun 16 = .ok (.iload_n 3, 1) := by decide +kernel
theorem dX8_isNoRun_17 : decode cX8_isNoRun 17 = .ok (.invokestatic 88, 3) := by decide +kernel
theorem dX8_isNoRun_20 : decode cX8_isNoRun 20 = .ok (.ifCond .ne 7, 3) := by decide +kernel
theorem dX8_isNoRun_23 : decode cX8_isNoRun 23 = .ok (.iconst 1, 1) := by decide +kernel
theorem dX8_isNoRun_24 : decode cX8_isNoRun 24 = .ok (.goto 4, 3) := by decide +kernel
theorem dX8_isNoRun_27 : decode cX8_isNoRun 27 = .ok (.iconst 0, 1) := by decide +kernel
theorem dX8_isNoRun_28 : decode cX8_isNoRun 28 = .ok (.iconst 1, 1) := by decide +kernel
theorem dX8_isNoRun_29 : decode cX8_isNoRun 29 = .ok (.invokevirtual 92, 3) := by decide +kernel
theorem dX8_isNoRun_32 : decode cX8_isNoRun 32 = .ok (.ireturn, 1) := by decide +kernel
set_option maxRecDepth 20000 in
theorem ggX8_reason_X8_isNoRun : GoodIn wsX8_reason wsX8_isNoRun := goodIn_r _ [5, 6, 7, 8, 4, 9, 10, 11, 12, 13, 14, 15, 16, 17, 57, 58, 59, 60, 61, 62, 63, 64, 65, 66, 67, 68, 69, 70, 71, 72, 73, 74, 75, 76, 77, 78, 79, 80, 81, 82, 83, 84, 85, 86, 87, 88] (by decide +kernel) (by decide +kernel)
set_option maxRecDepth 20000 in
theorem gX8_reason_X8_isNoRun : GoodIn wsX8_reason (wsV RX8 185 RX8 yX8_isNoRun wsX8_isNoRun) := goodIn_app (goodIn_of _ (by decide +kernel)) ggX8_reason_X8_isNoRun
set_option maxRecDepth 20000 in
theorem ggX8_reason_X8_at : GoodIn wsX8_reason wsX8_at := goodIn_r _ [20] (by decide +kernel) (by decide +kernel)
set_option maxRecDepth 20000 in
theorem gX8_reason_X8_at : GoodIn wsX8_reason (va_wsS RX8 112 yX8_at wsX8_at) := goodIn_app (goodIn_of _ (by decide +kernel)) ggX8_reason_X8_at
set_option maxRecDepth 20000 in
theorem ggX8_reason_X8_why : GoodIn wsX8_reason wsX8_why := goodIn_ca (goodIn_r _ [24, 25, 26, 27, 28, 29, 30, 4, 31, 32, 33, 10, 11, 12, 7, 8, 9, 34, 35, 36, 37, 18, 19, 20, 38, 39, 40, 41, 42, 43, 44, 45, 46, 47, 48, 49, 50, 51, 52, 53, 54, 55, 56, 57, 58, 59, 60, 61, 62, 63, 64, 65, 66, 67, 68, 69, 70, 71, 72, 73, 74, 75, 76, 77, 78, 79, 80, 81, 82, 83, 84, 85, 86, 87, 88] (by decide +kernel) (by decide +kernel)) (goodIn_sub (fun _ h => List.mem_cons_of_mem _ (List.mem_append_right _ h)) (by decide +kernel))
set_option maxRecDepth 20000 in
theorem gX8_reason_X8_why : GoodIn wsX8_reason (wsV RX8 159 RX8 yX8_why wsX8_why) := goodIn_app (goodIn_of _ (by decide +kernel)) ggX8_reason_X8_why
theorem dX8_reason_0 : decode cX8_reason 0 = .ok (.aload_n 0, 1) := by decide +kernel
theorem dX8_reason_1 : decode cX8_reason 1 = .ok (.iload_n 1, 1) := by decide +kernel
theorem dX8_reason_2 : decode cX8_reason 2 = .ok (.iload_n 2, 1) := by decide +kernel
theorem dX8_reason_3 : decode cX8_reason 3 = .ok (.iload_n 3, 1) := by decide +kernel
theorem dX8_reason_4 : decode cX8_reason 4 = .ok (.invokevirtual 185, 3) := by decide +kernel
theorem dX8_reason_7 : decode cX8_reason 7 = .ok (.ifCond .eq 8, 3) := by decide +kernel
theorem dX8_reason_10 : decode cX8_reason 10 = .ok (.bipush 45, 2) := by decide +kernel
theorem dX8_reason_12 : decode cX8_reason 12 = .ok (.goto 13, 3) := by decide +kernel
theorem dX8_reason_15 : decode cX8_reason 15 = .ok (.aload_n 0, 1) := by decide +kernel
theorem dX8_reason_16 : decode cX8_reason 16 = .ok (.iload_n 1, 1) := by decide +kernel
theorem dX8_reason_17 : decode cX8_reason 17 = .ok (.iload_n 2, 1) := by decide +kernel
theorem dX8_reason_18 : decode cX8_reason 18 = .ok (.iload_n 3, 1) := by decide +kernel
theorem dX8_reason_19 : decode cX8_reason 19 = .ok (.invokestatic 112, 3) := by decide +kernel
theorem dX8_reason_22 : decode cX8_reason 22 = .ok (.invokevirtual 159, 3) := by decide +kernel
theorem dX8_reason_25 : decode cX8_reason 25 = .ok (.ireturn, 1) := by decide +kernel
set_option maxRecDepth 20000 in
theorem ggX8_run_X8_isNoRun : GoodIn wsX8_run wsX8_isNoRun := goodIn_r _ [7, 8, 9, 10, 6, 11, 12, 13, 14, 15, 16, 17, 18, 19, 98, 99, 100, 101, 102, 103, 104, 105, 106, 107, 108, 109, 110, 111, 112, 113, 114, 115, 116, 117, 118, 119, 120, 121, 122, 123, 124, 125, 126, 127, 128, 129] (by decide +kernel) (by decide +kernel)
set_option maxRecDepth 20000 in
theorem gX8_run_X8_isNoRun : GoodIn wsX8_run (wsV RX8 185 RX8 yX8_isNoRun wsX8_isNoRun) := goodIn_app (goodIn_of _ (by decide +kernel)) ggX8_run_X8_isNoRun
set_option maxRecDepth 20000 in
theorem ggX8_run_X8_isThrown : GoodIn wsX8_run wsX8_isThrown := goodIn_r _ [18, 19, 98, 99, 100, 101, 102, 103, 104, 105, 106, 107, 108, 109, 110, 111, 112, 113, 114, 115, 116, 117, 118, 119, 120, 121, 122, 123, 124, 125, 126, 127, 128, 129] (by decide +kernel) (by decide +kernel)
set_option maxRecDepth 20000 in
theorem gX8_run_X8_isThrown : GoodIn wsX8_run (wsV RX8 92 RX8 yX8_isThrown wsX8_isThrown) := goodIn_app (goodIn_of _ (by decide +kernel)) ggX8_run_X8_isThrown
set_option maxRecDepth 20000 in
theorem ggX8_run_X8_at : GoodIn wsX8_run wsX8_at := goodIn_r _ [22] (by decide +kernel) (by decide +kernel)
set_option maxRecDepth 20000 in
theorem gX8_run_X8_at : GoodIn wsX8_run (va_wsS RX8 112 yX8_at wsX8_at) := goodIn_app (goodIn_of _ (by decide +kernel)) ggX8_run_X8_at
set_option maxRecDepth 20000 in
theorem ggX8_run_X8_why : GoodIn wsX8_run wsX8_why := goodIn_ca (goodIn_r _ [26, 27, 28, 29, 30, 31, 32, 6, 33, 34, 35, 12, 13, 14, 9, 10, 11, 36, 37, 38, 39, 20, 21, 22, 40, 41, 42, 43, 44, 45, 46, 47, 48, 49, 50, 51, 52, 53, 54, 55, 56, 57, 58, 98, 99, 100, 101, 102, 103, 104, 105, 106, 107, 108, 109, 110, 111, 112, 113, 114, 115, 116, 117, 118, 119, 120, 121, 122, 123, 124, 125, 126, 127, 128, 129] (by decide +kernel) (by decide +kernel)) (goodIn_sub (fun _ h => List.mem_cons_of_mem _ (List.mem_append_right _ h)) (by decide +kernel))
set_option maxRecDepth 20000 in
theorem gX8_run_X8_why : GoodIn wsX8_run (wsV RX8 159 RX8 yX8_why wsX8_why) := goodIn_app (goodIn_of _ (by decide +kernel)) ggX8_run_X8_why
set_option maxRecDepth 20000 in
theorem ggX8_run_X8_runs : GoodIn wsX8_run wsX8_runs := goodIn_ca (goodIn_r _ [62, 27, 28, 29, 50, 51, 52, 6, 53, 54, 55, 36, 37, 38, 39, 34, 35, 20, 21, 22, 63, 64, 65, 66, 67, 2, 68, 69, 70, 98, 99, 100, 101, 102, 103, 104, 105, 106, 107, 108, 109, 110, 111, 112, 113, 114, 115, 116, 117, 118, 119, 120, 121, 122, 123, 124, 125, 126, 127, 128, 129] (by decide +kernel) (by decide +kernel)) (goodIn_sub (fun _ h => List.mem_cons_of_mem _ (List.mem_append_right _ h)) (by decide +kernel))
set_option maxRecDepth 20000 in
theorem gX8_run_X8_runs : GoodIn wsX8_run (wsV RX8 166 RX8 yX8_runs wsX8_runs) := goodIn_app (goodIn_of _ (by decide +kernel)) ggX8_run_X8_runs
set_option maxRecDepth 20000 in
theorem ggX8_run_X8_ends : GoodIn wsX8_run wsX8_ends := goodIn_ca (goodIn_r _ [74, 75, 76, 2, 77, 78, 79, 6, 80, 67, 70, 81, 1, 82, 83, 84, 85, 86, 87, 88, 89, 90, 47, 48, 49, 9, 10, 11, 23, 24, 25, 26, 27, 28, 29, 30, 31, 32, 33, 34, 35, 12, 13, 14, 36, 37, 38, 39, 20, 21, 22, 40, 41, 42, 43, 44, 45, 46, 50, 51, 52, 53, 54, 55, 56, 57, 58, 59, 60, 61, 62, 63, 64, 65, 66, 68, 69, 91, 92, 93, 94, 95, 96, 97, 98, 99, 100, 101, 102, 103, 104, 105, 106, 107, 108, 109, 110, 111, 112, 113, 114, 115, 116, 117, 118, 119, 120, 121, 122, 123, 124, 125, 126, 127, 128, 129] (by decide +kernel) (by decide +kernel)) (goodIn_sub (fun _ h => List.mem_cons_of_mem _ (List.mem_append_right _ h)) (by decide +kernel))
set_option maxRecDepth 20000 in
theorem gX8_run_X8_ends : GoodIn wsX8_run (wsV RX8 146 RX8 yX8_ends wsX8_ends) := goodIn_app (goodIn_of _ (by decide +kernel)) ggX8_run_X8_ends
theorem dX8_run_0 : decode cX8_run 0 = .ok (.aload_n 0, 1) := by decide +kernel
theorem dX8_run_1 : decode cX8_run 1 = .ok (.iload_n 1, 1) := by decide +kernel
theorem dX8_run_2 : decode cX8_run 2 = .ok (.iload_n 2, 1) := by decide +kernel
theorem dX8_run_3 : decode cX8_run 3 = .ok (.iload_n 3, 1) := by decide +kernel
theorem dX8_run_4 : decode cX8_run 4 = .ok (.invokevirtual 185, 3) := by decide +kernel
theorem dX8_run_7 : decode cX8_run 7 = .ok (.ifCond .ne 52, 3) := by decide +kernel
theorem dX8_run_10 : decode cX8_run 10 = .ok (.aload_n 0, 1) := by decide +kernel
theorem dX8_run_11 : decode cX8_run 11 = .ok (.iload_n 1, 1) := by decide +kernel
theorem dX8_run_12 : decode cX8_run 12 = .ok (.aload_n 0, 1) := by decide +kernel
theorem dX8_run_13 : decode cX8_run 13 = .ok (.getfield 77, 3) := by decide +kernel
theorem dX8_run_16 : decode cX8_run 16 = .ok (.if_icmp .ne 7, 3) := by decide +kernel
theorem dX8_run_19 : decode cX8_run 19 = .ok (.iconst 1, 1) := by decide +kernel
theorem dX8_run_20 : decode cX8_run 20 = .ok (.goto 4, 3) := by decide +kernel
theorem dX8_run_23 : decode cX8_run 23 = .ok (.iconst 0, 1) := by decide +kernel
theorem dX8_run_24 : decode cX8_run 24 = .ok (.iconst 2, 1) := by decide +kernel
theorem dX8_run_25 : decode cX8_run 25 = .ok (.invokevirtual 92, 3) := by decide +kernel
theorem dX8_run_28 : decode cX8_run 28 = .ok (.ifCond .ne 31, 3) := by decide +kernel
theorem dX8_run_31 : decode cX8_run 31 = .ok (.aload_n 0, 1) := by decide +kernel
theorem dX8_run_32 : decode cX8_run 32 = .ok (.aload_n 0, 1) := by decide +kernel
theorem dX8_run_33 : decode cX8_run 33 = .ok (.iload_n 1, 1) := by decide +kernel
theorem dX8_run_34 : decode cX8_run 34 = .ok (.iload_n 2, 1) := by decide +kernel
theorem dX8_run_35 : decode cX8_run 35 = .ok (.iload_n 3, 1) := by decide +kernel
theorem dX8_run_36 : decode cX8_run 36 = .ok (.invokestatic 112, 3) := by decide +kernel
theorem dX8_run_39 : decode cX8_run 39 = .ok (.invokevirtual 159, 3) := by decide +kernel
theorem dX8_run_42 : decode cX8_run 42 = .ok (.bipush 45, 2) := by decide +kernel
theorem dX8_run_44 : decode cX8_run 44 = .ok (.if_icmp .eq 7, 3) := by decide +kernel
theorem dX8_run_47 : decode cX8_run 47 = .ok (.iconst 1, 1) := by decide +kernel
theorem dX8_run_48 : decode cX8_run 48 = .ok (.goto 4, 3) := by decide +kernel
theorem dX8_run_51 : decode cX8_run 51 = .ok (.iconst 0, 1) := by decide +kernel
theorem dX8_run_52 : decode cX8_run 52 = .ok (.iconst 3, 1) := by decide +kernel
theorem dX8_run_53 : decode cX8_run 53 = .ok (.invokevirtual 92, 3) := by decide +kernel
theorem dX8_run_56 : decode cX8_run 56 = .ok (.ifCond .eq 5, 3) := by decide +kernel
theorem dX8_run_59 : decode cX8_run 59 = .ok (.iconst 0, 1) := by decide +kernel
theorem dX8_run_60 : decode cX8_run 60 = .ok (.ireturn, 1) := by decide +kernel
theorem dX8_run_61 : decode cX8_run 61 = .ok (.aload_n 0, 1) := by decide +kernel
theorem dX8_run_62 : decode cX8_run 62 = .ok (.getfield 99, 3) := by decide +kernel
theorem dX8_run_65 : decode cX8_run 65 = .ok (.istore 4, 2) := by decide +kernel
theorem dX8_run_67 : decode cX8_run 67 = .ok (.aload_n 0, 1) := by decide +kernel
theorem dX8_run_68 : decode cX8_run 68 = .ok (.iload_n 1, 1) := by decide +kernel
theorem dX8_run_69 : decode cX8_run 69 = .ok (.iload_n 2, 1) := by decide +kernel
theorem dX8_run_70 : decode cX8_run 70 = .ok (.iload_n 3, 1) := by decide +kernel
theorem dX8_run_71 : decode cX8_run 71 = .ok (.invokestatic 112, 3) := by decide +kernel
theorem dX8_run_74 : decode cX8_run 74 = .ok (.iconst 0, 1) := by decide +kernel
theorem dX8_run_75 : decode cX8_run 75 = .ok (.invokevirtual 166, 3) := by decide +kernel
theorem dX8_run_78 : decode cX8_run 78 = .ok (.aload_n 0, 1) := by decide +kernel
theorem dX8_run_79 : decode cX8_run 79 = .ok (.iload 4, 2) := by decide +kernel
theorem dX8_run_81 : decode cX8_run 81 = .ok (.invokevirtual 146, 3) := by decide +kernel
theorem dX8_run_84 : decode cX8_run 84 = .ok (.ireturn, 1) := by decide +kernel
set_option maxRecDepth 20000 in
theorem ggX8_addRule_X8_isCell : GoodIn wsX8_addRule wsX8_isCell := goodIn_r _ [10, 11, 12, 9, 13] (by decide +kernel) (by decide +kernel)
set_option maxRecDepth 20000 in
theorem gX8_addRule_X8_isCell : GoodIn wsX8_addRule (va_wsS RX8 88 yX8_isCell wsX8_isCell) := goodIn_app (goodIn_of _ (by decide +kernel)) ggX8_addRule_X8_isCell
set_option maxRecDepth 20000 in
theorem ggX8_addRule_X8_isIn : GoodIn wsX8_addRule wsX8_isIn := goodIn_r _ [13] (by decide +kernel) (by decide +kernel)
set_option maxRecDepth 20000 in
theorem gX8_addRule_X8_isIn : GoodIn wsX8_addRule (va_wsS RX8 84 yX8_isIn wsX8_isIn) := goodIn_app (goodIn_of _ (by decide +kernel)) ggX8_addRule_X8_isIn
set_option maxRecDepth 20000 in
theorem ggX8_addRule_X8_isThrown : GoodIn wsX8_addRule wsX8_isThrown := goodIn_r _ [17, 18, 25, 26, 27, 28, 29, 30, 31, 32, 33, 34, 35, 36, 37, 38, 39, 40, 41, 42, 43, 44, 45, 46, 47, 48, 49, 50, 51, 52, 53, 54, 55, 56] (by decide +kernel) (by decide +kernel)
set_option maxRecDepth 20000 in
theorem gX8_addRule_X8_isThrown : GoodIn wsX8_addRule (wsV RX8 92 RX8 yX8_isThrown wsX8_isThrown) := goodIn_app (goodIn_of _ (by decide +kernel)) ggX8_addRule_X8_isThrown
set_option maxRecDepth 20000 in
theorem ggX8_addRule_X8_isRange : GoodIn wsX8_addRule wsX8_isRange := goodIn_r _ [21] (by decide +kernel) (by decide +kernel)
set_option maxRecDepth 20000 in
theorem gX8_addRule_X8_isRange : GoodIn wsX8_addRule (va_wsS RX8 181 yX8_isRange wsX8_isRange) := goodIn_app (goodIn_of _ (by decide +kernel)) ggX8_addRule_X8_isRange
set_option maxRecDepth 20000 in
theorem ggX8_addRule_X8_at : GoodIn wsX8_addRule wsX8_at := goodIn_r _ [24] (by decide +kernel) (by decide +kernel)
set_option maxRecDepth 20000 in
theorem gX8_addRule_X8_at : GoodIn wsX8_addRule (va_wsS RX8 112 yX8_at wsX8_at) := goodIn_app (goodIn_of _ (by decide +kernel)) ggX8_addRule_X8_at
theorem dX8_addRule_0 : decode cX8_addRule 0 = .ok (.aload_n 0, 1) := by decide +kernel
theorem dX8_addRule_1 : decode cX8_addRule 1 = .ok (.iload_n 1, 1) := by decide +kernel
theorem dX8_addRule_2 : decode cX8_addRule 2 = .ok (.iload_n 2, 1) := by decide +kernel
theorem dX8_addRule_3 : decode cX8_addRule 3 = .ok (.invokestatic 88, 3) := by decide +kernel
theorem dX8_addRule_6 : decode cX8_addRule 6 = .ok (.ifCond .eq 27, 3) := by decide +kernel
theorem dX8_addRule_9 : decode cX8_addRule 9 = .ok (.iload_n 3, 1) := by decide +kernel
theorem dX8_addRule_10 : decode cX8_addRule 10 = .ok (.iload 4, 2) := by decide +kernel
theorem dX8_addRule_12 : decode cX8_addRule 12 = .ok (.invokestatic 88, 3) := by decide +kernel
theorem dX8_addRule_15 : decode cX8_addRule 15 = .ok (.ifCond .eq 18, 3) := by decide +kernel
theorem dX8_addRule_18 : decode cX8_addRule 18 = .ok (.iload 5, 2) := by decide +kernel
theorem dX8_addRule_20 : decode cX8_addRule 20 = .ok (.iconst 0, 1) := by decide +kernel
theorem dX8_addRule_21 : decode cX8_addRule 21 = .ok (.aload_n 0, 1) := by decide +kernel
theorem dX8_addRule_22 : decode cX8_addRule 22 = .ok (.getfield 96, 3) := by decide +kernel
theorem dX8_addRule_25 : decode cX8_addRule 25 = .ok (.iconst 1, 1) := by decide +kernel
theorem dX8_addRule_26 : decode cX8_addRule 26 = .ok (.isub, 1) := by decide +kernel
theorem dX8_addRule_27 : decode cX8_addRule 27 = .ok (.invokestatic 84, 3) := by decide +kernel
theorem dX8_addRule_30 : decode cX8_addRule 30 = .ok (.ifCond .ne 7, 3) := by decide +kernel
theorem dX8_addRule_33 : decode cX8_addRule 33 = .ok (.iconst 1, 1) := by decide +kernel
theorem dX8_addRule_34 : decode cX8_addRule 34 = .ok (.goto 4, 3) := by decide +kernel
theorem dX8_addRule_37 : decode cX8_addRule 37 = .ok (.iconst 0, 1) := by decide +kernel
theorem dX8_addRule_38 : decode cX8_addRule 38 = .ok (.iconst 1, 1) := by decide +kernel
theorem dX8_addRule_39 : decode cX8_addRule 39 = .ok (.invokevirtual 92, 3) := by decide +kernel
theorem dX8_addRule_42 : decode cX8_addRule 42 = .ok (.ifCond .ne 60, 3) := by decide +kernel
theorem dX8_addRule_45 : decode cX8_addRule 45 = .ok (.aload_n 0, 1) := by decide +kernel
theorem dX8_addRule_46 : decode cX8_addRule 46 = .ok (.iload_n 1, 1) := by decide +kernel
theorem dX8_addRule_47 : decode cX8_addRule 47 = .ok (.iload_n 2, 1) := by decide +kernel
theorem dX8_addRule_48 : decode cX8_addRule 48 = .ok (.iload_n 3, 1) := by decide +kernel
theorem dX8_addRule_49 : decode cX8_addRule 49 = .ok (.iload 4, 2) := by decide +kernel
theorem dX8_addRule_51 : decode cX8_addRule 51 = .ok (.invokestatic 181, 3) := by decide +kernel
theorem dX8_addRule_54 : decode cX8_addRule 54 = .ok (.ifCond .eq 14, 3) := by decide +kernel
theorem dX8_addRule_57 : decode cX8_addRule 57 = .ok (.iload 6, 2) := by decide +kernel
theorem dX8_addRule_59 : decode cX8_addRule 59 = .ok (.iconst 0, 1) := by decide +kernel
theorem dX8_addRule_60 : decode cX8_addRule 60 = .ok (.bipush 9, 2) := by decide +kernel
theorem dX8_addRule_62 : decode cX8_addRule 62 = .ok (.invokestatic 84, 3) := by decide +kernel
theorem dX8_addRule_65 : decode cX8_addRule 65 = .ok (.ifCond .ne 7, 3) := by decide +kernel
theorem dX8_addRule_68 : decode cX8_addRule 68 = .ok (.iconst 1, 1) := by decide +kernel
theorem dX8_addRule_69 : decode cX8_addRule 69 = .ok (.goto 4, 3) := by decide +kernel
theorem dX8_addRule_72 : decode cX8_addRule 72 = .ok (.iconst 0, 1) := by decide +kernel
theorem dX8_addRule_73 : decode cX8_addRule 73 = .ok (.iconst 2, 1) := by decide +kernel
theorem dX8_addRule_74 : decode cX8_addRule 74 = .ok (.invokevirtual 92, 3) := by decide +kernel
theorem dX8_addRule_77 : decode cX8_addRule 77 = .ok (.ifCond .ne 25, 3) := by decide +kernel
theorem dX8_addRule_80 : decode cX8_addRule 80 = .ok (.aload_n 0, 1) := by decide +kernel
theorem dX8_addRule_81 : decode cX8_addRule 81 = .ok (.aload_n 0, 1) := by decide +kernel
theorem dX8_addRule_82 : decode cX8_addRule 82 = .ok (.getfield 136, 3) := by decide +kernel
theorem dX8_addRule_85 : decode cX8_addRule 85 = .ok (.bipush 6, 2) := by decide +kernel
theorem dX8_addRule_87 : decode cX8_addRule 87 = .ok (.if_icmp .ne 7, 3) := by decide +kernel
theorem dX8_addRule_90 : decode cX8_addRule 90 = .ok (.iconst 1, 1) := by decide +kernel
theorem dX8_addRule_91 : decode cX8_addRule 91 = .ok (.goto 4, 3) := by decide +kernel
theorem dX8_addRule_94 : decode cX8_addRule 94 = .ok (.iconst 0, 1) := by decide +kernel
theorem dX8_addRule_95 : decode cX8_addRule 95 = .ok (.iconst 3, 1) := by decide +kernel
theorem dX8_addRule_96 : decode cX8_addRule 96 = .ok (.invokevirtual 92, 3) := by decide +kernel
theorem dX8_addRule_99 : decode cX8_addRule 99 = .ok (.ifCond .eq 5, 3) := by decide +kernel
theorem dX8_addRule_102 : decode cX8_addRule 102 = .ok (.iconst 0, 1) := by decide +kernel
theorem dX8_addRule_103 : decode cX8_addRule 103 = .ok (.ireturn, 1) := by decide +kernel
theorem dX8_addRule_104 : decode cX8_addRule 104 = .ok (.aload_n 0, 1) := by decide +kernel
theorem dX8_addRule_105 : decode cX8_addRule 105 = .ok (.getfield 46, 3) := by decide +kernel
theorem dX8_addRule_108 : decode cX8_addRule 108 = .ok (.aload_n 0, 1) := by decide +kernel
theorem dX8_addRule_109 : decode cX8_addRule 109 = .ok (.getfield 136, 3) := by decide +kernel
theorem dX8_addRule_112 : decode cX8_addRule 112 = .ok (.iload_n 1, 1) := by decide +kernel
theorem dX8_addRule_113 : decode cX8_addRule 113 = .ok (.iload_n 2, 1) := by decide +kernel
theorem dX8_addRule_114 : decode cX8_addRule 114 = .ok (.invokestatic 112, 3) := by decide +kernel
theorem dX8_addRule_117 : decode cX8_addRule 117 = .ok (.iastore, 1) := by decide +kernel
theorem dX8_addRule_118 : decode cX8_addRule 118 = .ok (.aload_n 0, 1) := by decide +kernel
theorem dX8_addRule_119 : decode cX8_addRule 119 = .ok (.getfield 49, 3) := by decide +kernel
theorem dX8_addRule_122 : decode cX8_addRule 122 = .ok (.aload_n 0, 1) := by decide +kernel
theorem dX8_addRule_123 : decode cX8_addRule 123 = .ok (.getfield 136, 3) := by decide +kernel
theorem dX8_addRule_126 : decode cX8_addRule 126 = .ok (.iload_n 3, 1) := by decide +kernel
theorem dX8_addRule_127 : decode cX8_addRule 127 = .ok (.iload 4, 2) := by decide +kernel
theorem dX8_addRule_129 : decode cX8_addRule 129 = .ok (.invokestatic 112, 3) := by decide +kernel
theorem dX8_addRule_132 : decode cX8_addRule 132 = .ok (.iastore, 1) := by decide +kernel
theorem dX8_addRule_133 : decode cX8_addRule 133 = .ok (.aload_n 0, 1) := by decide +kernel
theorem dX8_addRule_134 : decode cX8_addRule 134 = .ok (.getfield 52, 3) := by decide +kernel
theorem dX8_addRule_137 : decode cX8_addRule 137 = .ok (.aload_n 0, 1) := by decide +kernel
theorem dX8_addRule_138 : decode cX8_addRule 138 = .ok (.getfield 136, 3) := by decide +kernel
theorem dX8_addRule_141 : decode cX8_addRule 141 = .ok (.iload 5, 2) := by decide +kernel
theorem dX8_addRule_143 : decode cX8_addRule 143 = .ok (.iastore, 1) := by decide +kernel
theorem dX8_addRule_144 : decode cX8_addRule 144 = .ok (.aload_n 0, 1) := by decide +kernel
theorem dX8_addRule_145 : decode cX8_addRule 145 = .ok (.getfield 55, 3) := by decide +kernel
theorem dX8_addRule_148 : decode cX8_addRule 148 = .ok (.aload_n 0, 1) := by decide +kernel
theorem dX8_addRule_149 : decode cX8_addRule 149 = .ok (.getfield 136, 3) := by decide +kernel
theorem dX8_addRule_152 : decode cX8_addRule 152 = .ok (.iload 6, 2) := by decide +kernel
theorem dX8_addRule_154 : decode cX8_addRule 154 = .ok (.iastore, 1) := by decide +kernel
theorem dX8_addRule_155 : decode cX8_addRule 155 = .ok (.aload_n 0, 1) := by decide +kernel
theorem dX8_addRule_156 : decode cX8_addRule 156 = .ok (.dup, 1) := by decide +kernel
theorem dX8_addRule_157 : decode cX8_addRule 157 = .ok (.getfield 136, 3) := by decide +kernel
theorem dX8_addRule_160 : decode cX8_addRule 160 = .ok (.iconst 1, 1) := by decide +kernel
theorem dX8_addRule_161 : decode cX8_addRule 161 = .ok (.iadd, 1) := by decide +kernel
theorem dX8_addRule_162 : decode cX8_addRule 162 = .ok (.putfield 136, 3) := by decide +kernel
theorem dX8_addRule_165 : decode cX8_addRule 165 = .ok (.aload_n 0, 1) := by decide +kernel
theorem dX8_addRule_166 : decode cX8_addRule 166 = .ok (.getfield 136, 3) := by decide +kernel
theorem dX8_addRule_169 : decode cX8_addRule 169 = .ok (.iconst 1, 1) := by decide +kernel
theorem dX8_addRule_170 : decode cX8_addRule 170 = .ok (.isub, 1) := by decide +kernel
theorem dX8_addRule_171 : decode cX8_addRule 171 = .ok (.ireturn, 1) := by decide +kernel
set_option maxRecDepth 20000 in
theorem ggX8_setRank_X8_isIn : GoodIn wsX8_setRank wsX8_isIn := goodIn_r _ [6] (by decide +kernel) (by decide +kernel)
set_option maxRecDepth 20000 in
theorem gX8_setRank_X8_isIn : GoodIn wsX8_setRank (va_wsS RX8 84 yX8_isIn wsX8_isIn) := goodIn_app (goodIn_of _ (by decide +kernel)) ggX8_setRank_X8_isIn
set_option maxRecDepth 20000 in
theorem ggX8_setRank_X8_isThrown : GoodIn wsX8_setRank wsX8_isThrown := goodIn_r _ [10, 11, 12, 13, 14, 15, 16, 17, 18, 19, 20, 21, 22, 23, 24, 25, 26, 27, 28, 29, 30, 31, 32, 33, 34, 35, 36, 37, 38, 39, 40, 41, 42, 43] (by decide +kernel) (by decide +kernel)
set_option maxRecDepth 20000 in
theorem gX8_setRank_X8_isThrown : GoodIn wsX8_setRank (wsV RX8 92 RX8 yX8_isThrown wsX8_isThrown) := goodIn_app (goodIn_of _ (by decide +kernel)) ggX8_setRank_X8_isThrown
theorem dX8_setRank_0 : decode cX8_setRank 0 = .ok (.aload_n 0, 1) := by decide +kernel
theorem dX8_setRank_1 : decode cX8_setRank 1 = .ok (.iload_n 1, 1) := by decide +kernel
theorem dX8_setRank_2 : decode cX8_setRank 2 = .ok (.iconst 0, 1) := by decide +kernel
theorem dX8_setRank_3 : decode cX8_setRank 3 = .ok (.aload_n 0, 1) := by decide +kernel
theorem dX8_setRank_4 : decode cX8_setRank 4 = .ok (.getfield 136, 3) := by decide +kernel
theorem dX8_setRank_7 : decode cX8_setRank 7 = .ok (.iconst 1, 1) := by decide +kernel
theorem dX8_setRank_8 : decode cX8_setRank 8 = .ok (.isub, 1) := by decide +kernel
theorem dX8_setRank_9 : decode cX8_setRank 9 = .ok (.invokestatic 84, 3) := by decide +kernel
theorem dX8_setRank_12 : decode cX8_setRank 12 = .ok (.ifCond .ne 7, 3) := by decide +kernel
theorem dX8_setRank_15 : decode cX8_setRank 15 = .ok (.iconst 1, 1) := by decide +kernel
theorem dX8_setRank_16 : decode cX8_setRank 16 = .ok (.goto 4, 3) := by decide +kernel
theorem dX8_setRank_19 : decode cX8_setRank 19 = .ok (.iconst 0, 1) := by decide +kernel
theorem dX8_setRank_20 : decode cX8_setRank 20 = .ok (.iconst 1, 1) := by decide +kernel
theorem dX8_setRank_21 : decode cX8_setRank 21 = .ok (.invokevirtual 92, 3) := by decide +kernel
theorem dX8_setRank_24 : decode cX8_setRank 24 = .ok (.ifCond .ne 26, 3) := by decide +kernel
theorem dX8_setRank_27 : decode cX8_setRank 27 = .ok (.aload_n 0, 1) := by decide +kernel
theorem dX8_setRank_28 : decode cX8_setRank 28 = .ok (.iload_n 2, 1) := by decide +kernel
theorem dX8_setRank_29 : decode cX8_setRank 29 = .ok (.iconst 0, 1) := by decide +kernel
theorem dX8_setRank_30 : decode cX8_setRank 30 = .ok (.bipush 9, 2) := by decide +kernel
theorem dX8_setRank_32 : decode cX8_setRank 32 = .ok (.invokestatic 84, 3) := by decide +kernel
theorem dX8_setRank_35 : decode cX8_setRank 35 = .ok (.ifCond .ne 7, 3) := by decide +kernel
theorem dX8_setRank_38 : decode cX8_setRank 38 = .ok (.iconst 1, 1) := by decide +kernel
theorem dX8_setRank_39 : decode cX8_setRank 39 = .ok (.goto 4, 3) := by decide +kernel
theorem dX8_setRank_42 : decode cX8_setRank 42 = .ok (.iconst 0, 1) := by decide +kernel
theorem dX8_setRank_43 : decode cX8_setRank 43 = .ok (.iconst 2, 1) := by decide +kernel
theorem dX8_setRank_44 : decode cX8_setRank 44 = .ok (.invokevirtual 92, 3) := by decide +kernel
theorem dX8_setRank_47 : decode cX8_setRank 47 = .ok (.ifCond .eq 5, 3) := by decide +kernel
theorem dX8_setRank_50 : decode cX8_setRank 50 = .ok (.iconst 0, 1) := by decide +kernel
theorem dX8_setRank_51 : decode cX8_setRank 51 = .ok (.ireturn, 1) := by decide +kernel
theorem dX8_setRank_52 : decode cX8_setRank 52 = .ok (.aload_n 0, 1) := by decide +kernel
theorem dX8_setRank_53 : decode cX8_setRank 53 = .ok (.getfield 55, 3) := by decide +kernel
theorem dX8_setRank_56 : decode cX8_setRank 56 = .ok (.iload_n 1, 1) := by decide +kernel
theorem dX8_setRank_57 : decode cX8_setRank 57 = .ok (.iaload, 1) := by decide +kernel
theorem dX8_setRank_58 : decode cX8_setRank 58 = .ok (.istore_n 3, 1) := by decide +kernel
theorem dX8_setRank_59 : decode cX8_setRank 59 = .ok (.aload_n 0, 1) := by decide +kernel
theorem dX8_setRank_60 : decode cX8_setRank 60 = .ok (.getfield 55, 3) := by decide +kernel
theorem dX8_setRank_63 : decode cX8_setRank 63 = .ok (.iload_n 1, 1) := by decide +kernel
theorem dX8_setRank_64 : decode cX8_setRank 64 = .ok (.iload_n 2, 1) := by decide +kernel
theorem dX8_setRank_65 : decode cX8_setRank 65 = .ok (.iastore, 1) := by decide +kernel
theorem dX8_setRank_66 : decode cX8_setRank 66 = .ok (.iload_n 3, 1) := by decide +kernel
theorem dX8_setRank_67 : decode cX8_setRank 67 = .ok (.ireturn, 1) := by decide +kernel
set_option maxRecDepth 20000 in
theorem ggX8_rule_X8_isNoCell : GoodIn wsX8_rule wsX8_isNoCell := goodIn_r _ [5, 6, 7, 4, 8, 9, 10, 11, 12, 13, 14, 15, 16, 31, 32, 33, 34, 35, 36, 37, 38, 39, 40, 41, 42, 43, 44, 45, 46, 47, 48, 49, 50, 51, 52, 53, 54, 55, 56, 57, 58, 59, 60, 61, 62] (by decide +kernel) (by decide +kernel)
set_option maxRecDepth 20000 in
theorem gX8_rule_X8_isNoCell : GoodIn wsX8_rule (wsV RX8 169 RX8 yX8_isNoCell wsX8_isNoCell) := goodIn_app (goodIn_of _ (by decide +kernel)) ggX8_rule_X8_isNoCell
set_option maxRecDepth 20000 in
theorem ggX8_rule_X8_at : GoodIn wsX8_rule wsX8_at := goodIn_r _ [19] (by decide +kernel) (by decide +kernel)
set_option maxRecDepth 20000 in
theorem gX8_rule_X8_at : GoodIn wsX8_rule (va_wsS RX8 112 yX8_at wsX8_at) := goodIn_app (goodIn_of _ (by decide +kernel)) ggX8_rule_X8_at
set_option maxRecDepth 20000 in
theorem ggX8_rule_X8_ruled : GoodIn wsX8_rule wsX8_ruled := goodIn_ca (goodIn_r _ [23, 24, 25, 26, 27, 28, 29, 4, 30, 9, 10, 11, 31, 32, 33, 34, 35, 36, 37, 38, 39, 40, 41, 42, 43, 44, 45, 46, 47, 48, 49, 50, 51, 52, 53, 54, 55, 56, 57, 58, 59, 60, 61, 62] (by decide +kernel) (by decide +kernel)) (goodIn_sub (fun _ h => List.mem_cons_of_mem _ (List.mem_append_right _ h)) (by decide +kernel))
set_option maxRecDepth 20000 in
theorem gX8_rule_X8_ruled : GoodIn wsX8_rule (wsV RX8 156 RX8 yX8_ruled wsX8_ruled) := goodIn_app (goodIn_of _ (by decide +kernel)) ggX8_rule_X8_ruled
set_option maxRecDepth 20000 in
theorem ggX8_rule_X8_isThrown : GoodIn wsX8_rule wsX8_isThrown := goodIn_r _ [15, 16, 31, 32, 33, 34, 35, 36, 37, 38, 39, 40, 41, 42, 43, 44, 45, 46, 47, 48, 49, 50, 51, 52, 53, 54, 55, 56, 57, 58, 59, 60, 61, 62] (by decide +kernel) (by decide +kernel)
set_option maxRecDepth 20000 in
theorem gX8_rule_X8_isThrown : GoodIn wsX8_rule (wsV RX8 92 RX8 yX8_isThrown wsX8_isThrown) := goodIn_app (goodIn_of _ (by decide +kernel)) ggX8_rule_X8_isThrown
theorem dX8_rule_0 : decode cX8_rule 0 = .ok (.aload_n 0, 1) := by decide +kernel
theorem dX8_rule_1 : decode cX8_rule 1 = .ok (.iload_n 1, 1) := by decide +kernel
theorem dX8_rule_2 : decode cX8_rule 2 = .ok (.iload_n 2, 1) := by decide +kernel
theorem dX8_rule_3 : decode cX8_rule 3 = .ok (.invokevirtual 169, 3) := by decide +kernel
theorem dX8_rule_6 : decode cX8_rule 6 = .ok (.ifCond .eq 5, 3) := by decide +kernel
theorem dX8_rule_9 : decode cX8_rule 9 = .ok (.iconst 0, 1) := by decide +kernel
theorem dX8_rule_10 : decode cX8_rule 10 = .ok (.ireturn, 1) := by decide +kernel
theorem dX8_rule_11 : decode cX8_rule 11 = .ok (.aload_n 0, 1) := by decide +kernel
theorem dX8_rule_12 : decode cX8_rule 12 = .ok (.iload_n 1, 1) := by decide +kernel
theorem dX8_rule_13 : decode cX8_rule 13 = .ok (.iload_n 2, 1) := by decide +kernel
theorem dX8_rule_14 : decode cX8_rule 14 = .ok (.invokestatic 112, 3) := by decide +kernel
theorem dX8_rule_17 : decode cX8_rule 17 = .ok (.invokevirtual 156, 3) := by decide +kernel
theorem dX8_rule_20 : decode cX8_rule 20 = .ok (.istore_n 3, 1) := by decide +kernel
theorem dX8_rule_21 : decode cX8_rule 21 = .ok (.aload_n 0, 1) := by decide +kernel
theorem dX8_rule_22 : decode cX8_rule 22 = .ok (.iload_n 3, 1) := by decide +kernel
theorem dX8_rule_23 : decode cX8_rule 23 = .ok (.ifCond .ge 7, 3) := by decide +kernel
theorem dX8_rule_26 : decode cX8_rule 26 = .ok (.iconst 1, 1) := by decide +kernel
theorem dX8_rule_27 : decode cX8_rule 27 = .ok (.goto 4, 3) := by decide +kernel
theorem dX8_rule_30 : decode cX8_rule 30 = .ok (.iconst 0, 1) := by decide +kernel
theorem dX8_rule_31 : decode cX8_rule 31 = .ok (.iconst 2, 1) := by decide +kernel
theorem dX8_rule_32 : decode cX8_rule 32 = .ok (.invokevirtual 92, 3) := by decide +kernel
theorem dX8_rule_35 : decode cX8_rule 35 = .ok (.ifCond .eq 7, 3) := by decide +kernel
theorem dX8_rule_38 : decode cX8_rule 38 = .ok (.iconst 0, 1) := by decide +kernel
theorem dX8_rule_39 : decode cX8_rule 39 = .ok (.goto 4, 3) := by decide +kernel
theorem dX8_rule_42 : decode cX8_rule 42 = .ok (.iload_n 3, 1) := by decide +kernel
theorem dX8_rule_43 : decode cX8_rule 43 = .ok (.ireturn, 1) := by decide +kernel
theorem dX8_skipped_0 : decode cX8_skipped 0 = .ok (.aload_n 0, 1) := by decide +kernel
theorem dX8_skipped_1 : decode cX8_skipped 1 = .ok (.iconst 0, 1) := by decide +kernel
theorem dX8_skipped_2 : decode cX8_skipped 2 = .ok (.putfield 81, 3) := by decide +kernel
theorem dX8_skipped_5 : decode cX8_skipped 5 = .ok (.aload_n 0, 1) := by decide +kernel
theorem dX8_skipped_6 : decode cX8_skipped 6 = .ok (.getfield 163, 3) := by decide +kernel
theorem dX8_skipped_9 : decode cX8_skipped 9 = .ok (.ireturn, 1) := by decide +kernel
set_option maxRecDepth 20000 in
theorem ggX8_undo_X8_isThrown : GoodIn wsX8_undo wsX8_isThrown := goodIn_r _ [11, 12, 13, 14, 15, 16, 17, 18, 19, 20, 21, 22, 23, 24, 25, 26, 27, 28, 29, 30, 31, 32, 33, 34, 35, 36, 37, 38, 39, 40, 41, 42, 43, 44] (by decide +kernel) (by decide +kernel)
set_option maxRecDepth 20000 in
theorem gX8_undo_X8_isThrown : GoodIn wsX8_undo (wsV RX8 92 RX8 yX8_isThrown wsX8_isThrown) := goodIn_app (goodIn_of _ (by decide +kernel)) ggX8_undo_X8_isThrown
theorem dX8_undo_0 : decode cX8_undo 0 = .ok (.aload_n 0, 1) := by decide +kernel
theorem dX8_undo_1 : decode cX8_undo 1 = .ok (.aload_n 0, 1) := by decide +kernel
theorem dX8_undo_2 : decode cX8_undo 2 = .ok (.getfield 105, 3) := by decide +kernel
theorem dX8_undo_5 : decode cX8_undo 5 = .ok (.ifCond .ne 7, 3) := by decide +kernel
theorem dX8_undo_8 : decode cX8_undo 8 = .ok (.iconst 1, 1) := by decide +kernel
theorem dX8_undo_9 : decode cX8_undo 9 = .ok (.goto 4, 3) := by decide +kernel
theorem dX8_undo_12 : decode cX8_undo 12 = .ok (.iconst 0, 1) := by decide +kernel
theorem dX8_undo_13 : decode cX8_undo 13 = .ok (.iconst 1, 1) := by decide +kernel
theorem dX8_undo_14 : decode cX8_undo 14 = .ok (.invokevirtual 92, 3) := by decide +kernel
theorem dX8_undo_17 : decode cX8_undo 17 = .ok (.ifCond .eq 5, 3) := by decide +kernel
theorem dX8_undo_20 : decode cX8_undo 20 = .ok (.iconst 0, 1) := by decide +kernel
theorem dX8_undo_21 : decode cX8_undo 21 = .ok (.ireturn, 1) := by decide +kernel
theorem dX8_undo_22 : decode cX8_undo 22 = .ok (.aload_n 0, 1) := by decide +kernel
theorem dX8_undo_23 : decode cX8_undo 23 = .ok (.dup, 1) := by decide +kernel
theorem dX8_undo_24 : decode cX8_undo 24 = .ok (.getfield 105, 3) := by decide +kernel
theorem dX8_undo_27 : decode cX8_undo 27 = .ok (.iconst 1, 1) := by decide +kernel
theorem dX8_undo_28 : decode cX8_undo 28 = .ok (.isub, 1) := by decide +kernel
theorem dX8_undo_29 : decode cX8_undo 29 = .ok (.putfield 105, 3) := by decide +kernel
theorem dX8_undo_32 : decode cX8_undo 32 = .ok (.aload_n 0, 1) := by decide +kernel
theorem dX8_undo_33 : decode cX8_undo 33 = .ok (.getfield 99, 3) := by decide +kernel
theorem dX8_undo_36 : decode cX8_undo 36 = .ok (.aload_n 0, 1) := by decide +kernel
theorem dX8_undo_37 : decode cX8_undo 37 = .ok (.getfield 70, 3) := by decide +kernel
theorem dX8_undo_40 : decode cX8_undo 40 = .ok (.aload_n 0, 1) := by decide +kernel
theorem dX8_undo_41 : decode cX8_undo 41 = .ok (.getfield 105, 3) := by decide +kernel
theorem dX8_undo_44 : decode cX8_undo 44 = .ok (.iaload, 1) := by decide +kernel
theorem dX8_undo_45 : decode cX8_undo 45 = .ok (.isub, 1) := by decide +kernel
theorem dX8_undo_46 : decode cX8_undo 46 = .ok (.istore_n 1, 1) := by decide +kernel
theorem dX8_undo_47 : decode cX8_undo 47 = .ok (.aload_n 0, 1) := by decide +kernel
theorem dX8_undo_48 : decode cX8_undo 48 = .ok (.getfield 99, 3) := by decide +kernel
theorem dX8_undo_51 : decode cX8_undo 51 = .ok (.aload_n 0, 1) := by decide +kernel
theorem dX8_undo_52 : decode cX8_undo 52 = .ok (.getfield 70, 3) := by decide +kernel
theorem dX8_undo_55 : decode cX8_undo 55 = .ok (.aload_n 0, 1) := by decide +kernel
theorem dX8_undo_56 : decode cX8_undo 56 = .ok (.getfield 105, 3) := by decide +kernel
theorem dX8_undo_59 : decode cX8_undo 59 = .ok (.iaload, 1) := by decide +kernel
theorem dX8_undo_60 : decode cX8_undo 60 = .ok (.if_icmp .le 39, 3) := by decide +kernel
theorem dX8_undo_63 : decode cX8_undo 63 = .ok (.aload_n 0, 1) := by decide +kernel
theorem dX8_undo_64 : decode cX8_undo 64 = .ok (.dup, 1) := by decide +kernel
theorem dX8_undo_65 : decode cX8_undo 65 = .ok (.getfield 99, 3) := by decide +kernel
theorem dX8_undo_68 : decode cX8_undo 68 = .ok (.iconst 1, 1) := by decide +kernel
theorem dX8_undo_69 : decode cX8_undo 69 = .ok (.isub, 1) := by decide +kernel
theorem dX8_undo_70 : decode cX8_undo 70 = .ok (.putfield 99, 3) := by decide +kernel
theorem dX8_undo_73 : decode cX8_undo 73 = .ok (.aload_n 0, 1) := by decide +kernel
theorem dX8_undo_74 : decode cX8_undo 74 = .ok (.getfield 9, 3) := by decide +kernel
theorem dX8_undo_77 : decode cX8_undo 77 = .ok (.aload_n 0, 1) := by decide +kernel
theorem dX8_undo_78 : decode cX8_undo 78 = .ok (.getfield 58, 3) := by decide +kernel
theorem dX8_undo_81 : decode cX8_undo 81 = .ok (.aload_n 0, 1) := by decide +kernel
theorem dX8_undo_82 : decode cX8_undo 82 = .ok (.getfield 99, 3) := by decide +kernel
theorem dX8_undo_85 : decode cX8_undo 85 = .ok (.iaload, 1) := by decide +kernel
theorem dX8_undo_86 : decode cX8_undo 86 = .ok (.aload_n 0, 1) := by decide +kernel
theorem dX8_undo_87 : decode cX8_undo 87 = .ok (.getfield 61, 3) := by decide +kernel
theorem dX8_undo_90 : decode cX8_undo 90 = .ok (.aload_n 0, 1) := by decide +kernel
theorem dX8_undo_91 : decode cX8_undo 91 = .ok (.getfield 99, 3) := by decide +kernel
theorem dX8_undo_94 : decode cX8_undo 94 = .ok (.iaload, 1) := by decide +kernel
theorem dX8_undo_95 : decode cX8_undo 95 = .ok (.iastore, 1) := by decide +kernel
theorem dX8_undo_96 : decode cX8_undo 96 = .ok (.goto (-49), 3) := by decide +kernel
theorem dX8_undo_99 : decode cX8_undo 99 = .ok (.iload_n 1, 1) := by decide +kernel
theorem dX8_undo_100 : decode cX8_undo 100 = .ok (.ireturn, 1) := by decide +kernel
theorem dX8_entries_0 : decode cX8_entries 0 = .ok (.aload_n 0, 1) := by decide +kernel
theorem dX8_entries_1 : decode cX8_entries 1 = .ok (.iconst 0, 1) := by decide +kernel
theorem dX8_entries_2 : decode cX8_entries 2 = .ok (.putfield 81, 3) := by decide +kernel
theorem dX8_entries_5 : decode cX8_entries 5 = .ok (.aload_n 0, 1) := by decide +kernel
theorem dX8_entries_6 : decode cX8_entries 6 = .ok (.getfield 102, 3) := by decide +kernel
theorem dX8_entries_9 : decode cX8_entries 9 = .ok (.aload_n 0, 1) := by decide +kernel
theorem dX8_entries_10 : decode cX8_entries 10 = .ok (.getfield 99, 3) := by decide +kernel
theorem dX8_entries_13 : decode cX8_entries 13 = .ok (.iadd, 1) := by decide +kernel
theorem dX8_entries_14 : decode cX8_entries 14 = .ok (.ireturn, 1) := by decide +kernel
theorem dX8_all_0 : decode cX8_all 0 = .ok (.aload_n 0, 1) := by decide +kernel
theorem dX8_all_1 : decode cX8_all 1 = .ok (.getfield 19, 3) := by decide +kernel
theorem dX8_all_4 : decode cX8_all 4 = .ok (.iload_n 1, 1) := by decide +kernel
theorem dX8_all_5 : decode cX8_all 5 = .ok (.iconst 1, 1) := by decide +kernel
theorem dX8_all_6 : decode cX8_all 6 = .ok (.iadd, 1) := by decide +kernel
theorem dX8_all_7 : decode cX8_all 7 = .ok (.iaload, 1) := by decide +kernel
theorem dX8_all_8 : decode cX8_all 8 = .ok (.istore_n 2, 1) := by decide +kernel
theorem dX8_all_9 : decode cX8_all 9 = .ok (.iconst 0, 1) := by decide +kernel
theorem dX8_all_10 : decode cX8_all 10 = .ok (.istore_n 3, 1) := by decide +kernel
theorem dX8_all_11 : decode cX8_all 11 = .ok (.iload_n 3, 1) := by decide +kernel
theorem dX8_all_12 : decode cX8_all 12 = .ok (.aload_n 0, 1) := by decide +kernel
theorem dX8_all_13 : decode cX8_all 13 = .ok (.getfield 99, 3) := by decide +kernel
theorem dX8_all_16 : decode cX8_all 16 = .ok (.if_icmp .ge 27, 3) := by decide +kernel
theorem dX8_all_19 : decode cX8_all 19 = .ok (.iload_n 2, 1) := by decide +kernel
theorem dX8_all_20 : decode cX8_all 20 = .ok (.aload_n 0, 1) := by decide +kernel
theorem dX8_all_21 : decode cX8_all 21 = .ok (.getfield 64, 3) := by decide +kernel
theorem dX8_all_24 : decode cX8_all 24 = .ok (.iload_n 3, 1) := by decide +kernel
theorem dX8_all_25 : decode cX8_all 25 = .ok (.iaload, 1) := by decide +kernel
theorem dX8_all_26 : decode cX8_all 26 = .ok (.iload_n 1, 1) := by decide +kernel
theorem dX8_all_27 : decode cX8_all 27 = .ok (.if_icmp .ne 7, 3) := by decide +kernel
theorem dX8_all_30 : decode cX8_all 30 = .ok (.iconst 1, 1) := by decide +kernel
theorem dX8_all_31 : decode cX8_all 31 = .ok (.goto 4, 3) := by decide +kernel
theorem dX8_all_34 : decode cX8_all 34 = .ok (.iconst 0, 1) := by decide +kernel
theorem dX8_all_35 : decode cX8_all 35 = .ok (.iadd, 1) := by decide +kernel
theorem dX8_all_36 : decode cX8_all 36 = .ok (.istore_n 2, 1) := by decide +kernel
theorem dX8_all_37 : decode cX8_all 37 = .ok (.iinc 3 1, 3) := by decide +kernel
theorem dX8_all_40 : decode cX8_all 40 = .ok (.goto (-29), 3) := by decide +kernel
theorem dX8_all_43 : decode cX8_all 43 = .ok (.iload_n 2, 1) := by decide +kernel
theorem dX8_all_44 : decode cX8_all 44 = .ok (.ireturn, 1) := by decide +kernel
set_option maxRecDepth 20000 in
theorem ggX8_entriesOf_X8_isIn : GoodIn wsX8_entriesOf wsX8_isIn := goodIn_r _ [5] (by decide +kernel) (by decide +kernel)
set_option maxRecDepth 20000 in
theorem gX8_entriesOf_X8_isIn : GoodIn wsX8_entriesOf (va_wsS RX8 84 yX8_isIn wsX8_isIn) := goodIn_app (goodIn_of _ (by decide +kernel)) ggX8_entriesOf_X8_isIn
set_option maxRecDepth 20000 in
theorem ggX8_entriesOf_X8_isThrown : GoodIn wsX8_entriesOf wsX8_isThrown := goodIn_r _ [9, 10, 18, 19, 20, 21, 22, 23, 24, 25, 26, 27, 28, 29, 30, 31, 32, 33, 34, 35, 36, 37, 38, 39, 40, 41, 42, 43, 44, 45, 46, 47, 48, 49] (by decide +kernel) (by decide +kernel)
set_option maxRecDepth 20000 in
theorem gX8_entriesOf_X8_isThrown : GoodIn wsX8_entriesOf (wsV RX8 92 RX8 yX8_isThrown wsX8_isThrown) := goodIn_app (goodIn_of _ (by decide +kernel)) ggX8_entriesOf_X8_isThrown
set_option maxRecDepth 20000 in
theorem ggX8_entriesOf_X8_all : GoodIn wsX8_entriesOf wsX8_all := goodIn_ca (goodIn_r _ [14, 15, 16, 17, 18, 19, 20, 21, 22, 23, 24, 25, 26, 27, 28, 29, 30, 31, 32, 33, 34, 35, 36, 37, 38, 39, 40, 41, 42, 43, 44, 45, 46, 47, 48, 49] (by decide +kernel) (by decide +kernel)) (goodIn_sub (fun _ h => List.mem_cons_of_mem _ (List.mem_append_right _ h)) (by decide +kernel))
set_option maxRecDepth 20000 in
theorem gX8_entriesOf_X8_all : GoodIn wsX8_entriesOf (wsV RX8 188 RX8 yX8_all wsX8_all) := goodIn_app (goodIn_of _ (by decide +kernel)) ggX8_entriesOf_X8_all
theorem dX8_entriesOf_0 : decode cX8_entriesOf 0 = .ok (.aload_n 0, 1) := by decide +kernel
theorem dX8_entriesOf_1 : decode cX8_entriesOf 1 = .ok (.iload_n 1, 1) := by decide +kernel
theorem dX8_entriesOf_2 : decode cX8_entriesOf 2 = .ok (.iconst (-1), 1) := by decide +kernel
theorem dX8_entriesOf_3 : decode cX8_entriesOf 3 = .ok (.aload_n 0, 1) := by decide +kernel
theorem dX8_entriesOf_4 : decode cX8_entriesOf 4 = .ok (.getfield 96, 3) := by decide +kernel
theorem dX8_entriesOf_7 : decode cX8_entriesOf 7 = .ok (.iconst 1, 1) := by decide +kernel
theorem dX8_entriesOf_8 : decode cX8_entriesOf 8 = .ok (.isub, 1) := by decide +kernel
theorem dX8_entriesOf_9 : decode cX8_entriesOf 9 = .ok (.invokestatic 84, 3) := by decide +kernel
theorem dX8_entriesOf_12 : decode cX8_entriesOf 12 = .ok (.ifCond .ne 7, 3) := by decide +kernel
theorem dX8_entriesOf_15 : decode cX8_entriesOf 15 = .ok (.iconst 1, 1) := by decide +kernel
theorem dX8_entriesOf_16 : decode cX8_entriesOf 16 = .ok (.goto 4, 3) := by decide +kernel
theorem dX8_entriesOf_19 : decode cX8_entriesOf 19 = .ok (.iconst 0, 1) := by decide +kernel
theorem dX8_entriesOf_20 : decode cX8_entriesOf 20 = .ok (.iconst 1, 1) := by decide +kernel
theorem dX8_entriesOf_21 : decode cX8_entriesOf 21 = .ok (.invokevirtual 92, 3) := by decide +kernel
theorem dX8_entriesOf_24 : decode cX8_entriesOf 24 = .ok (.ifCond .eq 7, 3) := by decide +kernel
theorem dX8_entriesOf_27 : decode cX8_entriesOf 27 = .ok (.iconst 0, 1) := by decide +kernel
theorem dX8_entriesOf_28 : decode cX8_entriesOf 28 = .ok (.goto 8, 3) := by decide +kernel
theorem dX8_entriesOf_31 : decode cX8_entriesOf 31 = .ok (.aload_n 0, 1) := by decide +kernel
theorem dX8_entriesOf_32 : decode cX8_entriesOf 32 = .ok (.iload_n 1, 1) := by decide +kernel
theorem dX8_entriesOf_33 : decode cX8_entriesOf 33 = .ok (.invokevirtual 188, 3) := by decide +kernel
theorem dX8_entriesOf_36 : decode cX8_entriesOf 36 = .ok (.ireturn, 1) := by decide +kernel
set_option maxRecDepth 20000 in
theorem ggX8_lastBy_X8_isNoCell : GoodIn wsX8_lastBy wsX8_isNoCell := goodIn_r _ [9, 10, 11, 8, 12, 13, 14, 15, 16, 17, 18, 19, 20, 24, 25, 26, 27, 28, 29, 30, 31, 32, 33, 34, 35, 36, 37, 38, 39, 40, 41, 42, 43, 44, 45, 46, 47, 48, 49, 50, 51, 52, 53, 54, 55] (by decide +kernel) (by decide +kernel)
set_option maxRecDepth 20000 in
theorem gX8_lastBy_X8_isNoCell : GoodIn wsX8_lastBy (wsV RX8 169 RX8 yX8_isNoCell wsX8_isNoCell) := goodIn_app (goodIn_of _ (by decide +kernel)) ggX8_lastBy_X8_isNoCell
set_option maxRecDepth 20000 in
theorem ggX8_lastBy_X8_at : GoodIn wsX8_lastBy wsX8_at := goodIn_r _ [23] (by decide +kernel) (by decide +kernel)
set_option maxRecDepth 20000 in
theorem gX8_lastBy_X8_at : GoodIn wsX8_lastBy (va_wsS RX8 112 yX8_at wsX8_at) := goodIn_app (goodIn_of _ (by decide +kernel)) ggX8_lastBy_X8_at
set_option maxRecDepth 20000 in
theorem ggX8_lastBy_X8_isThrown : GoodIn wsX8_lastBy wsX8_isThrown := goodIn_r _ [19, 20, 24, 25, 26, 27, 28, 29, 30, 31, 32, 33, 34, 35, 36, 37, 38, 39, 40, 41, 42, 43, 44, 45, 46, 47, 48, 49, 50, 51, 52, 53, 54, 55] (by decide +kernel) (by decide +kernel)
set_option maxRecDepth 20000 in
theorem gX8_lastBy_X8_isThrown : GoodIn wsX8_lastBy (wsV RX8 92 RX8 yX8_isThrown wsX8_isThrown) := goodIn_app (goodIn_of _ (by decide +kernel)) ggX8_lastBy_X8_isThrown
theorem dX8_lastBy_0 : decode cX8_lastBy 0 = .ok (.aload_n 0, 1) := by decide +kernel
theorem dX8_lastBy_1 : decode cX8_lastBy 1 = .ok (.iload_n 1, 1) := by decide +kernel
theorem dX8_lastBy_2 : decode cX8_lastBy 2 = .ok (.iload_n 2, 1) := by decide +kernel
theorem dX8_lastBy_3 : decode cX8_lastBy 3 = .ok (.invokevirtual 169, 3) := by decide +kernel
theorem dX8_lastBy_6 : decode cX8_lastBy 6 = .ok (.ifCond .eq 5, 3) := by decide +kernel
theorem dX8_lastBy_9 : decode cX8_lastBy 9 = .ok (.iconst 0, 1) := by decide +kernel
theorem dX8_lastBy_10 : decode cX8_lastBy 10 = .ok (.ireturn, 1) := by decide +kernel
theorem dX8_lastBy_11 : decode cX8_lastBy 11 = .ok (.aload_n 0, 1) := by decide +kernel
theorem dX8_lastBy_12 : decode cX8_lastBy 12 = .ok (.getfield 16, 3) := by decide +kernel
theorem dX8_lastBy_15 : decode cX8_lastBy 15 = .ok (.iload_n 1, 1) := by decide +kernel
theorem dX8_lastBy_16 : decode cX8_lastBy 16 = .ok (.iload_n 2, 1) := by decide +kernel
theorem dX8_lastBy_17 : decode cX8_lastBy 17 = .ok (.invokestatic 112, 3) := by decide +kernel
theorem dX8_lastBy_20 : decode cX8_lastBy 20 = .ok (.iaload, 1) := by decide +kernel
theorem dX8_lastBy_21 : decode cX8_lastBy 21 = .ok (.istore_n 3, 1) := by decide +kernel
theorem dX8_lastBy_22 : decode cX8_lastBy 22 = .ok (.iconst 0, 1) := by decide +kernel
theorem dX8_lastBy_23 : decode cX8_lastBy 23 = .ok (.istore 4, 2) := by decide +kernel
theorem dX8_lastBy_25 : decode cX8_lastBy 25 = .ok (.iload 4, 2) := by decide +kernel
theorem dX8_lastBy_27 : decode cX8_lastBy 27 = .ok (.aload_n 0, 1) := by decide +kernel
theorem dX8_lastBy_28 : decode cX8_lastBy 28 = .ok (.getfield 99, 3) := by decide +kernel
theorem dX8_lastBy_31 : decode cX8_lastBy 31 = .ok (.if_icmp .ge 36, 3) := by decide +kernel
theorem dX8_lastBy_34 : decode cX8_lastBy 34 = .ok (.aload_n 0, 1) := by decide +kernel
theorem dX8_lastBy_35 : decode cX8_lastBy 35 = .ok (.getfield 58, 3) := by decide +kernel
theorem dX8_lastBy_38 : decode cX8_lastBy 38 = .ok (.iload 4, 2) := by decide +kernel
theorem dX8_lastBy_40 : decode cX8_lastBy 40 = .ok (.iaload, 1) := by decide +kernel
theorem dX8_lastBy_41 : decode cX8_lastBy 41 = .ok (.iload_n 1, 1) := by decide +kernel
theorem dX8_lastBy_42 : decode cX8_lastBy 42 = .ok (.iload_n 2, 1) := by decide +kernel
theorem dX8_lastBy_43 : decode cX8_lastBy 43 = .ok (.invokestatic 112, 3) := by decide +kernel
theorem dX8_lastBy_46 : decode cX8_lastBy 46 = .ok (.if_icmp .ne 13, 3) := by decide +kernel
theorem dX8_lastBy_49 : decode cX8_lastBy 49 = .ok (.aload_n 0, 1) := by decide +kernel
theorem dX8_lastBy_50 : decode cX8_lastBy 50 = .ok (.getfield 64, 3) := by decide +kernel
theorem dX8_lastBy_53 : decode cX8_lastBy 53 = .ok (.iload 4, 2) := by decide +kernel
theorem dX8_lastBy_55 : decode cX8_lastBy 55 = .ok (.iaload, 1) := by decide +kernel
theorem dX8_lastBy_56 : decode cX8_lastBy 56 = .ok (.goto 4, 3) := by decide +kernel
theorem dX8_lastBy_59 : decode cX8_lastBy 59 = .ok (.iload_n 3, 1) := by decide +kernel
theorem dX8_lastBy_60 : decode cX8_lastBy 60 = .ok (.istore_n 3, 1) := by decide +kernel
theorem dX8_lastBy_61 : decode cX8_lastBy 61 = .ok (.iinc 4 1, 3) := by decide +kernel
theorem dX8_lastBy_64 : decode cX8_lastBy 64 = .ok (.goto (-39), 3) := by decide +kernel
theorem dX8_lastBy_67 : decode cX8_lastBy 67 = .ok (.aload_n 0, 1) := by decide +kernel
theorem dX8_lastBy_68 : decode cX8_lastBy 68 = .ok (.iload_n 3, 1) := by decide +kernel
theorem dX8_lastBy_69 : decode cX8_lastBy 69 = .ok (.bipush (-2), 2) := by decide +kernel
theorem dX8_lastBy_71 : decode cX8_lastBy 71 = .ok (.if_icmp .ne 7, 3) := by decide +kernel
theorem dX8_lastBy_74 : decode cX8_lastBy 74 = .ok (.iconst 1, 1) := by decide +kernel
theorem dX8_lastBy_75 : decode cX8_lastBy 75 = .ok (.goto 4, 3) := by decide +kernel
theorem dX8_lastBy_78 : decode cX8_lastBy 78 = .ok (.iconst 0, 1) := by decide +kernel
theorem dX8_lastBy_79 : decode cX8_lastBy 79 = .ok (.iconst 2, 1) := by decide +kernel
theorem dX8_lastBy_80 : decode cX8_lastBy 80 = .ok (.invokevirtual 92, 3) := by decide +kernel
theorem dX8_lastBy_83 : decode cX8_lastBy 83 = .ok (.ifCond .eq 7, 3) := by decide +kernel
theorem dX8_lastBy_86 : decode cX8_lastBy 86 = .ok (.iconst 0, 1) := by decide +kernel
theorem dX8_lastBy_87 : decode cX8_lastBy 87 = .ok (.goto 4, 3) := by decide +kernel
theorem dX8_lastBy_90 : decode cX8_lastBy 90 = .ok (.iload_n 3, 1) := by decide +kernel
theorem dX8_lastBy_91 : decode cX8_lastBy 91 = .ok (.ireturn, 1) := by decide +kernel
theorem dX8_writes_0 : decode cX8_writes 0 = .ok (.aload_n 0, 1) := by decide +kernel
theorem dX8_writes_1 : decode cX8_writes 1 = .ok (.getfield 73, 3) := by decide +kernel
theorem dX8_writes_4 : decode cX8_writes 4 = .ok (.aload_n 0, 1) := by decide +kernel
theorem dX8_writes_5 : decode cX8_writes 5 = .ok (.getfield 191, 3) := by decide +kernel
theorem dX8_writes_8 : decode cX8_writes 8 = .ok (.iload_n 1, 1) := by decide +kernel
theorem dX8_writes_9 : decode cX8_writes 9 = .ok (.castore, 1) := by decide +kernel
theorem dX8_writes_10 : decode cX8_writes 10 = .ok (.aload_n 0, 1) := by decide +kernel
theorem dX8_writes_11 : decode cX8_writes 11 = .ok (.dup, 1) := by decide +kernel
theorem dX8_writes_12 : decode cX8_writes 12 = .ok (.getfield 191, 3) := by decide +kernel
theorem dX8_writes_15 : decode cX8_writes 15 = .ok (.iconst 1, 1) := by decide +kernel
theorem dX8_writes_16 : decode cX8_writes 16 = .ok (.iadd, 1) := by decide +kernel
theorem dX8_writes_17 : decode cX8_writes 17 = .ok (.putfield 191, 3) := by decide +kernel
theorem dX8_writes_20 : decode cX8_writes 20 = .ok (.return_, 1) := by decide +kernel
set_option maxRecDepth 20000 in
theorem ggX8_digits_X8_digits : GoodIn wsX8_digits wsX8_digits := goodIn_ca (goodIn_r _ [0, 1, 2, 3, 4, 5, 6, 7, 8, 9, 10, 11, 12, 13, 14, 15, 16, 17, 18, 19, 20, 21, 22, 23, 24, 25, 26, 27, 28, 29, 30, 31, 32, 33, 34, 35, 36, 37, 38, 39, 40, 41, 42] (by decide +kernel) (by decide +kernel)) (goodIn_sub (fun _ h => List.mem_cons_of_mem _ (List.mem_append_right _ h)) (by decide +kernel))
set_option maxRecDepth 20000 in
theorem gX8_digits_X8_digits : GoodIn wsX8_digits (wsV RX8 194 RX8 yX8_digits wsX8_digits) := goodIn_app (goodIn_of _ (by decide +kernel)) ggX8_digits_X8_digits
set_option maxRecDepth 20000 in
theorem ggX8_digits_X8_writes : GoodIn wsX8_digits wsX8_writes := goodIn_ca (goodIn_r _ [8, 9, 10, 11, 12, 13, 14, 15, 16, 17, 18, 19, 20, 21, 22, 23, 24, 25, 26, 27, 28, 29, 30, 31, 32, 33, 34, 35, 36, 37, 38, 39, 40, 41, 42] (by decide +kernel) (by decide +kernel)) (goodIn_sub (fun _ h => List.mem_cons_of_mem _ (List.mem_append_right _ h)) (by decide +kernel))
set_option maxRecDepth 20000 in
theorem gX8_digits_X8_writes : GoodIn wsX8_digits (wsV RX8 198 RX8 yX8_writes wsX8_writes) := goodIn_app (goodIn_of _ (by decide +kernel)) ggX8_digits_X8_writes
theorem dX8_digits_0 : decode cX8_digits 0 = .ok (.iload_n 1, 1) := by decide +kernel
theorem dX8_digits_1 : decode cX8_digits 1 = .ok (.bipush 9, 2) := by decide +kernel
theorem dX8_digits_3 : decode cX8_digits 3 = .ok (.if_icmp .le 11, 3) := by decide +kernel
theorem dX8_digits_6 : decode cX8_digits 6 = .ok (.aload_n 0, 1) := by decide +kernel
theorem dX8_digits_7 : decode cX8_digits 7 = .ok (.iload_n 1, 1) := by decide +kernel
theorem dX8_digits_8 : decode cX8_digits 8 = .ok (.bipush 10, 2) := by decide +kernel
theorem dX8_digits_10 : decode cX8_digits 10 = .ok (.idiv, 1) := by decide +kernel
theorem dX8_digits_11 : decode cX8_digits 11 = .ok (.invokevirtual 194, 3) := by decide +kernel
theorem dX8_digits_14 : decode cX8_digits 14 = .ok (.aload_n 0, 1) := by decide +kernel
theorem dX8_digits_15 : decode cX8_digits 15 = .ok (.bipush 48, 2) := by decide +kernel
theorem dX8_digits_17 : decode cX8_digits 17 = .ok (.iload_n 1, 1) := by decide +kernel
theorem dX8_digits_18 : decode cX8_digits 18 = .ok (.bipush 10, 2) := by decide +kernel
theorem dX8_digits_20 : decode cX8_digits 20 = .ok (.irem, 1) := by decide +kernel
theorem dX8_digits_21 : decode cX8_digits 21 = .ok (.iadd, 1) := by decide +kernel
theorem dX8_digits_22 : decode cX8_digits 22 = .ok (.i2c, 1) := by decide +kernel
theorem dX8_digits_23 : decode cX8_digits 23 = .ok (.invokevirtual 198, 3) := by decide +kernel
theorem dX8_digits_26 : decode cX8_digits 26 = .ok (.return_, 1) := by decide +kernel
set_option maxRecDepth 20000 in
theorem ggX8_writeStep_X8_isNoMacro : GoodIn wsX8_writeStep wsX8_isNoMacro := goodIn_r _ [15, 16, 17, 18, 14, 19, 20, 21, 22, 23, 24, 34, 35, 36, 37, 38, 39, 40, 41, 42, 43, 44, 45, 46, 47, 48, 49, 50, 51, 52, 53, 54, 55, 56, 57, 58, 59, 60, 61, 62, 63, 64, 65] (by decide +kernel) (by decide +kernel)
set_option maxRecDepth 20000 in
theorem gX8_writeStep_X8_isNoMacro : GoodIn wsX8_writeStep (wsV RX8 178 RX8 yX8_isNoMacro wsX8_isNoMacro) := goodIn_app (goodIn_of _ (by decide +kernel)) ggX8_writeStep_X8_isNoMacro
set_option maxRecDepth 20000 in
theorem ggX8_writeStep_X8_isIn : GoodIn wsX8_writeStep wsX8_isIn := goodIn_r _ [19] (by decide +kernel) (by decide +kernel)
set_option maxRecDepth 20000 in
theorem gX8_writeStep_X8_isIn : GoodIn wsX8_writeStep (va_wsS RX8 84 yX8_isIn wsX8_isIn) := goodIn_app (goodIn_of _ (by decide +kernel)) ggX8_writeStep_X8_isIn
set_option maxRecDepth 20000 in
theorem ggX8_writeStep_X8_isThrown : GoodIn wsX8_writeStep wsX8_isThrown := goodIn_r _ [23, 24, 34, 35, 36, 37, 38, 39, 40, 41, 42, 43, 44, 45, 46, 47, 48, 49, 50, 51, 52, 53, 54, 55, 56, 57, 58, 59, 60, 61, 62, 63, 64, 65] (by decide +kernel) (by decide +kernel)
set_option maxRecDepth 20000 in
theorem gX8_writeStep_X8_isThrown : GoodIn wsX8_writeStep (wsV RX8 92 RX8 yX8_isThrown wsX8_isThrown) := goodIn_app (goodIn_of _ (by decide +kernel)) ggX8_writeStep_X8_isThrown
set_option maxRecDepth 20000 in
theorem ggX8_writeStep_X8_writes : GoodIn wsX8_writeStep wsX8_writes := goodIn_ca (goodIn_r _ [28, 29, 2, 34, 35, 36, 37, 38, 39, 40, 41, 42, 43, 44, 45, 46, 47, 48, 49, 50, 51, 52, 53, 54, 55, 56, 57, 58, 59, 60, 61, 62, 63, 64, 65] (by decide +kernel) (by decide +kernel)) (goodIn_sub (fun _ h => List.mem_cons_of_mem _ (List.mem_append_right _ h)) (by decide +kernel))
set_option maxRecDepth 20000 in
theorem gX8_writeStep_X8_writes : GoodIn wsX8_writeStep (wsV RX8 198 RX8 yX8_writes wsX8_writes) := goodIn_app (goodIn_of _ (by decide +kernel)) ggX8_writeStep_X8_writes
set_option maxRecDepth 20000 in
theorem ggX8_writeStep_X8_digits : GoodIn wsX8_writeStep wsX8_digits := goodIn_ca (goodIn_r _ [33, 30, 31, 32, 14, 25, 26, 27, 28, 29, 2, 34, 35, 36, 37, 38, 39, 40, 41, 42, 43, 44, 45, 46, 47, 48, 49, 50, 51, 52, 53, 54, 55, 56, 57, 58, 59, 60, 61, 62, 63, 64, 65] (by decide +kernel) (by decide +kernel)) (goodIn_sub (fun _ h => List.mem_cons_of_mem _ (List.mem_append_right _ h)) (by decide +kernel))
set_option maxRecDepth 20000 in
theorem gX8_writeStep_X8_digits : GoodIn wsX8_writeStep (wsV RX8 194 RX8 yX8_digits wsX8_digits) := goodIn_app (goodIn_of _ (by decide +kernel)) ggX8_writeStep_X8_digits
theorem dX8_writeStep_0 : decode cX8_writeStep 0 = .ok (.aload_n 0, 1) := by decide +kernel
theorem dX8_writeStep_1 : decode cX8_writeStep 1 = .ok (.iload_n 1, 1) := by decide +kernel
theorem dX8_writeStep_2 : decode cX8_writeStep 2 = .ok (.invokevirtual 178, 3) := by decide +kernel
theorem dX8_writeStep_5 : decode cX8_writeStep 5 = .ok (.ifCond .ne 32, 3) := by decide +kernel
theorem dX8_writeStep_8 : decode cX8_writeStep 8 = .ok (.aload_n 0, 1) := by decide +kernel
theorem dX8_writeStep_9 : decode cX8_writeStep 9 = .ok (.iload_n 2, 1) := by decide +kernel
theorem dX8_writeStep_10 : decode cX8_writeStep 10 = .ok (.iconst 0, 1) := by decide +kernel
theorem dX8_writeStep_11 : decode cX8_writeStep 11 = .ok (.aload_n 0, 1) := by decide +kernel
theorem dX8_writeStep_12 : decode cX8_writeStep 12 = .ok (.getfield 22, 3) := by decide +kernel
theorem dX8_writeStep_15 : decode cX8_writeStep 15 = .ok (.iload_n 1, 1) := by decide +kernel
theorem dX8_writeStep_16 : decode cX8_writeStep 16 = .ok (.iaload, 1) := by decide +kernel
theorem dX8_writeStep_17 : decode cX8_writeStep 17 = .ok (.iconst 1, 1) := by decide +kernel
theorem dX8_writeStep_18 : decode cX8_writeStep 18 = .ok (.isub, 1) := by decide +kernel
theorem dX8_writeStep_19 : decode cX8_writeStep 19 = .ok (.invokestatic 84, 3) := by decide +kernel
theorem dX8_writeStep_22 : decode cX8_writeStep 22 = .ok (.ifCond .ne 7, 3) := by decide +kernel
theorem dX8_writeStep_25 : decode cX8_writeStep 25 = .ok (.iconst 1, 1) := by decide +kernel
theorem dX8_writeStep_26 : decode cX8_writeStep 26 = .ok (.goto 4, 3) := by decide +kernel
theorem dX8_writeStep_29 : decode cX8_writeStep 29 = .ok (.iconst 0, 1) := by decide +kernel
theorem dX8_writeStep_30 : decode cX8_writeStep 30 = .ok (.iconst 1, 1) := by decide +kernel
theorem dX8_writeStep_31 : decode cX8_writeStep 31 = .ok (.invokevirtual 92, 3) := by decide +kernel
theorem dX8_writeStep_34 : decode cX8_writeStep 34 = .ok (.ifCond .eq 5, 3) := by decide +kernel
theorem dX8_writeStep_37 : decode cX8_writeStep 37 = .ok (.iconst 0, 1) := by decide +kernel
theorem dX8_writeStep_38 : decode cX8_writeStep 38 = .ok (.ireturn, 1) := by decide +kernel
theorem dX8_writeStep_39 : decode cX8_writeStep 39 = .ok (.bipush 10, 2) := by decide +kernel
theorem dX8_writeStep_41 : decode cX8_writeStep 41 = .ok (.iload_n 1, 1) := by decide +kernel
theorem dX8_writeStep_42 : decode cX8_writeStep 42 = .ok (.imul, 1) := by decide +kernel
theorem dX8_writeStep_43 : decode cX8_writeStep 43 = .ok (.iload_n 2, 1) := by decide +kernel
theorem dX8_writeStep_44 : decode cX8_writeStep 44 = .ok (.iadd, 1) := by decide +kernel
theorem dX8_writeStep_45 : decode cX8_writeStep 45 = .ok (.istore_n 3, 1) := by decide +kernel
theorem dX8_writeStep_46 : decode cX8_writeStep 46 = .ok (.aload_n 0, 1) := by decide +kernel
theorem dX8_writeStep_47 : decode cX8_writeStep 47 = .ok (.iconst 0, 1) := by decide +kernel
theorem dX8_writeStep_48 : decode cX8_writeStep 48 = .ok (.putfield 191, 3) := by decide +kernel
theorem dX8_writeStep_51 : decode cX8_writeStep 51 = .ok (.aload_n 0, 1) := by decide +kernel
theorem dX8_writeStep_52 : decode cX8_writeStep 52 = .ok (.aload_n 0, 1) := by decide +kernel
theorem dX8_writeStep_53 : decode cX8_writeStep 53 = .ok (.getfield 25, 3) := by decide +kernel
theorem dX8_writeStep_56 : decode cX8_writeStep 56 = .ok (.iload_n 3, 1) := by decide +kernel
theorem dX8_writeStep_57 : decode cX8_writeStep 57 = .ok (.iaload, 1) := by decide +kernel
theorem dX8_writeStep_58 : decode cX8_writeStep 58 = .ok (.i2c, 1) := by decide +kernel
theorem dX8_writeStep_59 : decode cX8_writeStep 59 = .ok (.invokevirtual 198, 3) := by decide +kernel
theorem dX8_writeStep_62 : decode cX8_writeStep 62 = .ok (.aload_n 0, 1) := by decide +kernel
theorem dX8_writeStep_63 : decode cX8_writeStep 63 = .ok (.aload_n 0, 1) := by decide +kernel
theorem dX8_writeStep_64 : decode cX8_writeStep 64 = .ok (.getfield 28, 3) := by decide +kernel
theorem dX8_writeStep_67 : decode cX8_writeStep 67 = .ok (.iload_n 3, 1) := by decide +kernel
theorem dX8_writeStep_68 : decode cX8_writeStep 68 = .ok (.iaload, 1) := by decide +kernel
theorem dX8_writeStep_69 : decode cX8_writeStep 69 = .ok (.ifCond .ge 8, 3) := by decide +kernel

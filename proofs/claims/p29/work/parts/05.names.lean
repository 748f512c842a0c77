theorem inlX0 : ∀ w ∈ wsX00, w ∈ wsL_law := fun _ h => List.mem_append_left _ (List.mem_append_left _ (List.mem_append_left _ (List.mem_append_left _ (List.mem_append_left _ (List.mem_append_left _ (List.mem_append_left _ (List.mem_append_left _ (List.mem_append_left _ (List.mem_append_left _ (List.mem_append_left _ (List.mem_append_left _ (List.mem_append_left _ (List.mem_append_left _ (List.mem_append_left _ (List.mem_append_right _ h)))))))))))))))
theorem inX0 : ∀ w ∈ wsX00, w ∈ lw_tb2 := fun w h => wsL_law_in w (inlX0 w h)
theorem inlX1 : ∀ w ∈ wsX10, w ∈ wsL_law := fun _ h => List.mem_append_left _ (List.mem_append_left _ (List.mem_append_left _ (List.mem_append_left _ (List.mem_append_left _ (List.mem_append_left _ (List.mem_append_left _ (List.mem_append_left _ (List.mem_append_left _ (List.mem_append_left _ (List.mem_append_left _ (List.mem_append_left _ (List.mem_append_left _ (List.mem_append_left _ (List.mem_append_left _ (List.mem_append_left _ (List.mem_append_left _ (List.mem_append_right _ h)))))))))))))))))
theorem inX1 : ∀ w ∈ wsX10, w ∈ lw_tb2 := fun w h => wsL_law_in w (inlX1 w h)
theorem inlX2 : ∀ w ∈ wsX20, w ∈ wsL_law := fun _ h => List.mem_append_left _ (List.mem_append_left _ (List.mem_append_left _ (List.mem_append_left _ (List.mem_append_left _ (List.mem_append_left _ (List.mem_append_left _ (List.mem_append_left _ (List.mem_append_left _ (List.mem_append_left _ (List.mem_append_left _ (List.mem_append_left _ (List.mem_append_left _ (List.mem_append_left _ (List.mem_append_right _ h))))))))))))))
theorem inX2 : ∀ w ∈ wsX20, w ∈ lw_tb2 := fun w h => wsL_law_in w (inlX2 w h)
theorem inlX3 : ∀ w ∈ wsX30, w ∈ wsL_law := fun _ h => List.mem_append_left _ (List.mem_append_left _ (List.mem_append_left _ (List.mem_append_left _ (List.mem_append_left _ (List.mem_append_left _ (List.mem_append_left _ (List.mem_append_left _ (List.mem_append_left _ (List.mem_append_left _ (List.mem_append_left _ (List.mem_append_left _ (List.mem_append_right _ h))))))))))))
theorem inX3 : ∀ w ∈ wsX30, w ∈ lw_tb2 := fun w h => wsL_law_in w (inlX3 w h)
theorem inlX4 : ∀ w ∈ wsX40, w ∈ wsL_law := fun _ h => List.mem_append_left _ (List.mem_append_left _ (List.mem_append_left _ (List.mem_append_left _ (List.mem_append_left _ (List.mem_append_left _ (List.mem_append_left _ (List.mem_append_left _ (List.mem_append_left _ (List.mem_append_left _ (List.mem_append_left _ (List.mem_append_right _ h)))))))))))
theorem inX4 : ∀ w ∈ wsX40, w ∈ lw_tb2 := fun w h => wsL_law_in w (inlX4 w h)
theorem inlX5 : ∀ w ∈ wsX50, w ∈ wsL_law := fun _ h => List.mem_append_left _ (List.mem_append_left _ (List.mem_append_left _ (List.mem_append_left _ (List.mem_append_left _ (List.mem_append_left _ (List.mem_append_left _ (List.mem_append_left _ (List.mem_append_left _ (List.mem_append_right _ h)))))))))
theorem inX5 : ∀ w ∈ wsX50, w ∈ lw_tb2 := fun w h => wsL_law_in w (inlX5 w h)
theorem inlX6 : ∀ w ∈ wsX60, w ∈ wsL_law := fun _ h => List.mem_append_left _ (List.mem_append_left _ (List.mem_append_left _ (List.mem_append_left _ (List.mem_append_left _ (List.mem_append_left _ (List.mem_append_left _ (List.mem_append_left _ (List.mem_append_left _ (List.mem_append_left _ (List.mem_append_right _ h))))))))))
theorem inX6 : ∀ w ∈ wsX60, w ∈ lw_tb2 := fun w h => wsL_law_in w (inlX6 w h)
theorem inlX7 : ∀ w ∈ wsX70, w ∈ wsL_law := fun _ h => List.mem_append_left _ (List.mem_append_left _ (List.mem_append_left _ (List.mem_append_left _ (List.mem_append_left _ (List.mem_append_left _ (List.mem_append_left _ (List.mem_append_left _ (List.mem_append_left _ (List.mem_append_left _ (List.mem_append_left _ (List.mem_append_left _ (List.mem_append_left _ (List.mem_append_left _ (List.mem_append_left _ (List.mem_append_left _ (List.mem_append_left _ (List.mem_append_left _ (List.mem_append_right _ h))))))))))))))))))
theorem inX7 : ∀ w ∈ wsX70, w ∈ lw_tb2 := fun w h => wsL_law_in w (inlX7 w h)
theorem inX8 : ∀ w ∈ wsX80, w ∈ lw_tb2 := by decide +kernel
theorem inJx145de : ∀ w ∈ wsJx145de0, w ∈ lw_tb2 := by decide +kernel
theorem inJ5 : ∀ w ∈ wsJ50, w ∈ lw_tb2 := by decide +kernel
theorem inJx2cfe8 : ∀ w ∈ wsJx2cfe80, w ∈ lw_tb2 := by decide +kernel
theorem inJx00060 : ∀ w ∈ wsJx000600, w ∈ lw_tb2 := by decide +kernel
theorem inJx9f9b0 : ∀ w ∈ wsJx9f9b00, w ∈ lw_tb2 := by decide +kernel
theorem inJx8e188 : ∀ w ∈ wsJx8e1880, w ∈ lw_tb2 := by decide +kernel
theorem inJxb160c : ∀ w ∈ wsJxb160c0, w ∈ lw_tb2 := by decide +kernel
theorem inJxab1ab : ∀ w ∈ wsJxab1ab0, w ∈ lw_tb2 := by decide +kernel
theorem inJ9 : ∀ w ∈ wsJ90, w ∈ lw_tb2 := by decide +kernel
theorem inJ0 : ∀ w ∈ wsJ00, w ∈ lw_tb2 := by decide +kernel
theorem inlJ4 : ∀ w ∈ wsJ40, w ∈ wsL_law := fun _ h => List.mem_append_left _ (List.mem_append_left _ (List.mem_append_left _ (List.mem_append_left _ (List.mem_append_left _ (List.mem_append_left _ (List.mem_append_left _ (List.mem_append_left _ (List.mem_append_left _ (List.mem_append_left _ (List.mem_append_left _ (List.mem_append_left _ (List.mem_append_left _ (List.mem_append_right _ h)))))))))))))
theorem inJ4 : ∀ w ∈ wsJ40, w ∈ lw_tb2 := fun w h => wsL_law_in w (inlJ4 w h)
theorem inJ2 : ∀ w ∈ wsJ20, w ∈ lw_tb2 := by decide +kernel
theorem inJ10 : ∀ w ∈ wsJ100, w ∈ lw_tb2 := by decide +kernel
theorem inJxfd54e : ∀ w ∈ wsJxfd54e0, w ∈ lw_tb2 := by decide +kernel
theorem inJx3cf43 : ∀ w ∈ wsJx3cf430, w ∈ lw_tb2 := by decide +kernel
theorem inJxa1e45 : ∀ w ∈ wsJxa1e450, w ∈ lw_tb2 := by decide +kernel
theorem inJxc12de : ∀ w ∈ wsJxc12de0, w ∈ lw_tb2 := by decide +kernel
theorem inlJx4a65c : ∀ w ∈ wsJx4a65c0, w ∈ wsL_law := fun _ h => List.mem_append_left _ (List.mem_append_left _ (List.mem_append_left _ (List.mem_append_left _ (List.mem_append_left _ (List.mem_append_left _ (List.mem_append_left _ (List.mem_append_left _ (List.mem_append_left _ (List.mem_append_left _ (List.mem_append_left _ (List.mem_append_left _ (List.mem_append_left _ (List.mem_append_left _ (List.mem_append_left _ (List.mem_append_left _ (List.mem_append_right _ h))))))))))))))))
theorem inJx4a65c : ∀ w ∈ wsJx4a65c0, w ∈ lw_tb2 := fun w h => wsL_law_in w (inlJx4a65c w h)
theorem inJ7 : ∀ w ∈ wsJ70, w ∈ lw_tb2 := by decide +kernel
theorem inJx5ef63 : ∀ w ∈ wsJx5ef630, w ∈ lw_tb2 := by decide +kernel
theorem inJxbd725 : ∀ w ∈ wsJxbd7250, w ∈ lw_tb2 := by decide +kernel
theorem inJ15 : ∀ w ∈ wsJ150, w ∈ lw_tb2 := by decide +kernel
theorem inJxf0a74 : ∀ w ∈ wsJxf0a740, w ∈ lw_tb2 := by decide +kernel
theorem inJxa66e6 : ∀ w ∈ wsJxa66e60, w ∈ lw_tb2 := by decide +kernel
theorem inJ8 : ∀ w ∈ wsJ80, w ∈ lw_tb2 := by decide +kernel
theorem inJ3 : ∀ w ∈ wsJ30, w ∈ lw_tb2 := by decide +kernel
theorem dX0_init_0 : decode cX0_init 0 = .ok (.aload_n 0, 1) := by decide +kernel
theorem dX0_init_1 : decode cX0_init 1 = .ok (.invokespecial 3, 3) := by decide +kernel
theorem dX0_init_4 : decode cX0_init 4 = .ok (.aload_n 0, 1) := by decide +kernel
theorem dX0_init_5 : decode cX0_init 5 = .ok (.sipush 210, 3) := by decide +kernel
theorem dX0_init_8 : decode cX0_init 8 = .ok (.newarray .int, 2) := by decide +kernel
theorem dX0_init_10 : decode cX0_init 10 = .ok (.putfield 9, 3) := by decide +kernel
theorem dX0_init_13 : decode cX0_init 13 = .ok (.aload_n 0, 1) := by decide +kernel
theorem dX0_init_14 : decode cX0_init 14 = .ok (.sipush 210, 3) := by decide +kernel
theorem dX0_init_17 : decode cX0_init 17 = .ok (.newarray .int, 2) := by decide +kernel
theorem dX0_init_19 : decode cX0_init 19 = .ok (.putfield 15, 3) := by decide +kernel
theorem dX0_init_22 : decode cX0_init 22 = .ok (.aload_n 0, 1) := by decide +kernel
theorem dX0_init_23 : decode cX0_init 23 = .ok (.sipush 210, 3) := by decide +kernel
theorem dX0_init_26 : decode cX0_init 26 = .ok (.newarray .int, 2) := by decide +kernel
theorem dX0_init_28 : decode cX0_init 28 = .ok (.putfield 18, 3) := by decide +kernel
theorem dX0_init_31 : decode cX0_init 31 = .ok (.aload_n 0, 1) := by decide +kernel
theorem dX0_init_32 : decode cX0_init 32 = .ok (.sipush 210, 3) := by decide +kernel
theorem dX0_init_35 : decode cX0_init 35 = .ok (.newarray .int, 2) := by decide +kernel
theorem dX0_init_37 : decode cX0_init 37 = .ok (.putfield 21, 3) := by decide +kernel
theorem dX0_init_40 : decode cX0_init 40 = .ok (.return_, 1) := by decide +kernel
theorem dX0_size_0 : decode cX0_size 0 = .ok (.aload_n 0, 1) := by decide +kernel
theorem dX0_size_1 : decode cX0_size 1 = .ok (.getfield 24, 3) := by decide +kernel
theorem dX0_size_4 : decode cX0_size 4 = .ok (.ireturn, 1) := by decide +kernel
theorem dX0_isFull_0 : decode cX0_isFull 0 = .ok (.aload_n 0, 1) := by decide +kernel
theorem dX0_isFull_1 : decode cX0_isFull 1 = .ok (.getfield 24, 3) := by decide +kernel
theorem dX0_isFull_4 : decode cX0_isFull 4 = .ok (.aload_n 0, 1) := by decide +kernel
theorem dX0_isFull_5 : decode cX0_isFull 5 = .ok (.getfield 9, 3) := by decide +kernel
theorem dX0_isFull_8 : decode cX0_isFull 8 = .ok (.arraylength, 1) := by decide +kernel
theorem dX0_isFull_9 : decode cX0_isFull 9 = .ok (.if_icmp .lt 7, 3) := by decide +kernel
theorem dX0_isFull_12 : decode cX0_isFull 12 = .ok (.iconst 1, 1) := by decide +kernel
theorem dX0_isFull_13 : decode cX0_isFull 13 = .ok (.goto 4, 3) := by decide +kernel
theorem dX0_isFull_16 : decode cX0_isFull 16 = .ok (.iconst 0, 1) := by decide +kernel
theorem dX0_isFull_17 : decode cX0_isFull 17 = .ok (.ireturn, 1) := by decide +kernel
set_option maxRecDepth 20000 in
theorem ggX0_makeRoom_J7_copyOf_59c91 : GoodIn wsX0_makeRoom wsJ7_copyOf_59c91 := goodIn_r _ [10, 11, 12, 13, 14, 15, 16, 17, 18, 19, 20, 21, 22, 23, 24, 25] (by decide +kernel) (by decide +kernel)
set_option maxRecDepth 20000 in
theorem gX0_makeRoom_J7_copyOf_59c91 : GoodIn wsX0_makeRoom (va_wsS RX0 29 yJ7_copyOf_59c91 wsJ7_copyOf_59c91) := goodIn_app (goodIn_of _ (by decide +kernel)) ggX0_makeRoom_J7_copyOf_59c91
theorem dX0_makeRoom_0 : decode cX0_makeRoom 0 = .ok (.aload_n 0, 1) := by decide +kernel
theorem dX0_makeRoom_1 : decode cX0_makeRoom 1 = .ok (.getfield 9, 3) := by decide +kernel
theorem dX0_makeRoom_4 : decode cX0_makeRoom 4 = .ok (.arraylength, 1) := by decide +kernel
theorem dX0_makeRoom_5 : decode cX0_makeRoom 5 = .ok (.istore_n 1, 1) := by decide +kernel
theorem dX0_makeRoom_6 : decode cX0_makeRoom 6 = .ok (.aload_n 0, 1) := by decide +kernel
theorem dX0_makeRoom_7 : decode cX0_makeRoom 7 = .ok (.getfield 24, 3) := by decide +kernel
theorem dX0_makeRoom_10 : decode cX0_makeRoom 10 = .ok (.sipush 210, 3) := by decide +kernel
theorem dX0_makeRoom_13 : decode cX0_makeRoom 13 = .ok (.iadd, 1) := by decide +kernel
theorem dX0_makeRoom_14 : decode cX0_makeRoom 14 = .ok (.iload_n 1, 1) := by decide +kernel
theorem dX0_makeRoom_15 : decode cX0_makeRoom 15 = .ok (.if_icmp .le 9, 3) := by decide +kernel
theorem dX0_makeRoom_18 : decode cX0_makeRoom 18 = .ok (.iload_n 1, 1) := by decide +kernel
theorem dX0_makeRoom_19 : decode cX0_makeRoom 19 = .ok (.ldc 28, 2) := by decide +kernel
theorem dX0_makeRoom_21 : decode cX0_makeRoom 21 = .ok (.if_icmp .lt 4, 3) := by decide +kernel
theorem dX0_makeRoom_24 : decode cX0_makeRoom 24 = .ok (.return_, 1) := by decide +kernel
theorem dX0_makeRoom_25 : decode cX0_makeRoom 25 = .ok (.aload_n 0, 1) := by decide +kernel
theorem dX0_makeRoom_26 : decode cX0_makeRoom 26 = .ok (.aload_n 0, 1) := by decide +kernel
theorem dX0_makeRoom_27 : decode cX0_makeRoom 27 = .ok (.getfield 9, 3) := by decide +kernel
theorem dX0_makeRoom_30 : decode cX0_makeRoom 30 = .ok (.iconst 2, 1) := by decide +kernel
theorem dX0_makeRoom_31 : decode cX0_makeRoom 31 = .ok (.iload_n 1, 1) := by decide +kernel
theorem dX0_makeRoom_32 : decode cX0_makeRoom 32 = .ok (.imul, 1) := by decide +kernel
theorem dX0_makeRoom_33 : decode cX0_makeRoom 33 = .ok (.invokestatic 29, 3) := by decide +kernel
theorem dX0_makeRoom_36 : decode cX0_makeRoom 36 = .ok (.putfield 9, 3) := by decide +kernel
theorem dX0_makeRoom_39 : decode cX0_makeRoom 39 = .ok (.aload_n 0, 1) := by decide +kernel
theorem dX0_makeRoom_40 : decode cX0_makeRoom 40 = .ok (.aload_n 0, 1) := by decide +kernel
theorem dX0_makeRoom_41 : decode cX0_makeRoom 41 = .ok (.getfield 15, 3) := by decide +kernel
theorem dX0_makeRoom_44 : decode cX0_makeRoom 44 = .ok (.iconst 2, 1) := by decide +kernel
theorem dX0_makeRoom_45 : decode cX0_makeRoom 45 = .ok (.iload_n 1, 1) := by decide +kernel
theorem dX0_makeRoom_46 : decode cX0_makeRoom 46 = .ok (.imul, 1) := by decide +kernel
theorem dX0_makeRoom_47 : decode cX0_makeRoom 47 = .ok (.invokestatic 29, 3) := by decide +kernel
theorem dX0_makeRoom_50 : decode cX0_makeRoom 50 = .ok (.putfield 15, 3) := by decide +kernel
theorem dX0_makeRoom_53 : decode cX0_makeRoom 53 = .ok (.aload_n 0, 1) := by decide +kernel
theorem dX0_makeRoom_54 : decode cX0_makeRoom 54 = .ok (.aload_n 0, 1) := by decide +kernel
theorem dX0_makeRoom_55 : decode cX0_makeRoom 55 = .ok (.getfield 18, 3) := by decide +kernel
theorem dX0_makeRoom_58 : decode cX0_makeRoom 58 = .ok (.iconst 2, 1) := by decide +kernel
theorem dX0_makeRoom_59 : decode cX0_makeRoom 59 = .ok (.iload_n 1, 1) := by decide +kernel
theorem dX0_makeRoom_60 : decode cX0_makeRoom 60 = .ok (.imul, 1) := by decide +kernel
theorem dX0_makeRoom_61 : decode cX0_makeRoom 61 = .ok (.invokestatic 29, 3) := by decide +kernel
theorem dX0_makeRoom_64 : decode cX0_makeRoom 64 = .ok (.putfield 18, 3) := by decide +kernel
theorem dX0_makeRoom_67 : decode cX0_makeRoom 67 = .ok (.aload_n 0, 1) := by decide +kernel
theorem dX0_makeRoom_68 : decode cX0_makeRoom 68 = .ok (.aload_n 0, 1) := by decide +kernel
theorem dX0_makeRoom_69 : decode cX0_makeRoom 69 = .ok (.getfield 21, 3) := by decide +kernel
theorem dX0_makeRoom_72 : decode cX0_makeRoom 72 = .ok (.iconst 2, 1) := by decide +kernel
theorem dX0_makeRoom_73 : decode cX0_makeRoom 73 = .ok (.iload_n 1, 1) := by decide +kernel
theorem dX0_makeRoom_74 : decode cX0_makeRoom 74 = .ok (.imul, 1) := by decide +kernel
theorem dX0_makeRoom_75 : decode cX0_makeRoom 75 = .ok (.invokestatic 29, 3) := by decide +kernel
theorem dX0_makeRoom_78 : decode cX0_makeRoom 78 = .ok (.putfield 21, 3) := by decide +kernel
theorem dX0_makeRoom_81 : decode cX0_makeRoom 81 = .ok (.return_, 1) := by decide +kernel
theorem dX0_note_0 : decode cX0_note 0 = .ok (.aload_n 0, 1) := by decide +kernel
theorem dX0_note_1 : decode cX0_note 1 = .ok (.getfield 24, 3) := by decide +kernel
theorem dX0_note_4 : decode cX0_note 4 = .ok (.ifCond .lt 15, 3) := by decide +kernel
theorem dX0_note_7 : decode cX0_note 7 = .ok (.aload_n 0, 1) := by decide +kernel
theorem dX0_note_8 : decode cX0_note 8 = .ok (.getfield 24, 3) := by decide +kernel
theorem dX0_note_11 : decode cX0_note 11 = .ok (.aload_n 0, 1) := by decide +kernel
theorem dX0_note_12 : decode cX0_note 12 = .ok (.getfield 9, 3) := by decide +kernel
theorem dX0_note_15 : decode cX0_note 15 = .ok (.arraylength, 1) := by decide +kernel
theorem dX0_note_16 : decode cX0_note 16 = .ok (.if_icmp .lt 4, 3) := by decide +kernel
theorem dX0_note_19 : decode cX0_note 19 = .ok (.return_, 1) := by decide +kernel
theorem dX0_note_20 : decode cX0_note 20 = .ok (.aload_n 0, 1) := by decide +kernel
theorem dX0_note_21 : decode cX0_note 21 = .ok (.getfield 9, 3) := by decide +kernel
theorem dX0_note_24 : decode cX0_note 24 = .ok (.aload_n 0, 1) := by decide +kernel
theorem dX0_note_25 : decode cX0_note 25 = .ok (.getfield 24, 3) := by decide +kernel
theorem dX0_note_28 : decode cX0_note 28 = .ok (.iload_n 1, 1) := by decide +kernel
theorem dX0_note_29 : decode cX0_note 29 = .ok (.iastore, 1) := by decide +kernel
theorem dX0_note_30 : decode cX0_note 30 = .ok (.aload_n 0, 1) := by decide +kernel
theorem dX0_note_31 : decode cX0_note 31 = .ok (.getfield 15, 3) := by decide +kernel
theorem dX0_note_34 : decode cX0_note 34 = .ok (.aload_n 0, 1) := by decide +kernel
theorem dX0_note_35 : decode cX0_note 35 = .ok (.getfield 24, 3) := by decide +kernel
theorem dX0_note_38 : decode cX0_note 38 = .ok (.iload_n 2, 1) := by decide +kernel
theorem dX0_note_39 : decode cX0_note 39 = .ok (.iastore, 1) := by decide +kernel
theorem dX0_note_40 : decode cX0_note 40 = .ok (.aload_n 0, 1) := by decide +kernel
theorem dX0_note_41 : decode cX0_note 41 = .ok (.getfield 18, 3) := by decide +kernel
theorem dX0_note_44 : decode cX0_note 44 = .ok (.aload_n 0, 1) := by decide +kernel
theorem dX0_note_45 : decode cX0_note 45 = .ok (.getfield 24, 3) := by decide +kernel
theorem dX0_note_48 : decode cX0_note 48 = .ok (.iload_n 3, 1) := by decide +kernel
theorem dX0_note_49 : decode cX0_note 49 = .ok (.iastore, 1) := by decide +kernel
theorem dX0_note_50 : decode cX0_note 50 = .ok (.aload_n 0, 1) := by decide +kernel
theorem dX0_note_51 : decode cX0_note 51 = .ok (.getfield 21, 3) := by decide +kernel
theorem dX0_note_54 : decode cX0_note 54 = .ok (.aload_n 0, 1) := by decide +kernel
theorem dX0_note_55 : decode cX0_note 55 = .ok (.getfield 24, 3) := by decide +kernel
theorem dX0_note_58 : decode cX0_note 58 = .ok (.iload 4, 2) := by decide +kernel
theorem dX0_note_60 : decode cX0_note 60 = .ok (.iastore, 1) := by decide +kernel
theorem dX0_note_61 : decode cX0_note 61 = .ok (.aload_n 0, 1) := by decide +kernel
theorem dX0_note_62 : decode cX0_note 62 = .ok (.dup, 1) := by decide +kernel
theorem dX0_note_63 : decode cX0_note 63 = .ok (.getfield 24, 3) := by decide +kernel
theorem dX0_note_66 : decode cX0_note 66 = .ok (.iconst 1, 1) := by decide +kernel
theorem dX0_note_67 : decode cX0_note 67 = .ok (.iadd, 1) := by decide +kernel
theorem dX0_note_68 : decode cX0_note 68 = .ok (.putfield 24, 3) := by decide +kernel
theorem dX0_note_71 : decode cX0_note 71 = .ok (.return_, 1) := by decide +kernel
theorem dX0_cutTo_0 : decode cX0_cutTo 0 = .ok (.iload_n 1, 1) := by decide +kernel
theorem dX0_cutTo_1 : decode cX0_cutTo 1 = .ok (.ifCond .lt 16, 3) := by decide +kernel
theorem dX0_cutTo_4 : decode cX0_cutTo 4 = .ok (.iload_n 1, 1) := by decide +kernel
theorem dX0_cutTo_5 : decode cX0_cutTo 5 = .ok (.aload_n 0, 1) := by decide +kernel
theorem dX0_cutTo_6 : decode cX0_cutTo 6 = .ok (.getfield 24, 3) := by decide +kernel
theorem dX0_cutTo_9 : decode cX0_cutTo 9 = .ok (.if_icmp .ge 8, 3) := by decide +kernel
theorem dX0_cutTo_12 : decode cX0_cutTo 12 = .ok (.aload_n 0, 1) := by decide +kernel
theorem dX0_cutTo_13 : decode cX0_cutTo 13 = .ok (.iload_n 1, 1) := by decide +kernel
theorem dX0_cutTo_14 : decode cX0_cutTo 14 = .ok (.putfield 24, 3) := by decide +kernel
theorem dX0_cutTo_17 : decode cX0_cutTo 17 = .ok (.return_, 1) := by decide +kernel
theorem dX0_placeAt_0 : decode cX0_placeAt 0 = .ok (.iload_n 1, 1) := by decide +kernel
theorem dX0_placeAt_1 : decode cX0_placeAt 1 = .ok (.ifCond .lt 20, 3) := by decide +kernel
theorem dX0_placeAt_4 : decode cX0_placeAt 4 = .ok (.iload_n 1, 1) := by decide +kernel
theorem dX0_placeAt_5 : decode cX0_placeAt 5 = .ok (.aload_n 0, 1) := by decide +kernel
theorem dX0_placeAt_6 : decode cX0_placeAt 6 = .ok (.getfield 24, 3) := by decide +kernel
theorem dX0_placeAt_9 : decode cX0_placeAt 9 = .ok (.if_icmp .ge 12, 3) := by decide +kernel
theorem dX0_placeAt_12 : decode cX0_placeAt 12 = .ok (.aload_n 0, 1) := by decide +kernel
theorem dX0_placeAt_13 : decode cX0_placeAt 13 = .ok (.getfield 9, 3) := by decide +kernel
theorem dX0_placeAt_16 : decode cX0_placeAt 16 = .ok (.iload_n 1, 1) := by decide +kernel
theorem dX0_placeAt_17 : decode cX0_placeAt 17 = .ok (.iaload, 1) := by decide +kernel
theorem dX0_placeAt_18 : decode cX0_placeAt 18 = .ok (.goto 4, 3) := by decide +kernel
theorem dX0_placeAt_21 : decode cX0_placeAt 21 = .ok (.iconst 0, 1) := by decide +kernel
theorem dX0_placeAt_22 : decode cX0_placeAt 22 = .ok (.ireturn, 1) := by decide +kernel
theorem dX0_beforeAt_0 : decode cX0_beforeAt 0 = .ok (.iload_n 1, 1) := by decide +kernel
theorem dX0_beforeAt_1 : decode cX0_beforeAt 1 = .ok (.ifCond .lt 20, 3) := by decide +kernel
theorem dX0_beforeAt_4 : decode cX0_beforeAt 4 = .ok (.iload_n 1, 1) := by decide +kernel
theorem dX0_beforeAt_5 : decode cX0_beforeAt 5 = .ok (.aload_n 0, 1) := by decide +kernel
theorem dX0_beforeAt_6 : decode cX0_beforeAt 6 = .ok (.getfield 24, 3) := by decide +kernel
theorem dX0_beforeAt_9 : decode cX0_beforeAt 9 = .ok (.if_icmp .ge 12, 3) := by decide +kernel
theorem dX0_beforeAt_12 : decode cX0_beforeAt 12 = .ok (.aload_n 0, 1) := by decide +kernel
theorem dX0_beforeAt_13 : decode cX0_beforeAt 13 = .ok (.getfield 15, 3) := by decide +kernel
theorem dX0_beforeAt_16 : decode cX0_beforeAt 16 = .ok (.iload_n 1, 1) := by decide +kernel
theorem dX0_beforeAt_17 : decode cX0_beforeAt 17 = .ok (.iaload, 1) := by decide +kernel
theorem dX0_beforeAt_18 : decode cX0_beforeAt 18 = .ok (.goto 4, 3) := by decide +kernel
theorem dX0_beforeAt_21 : decode cX0_beforeAt 21 = .ok (.iconst 0, 1) := by decide +kernel
theorem dX0_beforeAt_22 : decode cX0_beforeAt 22 = .ok (.ireturn, 1) := by decide +kernel
theorem dX0_valueAnew_0 : decode cX0_valueAnew 0 = .ok (.iconst 0, 1) := by decide +kernel
theorem dX0_valueAnew_1 : decode cX0_valueAnew 1 = .ok (.istore_n 2, 1) := by decide +kernel
theorem dX0_valueAnew_2 : decode cX0_valueAnew 2 = .ok (.iconst 0, 1) := by decide +kernel
theorem dX0_valueAnew_3 : decode cX0_valueAnew 3 = .ok (.istore_n 3, 1) := by decide +kernel
theorem dX0_valueAnew_4 : decode cX0_valueAnew 4 = .ok (.iload_n 3, 1) := by decide +kernel
theorem dX0_valueAnew_5 : decode cX0_valueAnew 5 = .ok (.aload_n 0, 1) := by decide +kernel
theorem dX0_valueAnew_6 : decode cX0_valueAnew 6 = .ok (.getfield 24, 3) := by decide +kernel
theorem dX0_valueAnew_9 : decode cX0_valueAnew 9 = .ok (.if_icmp .ge 26, 3) := by decide +kernel
theorem dX0_valueAnew_12 : decode cX0_valueAnew 12 = .ok (.aload_n 0, 1) := by decide +kernel
theorem dX0_valueAnew_13 : decode cX0_valueAnew 13 = .ok (.getfield 9, 3) := by decide +kernel
theorem dX0_valueAnew_16 : decode cX0_valueAnew 16 = .ok (.iload_n 3, 1) := by decide +kernel
theorem dX0_valueAnew_17 : decode cX0_valueAnew 17 = .ok (.iaload, 1) := by decide +kernel
theorem dX0_valueAnew_18 : decode cX0_valueAnew 18 = .ok (.iload_n 1, 1) := by decide +kernel
theorem dX0_valueAnew_19 : decode cX0_valueAnew 19 = .ok (.if_icmp .ne 10, 3) := by decide +kernel
theorem dX0_valueAnew_22 : decode cX0_valueAnew 22 = .ok (.aload_n 0, 1) := by decide +kernel
theorem dX0_valueAnew_23 : decode cX0_valueAnew 23 = .ok (.getfield 18, 3) := by decide +kernel
theorem dX0_valueAnew_26 : decode cX0_valueAnew 26 = .ok (.iload_n 3, 1) := by decide +kernel
theorem dX0_valueAnew_27 : decode cX0_valueAnew 27 = .ok (.iaload, 1) := by decide +kernel
theorem dX0_valueAnew_28 : decode cX0_valueAnew 28 = .ok (.istore_n 2, 1) := by decide +kernel
theorem dX0_valueAnew_29 : decode cX0_valueAnew 29 = .ok (.iinc 3 1, 3) := by decide +kernel
theorem dX0_valueAnew_32 : decode cX0_valueAnew 32 = .ok (.goto (-28), 3) := by decide +kernel
theorem dX0_valueAnew_35 : decode cX0_valueAnew 35 = .ok (.iload_n 2, 1) := by decide +kernel
theorem dX0_valueAnew_36 : decode cX0_valueAnew 36 = .ok (.ireturn, 1) := by decide +kernel
theorem dX1_init_0 : decode cX1_init 0 = .ok (.aload_n 0, 1) := by decide +kernel
theorem dX1_init_1 : decode cX1_init 1 = .ok (.invokespecial 3, 3) := by decide +kernel
theorem dX1_init_4 : decode cX1_init 4 = .ok (.aload_n 0, 1) := by decide +kernel
theorem dX1_init_5 : decode cX1_init 5 = .ok (.bipush 48, 2) := by decide +kernel
theorem dX1_init_7 : decode cX1_init 7 = .ok (.newarray .int, 2) := by decide +kernel
theorem dX1_init_9 : decode cX1_init 9 = .ok (.putfield 9, 3) := by decide +kernel
theorem dX1_init_12 : decode cX1_init 12 = .ok (.return_, 1) := by decide +kernel
set_option maxRecDepth 20000 in
theorem ggX1_valueAt_X1_isPlace : GoodIn wsX1_valueAt wsX1_isPlace := goodIn_r _ [6, 1, 7] (by decide +kernel) (by decide +kernel)
set_option maxRecDepth 20000 in
theorem gX1_valueAt_X1_isPlace : GoodIn wsX1_valueAt (wsV RX1 15 RX1 yX1_isPlace wsX1_isPlace) := goodIn_app (goodIn_of _ (by decide +kernel)) ggX1_valueAt_X1_isPlace
theorem dX1_valueAt_0 : decode cX1_valueAt 0 = .ok (.aload_n 0, 1) := by decide +kernel
theorem dX1_valueAt_1 : decode cX1_valueAt 1 = .ok (.iload_n 1, 1) := by decide +kernel
theorem dX1_valueAt_2 : decode cX1_valueAt 2 = .ok (.invokevirtual 15, 3) := by decide +kernel
theorem dX1_valueAt_5 : decode cX1_valueAt 5 = .ok (.ifCond .eq 12, 3) := by decide +kernel
theorem dX1_valueAt_8 : decode cX1_valueAt 8 = .ok (.aload_n 0, 1) := by decide +kernel
theorem dX1_valueAt_9 : decode cX1_valueAt 9 = .ok (.getfield 9, 3) := by decide +kernel
theorem dX1_valueAt_12 : decode cX1_valueAt 12 = .ok (.iload_n 1, 1) := by decide +kernel
theorem dX1_valueAt_13 : decode cX1_valueAt 13 = .ok (.iaload, 1) := by decide +kernel
theorem dX1_valueAt_14 : decode cX1_valueAt 14 = .ok (.goto 4, 3) := by decide +kernel
theorem dX1_valueAt_17 : decode cX1_valueAt 17 = .ok (.iconst 0, 1) := by decide +kernel
theorem dX1_valueAt_18 : decode cX1_valueAt 18 = .ok (.ireturn, 1) := by decide +kernel
set_option maxRecDepth 20000 in
theorem ggX1_put_X1_isPlace : GoodIn wsX1_put wsX1_isPlace := goodIn_r _ [6, 1, 7] (by decide +kernel) (by decide +kernel)
set_option maxRecDepth 20000 in
theorem gX1_put_X1_isPlace : GoodIn wsX1_put (wsV RX1 15 RX1 yX1_isPlace wsX1_isPlace) := goodIn_app (goodIn_of _ (by decide +kernel)) ggX1_put_X1_isPlace
theorem dX1_put_0 : decode cX1_put 0 = .ok (.aload_n 0, 1) := by decide +kernel
theorem dX1_put_1 : decode cX1_put 1 = .ok (.iload_n 1, 1) := by decide +kernel
theorem dX1_put_2 : decode cX1_put 2 = .ok (.invokevirtual 15, 3) := by decide +kernel
theorem dX1_put_5 : decode cX1_put 5 = .ok (.ifCond .eq 10, 3) := by decide +kernel
theorem dX1_put_8 : decode cX1_put 8 = .ok (.aload_n 0, 1) := by decide +kernel
theorem dX1_put_9 : decode cX1_put 9 = .ok (.getfield 9, 3) := by decide +kernel
theorem dX1_put_12 : decode cX1_put 12 = .ok (.iload_n 1, 1) := by decide +kernel
theorem dX1_put_13 : decode cX1_put 13 = .ok (.iload_n 2, 1) := by decide +kernel
theorem dX1_put_14 : decode cX1_put 14 = .ok (.iastore, 1) := by decide +kernel
theorem dX1_put_15 : decode cX1_put 15 = .ok (.return_, 1) := by decide +kernel
theorem dX1_copyFrom_0 : decode cX1_copyFrom 0 = .ok (.aload_n 1, 1) := by decide +kernel
theorem dX1_copyFrom_1 : decode cX1_copyFrom 1 = .ok (.getfield 9, 3) := by decide +kernel
theorem dX1_copyFrom_4 : decode cX1_copyFrom 4 = .ok (.iconst 0, 1) := by decide +kernel
theorem dX1_copyFrom_5 : decode cX1_copyFrom 5 = .ok (.aload_n 0, 1) := by decide +kernel
theorem dX1_copyFrom_6 : decode cX1_copyFrom 6 = .ok (.getfield 9, 3) := by decide +kernel
theorem dX1_copyFrom_9 : decode cX1_copyFrom 9 = .ok (.iconst 0, 1) := by decide +kernel
theorem dX1_copyFrom_10 : decode cX1_copyFrom 10 = .ok (.bipush 48, 2) := by decide +kernel
theorem dX1_copyFrom_12 : decode cX1_copyFrom 12 = .ok (.invokestatic 19, 3) := by decide +kernel
theorem dX1_copyFrom_15 : decode cX1_copyFrom 15 = .ok (.return_, 1) := by decide +kernel
theorem dX1_isPlace_0 : decode cX1_isPlace 0 = .ok (.iload_n 1, 1) := by decide +kernel
theorem dX1_isPlace_1 : decode cX1_isPlace 1 = .ok (.ifCond .lt 16, 3) := by decide +kernel
theorem dX1_isPlace_4 : decode cX1_isPlace 4 = .ok (.iload_n 1, 1) := by decide +kernel
theorem dX1_isPlace_5 : decode cX1_isPlace 5 = .ok (.aload_n 0, 1) := by decide +kernel
theorem dX1_isPlace_6 : decode cX1_isPlace 6 = .ok (.getfield 9, 3) := by decide +kernel
theorem dX1_isPlace_9 : decode cX1_isPlace 9 = .ok (.arraylength, 1) := by decide +kernel
theorem dX1_isPlace_10 : decode cX1_isPlace 10 = .ok (.if_icmp .ge 7, 3) := by decide +kernel
theorem dX1_isPlace_13 : decode cX1_isPlace 13 = .ok (.iconst 1, 1) := by decide +kernel
theorem dX1_isPlace_14 : decode cX1_isPlace 14 = .ok (.goto 4, 3) := by decide +kernel
theorem dX1_isPlace_17 : decode cX1_isPlace 17 = .ok (.iconst 0, 1) := by decide +kernel
theorem dX1_isPlace_18 : decode cX1_isPlace 18 = .ok (.ireturn, 1) := by decide +kernel
theorem dX2_init_0 : decode cX2_init 0 = .ok (.aload_n 0, 1) := by decide +kernel
theorem dX2_init_1 : decode cX2_init 1 = .ok (.invokespecial 3, 3) := by decide +kernel
theorem dX2_init_4 : decode cX2_init 4 = .ok (.aload_n 0, 1) := by decide +kernel
theorem dX2_init_5 : decode cX2_init 5 = .ok (.bipush 8, 2) := by decide +kernel
theorem dX2_init_7 : decode cX2_init 7 = .ok (.newarray .int, 2) := by decide +kernel
theorem dX2_init_9 : decode cX2_init 9 = .ok (.putfield 9, 3) := by decide +kernel
theorem dX2_init_12 : decode cX2_init 12 = .ok (.return_, 1) := by decide +kernel
theorem dX2_keep_0 : decode cX2_keep 0 = .ok (.aload_n 0, 1) := by decide +kernel
theorem dX2_keep_1 : decode cX2_keep 1 = .ok (.getfield 15, 3) := by decide +kernel
theorem dX2_keep_4 : decode cX2_keep 4 = .ok (.bipush 8, 2) := by decide +kernel
theorem dX2_keep_6 : decode cX2_keep 6 = .ok (.if_icmp .lt 24, 3) := by decide +kernel
theorem dX2_keep_9 : decode cX2_keep 9 = .ok (.aload_n 0, 1) := by decide +kernel
theorem dX2_keep_10 : decode cX2_keep 10 = .ok (.getfield 9, 3) := by decide +kernel
theorem dX2_keep_13 : decode cX2_keep 13 = .ok (.iconst 1, 1) := by decide +kernel
theorem dX2_keep_14 : decode cX2_keep 14 = .ok (.aload_n 0, 1) := by decide +kernel
theorem dX2_keep_15 : decode cX2_keep 15 = .ok (.getfield 9, 3) := by decide +kernel
theorem dX2_keep_18 : decode cX2_keep 18 = .ok (.iconst 0, 1) := by decide +kernel
theorem dX2_keep_19 : decode cX2_keep 19 = .ok (.bipush 7, 2) := by decide +kernel
theorem dX2_keep_21 : decode cX2_keep 21 = .ok (.invokestatic 19, 3) := by decide +kernel
theorem dX2_keep_24 : decode cX2_keep 24 = .ok (.aload_n 0, 1) := by decide +kernel
theorem dX2_keep_25 : decode cX2_keep 25 = .ok (.bipush 7, 2) := by decide +kernel
theorem dX2_keep_27 : decode cX2_keep 27 = .ok (.putfield 15, 3) := by decide +kernel
theorem dX2_keep_30 : decode cX2_keep 30 = .ok (.aload_n 0, 1) := by decide +kernel
theorem dX2_keep_31 : decode cX2_keep 31 = .ok (.getfield 9, 3) := by decide +kernel
theorem dX2_keep_34 : decode cX2_keep 34 = .ok (.aload_n 0, 1) := by decide +kernel
theorem dX2_keep_35 : decode cX2_keep 35 = .ok (.getfield 15, 3) := by decide +kernel
theorem dX2_keep_38 : decode cX2_keep 38 = .ok (.iload_n 1, 1) := by decide +kernel
theorem dX2_keep_39 : decode cX2_keep 39 = .ok (.iastore, 1) := by decide +kernel
theorem dX2_keep_40 : decode cX2_keep 40 = .ok (.aload_n 0, 1) := by decide +kernel
theorem dX2_keep_41 : decode cX2_keep 41 = .ok (.dup, 1) := by decide +kernel
theorem dX2_keep_42 : decode cX2_keep 42 = .ok (.getfield 15, 3) := by decide +kernel
theorem dX2_keep_45 : decode cX2_keep 45 = .ok (.iconst 1, 1) := by decide +kernel
theorem dX2_keep_46 : decode cX2_keep 46 = .ok (.iadd, 1) := by decide +kernel
theorem dX2_keep_47 : decode cX2_keep 47 = .ok (.putfield 15, 3) := by decide +kernel
theorem dX2_keep_50 : decode cX2_keep 50 = .ok (.return_, 1) := by decide +kernel
theorem dX2_takeLatest_0 : decode cX2_takeLatest 0 = .ok (.aload_n 0, 1) := by decide +kernel
theorem dX2_takeLatest_1 : decode cX2_takeLatest 1 = .ok (.getfield 15, 3) := by decide +kernel
theorem dX2_takeLatest_4 : decode cX2_takeLatest 4 = .ok (.ifCond .gt 5, 3) := by decide +kernel
theorem dX2_takeLatest_7 : decode cX2_takeLatest 7 = .ok (.iconst (-1), 1) := by decide +kernel
theorem dX2_takeLatest_8 : decode cX2_takeLatest 8 = .ok (.ireturn, 1) := by decide +kernel
theorem dX2_takeLatest_9 : decode cX2_takeLatest 9 = .ok (.aload_n 0, 1) := by decide +kernel
theorem dX2_takeLatest_10 : decode cX2_takeLatest 10 = .ok (.dup, 1) := by decide +kernel
theorem dX2_takeLatest_11 : decode cX2_takeLatest 11 = .ok (.getfield 15, 3) := by decide +kernel
theorem dX2_takeLatest_14 : decode cX2_takeLatest 14 = .ok (.iconst 1, 1) := by decide +kernel
theorem dX2_takeLatest_15 : decode cX2_takeLatest 15 = .ok (.isub, 1) := by decide +kernel
theorem dX2_takeLatest_16 : decode cX2_takeLatest 16 = .ok (.putfield 15, 3) := by decide +kernel
theorem dX2_takeLatest_19 : decode cX2_takeLatest 19 = .ok (.aload_n 0, 1) := by decide +kernel
theorem dX2_takeLatest_20 : decode cX2_takeLatest 20 = .ok (.getfield 9, 3) := by decide +kernel
theorem dX2_takeLatest_23 : decode cX2_takeLatest 23 = .ok (.aload_n 0, 1) := by decide +kernel
theorem dX2_takeLatest_24 : decode cX2_takeLatest 24 = .ok (.getfield 15, 3) := by decide +kernel
theorem dX2_takeLatest_27 : decode cX2_takeLatest 27 = .ok (.iaload, 1) := by decide +kernel
theorem dX2_takeLatest_28 : decode cX2_takeLatest 28 = .ok (.ireturn, 1) := by decide +kernel
set_option maxRecDepth 20000 in
theorem ggX3_init_Jx4a65c_init_da8c8 : GoodIn wsX3_init wsJx4a65c_init_da8c8 := goodIn_r _ [12, 13, 14, 15, 16, 17, 18, 19, 20, 21, 22, 23, 24, 2, 3, 28, 29, 30] (by decide +kernel) (by decide +kernel)
set_option maxRecDepth 20000 in
theorem gX3_init_Jx4a65c_init_da8c8 : GoodIn wsX3_init (wsJx4a65c_init_da8c8) := ggX3_init_Jx4a65c_init_da8c8
theorem dX3_init_0 : decode cX3_init 0 = .ok (.aload_n 0, 1) := by decide +kernel
theorem dX3_init_1 : decode cX3_init 1 = .ok (.invokespecial 3, 3) := by decide +kernel
theorem dX3_init_4 : decode cX3_init 4 = .ok (.aload_n 0, 1) := by decide +kernel
theorem dX3_init_5 : decode cX3_init 5 = .ok (.iload_n 1, 1) := by decide +kernel
theorem dX3_init_6 : decode cX3_init 6 = .ok (.putfield 9, 3) := by decide +kernel
theorem dX3_init_9 : decode cX3_init 9 = .ok (.aload_n 0, 1) := by decide +kernel
theorem dX3_init_10 : decode cX3_init 10 = .ok (.new 15, 3) := by decide +kernel
theorem dX3_init_13 : decode cX3_init 13 = .ok (.dup, 1) := by decide +kernel
theorem dX3_init_14 : decode cX3_init 14 = .ok (.invokespecial 17, 3) := by decide +kernel
theorem dX3_init_17 : decode cX3_init 17 = .ok (.putfield 18, 3) := by decide +kernel
theorem dX3_init_20 : decode cX3_init 20 = .ok (.aload_n 0, 1) := by decide +kernel
theorem dX3_init_21 : decode cX3_init 21 = .ok (.new 15, 3) := by decide +kernel
theorem dX3_init_24 : decode cX3_init 24 = .ok (.dup, 1) := by decide +kernel
theorem dX3_init_25 : decode cX3_init 25 = .ok (.invokespecial 17, 3) := by decide +kernel
theorem dX3_init_28 : decode cX3_init 28 = .ok (.putfield 22, 3) := by decide +kernel
theorem dX3_init_31 : decode cX3_init 31 = .ok (.return_, 1) := by decide +kernel
set_option maxRecDepth 20000 in
theorem ggX3_stepCount_Jx4a65c_size_8abf5 : GoodIn wsX3_stepCount wsJx4a65c_size_8abf5 := goodIn_r _ [6, 7, 11, 12, 13] (by decide +kernel) (by decide +kernel)
set_option maxRecDepth 20000 in
theorem gX3_stepCount_Jx4a65c_size_8abf5 : GoodIn wsX3_stepCount (wsV RX3 25 RJx4a65c yJx4a65c_size_8abf5 wsJx4a65c_size_8abf5) := goodIn_app (goodIn_of _ (by decide +kernel)) ggX3_stepCount_Jx4a65c_size_8abf5
theorem dX3_stepCount_0 : decode cX3_stepCount 0 = .ok (.aload_n 0, 1) := by decide +kernel
theorem dX3_stepCount_1 : decode cX3_stepCount 1 = .ok (.getfield 18, 3) := by decide +kernel
theorem dX3_stepCount_4 : decode cX3_stepCount 4 = .ok (.invokevirtual 25, 3) := by decide +kernel
theorem dX3_stepCount_7 : decode cX3_stepCount 7 = .ok (.ireturn, 1) := by decide +kernel
set_option maxRecDepth 20000 in
theorem ggX3_stepAt_Jx4a65c_size_8abf5 : GoodIn wsX3_stepAt wsJx4a65c_size_8abf5 := goodIn_r _ [7, 8, 29, 30, 31] (by decide +kernel) (by decide +kernel)
set_option maxRecDepth 20000 in
theorem gX3_stepAt_Jx4a65c_size_8abf5 : GoodIn wsX3_stepAt (wsV RX3 25 RJx4a65c yJx4a65c_size_8abf5 wsJx4a65c_size_8abf5) := goodIn_app (goodIn_of _ (by decide +kernel)) ggX3_stepAt_Jx4a65c_size_8abf5
set_option maxRecDepth 20000 in
theorem ggX3_stepAt_Jx4a65c_get_915e3 : GoodIn wsX3_stepAt wsJx4a65c_get_915e3 := goodIn_r _ [12, 8, 13, 14, 15, 16, 17, 18, 19, 20, 21, 22, 23, 6, 24, 25, 29, 30, 31] (by decide +kernel) (by decide +kernel)
set_option maxRecDepth 20000 in
theorem gX3_stepAt_Jx4a65c_get_915e3 : GoodIn wsX3_stepAt (wsV RX3 29 RJx4a65c yJx4a65c_get_915e3 wsJx4a65c_get_915e3) := goodIn_app (goodIn_of _ (by decide +kernel)) ggX3_stepAt_Jx4a65c_get_915e3
theorem dX3_stepAt_0 : decode cX3_stepAt 0 = .ok (.iload_n 1, 1) := by decide +kernel
theorem dX3_stepAt_1 : decode cX3_stepAt 1 = .ok (.ifCond .lt 28, 3) := by decide +kernel
theorem dX3_stepAt_4 : decode cX3_stepAt 4 = .ok (.iload_n 1, 1) := by decide +kernel
theorem dX3_stepAt_5 : decode cX3_stepAt 5 = .ok (.aload_n 0, 1) := by decide +kernel
theorem dX3_stepAt_6 : decode cX3_stepAt 6 = .ok (.getfield 18, 3) := by decide +kernel
theorem dX3_stepAt_9 : decode cX3_stepAt 9 = .ok (.invokevirtual 25, 3) := by decide +kernel
theorem dX3_stepAt_12 : decode cX3_stepAt 12 = .ok (.if_icmp .ge 17, 3) := by decide +kernel
theorem dX3_stepAt_15 : decode cX3_stepAt 15 = .ok (.aload_n 0, 1) := by decide +kernel
theorem dX3_stepAt_16 : decode cX3_stepAt 16 = .ok (.getfield 18, 3) := by decide +kernel
theorem dX3_stepAt_19 : decode cX3_stepAt 19 = .ok (.iload_n 1, 1) := by decide +kernel
theorem dX3_stepAt_20 : decode cX3_stepAt 20 = .ok (.invokevirtual 29, 3) := by decide +kernel
theorem dX3_stepAt_23 : decode cX3_stepAt 23 = .ok (.checkcast 33, 3) := by decide +kernel
theorem dX3_stepAt_26 : decode cX3_stepAt 26 = .ok (.goto 4, 3) := by decide +kernel
theorem dX3_stepAt_29 : decode cX3_stepAt 29 = .ok (.aconst_null, 1) := by decide +kernel
theorem dX3_stepAt_30 : decode cX3_stepAt 30 = .ok (.areturn, 1) := by decide +kernel
set_option maxRecDepth 20000 in
theorem ggX3_keepStep_Jx4a65c_size_8abf5 : GoodIn wsX3_keepStep wsJx4a65c_size_8abf5 := goodIn_r _ [6, 7, 65, 66, 67] (by decide +kernel) (by decide +kernel)
set_option maxRecDepth 20000 in
theorem gX3_keepStep_Jx4a65c_size_8abf5 : GoodIn wsX3_keepStep (wsV RX3 25 RJx4a65c yJx4a65c_size_8abf5 wsJx4a65c_size_8abf5) := goodIn_app (goodIn_of _ (by decide +kernel)) ggX3_keepStep_Jx4a65c_size_8abf5
set_option maxRecDepth 20000 in
theorem ggX3_keepStep_Jx4a65c_add_9ea2d : GoodIn wsX3_keepStep wsJx4a65c_add_9ea2d := goodIn_r _ [11, 12, 13, 14, 7, 15, 16, 17, 5, 18, 19, 20, 21, 22, 23, 24, 25, 26, 27, 28, 29, 30, 31, 32, 33, 34, 35, 36, 37, 38, 39, 40, 41, 42, 43, 44, 45, 46, 47, 48, 49, 50, 51, 52, 53, 54, 55, 56, 57, 58, 59, 60, 61, 65, 66, 67] (by decide +kernel) (by decide +kernel)
set_option maxRecDepth 20000 in
theorem gX3_keepStep_Jx4a65c_add_9ea2d : GoodIn wsX3_keepStep (wsV RX3 35 RJx4a65c yJx4a65c_add_9ea2d wsJx4a65c_add_9ea2d) := goodIn_app (goodIn_of _ (by decide +kernel)) ggX3_keepStep_Jx4a65c_add_9ea2d
theorem dX3_keepStep_0 : decode cX3_keepStep 0 = .ok (.aload_n 0, 1) := by decide +kernel
theorem dX3_keepStep_1 : decode cX3_keepStep 1 = .ok (.getfield 18, 3) := by decide +kernel
theorem dX3_keepStep_4 : decode cX3_keepStep 4 = .ok (.invokevirtual 25, 3) := by decide +kernel
theorem dX3_keepStep_7 : decode cX3_keepStep 7 = .ok (.bipush 10, 2) := by decide +kernel
theorem dX3_keepStep_9 : decode cX3_keepStep 9 = .ok (.if_icmp .ge 12, 3) := by decide +kernel
theorem dX3_keepStep_12 : decode cX3_keepStep 12 = .ok (.aload_n 0, 1) := by decide +kernel
theorem dX3_keepStep_13 : decode cX3_keepStep 13 = .ok (.getfield 18, 3) := by decide +kernel
theorem dX3_keepStep_16 : decode cX3_keepStep 16 = .ok (.aload_n 1, 1) := by decide +kernel
theorem dX3_keepStep_17 : decode cX3_keepStep 17 = .ok (.invokevirtual 35, 3) := by decide +kernel
theorem dX3_keepStep_20 : decode cX3_keepStep 20 = .ok (.pop, 1) := by decide +kernel
theorem dX3_keepStep_21 : decode cX3_keepStep 21 = .ok (.return_, 1) := by decide +kernel
set_option maxRecDepth 20000 in
theorem ggX3_dropSteps_Jx4a65c_clear_da8c8 : GoodIn wsX3_dropSteps wsJx4a65c_clear_da8c8 := goodIn_r _ [6, 7, 8, 9, 10, 14, 15, 16] (by decide +kernel) (by decide +kernel)
set_option maxRecDepth 20000 in
theorem gX3_dropSteps_Jx4a65c_clear_da8c8 : GoodIn wsX3_dropSteps (wsV RX3 39 RJx4a65c yJx4a65c_clear_da8c8 wsJx4a65c_clear_da8c8) := goodIn_app (goodIn_of _ (by decide +kernel)) ggX3_dropSteps_Jx4a65c_clear_da8c8
theorem dX3_dropSteps_0 : decode cX3_dropSteps 0 = .ok (.aload_n 0, 1) := by decide +kernel
theorem dX3_dropSteps_1 : decode cX3_dropSteps 1 = .ok (.getfield 18, 3) := by decide +kernel
theorem dX3_dropSteps_4 : decode cX3_dropSteps 4 = .ok (.invokevirtual 39, 3) := by decide +kernel
theorem dX3_dropSteps_7 : decode cX3_dropSteps 7 = .ok (.return_, 1) := by decide +kernel
set_option maxRecDepth 20000 in
theorem ggX3_grantCount_Jx4a65c_size_8abf5 : GoodIn wsX3_grantCount wsJx4a65c_size_8abf5 := goodIn_r _ [6, 7, 11, 12, 13] (by decide +kernel) (by decide +kernel)
set_option maxRecDepth 20000 in
theorem gX3_grantCount_Jx4a65c_size_8abf5 : GoodIn wsX3_grantCount (wsV RX3 25 RJx4a65c yJx4a65c_size_8abf5 wsJx4a65c_size_8abf5) := goodIn_app (goodIn_of _ (by decide +kernel)) ggX3_grantCount_Jx4a65c_size_8abf5
theorem dX3_grantCount_0 : decode cX3_grantCount 0 = .ok (.aload_n 0, 1) := by decide +kernel
theorem dX3_grantCount_1 : decode cX3_grantCount 1 = .ok (.getfield 22, 3) := by decide +kernel
theorem dX3_grantCount_4 : decode cX3_grantCount 4 = .ok (.invokevirtual 25, 3) := by decide +kernel
theorem dX3_grantCount_7 : decode cX3_grantCount 7 = .ok (.ireturn, 1) := by decide +kernel
set_option maxRecDepth 20000 in
theorem ggX3_keepGrant_Jx4a65c_size_8abf5 : GoodIn wsX3_keepGrant wsJx4a65c_size_8abf5 := goodIn_r _ [6, 7, 65, 66, 67] (by decide +kernel) (by decide +kernel)
set_option maxRecDepth 20000 in
theorem gX3_keepGrant_Jx4a65c_size_8abf5 : GoodIn wsX3_keepGrant (wsV RX3 25 RJx4a65c yJx4a65c_size_8abf5 wsJx4a65c_size_8abf5) := goodIn_app (goodIn_of _ (by decide +kernel)) ggX3_keepGrant_Jx4a65c_size_8abf5
set_option maxRecDepth 20000 in
theorem ggX3_keepGrant_Jx4a65c_add_9ea2d : GoodIn wsX3_keepGrant wsJx4a65c_add_9ea2d := goodIn_r _ [11, 12, 13, 14, 7, 15, 16, 17, 5, 18, 19, 20, 21, 22, 23, 24, 25, 26, 27, 28, 29, 30, 31, 32, 33, 34, 35, 36, 37, 38, 39, 40, 41, 42, 43, 44, 45, 46, 47, 48, 49, 50, 51, 52, 53, 54, 55, 56, 57, 58, 59, 60, 61, 65, 66, 67] (by decide +kernel) (by decide +kernel)
set_option maxRecDepth 20000 in
theorem gX3_keepGrant_Jx4a65c_add_9ea2d : GoodIn wsX3_keepGrant (wsV RX3 35 RJx4a65c yJx4a65c_add_9ea2d wsJx4a65c_add_9ea2d) := goodIn_app (goodIn_of _ (by decide +kernel)) ggX3_keepGrant_Jx4a65c_add_9ea2d
theorem dX3_keepGrant_0 : decode cX3_keepGrant 0 = .ok (.aload_n 0, 1) := by decide +kernel
theorem dX3_keepGrant_1 : decode cX3_keepGrant 1 = .ok (.getfield 22, 3) := by decide +kernel
theorem dX3_keepGrant_4 : decode cX3_keepGrant 4 = .ok (.invokevirtual 25, 3) := by decide +kernel
theorem dX3_keepGrant_7 : decode cX3_keepGrant 7 = .ok (.iconst 4, 1) := by decide +kernel
theorem dX3_keepGrant_8 : decode cX3_keepGrant 8 = .ok (.if_icmp .ge 12, 3) := by decide +kernel
theorem dX3_keepGrant_11 : decode cX3_keepGrant 11 = .ok (.aload_n 0, 1) := by decide +kernel
theorem dX3_keepGrant_12 : decode cX3_keepGrant 12 = .ok (.getfield 22, 3) := by decide +kernel
theorem dX3_keepGrant_15 : decode cX3_keepGrant 15 = .ok (.aload_n 1, 1) := by decide +kernel
theorem dX3_keepGrant_16 : decode cX3_keepGrant 16 = .ok (.invokevirtual 35, 3) := by decide +kernel
theorem dX3_keepGrant_19 : decode cX3_keepGrant 19 = .ok (.pop, 1) := by decide +kernel
theorem dX3_keepGrant_20 : decode cX3_keepGrant 20 = .ok (.return_, 1) := by decide +kernel
set_option maxRecDepth 20000 in
theorem ggX3_dropGrants_Jx4a65c_clear_da8c8 : GoodIn wsX3_dropGrants wsJx4a65c_clear_da8c8 := goodIn_r _ [6, 7, 8, 9, 10, 14, 15, 16] (by decide +kernel) (by decide +kernel)
set_option maxRecDepth 20000 in
theorem gX3_dropGrants_Jx4a65c_clear_da8c8 : GoodIn wsX3_dropGrants (wsV RX3 39 RJx4a65c yJx4a65c_clear_da8c8 wsJx4a65c_clear_da8c8) := goodIn_app (goodIn_of _ (by decide +kernel)) ggX3_dropGrants_Jx4a65c_clear_da8c8
theorem dX3_dropGrants_0 : decode cX3_dropGrants 0 = .ok (.aload_n 0, 1) := by decide +kernel
theorem dX3_dropGrants_1 : decode cX3_dropGrants 1 = .ok (.getfield 22, 3) := by decide +kernel
theorem dX3_dropGrants_4 : decode cX3_dropGrants 4 = .ok (.invokevirtual 39, 3) := by decide +kernel
theorem dX3_dropGrants_7 : decode cX3_dropGrants 7 = .ok (.return_, 1) := by decide +kernel
set_option maxRecDepth 20000 in
theorem ggX3_mayChange_Jx4a65c_size_8abf5 : GoodIn wsX3_mayChange wsJx4a65c_size_8abf5 := goodIn_r _ [7, 8, 38, 39, 40] (by decide +kernel) (by decide +kernel)
set_option maxRecDepth 20000 in
theorem gX3_mayChange_Jx4a65c_size_8abf5 : GoodIn wsX3_mayChange (wsV RX3 25 RJx4a65c yJx4a65c_size_8abf5 wsJx4a65c_size_8abf5) := goodIn_app (goodIn_of _ (by decide +kernel)) ggX3_mayChange_Jx4a65c_size_8abf5
set_option maxRecDepth 20000 in
theorem ggX3_mayChange_Jx4a65c_get_915e3 : GoodIn wsX3_mayChange wsJx4a65c_get_915e3 := goodIn_r _ [12, 8, 13, 14, 15, 16, 17, 18, 19, 20, 21, 22, 23, 6, 24, 25, 38, 39, 40] (by decide +kernel) (by decide +kernel)
set_option maxRecDepth 20000 in
theorem gX3_mayChange_Jx4a65c_get_915e3 : GoodIn wsX3_mayChange (wsV RX3 29 RJx4a65c yJx4a65c_get_915e3 wsJx4a65c_get_915e3) := goodIn_app (goodIn_of _ (by decide +kernel)) ggX3_mayChange_Jx4a65c_get_915e3
set_option maxRecDepth 20000 in
theorem ggX3_mayChange_X4_holds : GoodIn wsX3_mayChange wsX4_holds := goodIn_r _ [30, 31, 32, 33, 34, 41, 42, 43, 44] (by decide +kernel) (by decide +kernel)
set_option maxRecDepth 20000 in
theorem gX3_mayChange_X4_holds : GoodIn wsX3_mayChange (wsV RX3 44 RX4 yX4_holds wsX4_holds) := goodIn_app (goodIn_of _ (by decide +kernel)) ggX3_mayChange_X4_holds
theorem dX3_mayChange_0 : decode cX3_mayChange 0 = .ok (.iconst 0, 1) := by decide +kernel
theorem dX3_mayChange_1 : decode cX3_mayChange 1 = .ok (.istore_n 3, 1) := by decide +kernel
theorem dX3_mayChange_2 : decode cX3_mayChange 2 = .ok (.iload_n 3, 1) := by decide +kernel
theorem dX3_mayChange_3 : decode cX3_mayChange 3 = .ok (.aload_n 0, 1) := by decide +kernel
theorem dX3_mayChange_4 : decode cX3_mayChange 4 = .ok (.getfield 22, 3) := by decide +kernel
theorem dX3_mayChange_7 : decode cX3_mayChange 7 = .ok (.invokevirtual 25, 3) := by decide +kernel
theorem dX3_mayChange_10 : decode cX3_mayChange 10 = .ok (.if_icmp .ge 30, 3) := by decide +kernel
theorem dX3_mayChange_13 : decode cX3_mayChange 13 = .ok (.aload_n 0, 1) := by decide +kernel
theorem dX3_mayChange_14 : decode cX3_mayChange 14 = .ok (.getfield 22, 3) := by decide +kernel
theorem dX3_mayChange_17 : decode cX3_mayChange 17 = .ok (.iload_n 3, 1) := by decide +kernel
theorem dX3_mayChange_18 : decode cX3_mayChange 18 = .ok (.invokevirtual 29, 3) := by decide +kernel
theorem dX3_mayChange_21 : decode cX3_mayChange 21 = .ok (.checkcast 42, 3) := by decide +kernel
theorem dX3_mayChange_24 : decode cX3_mayChange 24 = .ok (.iload_n 1, 1) := by decide +kernel
theorem dX3_mayChange_25 : decode cX3_mayChange 25 = .ok (.iload_n 2, 1) := by decide +kernel
theorem dX3_mayChange_26 : decode cX3_mayChange 26 = .ok (.invokevirtual 44, 3) := by decide +kernel
theorem dX3_mayChange_29 : decode cX3_mayChange 29 = .ok (.ifCond .eq 5, 3) := by decide +kernel
theorem dX3_mayChange_32 : decode cX3_mayChange 32 = .ok (.iconst 1, 1) := by decide +kernel
theorem dX3_mayChange_33 : decode cX3_mayChange 33 = .ok (.ireturn, 1) := by decide +kernel
theorem dX3_mayChange_34 : decode cX3_mayChange 34 = .ok (.iinc 3 1, 3) := by decide +kernel
theorem dX3_mayChange_37 : decode cX3_mayChange 37 = .ok (.goto (-35), 3) := by decide +kernel
theorem dX3_mayChange_40 : decode cX3_mayChange 40 = .ok (.iconst 0, 1) := by decide +kernel
theorem dX3_mayChange_41 : decode cX3_mayChange 41 = .ok (.ireturn, 1) := by decide +kernel
theorem dX4_init_0 : decode cX4_init 0 = .ok (.aload_n 0, 1) := by decide +kernel
theorem dX4_init_1 : decode cX4_init 1 = .ok (.invokespecial 1, 3) := by decide +kernel
theorem dX4_init_4 : decode cX4_init 4 = .ok (.aload_n 0, 1) := by decide +kernel
theorem dX4_init_5 : decode cX4_init 5 = .ok (.iload_n 1, 1) := by decide +kernel
theorem dX4_init_6 : decode cX4_init 6 = .ok (.putfield 7, 3) := by decide +kernel
theorem dX4_init_9 : decode cX4_init 9 = .ok (.aload_n 0, 1) := by decide +kernel
theorem dX4_init_10 : decode cX4_init 10 = .ok (.iload_n 2, 1) := by decide +kernel
theorem dX4_init_11 : decode cX4_init 11 = .ok (.putfield 13, 3) := by decide +kernel
theorem dX4_init_14 : decode cX4_init 14 = .ok (.aload_n 0, 1) := by decide +kernel
theorem dX4_init_15 : decode cX4_init 15 = .ok (.iload_n 3, 1) := by decide +kernel
theorem dX4_init_16 : decode cX4_init 16 = .ok (.putfield 16, 3) := by decide +kernel
theorem dX4_init_19 : decode cX4_init 19 = .ok (.aload_n 0, 1) := by decide +kernel
theorem dX4_init_20 : decode cX4_init 20 = .ok (.iload 4, 2) := by decide +kernel
theorem dX4_init_22 : decode cX4_init 22 = .ok (.putfield 19, 3) := by decide +kernel
theorem dX4_init_25 : decode cX4_init 25 = .ok (.return_, 1) := by decide +kernel
theorem dX4_holds_0 : decode cX4_holds 0 = .ok (.iload_n 1, 1) := by decide +kernel
theorem dX4_holds_1 : decode cX4_holds 1 = .ok (.aload_n 0, 1) := by decide +kernel
theorem dX4_holds_2 : decode cX4_holds 2 = .ok (.getfield 7, 3) := by decide +kernel
theorem dX4_holds_5 : decode cX4_holds 5 = .ok (.if_icmp .lt 31, 3) := by decide +kernel
theorem dX4_holds_8 : decode cX4_holds 8 = .ok (.iload_n 1, 1) := by decide +kernel
theorem dX4_holds_9 : decode cX4_holds 9 = .ok (.aload_n 0, 1) := by decide +kernel
theorem dX4_holds_10 : decode cX4_holds 10 = .ok (.getfield 16, 3) := by decide +kernel
theorem dX4_holds_13 : decode cX4_holds 13 = .ok (.if_icmp .gt 23, 3) := by decide +kernel
theorem dX4_holds_16 : decode cX4_holds 16 = .ok (.iload_n 2, 1) := by decide +kernel
theorem dX4_holds_17 : decode cX4_holds 17 = .ok (.aload_n 0, 1) := by decide +kernel
theorem dX4_holds_18 : decode cX4_holds 18 = .ok (.getfield 13, 3) := by decide +kernel
theorem dX4_holds_21 : decode cX4_holds 21 = .ok (.if_icmp .lt 15, 3) := by decide +kernel
theorem dX4_holds_24 : decode cX4_holds 24 = .ok (.iload_n 2, 1) := by decide +kernel
theorem dX4_holds_25 : decode cX4_holds 25 = .ok (.aload_n 0, 1) := by decide +kernel
theorem dX4_holds_26 : decode cX4_holds 26 = .ok (.getfield 19, 3) := by decide +kernel
theorem dX4_holds_29 : decode cX4_holds 29 = .ok (.if_icmp .gt 7, 3) := by decide +kernel
theorem dX4_holds_32 : decode cX4_holds 32 = .ok (.iconst 1, 1) := by decide +kernel
theorem dX4_holds_33 : decode cX4_holds 33 = .ok (.goto 4, 3) := by decide +kernel
theorem dX4_holds_36 : decode cX4_holds 36 = .ok (.iconst 0, 1) := by decide +kernel
theorem dX4_holds_37 : decode cX4_holds 37 = .ok (.ireturn, 1) := by decide +kernel
theorem dX5_init_0 : decode cX5_init 0 = .ok (.aload_n 0, 1) := by decide +kernel
theorem dX5_init_1 : decode cX5_init 1 = .ok (.invokespecial 1, 3) := by decide +kernel
theorem dX5_init_4 : decode cX5_init 4 = .ok (.aload_n 0, 1) := by decide +kernel
theorem dX5_init_5 : decode cX5_init 5 = .ok (.aload_n 1, 1) := by decide +kernel
theorem dX5_init_6 : decode cX5_init 6 = .ok (.putfield 7, 3) := by decide +kernel
theorem dX5_init_9 : decode cX5_init 9 = .ok (.aload_n 0, 1) := by decide +kernel
theorem dX5_init_10 : decode cX5_init 10 = .ok (.aload_n 2, 1) := by decide +kernel
theorem dX5_init_11 : decode cX5_init 11 = .ok (.putfield 13, 3) := by decide +kernel
theorem dX5_init_14 : decode cX5_init 14 = .ok (.aload_n 0, 1) := by decide +kernel
theorem dX5_init_15 : decode cX5_init 15 = .ok (.iload_n 3, 1) := by decide +kernel
theorem dX5_init_16 : decode cX5_init 16 = .ok (.putfield 17, 3) := by decide +kernel
theorem dX5_init_19 : decode cX5_init 19 = .ok (.return_, 1) := by decide +kernel
theorem dX6_init_0 : decode cX6_init 0 = .ok (.aload_n 0, 1) := by decide +kernel
theorem dX6_init_1 : decode cX6_init 1 = .ok (.invokespecial 3, 3) := by decide +kernel
theorem dX6_init_4 : decode cX6_init 4 = .ok (.aload_n 0, 1) := by decide +kernel
theorem dX6_init_5 : decode cX6_init 5 = .ok (.iload_n 1, 1) := by decide +kernel
theorem dX6_init_6 : decode cX6_init 6 = .ok (.putfield 9, 3) := by decide +kernel
theorem dX6_init_9 : decode cX6_init 9 = .ok (.aload_n 0, 1) := by decide +kernel
theorem dX6_init_10 : decode cX6_init 10 = .ok (.iload_n 2, 1) := by decide +kernel
theorem dX6_init_11 : decode cX6_init 11 = .ok (.putfield 15, 3) := by decide +kernel
theorem dX6_init_14 : decode cX6_init 14 = .ok (.aload_n 0, 1) := by decide +kernel
theorem dX6_init_15 : decode cX6_init 15 = .ok (.iload_n 3, 1) := by decide +kernel
theorem dX6_init_16 : decode cX6_init 16 = .ok (.putfield 19, 3) := by decide +kernel
theorem dX6_init_19 : decode cX6_init 19 = .ok (.aload_n 0, 1) := by decide +kernel
theorem dX6_init_20 : decode cX6_init 20 = .ok (.iload 4, 2) := by decide +kernel
theorem dX6_init_22 : decode cX6_init 22 = .ok (.putfield 22, 3) := by decide +kernel
theorem dX6_init_25 : decode cX6_init 25 = .ok (.return_, 1) := by decide +kernel
theorem dX6_valueBehind_0 : decode cX6_valueBehind 0 = .ok (.aload_n 0, 1) := by decide +kernel
theorem dX6_valueBehind_1 : decode cX6_valueBehind 1 = .ok (.getfield 9, 3) := by decide +kernel
theorem dX6_valueBehind_4 : decode cX6_valueBehind 4 = .ok (.bipush 99, 2) := by decide +kernel
theorem dX6_valueBehind_6 : decode cX6_valueBehind 6 = .ok (.if_icmp .ne 5, 3) := by decide +kernel
theorem dX6_valueBehind_9 : decode cX6_valueBehind 9 = .ok (.iload_n 2, 1) := by decide +kernel
theorem dX6_valueBehind_10 : decode cX6_valueBehind 10 = .ok (.ireturn, 1) := by decide +kernel
theorem dX6_valueBehind_11 : decode cX6_valueBehind 11 = .ok (.aload_n 0, 1) := by decide +kernel
theorem dX6_valueBehind_12 : decode cX6_valueBehind 12 = .ok (.getfield 9, 3) := by decide +kernel
theorem dX6_valueBehind_15 : decode cX6_valueBehind 15 = .ok (.bipush 97, 2) := by decide +kernel
theorem dX6_valueBehind_17 : decode cX6_valueBehind 17 = .ok (.if_icmp .ne 12, 3) := by decide +kernel
theorem dX6_valueBehind_20 : decode cX6_valueBehind 20 = .ok (.iload_n 1, 1) := by decide +kernel
theorem dX6_valueBehind_21 : decode cX6_valueBehind 21 = .ok (.aload_n 0, 1) := by decide +kernel
theorem dX6_valueBehind_22 : decode cX6_valueBehind 22 = .ok (.getfield 22, 3) := by decide +kernel
theorem dX6_valueBehind_25 : decode cX6_valueBehind 25 = .ok (.iadd, 1) := by decide +kernel
theorem dX6_valueBehind_26 : decode cX6_valueBehind 26 = .ok (.goto 7, 3) := by decide +kernel
theorem dX6_valueBehind_29 : decode cX6_valueBehind 29 = .ok (.aload_n 0, 1) := by decide +kernel
theorem dX6_valueBehind_30 : decode cX6_valueBehind 30 = .ok (.getfield 22, 3) := by decide +kernel
theorem dX6_valueBehind_33 : decode cX6_valueBehind 33 = .ok (.ireturn, 1) := by decide +kernel
set_option maxRecDepth 20000 in
theorem ggX7_init_X1_init : GoodIn wsX7_init wsX1_init := goodIn_r _ [31, 32, 2, 3, 26, 33, 82] (by decide +kernel) (by decide +kernel)
set_option maxRecDepth 20000 in
theorem gX7_init_X1_init : GoodIn wsX7_init (wsX1_init) := ggX7_init_X1_init
set_option maxRecDepth 20000 in
theorem ggX7_init_Jx4a65c_init_da8c8 : GoodIn wsX7_init wsJx4a65c_init_da8c8 := goodIn_r _ [36, 37, 38, 39, 40, 41, 42, 43, 44, 45, 46, 47, 48, 2, 3, 96, 97, 98] (by decide +kernel) (by decide +kernel)
set_option maxRecDepth 20000 in
theorem gX7_init_Jx4a65c_init_da8c8 : GoodIn wsX7_init (wsJx4a65c_init_da8c8) := ggX7_init_Jx4a65c_init_da8c8
set_option maxRecDepth 20000 in
theorem ggX7_init_X0_init : GoodIn wsX7_init wsX0_init := goodIn_r _ [51, 52, 2, 3, 26, 53, 54, 55, 56, 99, 100, 101, 102, 103] (by decide +kernel) (by decide +kernel)
set_option maxRecDepth 20000 in
theorem gX7_init_X0_init : GoodIn wsX7_init (wsX0_init) := ggX7_init_X0_init
set_option maxRecDepth 20000 in
theorem ggX7_init_X2_init : GoodIn wsX7_init wsX2_init := goodIn_r _ [59, 60, 2, 3, 26, 61, 104, 105] (by decide +kernel) (by decide +kernel)
set_option maxRecDepth 20000 in
theorem gX7_init_X2_init : GoodIn wsX7_init (wsX2_init) := ggX7_init_X2_init
set_option maxRecDepth 20000 in
theorem ggX7_init_J4_init_da8c8 : GoodIn wsX7_init wsJ4_init_da8c8 := goodIn_r _ [64, 65, 66, 67, 68, 69, 2, 3, 70, 71, 72, 73, 74, 75, 76, 77, 78, 79, 80, 81, 106, 107, 108, 109] (by decide +kernel) (by decide +kernel)
set_option maxRecDepth 20000 in
theorem gX7_init_J4_init_da8c8 : GoodIn wsX7_init (wsJ4_init_da8c8) := ggX7_init_J4_init_da8c8
theorem dX7_init_0 : decode cX7_init 0 = .ok (.aload_n 0, 1) := by decide +kernel
theorem dX7_init_1 : decode cX7_init 1 = .ok (.invokespecial 3, 3) := by decide +kernel
theorem dX7_init_4 : decode cX7_init 4 = .ok (.aload_n 0, 1) := by decide +kernel
theorem dX7_init_5 : decode cX7_init 5 = .ok (.new 9, 3) := by decide +kernel
theorem dX7_init_8 : decode cX7_init 8 = .ok (.dup, 1) := by decide +kernel
theorem dX7_init_9 : decode cX7_init 9 = .ok (.invokespecial 11, 3) := by decide +kernel
theorem dX7_init_12 : decode cX7_init 12 = .ok (.putfield 12, 3) := by decide +kernel
theorem dX7_init_15 : decode cX7_init 15 = .ok (.aload_n 0, 1) := by decide +kernel
theorem dX7_init_16 : decode cX7_init 16 = .ok (.new 9, 3) := by decide +kernel
theorem dX7_init_19 : decode cX7_init 19 = .ok (.dup, 1) := by decide +kernel
theorem dX7_init_20 : decode cX7_init 20 = .ok (.invokespecial 11, 3) := by decide +kernel
theorem dX7_init_23 : decode cX7_init 23 = .ok (.putfield 16, 3) := by decide +kernel
theorem dX7_init_26 : decode cX7_init 26 = .ok (.aload_n 0, 1) := by decide +kernel
theorem dX7_init_27 : decode cX7_init 27 = .ok (.new 19, 3) := by decide +kernel
theorem dX7_init_30 : decode cX7_init 30 = .ok (.dup, 1) := by decide +kernel
theorem dX7_init_31 : decode cX7_init 31 = .ok (.invokespecial 21, 3) := by decide +kernel
theorem dX7_init_34 : decode cX7_init 34 = .ok (.putfield 22, 3) := by decide +kernel
theorem dX7_init_37 : decode cX7_init 37 = .ok (.aload_n 0, 1) := by decide +kernel
theorem dX7_init_38 : decode cX7_init 38 = .ok (.new 19, 3) := by decide +kernel
theorem dX7_init_41 : decode cX7_init 41 = .ok (.dup, 1) := by decide +kernel
theorem dX7_init_42 : decode cX7_init 42 = .ok (.invokespecial 21, 3) := by decide +kernel
theorem dX7_init_45 : decode cX7_init 45 = .ok (.putfield 26, 3) := by decide +kernel
theorem dX7_init_48 : decode cX7_init 48 = .ok (.aload_n 0, 1) := by decide +kernel
theorem dX7_init_49 : decode cX7_init 49 = .ok (.new 29, 3) := by decide +kernel
theorem dX7_init_52 : decode cX7_init 52 = .ok (.dup, 1) := by decide +kernel
theorem dX7_init_53 : decode cX7_init 53 = .ok (.invokespecial 31, 3) := by decide +kernel
theorem dX7_init_56 : decode cX7_init 56 = .ok (.putfield 32, 3) := by decide +kernel
theorem dX7_init_59 : decode cX7_init 59 = .ok (.aload_n 0, 1) := by decide +kernel
theorem dX7_init_60 : decode cX7_init 60 = .ok (.new 36, 3) := by decide +kernel
theorem dX7_init_63 : decode cX7_init 63 = .ok (.dup, 1) := by decide +kernel
theorem dX7_init_64 : decode cX7_init 64 = .ok (.invokespecial 38, 3) := by decide +kernel
theorem dX7_init_67 : decode cX7_init 67 = .ok (.putfield 39, 3) := by decide +kernel
theorem dX7_init_70 : decode cX7_init 70 = .ok (.aload_n 0, 1) := by decide +kernel
theorem dX7_init_71 : decode cX7_init 71 = .ok (.new 43, 3) := by decide +kernel
theorem dX7_init_74 : decode cX7_init 74 = .ok (.dup, 1) := by decide +kernel
theorem dX7_init_75 : decode cX7_init 75 = .ok (.invokespecial 45, 3) := by decide +kernel
theorem dX7_init_78 : decode cX7_init 78 = .ok (.putfield 46, 3) := by decide +kernel
theorem dX7_init_81 : decode cX7_init 81 = .ok (.aload_n 0, 1) := by decide +kernel
theorem dX7_init_82 : decode cX7_init 82 = .ok (.sipush 210, 3) := by decide +kernel
theorem dX7_init_85 : decode cX7_init 85 = .ok (.newarray .int, 2) := by decide +kernel
theorem dX7_init_87 : decode cX7_init 87 = .ok (.putfield 50, 3) := by decide +kernel
theorem dX7_init_90 : decode cX7_init 90 = .ok (.aload_n 0, 1) := by decide +kernel
theorem dX7_init_91 : decode cX7_init 91 = .ok (.iconst (-1), 1) := by decide +kernel
theorem dX7_init_92 : decode cX7_init 92 = .ok (.putfield 54, 3) := by decide +kernel
theorem dX7_init_95 : decode cX7_init 95 = .ok (.return_, 1) := by decide +kernel
set_option maxRecDepth 20000 in
theorem ggX7_set_X7_needCell : GoodIn wsX7_set wsX7_needCell := goodIn_ca (goodIn_r _ [6, 7, 8, 9, 10, 5, 11] (by decide +kernel) (by decide +kernel)) (goodIn_sub (fun _ h => List.mem_cons_of_mem _ (List.mem_append_left _ (List.mem_append_right _ h))) (by decide +kernel))
set_option maxRecDepth 20000 in
theorem gX7_set_X7_needCell : GoodIn wsX7_set (va_wsS RX7 58 yX7_needCell wsX7_needCell) := goodIn_app (goodIn_of _ (by decide +kernel)) ggX7_set_X7_needCell
set_option maxRecDepth 20000 in
theorem ggX7_set_X7_isValue : GoodIn wsX7_set wsX7_isValue := goodIn_r _ [14] (by decide +kernel) (by decide +kernel)
set_option maxRecDepth 20000 in
theorem gX7_set_X7_isValue : GoodIn wsX7_set (va_wsS RX7 62 yX7_isValue wsX7_isValue) := goodIn_app (goodIn_of _ (by decide +kernel)) ggX7_set_X7_isValue
set_option maxRecDepth 20000 in
theorem ggX7_set_X7_changeByHand : GoodIn wsX7_set wsX7_changeByHand := goodIn_ca (goodIn_r _ [18, 19, 20, 21, 22, 23, 24, 25, 26, 27, 28, 29, 30, 31, 32, 33, 34, 35, 36, 37, 5, 38, 39, 40, 41, 42, 43, 44, 45, 46, 47, 48, 49, 50, 51, 52, 53, 54, 55, 56, 57, 58, 59, 60, 61, 62, 63, 64, 65, 66, 67, 68, 69, 70, 71, 72, 73, 74, 75, 76, 77, 78, 79, 80, 81, 82, 83, 84, 85, 86, 87, 88, 89, 90, 91, 92, 93, 94, 95, 96, 97, 98, 99, 100, 101, 102, 103, 104, 105, 106, 107, 108, 109, 110, 111, 112, 113, 114, 115, 116, 117, 118, 119, 120, 121, 122, 123, 124, 125, 126, 127, 128, 129, 130, 131, 132, 133, 134, 135, 136, 137, 138, 139, 140, 141, 142, 143, 144, 145, 146, 147, 148, 149, 150, 151, 152, 153, 154, 155, 156, 157, 158, 159, 160, 161, 162, 163, 164, 165, 166, 167, 168, 169, 170, 171, 172, 173, 174, 175, 176, 177, 178, 179, 180, 181, 182, 183, 184, 185, 186, 187, 188, 189, 190, 191, 192, 193, 194, 195, 196, 197, 198, 199, 200, 201, 202, 203, 204, 205, 206, 207, 208, 209, 210, 211, 212, 213, 214, 215, 216, 217, 218, 219, 220, 221, 222, 223, 224, 225, 226, 227, 228, 229, 230, 231, 232, 233, 234, 235, 236, 237, 238, 239, 240, 241, 9, 10, 11, 242, 243, 244, 245, 246, 247, 248, 12, 13, 14, 249, 250, 251, 252, 253, 254, 255, 256, 257, 258, 259, 260, 261, 262, 263, 264, 265, 266, 267, 268, 269, 270, 271, 272, 273, 274, 275, 276, 277, 278, 279, 280, 281, 282, 283, 284, 285, 286, 287, 288, 289, 290, 291, 292, 293, 294, 295, 296, 297, 298, 299, 300, 301, 302, 303] (by decide +kernel) (by decide +kernel)) (goodIn_sub (fun _ h => List.mem_cons_of_mem _ (List.mem_append_right _ h)) (by decide +kernel))
set_option maxRecDepth 20000 in
theorem gX7_set_X7_changeByHand : GoodIn wsX7_set (wsV RX7 73 RX7 yX7_changeByHand wsX7_changeByHand) := goodIn_app (goodIn_of _ (by decide +kernel)) ggX7_set_X7_changeByHand
theorem dX7_set_0 : decode cX7_set 0 = .ok (.iload_n 1, 1) := by decide +kernel
theorem dX7_set_1 : decode cX7_set 1 = .ok (.iload_n 2, 1) := by decide +kernel
theorem dX7_set_2 : decode cX7_set 2 = .ok (.invokestatic 58, 3) := by decide +kernel
theorem dX7_set_5 : decode cX7_set 5 = .ok (.iload_n 3, 1) := by decide +kernel
theorem dX7_set_6 : decode cX7_set 6 = .ok (.invokestatic 62, 3) := by decide +kernel
theorem dX7_set_9 : decode cX7_set 9 = .ok (.ifCond .ne 13, 3) := by decide +kernel
theorem dX7_set_12 : decode cX7_set 12 = .ok (.new 66, 3) := by decide +kernel
theorem dX7_set_15 : decode cX7_set 15 = .ok (.dup, 1) := by decide +kernel
theorem dX7_set_16 : decode cX7_set 16 = .ok (.ldc 68, 2) := by decide +kernel
theorem dX7_set_18 : decode cX7_set 18 = .ok (.invokespecial 70, 3) := by decide +kernel
theorem dX7_set_21 : decode cX7_set 21 = .ok (.athrow, 1) := by decide +kernel
theorem dX7_set_22 : decode cX7_set 22 = .ok (.aload_n 0, 1) := by decide +kernel
theorem dX7_set_23 : decode cX7_set 23 = .ok (.bipush 115, 2) := by decide +kernel
theorem dX7_set_25 : decode cX7_set 25 = .ok (.iload_n 1, 1) := by decide +kernel
theorem dX7_set_26 : decode cX7_set 26 = .ok (.iload_n 2, 1) := by decide +kernel
theorem dX7_set_27 : decode cX7_set 27 = .ok (.iload_n 3, 1) := by decide +kernel
theorem dX7_set_28 : decode cX7_set 28 = .ok (.invokevirtual 73, 3) := by decide +kernel
theorem dX7_set_31 : decode cX7_set 31 = .ok (.ireturn, 1) := by decide +kernel
set_option maxRecDepth 20000 in
theorem ggX7_add_X7_needCell : GoodIn wsX7_add wsX7_needCell := goodIn_ca (goodIn_r _ [7, 8, 9, 10, 11, 6, 12] (by decide +kernel) (by decide +kernel)) (goodIn_sub (fun _ h => List.mem_cons_of_mem _ (List.mem_append_left _ (List.mem_append_right _ h))) (by decide +kernel))
set_option maxRecDepth 20000 in
theorem gX7_add_X7_needCell : GoodIn wsX7_add (va_wsS RX7 58 yX7_needCell wsX7_needCell) := goodIn_app (goodIn_of _ (by decide +kernel)) ggX7_add_X7_needCell
set_option maxRecDepth 20000 in
theorem ggX7_add_X7_isValue : GoodIn wsX7_add wsX7_isValue := goodIn_r _ [15] (by decide +kernel) (by decide +kernel)
set_option maxRecDepth 20000 in
theorem gX7_add_X7_isValue : GoodIn wsX7_add (va_wsS RX7 62 yX7_isValue wsX7_isValue) := goodIn_app (goodIn_of _ (by decide +kernel)) ggX7_add_X7_isValue
set_option maxRecDepth 20000 in
theorem ggX7_add_X7_placeOf : GoodIn wsX7_add wsX7_placeOf := goodIn_r _ [18] (by decide +kernel) (by decide +kernel)
set_option maxRecDepth 20000 in
theorem gX7_add_X7_placeOf : GoodIn wsX7_add (va_wsS RX7 77 yX7_placeOf wsX7_placeOf) := goodIn_app (goodIn_of _ (by decide +kernel)) ggX7_add_X7_placeOf
set_option maxRecDepth 20000 in
theorem ggX7_add_X1_valueAt : GoodIn wsX7_add wsX1_valueAt := goodIn_ca (goodIn_r _ [23, 24, 25, 26, 27, 22, 28, 279] (by decide +kernel) (by decide +kernel)) (goodIn_sub (fun _ h => List.mem_cons_of_mem _ (List.mem_append_right _ h)) (by decide +kernel))
set_option maxRecDepth 20000 in
theorem gX7_add_X1_valueAt : GoodIn wsX7_add (wsV RX7 81 RX1 yX1_valueAt wsX1_valueAt) := goodIn_app (goodIn_of _ (by decide +kernel)) ggX7_add_X1_valueAt
set_option maxRecDepth 20000 in
theorem ggX7_add_X7_changeByHand : GoodIn wsX7_add wsX7_changeByHand := goodIn_ca (goodIn_r _ [32, 33, 34, 35, 36, 37, 38, 39, 40, 41, 42, 43, 44, 45, 46, 47, 48, 49, 50, 51, 6, 52, 53, 54, 55, 56, 57, 58, 59, 60, 61, 62, 63, 64, 65, 66, 67, 68, 69, 70, 71, 72, 73, 74, 75, 76, 77, 78, 79, 80, 81, 82, 83, 84, 85, 86, 87, 88, 89, 90, 91, 92, 93, 94, 95, 96, 97, 98, 99, 100, 101, 102, 103, 104, 105, 106, 107, 108, 109, 110, 111, 112, 113, 114, 115, 116, 117, 118, 119, 120, 121, 122, 123, 124, 125, 126, 127, 128, 129, 130, 131, 132, 133, 134, 135, 136, 137, 138, 139, 140, 141, 142, 143, 144, 145, 146, 147, 148, 149, 150, 151, 152, 153, 154, 155, 156, 157, 158, 159, 160, 161, 162, 163, 164, 165, 166, 167, 168, 16, 17, 18, 169, 170, 171, 172, 3, 173, 19, 20, 21, 22, 23, 24, 25, 26, 27, 28, 174, 175, 176, 177, 178, 179, 180, 181, 182, 183, 184, 185, 186, 187, 188, 189, 190, 191, 192, 193, 194, 195, 196, 197, 198, 199, 200, 201, 202, 203, 204, 205, 206, 207, 208, 209, 210, 211, 212, 213, 214, 215, 216, 217, 218, 219, 220, 221, 222, 223, 224, 225, 226, 227, 228, 229, 230, 231, 232, 233, 234, 235, 236, 237, 238, 239, 240, 241, 10, 11, 12, 242, 243, 244, 245, 246, 247, 248, 13, 14, 15, 249, 250, 251, 252, 253, 254, 255, 256, 257, 258, 259, 260, 261, 262, 263, 264, 265, 280, 281, 282, 283, 266, 267, 268, 269, 270, 271, 272, 273, 274, 275, 276, 277, 278, 284, 285, 286, 287, 288, 289, 290, 291, 292, 293, 294, 279, 295, 296, 297, 298, 299, 300, 301, 302, 303] (by decide +kernel) (by decide +kernel)) (goodIn_sub (fun _ h => List.mem_cons_of_mem _ (List.mem_append_right _ h)) (by decide +kernel))
set_option maxRecDepth 20000 in
theorem gX7_add_X7_changeByHand : GoodIn wsX7_add (wsV RX7 73 RX7 yX7_changeByHand wsX7_changeByHand) := goodIn_app (goodIn_of _ (by decide +kernel)) ggX7_add_X7_changeByHand
theorem dX7_add_0 : decode cX7_add 0 = .ok (.iload_n 1, 1) := by decide +kernel
theorem dX7_add_1 : decode cX7_add 1 = .ok (.iload_n 2, 1) := by decide +kernel
theorem dX7_add_2 : decode cX7_add 2 = .ok (.invokestatic 58, 3) := by decide +kernel
theorem dX7_add_5 : decode cX7_add 5 = .ok (.iload_n 3, 1) := by decide +kernel
theorem dX7_add_6 : decode cX7_add 6 = .ok (.invokestatic 62, 3) := by decide +kernel
theorem dX7_add_9 : decode cX7_add 9 = .ok (.ifCond .eq 23, 3) := by decide +kernel
theorem dX7_add_12 : decode cX7_add 12 = .ok (.aload_n 0, 1) := by decide +kernel
theorem dX7_add_13 : decode cX7_add 13 = .ok (.getfield 12, 3) := by decide +kernel
theorem dX7_add_16 : decode cX7_add 16 = .ok (.iload_n 1, 1) := by decide +kernel
theorem dX7_add_17 : decode cX7_add 17 = .ok (.iload_n 2, 1) := by decide +kernel
theorem dX7_add_18 : decode cX7_add 18 = .ok (.invokestatic 77, 3) := by decide +kernel
theorem dX7_add_21 : decode cX7_add 21 = .ok (.invokevirtual 81, 3) := by decide +kernel
theorem dX7_add_24 : decode cX7_add 24 = .ok (.iload_n 3, 1) := by decide +kernel
theorem dX7_add_25 : decode cX7_add 25 = .ok (.iadd, 1) := by decide +kernel
theorem dX7_add_26 : decode cX7_add 26 = .ok (.invokestatic 62, 3) := by decide +kernel
theorem dX7_add_29 : decode cX7_add 29 = .ok (.ifCond .ne 13, 3) := by decide +kernel
theorem dX7_add_32 : decode cX7_add 32 = .ok (.new 66, 3) := by decide +kernel
theorem dX7_add_35 : decode cX7_add 35 = .ok (.dup, 1) := by decide +kernel
theorem dX7_add_36 : decode cX7_add 36 = .ok (.ldc 85, 2) := by decide +kernel
theorem dX7_add_38 : decode cX7_add 38 = .ok (.invokespecial 70, 3) := by decide +kernel
theorem dX7_add_41 : decode cX7_add 41 = .ok (.athrow, 1) := by decide +kernel
theorem dX7_add_42 : decode cX7_add 42 = .ok (.aload_n 0, 1) := by decide +kernel
theorem dX7_add_43 : decode cX7_add 43 = .ok (.bipush 97, 2) := by decide +kernel
theorem dX7_add_45 : decode cX7_add 45 = .ok (.iload_n 1, 1) := by decide +kernel
theorem dX7_add_46 : decode cX7_add 46 = .ok (.iload_n 2, 1) := by decide +kernel
theorem dX7_add_47 : decode cX7_add 47 = .ok (.iload_n 3, 1) := by decide +kernel
theorem dX7_add_48 : decode cX7_add 48 = .ok (.invokevirtual 73, 3) := by decide +kernel
theorem dX7_add_51 : decode cX7_add 51 = .ok (.ireturn, 1) := by decide +kernel
set_option maxRecDepth 20000 in
theorem ggX7_copyBase_X7_needCell : GoodIn wsX7_copyBase wsX7_needCell := goodIn_ca (goodIn_r _ [7, 8, 9, 10, 11, 6, 12] (by decide +kernel) (by decide +kernel)) (goodIn_sub (fun _ h => List.mem_cons_of_mem _ (List.mem_append_left _ (List.mem_append_right _ h))) (by decide +kernel))
set_option maxRecDepth 20000 in
theorem gX7_copyBase_X7_needCell : GoodIn wsX7_copyBase (va_wsS RX7 58 yX7_needCell wsX7_needCell) := goodIn_app (goodIn_of _ (by decide +kernel)) ggX7_copyBase_X7_needCell
set_option maxRecDepth 20000 in
theorem ggX7_copyBase_X7_changeByHand : GoodIn wsX7_copyBase wsX7_changeByHand := goodIn_ca (goodIn_r _ [16, 17, 18, 19, 20, 21, 3, 22, 23, 24, 25, 26, 27, 28, 29, 30, 31, 32, 33, 34, 6, 35, 36, 37, 38, 39, 40, 41, 42, 43, 44, 45, 46, 47, 48, 49, 50, 51, 52, 53, 54, 55, 56, 57, 58, 59, 60, 61, 62, 63, 64, 65, 66, 67, 68, 69, 70, 71, 72, 73, 74, 75, 76, 77, 78, 79, 80, 81, 82, 83, 84, 85, 86, 87, 88, 89, 90, 91, 92, 93, 94, 95, 96, 97, 98, 99, 100, 101, 102, 103, 104, 105, 106, 107, 108, 109, 110, 111, 112, 113, 114, 115, 116, 117, 118, 119, 120, 121, 122, 123, 124, 125, 126, 127, 128, 129, 130, 131, 132, 133, 134, 135, 136, 137, 138, 139, 140, 141, 142, 143, 144, 145, 146, 147, 148, 149, 150, 151, 152, 153, 154, 155, 156, 157, 158, 159, 160, 161, 162, 163, 164, 165, 166, 167, 168, 169, 170, 171, 172, 173, 174, 175, 176, 177, 178, 179, 180, 181, 182, 183, 184, 185, 186, 187, 188, 189, 190, 191, 192, 193, 194, 195, 196, 197, 198, 199, 200, 201, 202, 203, 204, 205, 206, 207, 208, 209, 210, 211, 212, 213, 214, 215, 216, 217, 218, 219, 220, 221, 222, 223, 224, 225, 226, 227, 228, 229, 230, 231, 232, 233, 234, 235, 236, 237, 238, 10, 11, 12, 239, 240, 241, 242, 243, 244, 245, 246, 247, 248, 249, 250, 251, 252, 253, 254, 255, 256, 257, 258, 259, 260, 261, 262, 263, 264, 265, 279, 280, 281, 282, 266, 267, 268, 269, 270, 271, 272, 273, 274, 275, 276, 277, 278, 283, 284, 285, 286, 287, 288, 289, 290, 291, 292, 293, 294, 295, 296, 297, 298, 299, 300, 301, 302, 303] (by decide +kernel) (by decide +kernel)) (goodIn_sub (fun _ h => List.mem_cons_of_mem _ (List.mem_append_right _ h)) (by decide +kernel))
set_option maxRecDepth 20000 in
theorem gX7_copyBase_X7_changeByHand : GoodIn wsX7_copyBase (wsV RX7 73 RX7 yX7_changeByHand wsX7_changeByHand) := goodIn_app (goodIn_of _ (by decide +kernel)) ggX7_copyBase_X7_changeByHand
theorem dX7_copyBase_0 : decode cX7_copyBase 0 = .ok (.iload_n 1, 1) := by decide +kernel
theorem dX7_copyBase_1 : decode cX7_copyBase 1 = .ok (.iload_n 2, 1) := by decide +kernel
theorem dX7_copyBase_2 : decode cX7_copyBase 2 = .ok (.invokestatic 58, 3) := by decide +kernel
theorem dX7_copyBase_5 : decode cX7_copyBase 5 = .ok (.aload_n 0, 1) := by decide +kernel
theorem dX7_copyBase_6 : decode cX7_copyBase 6 = .ok (.getfield 54, 3) := by decide +kernel
theorem dX7_copyBase_9 : decode cX7_copyBase 9 = .ok (.iconst (-1), 1) := by decide +kernel
theorem dX7_copyBase_10 : decode cX7_copyBase 10 = .ok (.if_icmp .ne 13, 3) := by decide +kernel
theorem dX7_copyBase_13 : decode cX7_copyBase 13 = .ok (.new 87, 3) := by decide +kernel
theorem dX7_copyBase_16 : decode cX7_copyBase 16 = .ok (.dup, 1) := by decide +kernel
theorem dX7_copyBase_17 : decode cX7_copyBase 17 = .ok (.ldc 89, 2) := by decide +kernel
theorem dX7_copyBase_19 : decode cX7_copyBase 19 = .ok (.invokespecial 91, 3) := by decide +kernel
theorem dX7_copyBase_22 : decode cX7_copyBase 22 = .ok (.athrow, 1) := by decide +kernel
theorem dX7_copyBase_23 : decode cX7_copyBase 23 = .ok (.aload_n 0, 1) := by decide +kernel
theorem dX7_copyBase_24 : decode cX7_copyBase 24 = .ok (.bipush 99, 2) := by decide +kernel
theorem dX7_copyBase_26 : decode cX7_copyBase 26 = .ok (.iload_n 1, 1) := by decide +kernel
theorem dX7_copyBase_27 : decode cX7_copyBase 27 = .ok (.iload_n 2, 1) := by decide +kernel
theorem dX7_copyBase_28 : decode cX7_copyBase 28 = .ok (.iconst 0, 1) := by decide +kernel
theorem dX7_copyBase_29 : decode cX7_copyBase 29 = .ok (.invokevirtual 73, 3) := by decide +kernel
theorem dX7_copyBase_32 : decode cX7_copyBase 32 = .ok (.ireturn, 1) := by decide +kernel
set_option maxRecDepth 20000 in
theorem ggX7_cell_X7_needCell : GoodIn wsX7_cell wsX7_needCell := goodIn_ca (goodIn_r _ [5, 6, 7, 8, 9, 4, 10] (by decide +kernel) (by decide +kernel)) (goodIn_sub (fun _ h => List.mem_cons_of_mem _ (List.mem_append_left _ (List.mem_append_right _ h))) (by decide +kernel))
set_option maxRecDepth 20000 in
theorem gX7_cell_X7_needCell : GoodIn wsX7_cell (va_wsS RX7 58 yX7_needCell wsX7_needCell) := goodIn_app (goodIn_of _ (by decide +kernel)) ggX7_cell_X7_needCell
set_option maxRecDepth 20000 in
theorem ggX7_cell_X7_placeOf : GoodIn wsX7_cell wsX7_placeOf := goodIn_r _ [13] (by decide +kernel) (by decide +kernel)
set_option maxRecDepth 20000 in
theorem gX7_cell_X7_placeOf : GoodIn wsX7_cell (va_wsS RX7 77 yX7_placeOf wsX7_placeOf) := goodIn_app (goodIn_of _ (by decide +kernel)) ggX7_cell_X7_placeOf
set_option maxRecDepth 20000 in
theorem ggX7_cell_X1_valueAt : GoodIn wsX7_cell wsX1_valueAt := goodIn_ca (goodIn_r _ [18, 19, 20, 21, 22, 17, 23, 37] (by decide +kernel) (by decide +kernel)) (goodIn_sub (fun _ h => List.mem_cons_of_mem _ (List.mem_append_right _ h)) (by decide +kernel))
set_option maxRecDepth 20000 in
theorem gX7_cell_X1_valueAt : GoodIn wsX7_cell (wsV RX7 81 RX1 yX1_valueAt wsX1_valueAt) := goodIn_app (goodIn_of _ (by decide +kernel)) ggX7_cell_X1_valueAt
theorem dX7_cell_0 : decode cX7_cell 0 = .ok (.iload_n 1, 1) := by decide +kernel
theorem dX7_cell_1 : decode cX7_cell 1 = .ok (.iload_n 2, 1) := by decide +kernel
theorem dX7_cell_2 : decode cX7_cell 2 = .ok (.invokestatic 58, 3) := by decide +kernel
theorem dX7_cell_5 : decode cX7_cell 5 = .ok (.aload_n 0, 1) := by decide +kernel
theorem dX7_cell_6 : decode cX7_cell 6 = .ok (.getfield 12, 3) := by decide +kernel
theorem dX7_cell_9 : decode cX7_cell 9 = .ok (.iload_n 1, 1) := by decide +kernel
theorem dX7_cell_10 : decode cX7_cell 10 = .ok (.iload_n 2, 1) := by decide +kernel
theorem dX7_cell_11 : decode cX7_cell 11 = .ok (.invokestatic 77, 3) := by decide +kernel
theorem dX7_cell_14 : decode cX7_cell 14 = .ok (.invokevirtual 81, 3) := by decide +kernel
theorem dX7_cell_17 : decode cX7_cell 17 = .ok (.ireturn, 1) := by decide +kernel
set_option maxRecDepth 20000 in
theorem ggX7_cellByAudit_X7_needCell : GoodIn wsX7_cellByAudit wsX7_needCell := goodIn_ca (goodIn_r _ [5, 6, 7, 8, 9, 4, 10] (by decide +kernel) (by decide +kernel)) (goodIn_sub (fun _ h => List.mem_cons_of_mem _ (List.mem_append_left _ (List.mem_append_right _ h))) (by decide +kernel))
set_option maxRecDepth 20000 in
theorem gX7_cellByAudit_X7_needCell : GoodIn wsX7_cellByAudit (va_wsS RX7 58 yX7_needCell wsX7_needCell) := goodIn_app (goodIn_of _ (by decide +kernel)) ggX7_cellByAudit_X7_needCell
set_option maxRecDepth 20000 in
theorem ggX7_cellByAudit_X7_placeOf : GoodIn wsX7_cellByAudit wsX7_placeOf := goodIn_r _ [13] (by decide +kernel) (by decide +kernel)
set_option maxRecDepth 20000 in
theorem gX7_cellByAudit_X7_placeOf : GoodIn wsX7_cellByAudit (va_wsS RX7 77 yX7_placeOf wsX7_placeOf) := goodIn_app (goodIn_of _ (by decide +kernel)) ggX7_cellByAudit_X7_placeOf
set_option maxRecDepth 20000 in
theorem ggX7_cellByAudit_X0_valueAnew : GoodIn wsX7_cellByAudit wsX0_valueAnew := goodIn_ca (goodIn_r _ [18, 19, 20, 21, 35, 36, 37, 38, 39] (by decide +kernel) (by decide +kernel)) (goodIn_sub (fun _ h => List.mem_cons_of_mem _ (List.mem_append_right _ h)) (by decide +kernel))
set_option maxRecDepth 20000 in
theorem gX7_cellByAudit_X0_valueAnew : GoodIn wsX7_cellByAudit (wsV RX7 92 RX0 yX0_valueAnew wsX0_valueAnew) := goodIn_app (goodIn_of _ (by decide +kernel)) ggX7_cellByAudit_X0_valueAnew
theorem dX7_cellByAudit_0 : decode cX7_cellByAudit 0 = .ok (.iload_n 1, 1) := by decide +kernel
theorem dX7_cellByAudit_1 : decode cX7_cellByAudit 1 = .ok (.iload_n 2, 1) := by decide +kernel
theorem dX7_cellByAudit_2 : decode cX7_cellByAudit 2 = .ok (.invokestatic 58, 3) := by decide +kernel
theorem dX7_cellByAudit_5 : decode cX7_cellByAudit 5 = .ok (.aload_n 0, 1) := by decide +kernel
theorem dX7_cellByAudit_6 : decode cX7_cellByAudit 6 = .ok (.getfield 32, 3) := by decide +kernel
theorem dX7_cellByAudit_9 : decode cX7_cellByAudit 9 = .ok (.iload_n 1, 1) := by decide +kernel
theorem dX7_cellByAudit_10 : decode cX7_cellByAudit 10 = .ok (.iload_n 2, 1) := by decide +kernel
theorem dX7_cellByAudit_11 : decode cX7_cellByAudit 11 = .ok (.invokestatic 77, 3) := by decide +kernel
theorem dX7_cellByAudit_14 : decode cX7_cellByAudit 14 = .ok (.invokevirtual 92, 3) := by decide +kernel
theorem dX7_cellByAudit_17 : decode cX7_cellByAudit 17 = .ok (.ireturn, 1) := by decide +kernel
set_option maxRecDepth 20000 in
theorem ggX7_addMacro_Jx4a65c_size_8abf5 : GoodIn wsX7_addMacro wsJx4a65c_size_8abf5 := goodIn_r _ [11, 12, 107, 108, 109] (by decide +kernel) (by decide +kernel)
set_option maxRecDepth 20000 in
theorem gX7_addMacro_Jx4a65c_size_8abf5 : GoodIn wsX7_addMacro (wsV RX7 95 RJx4a65c yJx4a65c_size_8abf5 wsJx4a65c_size_8abf5) := goodIn_app (goodIn_of _ (by decide +kernel)) ggX7_addMacro_Jx4a65c_size_8abf5
set_option maxRecDepth 20000 in
theorem ggX7_addMacro_X3_init : GoodIn wsX7_addMacro wsX3_init := goodIn_r _ [15, 16, 17, 18, 19, 20, 21, 10, 22, 23, 24, 25, 26, 27, 28, 29, 30, 31, 32, 33, 34, 35, 36, 37, 38, 104, 105, 106, 107, 108, 109] (by decide +kernel) (by decide +kernel)
set_option maxRecDepth 20000 in
theorem gX7_addMacro_X3_init : GoodIn wsX7_addMacro (wsX3_init) := ggX7_addMacro_X3_init
set_option maxRecDepth 20000 in
theorem ggX7_addMacro_Jx4a65c_add_9ea2d : GoodIn wsX7_addMacro wsJx4a65c_add_9ea2d := goodIn_r _ [42, 43, 44, 28, 12, 45, 46, 47, 10, 48, 49, 50, 51, 52, 53, 54, 55, 56, 27, 57, 58, 59, 60, 61, 62, 63, 64, 65, 66, 67, 68, 69, 70, 71, 72, 73, 74, 75, 76, 77, 78, 79, 80, 81, 82, 83, 84, 85, 86, 87, 88, 89, 90, 107, 108, 109] (by decide +kernel) (by decide +kernel)
set_option maxRecDepth 20000 in
theorem gX7_addMacro_Jx4a65c_add_9ea2d : GoodIn wsX7_addMacro (wsV RX7 106 RJx4a65c yJx4a65c_add_9ea2d wsJx4a65c_add_9ea2d) := goodIn_app (goodIn_of _ (by decide +kernel)) ggX7_addMacro_Jx4a65c_add_9ea2d
theorem dX7_addMacro_0 : decode cX7_addMacro 0 = .ok (.aload_n 0, 1) := by decide +kernel
theorem dX7_addMacro_1 : decode cX7_addMacro 1 = .ok (.getfield 22, 3) := by decide +kernel
theorem dX7_addMacro_4 : decode cX7_addMacro 4 = .ok (.invokevirtual 95, 3) := by decide +kernel
theorem dX7_addMacro_7 : decode cX7_addMacro 7 = .ok (.istore_n 1, 1) := by decide +kernel
theorem dX7_addMacro_8 : decode cX7_addMacro 8 = .ok (.iload_n 1, 1) := by decide +kernel
theorem dX7_addMacro_9 : decode cX7_addMacro 9 = .ok (.bipush 6, 2) := by decide +kernel
theorem dX7_addMacro_11 : decode cX7_addMacro 11 = .ok (.if_icmp .lt 13, 3) := by decide +kernel
theorem dX7_addMacro_14 : decode cX7_addMacro 14 = .ok (.new 87, 3) := by decide +kernel
theorem dX7_addMacro_17 : decode cX7_addMacro 17 = .ok (.dup, 1) := by decide +kernel
theorem dX7_addMacro_18 : decode cX7_addMacro 18 = .ok (.ldc 99, 2) := by decide +kernel
theorem dX7_addMacro_20 : decode cX7_addMacro 20 = .ok (.invokespecial 91, 3) := by decide +kernel
theorem dX7_addMacro_23 : decode cX7_addMacro 23 = .ok (.athrow, 1) := by decide +kernel
theorem dX7_addMacro_24 : decode cX7_addMacro 24 = .ok (.aload_n 0, 1) := by decide +kernel
theorem dX7_addMacro_25 : decode cX7_addMacro 25 = .ok (.getfield 22, 3) := by decide +kernel
theorem dX7_addMacro_28 : decode cX7_addMacro 28 = .ok (.new 101, 3) := by decide +kernel
theorem dX7_addMacro_31 : decode cX7_addMacro 31 = .ok (.dup, 1) := by decide +kernel
theorem dX7_addMacro_32 : decode cX7_addMacro 32 = .ok (.iload_n 1, 1) := by decide +kernel
theorem dX7_addMacro_33 : decode cX7_addMacro 33 = .ok (.invokespecial 103, 3) := by decide +kernel
theorem dX7_addMacro_36 : decode cX7_addMacro 36 = .ok (.invokevirtual 106, 3) := by decide +kernel
theorem dX7_addMacro_39 : decode cX7_addMacro 39 = .ok (.pop, 1) := by decide +kernel
theorem dX7_addMacro_40 : decode cX7_addMacro 40 = .ok (.iload_n 1, 1) := by decide +kernel
theorem dX7_addMacro_41 : decode cX7_addMacro 41 = .ok (.ireturn, 1) := by decide +kernel
set_option maxRecDepth 20000 in
theorem ggX7_record_X7_neededMacro : GoodIn wsX7_record wsX7_neededMacro := goodIn_ca (goodIn_r _ [10, 11, 12, 13, 14, 15, 9, 16, 17, 18, 19, 20, 21, 22, 23, 24, 25, 26, 27, 28, 29, 30, 31, 32, 33, 34, 35, 36, 37, 38, 39, 40, 41, 65, 66, 67, 68, 69, 70, 71, 72, 73, 74, 75, 76, 77, 78, 79, 80] (by decide +kernel) (by decide +kernel)) (goodIn_sub (fun _ h => List.mem_cons_of_mem _ (List.mem_append_right _ h)) (by decide +kernel))
set_option maxRecDepth 20000 in
theorem gX7_record_X7_neededMacro : GoodIn wsX7_record (wsV RX7 110 RX7 yX7_neededMacro wsX7_neededMacro) := goodIn_app (goodIn_of _ (by decide +kernel)) ggX7_record_X7_neededMacro
set_option maxRecDepth 20000 in
theorem ggX7_record_X7_needCell : GoodIn wsX7_record wsX7_needCell := goodIn_ca (goodIn_r _ [44, 11, 12, 45, 46, 9, 47] (by decide +kernel) (by decide +kernel)) (goodIn_sub (fun _ h => List.mem_cons_of_mem _ (List.mem_append_right _ h)) (by decide +kernel))
set_option maxRecDepth 20000 in
theorem gX7_record_X7_needCell : GoodIn wsX7_record (va_wsS RX7 58 yX7_needCell wsX7_needCell) := goodIn_app (goodIn_of _ (by decide +kernel)) ggX7_record_X7_needCell
set_option maxRecDepth 20000 in
theorem ggX7_record_X3_stepCount : GoodIn wsX7_record wsX3_stepCount := goodIn_r _ [52, 53, 54, 20, 21, 22, 23, 24, 81, 82, 83, 78, 79, 80] (by decide +kernel) (by decide +kernel)
set_option maxRecDepth 20000 in
theorem gX7_record_X3_stepCount : GoodIn wsX7_record (wsV RX7 116 RX3 yX3_stepCount wsX3_stepCount) := goodIn_app (goodIn_of _ (by decide +kernel)) ggX7_record_X3_stepCount
set_option maxRecDepth 20000 in
theorem ggX7_record_X3_dropSteps : GoodIn wsX7_record wsX3_dropSteps := goodIn_r _ [58, 53, 59, 60, 61, 22, 62, 63, 64, 41, 24, 81, 82, 83, 78, 79, 80] (by decide +kernel) (by decide +kernel)
set_option maxRecDepth 20000 in
theorem gX7_record_X3_dropSteps : GoodIn wsX7_record (wsV RX7 119 RX3 yX3_dropSteps wsX3_dropSteps) := goodIn_app (goodIn_of _ (by decide +kernel)) ggX7_record_X3_dropSteps
theorem dX7_record_0 : decode cX7_record 0 = .ok (.aload_n 0, 1) := by decide +kernel
theorem dX7_record_1 : decode cX7_record 1 = .ok (.iload_n 1, 1) := by decide +kernel
theorem dX7_record_2 : decode cX7_record 2 = .ok (.invokevirtual 110, 3) := by decide +kernel
theorem dX7_record_5 : decode cX7_record 5 = .ok (.astore 4, 2) := by decide +kernel
theorem dX7_record_7 : decode cX7_record 7 = .ok (.iload_n 2, 1) := by decide +kernel
theorem dX7_record_8 : decode cX7_record 8 = .ok (.iload_n 3, 1) := by decide +kernel
theorem dX7_record_9 : decode cX7_record 9 = .ok (.invokestatic 58, 3) := by decide +kernel
theorem dX7_record_12 : decode cX7_record 12 = .ok (.aload_n 0, 1) := by decide +kernel
theorem dX7_record_13 : decode cX7_record 13 = .ok (.getfield 54, 3) := by decide +kernel
theorem dX7_record_16 : decode cX7_record 16 = .ok (.iconst (-1), 1) := by decide +kernel
theorem dX7_record_17 : decode cX7_record 17 = .ok (.if_icmp .eq 13, 3) := by decide +kernel
theorem dX7_record_20 : decode cX7_record 20 = .ok (.new 87, 3) := by decide +kernel
theorem dX7_record_23 : decode cX7_record 23 = .ok (.dup, 1) := by decide +kernel
theorem dX7_record_24 : decode cX7_record 24 = .ok (.ldc 114, 2) := by decide +kernel
theorem dX7_record_26 : decode cX7_record 26 = .ok (.invokespecial 91, 3) := by decide +kernel
theorem dX7_record_29 : decode cX7_record 29 = .ok (.athrow, 1) := by decide +kernel
theorem dX7_record_30 : decode cX7_record 30 = .ok (.aload 4, 2) := by decide +kernel
theorem dX7_record_32 : decode cX7_record 32 = .ok (.invokevirtual 116, 3) := by decide +kernel
theorem dX7_record_35 : decode cX7_record 35 = .ok (.istore 5, 2) := by decide +kernel
theorem dX7_record_37 : decode cX7_record 37 = .ok (.aload 4, 2) := by decide +kernel
theorem dX7_record_39 : decode cX7_record 39 = .ok (.invokevirtual 119, 3) := by decide +kernel
theorem dX7_record_42 : decode cX7_record 42 = .ok (.aload_n 0, 1) := by decide +kernel
theorem dX7_record_43 : decode cX7_record 43 = .ok (.iload_n 1, 1) := by decide +kernel
theorem dX7_record_44 : decode cX7_record 44 = .ok (.putfield 54, 3) := by decide +kernel
theorem dX7_record_47 : decode cX7_record 47 = .ok (.aload_n 0, 1) := by decide +kernel
theorem dX7_record_48 : decode cX7_record 48 = .ok (.iload_n 2, 1) := by decide +kernel
theorem dX7_record_49 : decode cX7_record 49 = .ok (.putfield 122, 3) := by decide +kernel
theorem dX7_record_52 : decode cX7_record 52 = .ok (.aload_n 0, 1) := by decide +kernel
theorem dX7_record_53 : decode cX7_record 53 = .ok (.iload_n 3, 1) := by decide +kernel
theorem dX7_record_54 : decode cX7_record 54 = .ok (.putfield 125, 3) := by decide +kernel
theorem dX7_record_57 : decode cX7_record 57 = .ok (.iload 5, 2) := by decide +kernel
theorem dX7_record_59 : decode cX7_record 59 = .ok (.ireturn, 1) := by decide +kernel
set_option maxRecDepth 20000 in
theorem ggX7_stop_X7_macroAt : GoodIn wsX7_stop wsX7_macroAt := goodIn_r _ [8, 9, 10, 11, 12, 13, 14, 15, 16, 17, 18, 19, 20, 21, 22, 23, 24, 25, 26, 27, 28, 29, 30, 31, 32, 33, 41, 42, 43, 44, 45, 46, 47, 48, 49, 50, 51, 52, 53, 54, 55, 56] (by decide +kernel) (by decide +kernel)
set_option maxRecDepth 20000 in
theorem gX7_stop_X7_macroAt : GoodIn wsX7_stop (wsV RX7 128 RX7 yX7_macroAt wsX7_macroAt) := goodIn_app (goodIn_of _ (by decide +kernel)) ggX7_stop_X7_macroAt
set_option maxRecDepth 20000 in
theorem ggX7_stop_X3_stepCount : GoodIn wsX7_stop wsX3_stepCount := goodIn_r _ [38, 39, 40, 12, 13, 14, 15, 16, 57, 58, 59, 54, 55, 56] (by decide +kernel) (by decide +kernel)
set_option maxRecDepth 20000 in
theorem gX7_stop_X3_stepCount : GoodIn wsX7_stop (wsV RX7 116 RX3 yX3_stepCount wsX3_stepCount) := goodIn_app (goodIn_of _ (by decide +kernel)) ggX7_stop_X3_stepCount
theorem dX7_stop_0 : decode cX7_stop 0 = .ok (.aload_n 0, 1) := by decide +kernel
theorem dX7_stop_1 : decode cX7_stop 1 = .ok (.aload_n 0, 1) := by decide +kernel
theorem dX7_stop_2 : decode cX7_stop 2 = .ok (.getfield 54, 3) := by decide +kernel
theorem dX7_stop_5 : decode cX7_stop 5 = .ok (.invokevirtual 128, 3) := by decide +kernel
theorem dX7_stop_8 : decode cX7_stop 8 = .ok (.astore_n 1, 1) := by decide +kernel
theorem dX7_stop_9 : decode cX7_stop 9 = .ok (.aload_n 1, 1) := by decide +kernel
theorem dX7_stop_10 : decode cX7_stop 10 = .ok (.ifnonnull 13, 3) := by decide +kernel
theorem dX7_stop_13 : decode cX7_stop 13 = .ok (.new 87, 3) := by decide +kernel
theorem dX7_stop_16 : decode cX7_stop 16 = .ok (.dup, 1) := by decide +kernel
theorem dX7_stop_17 : decode cX7_stop 17 = .ok (.ldc 89, 2) := by decide +kernel
theorem dX7_stop_19 : decode cX7_stop 19 = .ok (.invokespecial 91, 3) := by decide +kernel
theorem dX7_stop_22 : decode cX7_stop 22 = .ok (.athrow, 1) := by decide +kernel
theorem dX7_stop_23 : decode cX7_stop 23 = .ok (.aload_n 0, 1) := by decide +kernel
theorem dX7_stop_24 : decode cX7_stop 24 = .ok (.iconst (-1), 1) := by decide +kernel
theorem dX7_stop_25 : decode cX7_stop 25 = .ok (.putfield 54, 3) := by decide +kernel
theorem dX7_stop_28 : decode cX7_stop 28 = .ok (.aload_n 1, 1) := by decide +kernel
theorem dX7_stop_29 : decode cX7_stop 29 = .ok (.invokevirtual 116, 3) := by decide +kernel
theorem dX7_stop_32 : decode cX7_stop 32 = .ok (.ireturn, 1) := by decide +kernel
set_option maxRecDepth 20000 in
theorem ggX7_grant_X7_neededMacro : GoodIn wsX7_grant wsX7_neededMacro := goodIn_ca (goodIn_r _ [12, 13, 14, 15, 16, 17, 11, 18, 19, 20, 21, 22, 23, 24, 25, 26, 27, 28, 29, 30, 31, 32, 33, 34, 35, 36, 37, 38, 39, 40, 41, 42, 43, 131, 132, 133, 134, 135, 136, 137, 138, 139, 140, 141, 142, 143, 144, 145, 146] (by decide +kernel) (by decide +kernel)) (goodIn_sub (fun _ h => List.mem_cons_of_mem _ (List.mem_append_right _ h)) (by decide +kernel))
set_option maxRecDepth 20000 in
theorem gX7_grant_X7_neededMacro : GoodIn wsX7_grant (wsV RX7 110 RX7 yX7_neededMacro wsX7_neededMacro) := goodIn_app (goodIn_of _ (by decide +kernel)) ggX7_grant_X7_neededMacro
set_option maxRecDepth 20000 in
theorem ggX7_grant_X7_needCell : GoodIn wsX7_grant wsX7_needCell := goodIn_ca (goodIn_r _ [46, 13, 14, 47, 48, 11, 49] (by decide +kernel) (by decide +kernel)) (goodIn_sub (fun _ h => List.mem_cons_of_mem _ (List.mem_append_right _ h)) (by decide +kernel))
set_option maxRecDepth 20000 in
theorem gX7_grant_X7_needCell : GoodIn wsX7_grant (va_wsS RX7 58 yX7_needCell wsX7_needCell) := goodIn_app (goodIn_of _ (by decide +kernel)) ggX7_grant_X7_needCell
set_option maxRecDepth 20000 in
theorem ggX7_grant_X7_isRange : GoodIn wsX7_grant wsX7_isRange := goodIn_r _ [52] (by decide +kernel) (by decide +kernel)
set_option maxRecDepth 20000 in
theorem gX7_grant_X7_isRange : GoodIn wsX7_grant (va_wsS RX7 131 yX7_isRange wsX7_isRange) := goodIn_app (goodIn_of _ (by decide +kernel)) ggX7_grant_X7_isRange
set_option maxRecDepth 20000 in
theorem ggX7_grant_X3_grantCount : GoodIn wsX7_grant wsX3_grantCount := goodIn_r _ [57, 58, 59, 22, 23, 24, 25, 26, 147, 148, 149, 144, 145, 146] (by decide +kernel) (by decide +kernel)
set_option maxRecDepth 20000 in
theorem gX7_grant_X3_grantCount : GoodIn wsX7_grant (wsV RX7 137 RX3 yX3_grantCount wsX3_grantCount) := goodIn_app (goodIn_of _ (by decide +kernel)) ggX7_grant_X3_grantCount
set_option maxRecDepth 20000 in
theorem ggX7_grant_X4_init : GoodIn wsX7_grant wsX4_init := goodIn_r _ [62, 63, 64, 65, 66, 67, 68, 69, 127, 128, 129, 130] (by decide +kernel) (by decide +kernel)
set_option maxRecDepth 20000 in
theorem gX7_grant_X4_init : GoodIn wsX7_grant (wsX4_init) := ggX7_grant_X4_init
set_option maxRecDepth 20000 in
theorem ggX7_grant_X3_keepGrant : GoodIn wsX7_grant wsX3_keepGrant := goodIn_r _ [73, 58, 59, 22, 23, 24, 25, 26, 74, 75, 76, 77, 78, 79, 43, 80, 81, 82, 83, 84, 85, 86, 87, 88, 89, 90, 91, 92, 93, 94, 95, 96, 97, 98, 99, 100, 101, 102, 103, 104, 105, 106, 107, 108, 109, 110, 111, 112, 113, 114, 115, 116, 117, 118, 119, 120, 121, 122, 123, 124, 125, 126, 147, 148, 149, 144, 145, 146] (by decide +kernel) (by decide +kernel)
set_option maxRecDepth 20000 in
theorem gX7_grant_X3_keepGrant : GoodIn wsX7_grant (wsV RX7 147 RX3 yX3_keepGrant wsX3_keepGrant) := goodIn_app (goodIn_of _ (by decide +kernel)) ggX7_grant_X3_keepGrant
theorem dX7_grant_0 : decode cX7_grant 0 = .ok (.aload_n 0, 1) := by decide +kernel
theorem dX7_grant_1 : decode cX7_grant 1 = .ok (.iload_n 1, 1) := by decide +kernel
theorem dX7_grant_2 : decode cX7_grant 2 = .ok (.invokevirtual 110, 3) := by decide +kernel
theorem dX7_grant_5 : decode cX7_grant 5 = .ok (.astore 6, 2) := by decide +kernel
theorem dX7_grant_7 : decode cX7_grant 7 = .ok (.iload_n 2, 1) := by decide +kernel
theorem dX7_grant_8 : decode cX7_grant 8 = .ok (.iload_n 3, 1) := by decide +kernel
theorem dX7_grant_9 : decode cX7_grant 9 = .ok (.invokestatic 58, 3) := by decide +kernel
theorem dX7_grant_12 : decode cX7_grant 12 = .ok (.iload 4, 2) := by decide +kernel
theorem dX7_grant_14 : decode cX7_grant 14 = .ok (.iload 5, 2) := by decide +kernel
theorem dX7_grant_16 : decode cX7_grant 16 = .ok (.invokestatic 58, 3) := by decide +kernel
theorem dX7_grant_19 : decode cX7_grant 19 = .ok (.iload_n 2, 1) := by decide +kernel
theorem dX7_grant_20 : decode cX7_grant 20 = .ok (.iload_n 3, 1) := by decide +kernel
theorem dX7_grant_21 : decode cX7_grant 21 = .ok (.iload 4, 2) := by decide +kernel
theorem dX7_grant_23 : decode cX7_grant 23 = .ok (.iload 5, 2) := by decide +kernel
theorem dX7_grant_25 : decode cX7_grant 25 = .ok (.invokestatic 131, 3) := by decide +kernel
theorem dX7_grant_28 : decode cX7_grant 28 = .ok (.ifCond .ne 13, 3) := by decide +kernel
theorem dX7_grant_31 : decode cX7_grant 31 = .ok (.new 66, 3) := by decide +kernel
theorem dX7_grant_34 : decode cX7_grant 34 = .ok (.dup, 1) := by decide +kernel
theorem dX7_grant_35 : decode cX7_grant 35 = .ok (.ldc 135, 2) := by decide +kernel
theorem dX7_grant_37 : decode cX7_grant 37 = .ok (.invokespecial 70, 3) := by decide +kernel
theorem dX7_grant_40 : decode cX7_grant 40 = .ok (.athrow, 1) := by decide +kernel
theorem dX7_grant_41 : decode cX7_grant 41 = .ok (.aload 6, 2) := by decide +kernel
theorem dX7_grant_43 : decode cX7_grant 43 = .ok (.invokevirtual 137, 3) := by decide +kernel
theorem dX7_grant_46 : decode cX7_grant 46 = .ok (.iconst 4, 1) := by decide +kernel
theorem dX7_grant_47 : decode cX7_grant 47 = .ok (.if_icmp .lt 13, 3) := by decide +kernel
theorem dX7_grant_50 : decode cX7_grant 50 = .ok (.new 87, 3) := by decide +kernel
theorem dX7_grant_53 : decode cX7_grant 53 = .ok (.dup, 1) := by decide +kernel
theorem dX7_grant_54 : decode cX7_grant 54 = .ok (.ldc 140, 2) := by decide +kernel
theorem dX7_grant_56 : decode cX7_grant 56 = .ok (.invokespecial 91, 3) := by decide +kernel
theorem dX7_grant_59 : decode cX7_grant 59 = .ok (.athrow, 1) := by decide +kernel
theorem dX7_grant_60 : decode cX7_grant 60 = .ok (.aload 6, 2) := by decide +kernel
theorem dX7_grant_62 : decode cX7_grant 62 = .ok (.new 142, 3) := by decide +kernel
theorem dX7_grant_65 : decode cX7_grant 65 = .ok (.dup, 1) := by decide +kernel
theorem dX7_grant_66 : decode cX7_grant 66 = .ok (.iload_n 2, 1) := by decide +kernel
theorem dX7_grant_67 : decode cX7_grant 67 = .ok (.iload_n 3, 1) := by decide +kernel
theorem dX7_grant_68 : decode cX7_grant 68 = .ok (.iload 4, 2) := by decide +kernel
theorem dX7_grant_70 : decode cX7_grant 70 = .ok (.iload 5, 2) := by decide +kernel
theorem dX7_grant_72 : decode cX7_grant 72 = .ok (.invokespecial 144, 3) := by decide +kernel
theorem dX7_grant_75 : decode cX7_grant 75 = .ok (.invokevirtual 147, 3) := by decide +kernel
theorem dX7_grant_78 : decode cX7_grant 78 = .ok (.aload 6, 2) := by decide +kernel
theorem dX7_grant_80 : decode cX7_grant 80 = .ok (.invokevirtual 137, 3) := by decide +kernel
theorem dX7_grant_83 : decode cX7_grant 83 = .ok (.ireturn, 1) := by decide +kernel
set_option maxRecDepth 20000 in
theorem ggX7_takeGrants_X7_neededMacro : GoodIn wsX7_takeGrants wsX7_neededMacro := goodIn_ca (goodIn_r _ [5, 6, 7, 8, 9, 10, 4, 11, 12, 13, 14, 15, 16, 17, 18, 19, 20, 21, 22, 23, 24, 25, 26, 27, 28, 29, 30, 31, 32, 33, 34, 35, 36, 54, 55, 56, 57, 58, 59, 60, 61, 62, 63, 64, 65, 66, 67, 68, 69] (by decide +kernel) (by decide +kernel)) (goodIn_sub (fun _ h => List.mem_cons_of_mem _ (List.mem_append_right _ h)) (by decide +kernel))
set_option maxRecDepth 20000 in
theorem gX7_takeGrants_X7_neededMacro : GoodIn wsX7_takeGrants (wsV RX7 110 RX7 yX7_neededMacro wsX7_neededMacro) := goodIn_app (goodIn_of _ (by decide +kernel)) ggX7_takeGrants_X7_neededMacro
set_option maxRecDepth 20000 in
theorem ggX7_takeGrants_X3_grantCount : GoodIn wsX7_takeGrants wsX3_grantCount := goodIn_r _ [41, 42, 43, 15, 16, 17, 18, 19, 70, 71, 72, 67, 68, 69] (by decide +kernel) (by decide +kernel)
set_option maxRecDepth 20000 in
theorem gX7_takeGrants_X3_grantCount : GoodIn wsX7_takeGrants (wsV RX7 137 RX3 yX3_grantCount wsX3_grantCount) := goodIn_app (goodIn_of _ (by decide +kernel)) ggX7_takeGrants_X3_grantCount
set_option maxRecDepth 20000 in
theorem ggX7_takeGrants_X3_dropGrants : GoodIn wsX7_takeGrants wsX3_dropGrants := goodIn_r _ [47, 42, 48, 49, 50, 17, 51, 52, 53, 36, 19, 70, 71, 72, 67, 68, 69] (by decide +kernel) (by decide +kernel)
set_option maxRecDepth 20000 in
theorem gX7_takeGrants_X3_dropGrants : GoodIn wsX7_takeGrants (wsV RX7 151 RX3 yX3_dropGrants wsX3_dropGrants) := goodIn_app (goodIn_of _ (by decide +kernel)) ggX7_takeGrants_X3_dropGrants
theorem dX7_takeGrants_0 : decode cX7_takeGrants 0 = .ok (.aload_n 0, 1) := by decide +kernel
theorem dX7_takeGrants_1 : decode cX7_takeGrants 1 = .ok (.iload_n 1, 1) := by decide +kernel
theorem dX7_takeGrants_2 : decode cX7_takeGrants 2 = .ok (.invokevirtual 110, 3) := by decide +kernel
theorem dX7_takeGrants_5 : decode cX7_takeGrants 5 = .ok (.astore_n 2, 1) := by decide +kernel
theorem dX7_takeGrants_6 : decode cX7_takeGrants 6 = .ok (.aload_n 2, 1) := by decide +kernel
theorem dX7_takeGrants_7 : decode cX7_takeGrants 7 = .ok (.invokevirtual 137, 3) := by decide +kernel
theorem dX7_takeGrants_10 : decode cX7_takeGrants 10 = .ok (.istore_n 3, 1) := by decide +kernel
theorem dX7_takeGrants_11 : decode cX7_takeGrants 11 = .ok (.aload_n 2, 1) := by decide +kernel
theorem dX7_takeGrants_12 : decode cX7_takeGrants 12 = .ok (.invokevirtual 151, 3) := by decide +kernel
theorem dX7_takeGrants_15 : decode cX7_takeGrants 15 = .ok (.iload_n 3, 1) := by decide +kernel
theorem dX7_takeGrants_16 : decode cX7_takeGrants 16 = .ok (.ireturn, 1) := by decide +kernel
set_option maxRecDepth 20000 in
theorem ggX7_granted_X7_needCell : GoodIn wsX7_granted wsX7_needCell := goodIn_ca (goodIn_r _ [6, 7, 8, 9, 10, 5, 11] (by decide +kernel) (by decide +kernel)) (goodIn_sub (fun _ h => List.mem_cons_of_mem _ (List.mem_append_right _ h)) (by decide +kernel))
set_option maxRecDepth 20000 in
theorem gX7_granted_X7_needCell : GoodIn wsX7_granted (va_wsS RX7 58 yX7_needCell wsX7_needCell) := goodIn_app (goodIn_of _ (by decide +kernel)) ggX7_granted_X7_needCell
set_option maxRecDepth 20000 in
theorem ggX7_granted_Jx4a65c_size_8abf5 : GoodIn wsX7_granted wsJx4a65c_size_8abf5 := goodIn_r _ [16, 17, 66, 67, 68] (by decide +kernel) (by decide +kernel)
set_option maxRecDepth 20000 in
theorem gX7_granted_Jx4a65c_size_8abf5 : GoodIn wsX7_granted (wsV RX7 95 RJx4a65c yJx4a65c_size_8abf5 wsJx4a65c_size_8abf5) := goodIn_app (goodIn_of _ (by decide +kernel)) ggX7_granted_Jx4a65c_size_8abf5
set_option maxRecDepth 20000 in
theorem ggX7_granted_Jx4a65c_get_915e3 : GoodIn wsX7_granted wsJx4a65c_get_915e3 := goodIn_r _ [21, 17, 22, 23, 24, 25, 26, 27, 28, 29, 30, 31, 32, 15, 33, 34, 66, 67, 68] (by decide +kernel) (by decide +kernel)
set_option maxRecDepth 20000 in
theorem gX7_granted_Jx4a65c_get_915e3 : GoodIn wsX7_granted (wsV RX7 154 RJx4a65c yJx4a65c_get_915e3 wsJx4a65c_get_915e3) := goodIn_app (goodIn_of _ (by decide +kernel)) ggX7_granted_Jx4a65c_get_915e3
set_option maxRecDepth 20000 in
theorem ggX7_granted_X3_mayChange : GoodIn wsX7_granted wsX3_mayChange := goodIn_r _ [39, 40, 41, 42, 13, 14, 15, 16, 17, 43, 19, 20, 21, 22, 23, 24, 25, 26, 27, 28, 29, 30, 31, 32, 33, 34, 44, 45, 46, 47, 48, 49, 50, 51, 52, 69, 70, 71, 66, 67, 68, 72, 73, 74, 75] (by decide +kernel) (by decide +kernel)
set_option maxRecDepth 20000 in
theorem gX7_granted_X3_mayChange : GoodIn wsX7_granted (wsV RX7 158 RX3 yX3_mayChange wsX3_mayChange) := goodIn_app (goodIn_of _ (by decide +kernel)) ggX7_granted_X3_mayChange
theorem dX7_granted_0 : decode cX7_granted 0 = .ok (.iload_n 1, 1) := by decide +kernel
theorem dX7_granted_1 : decode cX7_granted 1 = .ok (.iload_n 2, 1) := by decide +kernel
theorem dX7_granted_2 : decode cX7_granted 2 = .ok (.invokestatic 58, 3) := by decide +kernel
theorem dX7_granted_5 : decode cX7_granted 5 = .ok (.iconst 0, 1) := by decide +kernel
theorem dX7_granted_6 : decode cX7_granted 6 = .ok (.istore_n 3, 1) := by decide +kernel
theorem dX7_granted_7 : decode cX7_granted 7 = .ok (.iconst 0, 1) := by decide +kernel
theorem dX7_granted_8 : decode cX7_granted 8 = .ok (.istore 4, 2) := by decide +kernel
theorem dX7_granted_10 : decode cX7_granted 10 = .ok (.iload 4, 2) := by decide +kernel
theorem dX7_granted_12 : decode cX7_granted 12 = .ok (.aload_n 0, 1) := by decide +kernel
theorem dX7_granted_13 : decode cX7_granted 13 = .ok (.getfield 22, 3) := by decide +kernel
theorem dX7_granted_16 : decode cX7_granted 16 = .ok (.invokevirtual 95, 3) := by decide +kernel
theorem dX7_granted_19 : decode cX7_granted 19 = .ok (.if_icmp .ge 32, 3) := by decide +kernel
theorem dX7_granted_22 : decode cX7_granted 22 = .ok (.aload_n 0, 1) := by decide +kernel
theorem dX7_granted_23 : decode cX7_granted 23 = .ok (.getfield 22, 3) := by decide +kernel
theorem dX7_granted_26 : decode cX7_granted 26 = .ok (.iload 4, 2) := by decide +kernel
theorem dX7_granted_28 : decode cX7_granted 28 = .ok (.invokevirtual 154, 3) := by decide +kernel
theorem dX7_granted_31 : decode cX7_granted 31 = .ok (.checkcast 101, 3) := by decide +kernel
theorem dX7_granted_34 : decode cX7_granted 34 = .ok (.iload_n 1, 1) := by decide +kernel
theorem dX7_granted_35 : decode cX7_granted 35 = .ok (.iload_n 2, 1) := by decide +kernel
theorem dX7_granted_36 : decode cX7_granted 36 = .ok (.invokevirtual 158, 3) := by decide +kernel
theorem dX7_granted_39 : decode cX7_granted 39 = .ok (.ifCond .eq 6, 3) := by decide +kernel
theorem dX7_granted_42 : decode cX7_granted 42 = .ok (.iinc 3 1, 3) := by decide +kernel
theorem dX7_granted_45 : decode cX7_granted 45 = .ok (.iinc 4 1, 3) := by decide +kernel
theorem dX7_granted_48 : decode cX7_granted 48 = .ok (.goto (-38), 3) := by decide +kernel
theorem dX7_granted_51 : decode cX7_granted 51 = .ok (.iload_n 3, 1) := by decide +kernel
theorem dX7_granted_52 : decode cX7_granted 52 = .ok (.ireturn, 1) := by decide +kernel
set_option maxRecDepth 20000 in
theorem ggX7_reason_X7_neededMacro : GoodIn wsX7_reason wsX7_neededMacro := goodIn_ca (goodIn_r _ [5, 6, 7, 8, 9, 10, 4, 11, 12, 13, 14, 15, 16, 17, 18, 19, 20, 21, 22, 23, 24, 25, 26, 27, 28, 29, 30, 31, 32, 33, 34, 35, 36, 112, 113, 114, 115, 116, 117, 118, 119, 120, 121, 122, 123, 124, 125, 126, 127] (by decide +kernel) (by decide +kernel)) (goodIn_sub (fun _ h => List.mem_cons_of_mem _ (List.mem_append_left _ (List.mem_append_right _ h))) (by decide +kernel))
set_option maxRecDepth 20000 in
theorem gX7_reason_X7_neededMacro : GoodIn wsX7_reason (wsV RX7 110 RX7 yX7_neededMacro wsX7_neededMacro) := goodIn_app (goodIn_of _ (by decide +kernel)) ggX7_reason_X7_neededMacro
set_option maxRecDepth 20000 in
theorem ggX7_reason_X7_needCell : GoodIn wsX7_reason wsX7_needCell := goodIn_ca (goodIn_r _ [39, 6, 7, 40, 41, 4, 42] (by decide +kernel) (by decide +kernel)) (goodIn_sub (fun _ h => List.mem_cons_of_mem _ (List.mem_append_left _ (List.mem_append_right _ h))) (by decide +kernel))
set_option maxRecDepth 20000 in
theorem gX7_reason_X7_needCell : GoodIn wsX7_reason (va_wsS RX7 58 yX7_needCell wsX7_needCell) := goodIn_app (goodIn_of _ (by decide +kernel)) ggX7_reason_X7_needCell
set_option maxRecDepth 20000 in
theorem ggX7_reason_X7_reasonAgainst : GoodIn wsX7_reason wsX7_reasonAgainst := goodIn_ca (goodIn_r _ [46, 47, 48, 49, 50, 51, 52, 53, 54, 55, 56, 57, 58, 59, 60, 4, 61, 62, 63, 64, 65, 66, 67, 68, 15, 16, 17, 18, 19, 69, 70, 71, 72, 73, 74, 21, 22, 23, 24, 25, 26, 27, 28, 29, 30, 31, 32, 33, 34, 35, 36, 40, 41, 42, 75, 76, 77, 78, 79, 80, 81, 82, 83, 84, 85, 86, 87, 88, 89, 90, 91, 92, 93, 94, 95, 96, 97, 98, 99, 100, 101, 102, 103, 104, 105, 106, 107, 108, 109, 110, 111, 112, 113, 114, 115, 116, 117, 118, 119, 120, 121, 122, 123, 124, 128, 129, 130, 131, 132, 133, 134, 135, 125, 126, 127, 136, 137, 138, 139] (by decide +kernel) (by decide +kernel)) (goodIn_sub (fun _ h => List.mem_cons_of_mem _ (List.mem_append_right _ h)) (by decide +kernel))
set_option maxRecDepth 20000 in
theorem gX7_reason_X7_reasonAgainst : GoodIn wsX7_reason (wsV RX7 162 RX7 yX7_reasonAgainst wsX7_reasonAgainst) := goodIn_app (goodIn_of _ (by decide +kernel)) ggX7_reason_X7_reasonAgainst
theorem dX7_reason_0 : decode cX7_reason 0 = .ok (.aload_n 0, 1) := by decide +kernel
theorem dX7_reason_1 : decode cX7_reason 1 = .ok (.iload_n 1, 1) := by decide +kernel
theorem dX7_reason_2 : decode cX7_reason 2 = .ok (.invokevirtual 110, 3) := by decide +kernel
theorem dX7_reason_5 : decode cX7_reason 5 = .ok (.astore 4, 2) := by decide +kernel
theorem dX7_reason_7 : decode cX7_reason 7 = .ok (.iload_n 2, 1) := by decide +kernel
theorem dX7_reason_8 : decode cX7_reason 8 = .ok (.iload_n 3, 1) := by decide +kernel
theorem dX7_reason_9 : decode cX7_reason 9 = .ok (.invokestatic 58, 3) := by decide +kernel
theorem dX7_reason_12 : decode cX7_reason 12 = .ok (.aload_n 0, 1) := by decide +kernel
theorem dX7_reason_13 : decode cX7_reason 13 = .ok (.aload 4, 2) := by decide +kernel
theorem dX7_reason_15 : decode cX7_reason 15 = .ok (.iload_n 2, 1) := by decide +kernel
theorem dX7_reason_16 : decode cX7_reason 16 = .ok (.iload_n 3, 1) := by decide +kernel
theorem dX7_reason_17 : decode cX7_reason 17 = .ok (.invokevirtual 162, 3) := by decide +kernel
theorem dX7_reason_20 : decode cX7_reason 20 = .ok (.ireturn, 1) := by decide +kernel
set_option maxRecDepth 20000 in
theorem ggX7_run_X7_neededMacro : GoodIn wsX7_run wsX7_neededMacro := goodIn_ca (goodIn_r _ [10, 11, 12, 13, 14, 15, 9, 16, 17, 18, 19, 20, 21, 22, 23, 24, 25, 26, 27, 28, 29, 30, 31, 32, 33, 34, 35, 36, 37, 38, 39, 40, 41, 208, 209, 210, 211, 212, 213, 214, 215, 216, 217, 218, 219, 220, 221, 222, 223] (by decide +kernel) (by decide +kernel)) (goodIn_sub (fun _ h => List.mem_cons_of_mem _ (List.mem_append_left _ (List.mem_append_right _ h))) (by decide +kernel))
set_option maxRecDepth 20000 in
theorem gX7_run_X7_neededMacro : GoodIn wsX7_run (wsV RX7 110 RX7 yX7_neededMacro wsX7_neededMacro) := goodIn_app (goodIn_of _ (by decide +kernel)) ggX7_run_X7_neededMacro
set_option maxRecDepth 20000 in
theorem ggX7_run_X7_needCell : GoodIn wsX7_run wsX7_needCell := goodIn_ca (goodIn_r _ [44, 11, 12, 45, 46, 9, 47] (by decide +kernel) (by decide +kernel)) (goodIn_sub (fun _ h => List.mem_cons_of_mem _ (List.mem_append_left _ (List.mem_append_right _ h))) (by decide +kernel))
set_option maxRecDepth 20000 in
theorem gX7_run_X7_needCell : GoodIn wsX7_run (va_wsS RX7 58 yX7_needCell wsX7_needCell) := goodIn_app (goodIn_of _ (by decide +kernel)) ggX7_run_X7_needCell
set_option maxRecDepth 20000 in
theorem ggX7_run_X7_reasonAgainst : GoodIn wsX7_run wsX7_reasonAgainst := goodIn_ca (goodIn_r _ [51, 52, 53, 54, 55, 56, 57, 58, 59, 60, 61, 62, 63, 64, 65, 9, 66, 67, 68, 69, 70, 71, 72, 73, 20, 21, 22, 23, 24, 74, 75, 76, 77, 78, 79, 26, 27, 28, 29, 30, 31, 32, 33, 34, 35, 36, 37, 38, 39, 40, 41, 45, 46, 47, 80, 81, 82, 83, 84, 85, 86, 87, 88, 89, 90, 91, 92, 93, 94, 95, 96, 97, 98, 99, 100, 101, 102, 103, 104, 105, 106, 107, 108, 109, 110, 111, 112, 113, 114, 115, 116, 208, 209, 210, 211, 212, 213, 214, 215, 216, 217, 218, 219, 220, 224, 225, 226, 227, 228, 229, 230, 231, 221, 222, 223, 232, 233, 234, 235] (by decide +kernel) (by decide +kernel)) (goodIn_sub (fun _ h => List.mem_cons_of_mem _ (List.mem_append_right _ h)) (by decide +kernel))
set_option maxRecDepth 20000 in
theorem gX7_run_X7_reasonAgainst : GoodIn wsX7_run (wsV RX7 162 RX7 yX7_reasonAgainst wsX7_reasonAgainst) := goodIn_app (goodIn_of _ (by decide +kernel)) ggX7_run_X7_reasonAgainst
set_option maxRecDepth 20000 in
theorem ggX7_run_X7_beginAction : GoodIn wsX7_run wsX7_beginAction := goodIn_r _ [120, 121, 122, 123, 124, 125, 126, 127, 128, 129, 130, 131, 132, 133, 134, 135, 136, 137, 138, 139, 140, 141, 142, 143, 144, 145, 146, 147, 148, 149, 150, 151, 152, 153, 61, 62, 63, 208, 209, 210, 211, 212, 213, 214, 215, 216, 217, 218, 219, 220, 236, 237, 238, 239, 240] (by decide +kernel) (by decide +kernel)
set_option maxRecDepth 20000 in
theorem gX7_run_X7_beginAction : GoodIn wsX7_run (wsV RX7 173 RX7 yX7_beginAction wsX7_beginAction) := goodIn_app (goodIn_of _ (by decide +kernel)) ggX7_run_X7_beginAction
set_option maxRecDepth 20000 in
theorem ggX7_run_X7_makeSteps : GoodIn wsX7_run wsX7_makeSteps := goodIn_ca (goodIn_r _ [157, 64, 65, 9, 66, 67, 68, 69, 70, 71, 72, 73, 20, 21, 22, 23, 24, 74, 75, 76, 77, 78, 79, 26, 27, 28, 29, 30, 31, 32, 33, 34, 35, 36, 37, 38, 39, 40, 41, 158, 159, 160, 161, 53, 121, 122, 162, 95, 96, 97, 57, 98, 59, 99, 100, 101, 102, 103, 104, 105, 106, 107, 108, 109, 123, 124, 125, 126, 127, 128, 163, 164, 165, 166, 133, 167, 168, 169, 170, 135, 136, 137, 113, 114, 115, 116, 224, 225, 226, 227, 229, 230, 231, 221, 222, 223, 208, 209, 210, 211, 212, 213, 214, 215, 216, 217, 218, 219, 220, 228, 236, 237, 238, 239, 240] (by decide +kernel) (by decide +kernel)) (goodIn_sub (fun _ h => List.mem_cons_of_mem _ (List.mem_append_right _ h)) (by decide +kernel))
set_option maxRecDepth 20000 in
theorem gX7_run_X7_makeSteps : GoodIn wsX7_run (wsV RX7 176 RX7 yX7_makeSteps wsX7_makeSteps) := goodIn_app (goodIn_of _ (by decide +kernel)) ggX7_run_X7_makeSteps
set_option maxRecDepth 20000 in
theorem ggX7_run_X7_runRules : GoodIn wsX7_run wsX7_runRules := goodIn_ca (goodIn_r _ [174, 162, 122, 121, 123, 124, 125, 126, 127, 128, 175, 176, 177, 178, 133, 179, 180, 181, 9, 182, 5, 183, 184, 185, 186, 187, 188, 189, 19, 20, 21, 22, 23, 24, 25, 26, 27, 28, 29, 30, 31, 32, 33, 34, 35, 36, 37, 38, 39, 40, 41, 190, 87, 88, 89, 90, 91, 92, 93, 94, 191, 192, 193, 194, 48, 49, 50, 51, 52, 53, 54, 55, 56, 57, 58, 59, 60, 61, 62, 63, 64, 65, 66, 67, 68, 69, 70, 71, 72, 73, 74, 75, 76, 77, 78, 79, 45, 46, 47, 80, 81, 82, 83, 84, 85, 86, 95, 96, 97, 98, 99, 100, 101, 102, 103, 104, 105, 106, 107, 108, 109, 110, 111, 112, 113, 114, 115, 116, 154, 155, 156, 157, 158, 159, 160, 161, 163, 164, 165, 166, 167, 168, 169, 170, 135, 136, 137, 208, 209, 210, 211, 212, 213, 214, 215, 216, 217, 218, 219, 220, 236, 237, 238, 239, 240, 241, 242, 243, 229, 230, 231, 221, 222, 223, 232, 233, 234, 235, 224, 225, 226, 227, 228] (by decide +kernel) (by decide +kernel)) (goodIn_sub (fun _ h => List.mem_cons_of_mem _ (List.mem_append_right _ h)) (by decide +kernel))
set_option maxRecDepth 20000 in
theorem gX7_run_X7_runRules : GoodIn wsX7_run (wsV RX7 180 RX7 yX7_runRules wsX7_runRules) := goodIn_app (goodIn_of _ (by decide +kernel)) ggX7_run_X7_runRules
set_option maxRecDepth 20000 in
theorem ggX7_run_X7_endAction : GoodIn wsX7_run wsX7_endAction := goodIn_ca (goodIn_r _ [198, 121, 122, 199, 123, 124, 125, 126, 127, 128, 200, 201, 202, 203, 204, 205, 206, 207, 61, 62, 63, 208, 209, 210, 211, 212, 213, 214, 215, 216, 217, 218, 219, 220, 236, 237, 238, 239, 240, 244, 245] (by decide +kernel) (by decide +kernel)) (goodIn_sub (fun _ h => List.mem_cons_of_mem _ (List.mem_append_right _ h)) (by decide +kernel))
set_option maxRecDepth 20000 in
theorem gX7_run_X7_endAction : GoodIn wsX7_run (wsV RX7 183 RX7 yX7_endAction wsX7_endAction) := goodIn_app (goodIn_of _ (by decide +kernel)) ggX7_run_X7_endAction
theorem dX7_run_0 : decode cX7_run 0 = .ok (.aload_n 0, 1) := by decide +kernel
theorem dX7_run_1 : decode cX7_run 1 = .ok (.iload_n 1, 1) := by decide +kernel
theorem dX7_run_2 : decode cX7_run 2 = .ok (.invokevirtual 110, 3) := by decide +kernel
theorem dX7_run_5 : decode cX7_run 5 = .ok (.astore 4, 2) := by decide +kernel
theorem dX7_run_7 : decode cX7_run 7 = .ok (.iload_n 2, 1) := by decide +kernel
theorem dX7_run_8 : decode cX7_run 8 = .ok (.iload_n 3, 1) := by decide +kernel
theorem dX7_run_9 : decode cX7_run 9 = .ok (.invokestatic 58, 3) := by decide +kernel
theorem dX7_run_12 : decode cX7_run 12 = .ok (.iload_n 1, 1) := by decide +kernel
theorem dX7_run_13 : decode cX7_run 13 = .ok (.aload_n 0, 1) := by decide +kernel
theorem dX7_run_14 : decode cX7_run 14 = .ok (.getfield 54, 3) := by decide +kernel
theorem dX7_run_17 : decode cX7_run 17 = .ok (.if_icmp .ne 13, 3) := by decide +kernel
theorem dX7_run_20 : decode cX7_run 20 = .ok (.new 87, 3) := by decide +kernel
theorem dX7_run_23 : decode cX7_run 23 = .ok (.dup, 1) := by decide +kernel
theorem dX7_run_24 : decode cX7_run 24 = .ok (.ldc 166, 2) := by decide +kernel
theorem dX7_run_26 : decode cX7_run 26 = .ok (.invokespecial 91, 3) := by decide +kernel
theorem dX7_run_29 : decode cX7_run 29 = .ok (.athrow, 1) := by decide +kernel
theorem dX7_run_30 : decode cX7_run 30 = .ok (.aload_n 0, 1) := by decide +kernel
theorem dX7_run_31 : decode cX7_run 31 = .ok (.aload 4, 2) := by decide +kernel
theorem dX7_run_33 : decode cX7_run 33 = .ok (.iload_n 2, 1) := by decide +kernel
theorem dX7_run_34 : decode cX7_run 34 = .ok (.iload_n 3, 1) := by decide +kernel
theorem dX7_run_35 : decode cX7_run 35 = .ok (.invokevirtual 162, 3) := by decide +kernel
theorem dX7_run_38 : decode cX7_run 38 = .ok (.bipush 45, 2) := by decide +kernel
theorem dX7_run_40 : decode cX7_run 40 = .ok (.if_icmp .eq 13, 3) := by decide +kernel
theorem dX7_run_43 : decode cX7_run 43 = .ok (.new 168, 3) := by decide +kernel
theorem dX7_run_46 : decode cX7_run 46 = .ok (.dup, 1) := by decide +kernel
theorem dX7_run_47 : decode cX7_run 47 = .ok (.ldc 170, 2) := by decide +kernel
theorem dX7_run_49 : decode cX7_run 49 = .ok (.invokespecial 172, 3) := by decide +kernel
theorem dX7_run_52 : decode cX7_run 52 = .ok (.athrow, 1) := by decide +kernel
theorem dX7_run_53 : decode cX7_run 53 = .ok (.aload_n 0, 1) := by decide +kernel
theorem dX7_run_54 : decode cX7_run 54 = .ok (.invokevirtual 173, 3) := by decide +kernel
theorem dX7_run_57 : decode cX7_run 57 = .ok (.aload_n 0, 1) := by decide +kernel
theorem dX7_run_58 : decode cX7_run 58 = .ok (.aload 4, 2) := by decide +kernel
theorem dX7_run_60 : decode cX7_run 60 = .ok (.iload_n 2, 1) := by decide +kernel
theorem dX7_run_61 : decode cX7_run 61 = .ok (.iload_n 3, 1) := by decide +kernel
theorem dX7_run_62 : decode cX7_run 62 = .ok (.iconst 0, 1) := by decide +kernel
theorem dX7_run_63 : decode cX7_run 63 = .ok (.invokevirtual 176, 3) := by decide +kernel
theorem dX7_run_66 : decode cX7_run 66 = .ok (.aload_n 0, 1) := by decide +kernel
theorem dX7_run_67 : decode cX7_run 67 = .ok (.invokevirtual 180, 3) := by decide +kernel
theorem dX7_run_70 : decode cX7_run 70 = .ok (.aload_n 0, 1) := by decide +kernel
theorem dX7_run_71 : decode cX7_run 71 = .ok (.invokevirtual 183, 3) := by decide +kernel
theorem dX7_run_74 : decode cX7_run 74 = .ok (.ireturn, 1) := by decide +kernel
set_option maxRecDepth 20000 in
theorem ggX7_addRule_X7_needCell : GoodIn wsX7_addRule wsX7_needCell := goodIn_ca (goodIn_r _ [15, 16, 17, 18, 19, 14, 20] (by decide +kernel) (by decide +kernel)) (goodIn_sub (fun _ h => List.mem_cons_of_mem _ (List.mem_append_right _ h)) (by decide +kernel))
set_option maxRecDepth 20000 in
theorem gX7_addRule_X7_needCell : GoodIn wsX7_addRule (va_wsS RX7 58 yX7_needCell wsX7_needCell) := goodIn_app (goodIn_of _ (by decide +kernel)) ggX7_addRule_X7_needCell
set_option maxRecDepth 20000 in
theorem ggX7_addRule_X7_neededMacro : GoodIn wsX7_addRule wsX7_neededMacro := goodIn_ca (goodIn_r _ [24, 16, 17, 25, 26, 27, 14, 28, 29, 30, 31, 32, 33, 34, 35, 36, 37, 38, 39, 40, 41, 42, 43, 44, 45, 46, 47, 48, 49, 50, 51, 52, 53, 130, 131, 132, 133, 134, 135, 136, 137, 138, 139, 140, 141, 142, 150, 151, 152] (by decide +kernel) (by decide +kernel)) (goodIn_sub (fun _ h => List.mem_cons_of_mem _ (List.mem_append_right _ h)) (by decide +kernel))
set_option maxRecDepth 20000 in
theorem gX7_addRule_X7_neededMacro : GoodIn wsX7_addRule (wsV RX7 110 RX7 yX7_neededMacro wsX7_neededMacro) := goodIn_app (goodIn_of _ (by decide +kernel)) ggX7_addRule_X7_neededMacro
set_option maxRecDepth 20000 in
theorem ggX7_addRule_X7_isRange : GoodIn wsX7_addRule wsX7_isRange := goodIn_r _ [56] (by decide +kernel) (by decide +kernel)
set_option maxRecDepth 20000 in
theorem gX7_addRule_X7_isRange : GoodIn wsX7_addRule (va_wsS RX7 131 yX7_isRange wsX7_isRange) := goodIn_app (goodIn_of _ (by decide +kernel)) ggX7_addRule_X7_isRange
set_option maxRecDepth 20000 in
theorem ggX7_addRule_X7_isRank : GoodIn wsX7_addRule wsX7_isRank := goodIn_r _ [59] (by decide +kernel) (by decide +kernel)
set_option maxRecDepth 20000 in
theorem gX7_addRule_X7_isRank : GoodIn wsX7_addRule (va_wsS RX7 186 yX7_isRank wsX7_isRank) := goodIn_app (goodIn_of _ (by decide +kernel)) ggX7_addRule_X7_isRank
set_option maxRecDepth 20000 in
theorem ggX7_addRule_Jx4a65c_size_8abf5 : GoodIn wsX7_addRule wsJx4a65c_size_8abf5 := goodIn_r _ [35, 36, 150, 151, 152] (by decide +kernel) (by decide +kernel)
set_option maxRecDepth 20000 in
theorem gX7_addRule_Jx4a65c_size_8abf5 : GoodIn wsX7_addRule (wsV RX7 95 RJx4a65c yJx4a65c_size_8abf5 wsJx4a65c_size_8abf5) := goodIn_app (goodIn_of _ (by decide +kernel)) ggX7_addRule_Jx4a65c_size_8abf5
set_option maxRecDepth 20000 in
theorem ggX7_addRule_X4_init : GoodIn wsX7_addRule wsX4_init := goodIn_r _ [62, 63, 64, 65, 66, 67, 68, 69, 146, 147, 148, 149] (by decide +kernel) (by decide +kernel)
set_option maxRecDepth 20000 in
theorem gX7_addRule_X4_init : GoodIn wsX7_addRule (wsX4_init) := ggX7_addRule_X4_init
set_option maxRecDepth 20000 in
theorem ggX7_addRule_X5_init : GoodIn wsX7_addRule wsX5_init := goodIn_r _ [72, 73, 64, 65, 74, 75, 76, 143, 144, 145] (by decide +kernel) (by decide +kernel)
set_option maxRecDepth 20000 in
theorem gX7_addRule_X5_init : GoodIn wsX7_addRule (wsX5_init) := ggX7_addRule_X5_init
set_option maxRecDepth 20000 in
theorem ggX7_addRule_Jx4a65c_add_9ea2d : GoodIn wsX7_addRule wsJx4a65c_add_9ea2d := goodIn_r _ [80, 81, 82, 53, 36, 83, 84, 85, 34, 86, 87, 88, 89, 90, 91, 92, 93, 94, 95, 96, 97, 98, 99, 100, 101, 102, 103, 104, 105, 106, 107, 108, 109, 110, 111, 112, 113, 114, 115, 116, 117, 118, 119, 120, 121, 122, 123, 124, 125, 126, 127, 128, 129, 150, 151, 152] (by decide +kernel) (by decide +kernel)
set_option maxRecDepth 20000 in
theorem gX7_addRule_Jx4a65c_add_9ea2d : GoodIn wsX7_addRule (wsV RX7 106 RJx4a65c yJx4a65c_add_9ea2d wsJx4a65c_add_9ea2d) := goodIn_app (goodIn_of _ (by decide +kernel)) ggX7_addRule_Jx4a65c_add_9ea2d
theorem dX7_addRule_0 : decode cX7_addRule 0 = .ok (.iload_n 1, 1) := by decide +kernel
theorem dX7_addRule_1 : decode cX7_addRule 1 = .ok (.iload_n 2, 1) := by decide +kernel
theorem dX7_addRule_2 : decode cX7_addRule 2 = .ok (.invokestatic 58, 3) := by decide +kernel
theorem dX7_addRule_5 : decode cX7_addRule 5 = .ok (.iload_n 3, 1) := by decide +kernel
theorem dX7_addRule_6 : decode cX7_addRule 6 = .ok (.iload 4, 2) := by decide +kernel
theorem dX7_addRule_8 : decode cX7_addRule 8 = .ok (.invokestatic 58, 3) := by decide +kernel
theorem dX7_addRule_11 : decode cX7_addRule 11 = .ok (.aload_n 0, 1) := by decide +kernel
theorem dX7_addRule_12 : decode cX7_addRule 12 = .ok (.iload 5, 2) := by decide +kernel
theorem dX7_addRule_14 : decode cX7_addRule 14 = .ok (.invokevirtual 110, 3) := by decide +kernel
theorem dX7_addRule_17 : decode cX7_addRule 17 = .ok (.astore 7, 2) := by decide +kernel
theorem dX7_addRule_19 : decode cX7_addRule 19 = .ok (.iload_n 1, 1) := by decide +kernel
theorem dX7_addRule_20 : decode cX7_addRule 20 = .ok (.iload_n 2, 1) := by decide +kernel
theorem dX7_addRule_21 : decode cX7_addRule 21 = .ok (.iload_n 3, 1) := by decide +kernel
theorem dX7_addRule_22 : decode cX7_addRule 22 = .ok (.iload 4, 2) := by decide +kernel
theorem dX7_addRule_24 : decode cX7_addRule 24 = .ok (.invokestatic 131, 3) := by decide +kernel
theorem dX7_addRule_27 : decode cX7_addRule 27 = .ok (.ifCond .eq 11, 3) := by decide +kernel
theorem dX7_addRule_30 : decode cX7_addRule 30 = .ok (.iload 6, 2) := by decide +kernel
theorem dX7_addRule_32 : decode cX7_addRule 32 = .ok (.invokestatic 186, 3) := by decide +kernel
theorem dX7_addRule_35 : decode cX7_addRule 35 = .ok (.ifCond .ne 13, 3) := by decide +kernel
theorem dX7_addRule_38 : decode cX7_addRule 38 = .ok (.new 66, 3) := by decide +kernel
theorem dX7_addRule_41 : decode cX7_addRule 41 = .ok (.dup, 1) := by decide +kernel
theorem dX7_addRule_42 : decode cX7_addRule 42 = .ok (.ldc 189, 2) := by decide +kernel
theorem dX7_addRule_44 : decode cX7_addRule 44 = .ok (.invokespecial 70, 3) := by decide +kernel
theorem dX7_addRule_47 : decode cX7_addRule 47 = .ok (.athrow, 1) := by decide +kernel
theorem dX7_addRule_48 : decode cX7_addRule 48 = .ok (.aload_n 0, 1) := by decide +kernel
theorem dX7_addRule_49 : decode cX7_addRule 49 = .ok (.getfield 26, 3) := by decide +kernel
theorem dX7_addRule_52 : decode cX7_addRule 52 = .ok (.invokevirtual 95, 3) := by decide +kernel
theorem dX7_addRule_55 : decode cX7_addRule 55 = .ok (.istore 8, 2) := by decide +kernel
theorem dX7_addRule_57 : decode cX7_addRule 57 = .ok (.iload 8, 2) := by decide +kernel
theorem dX7_addRule_59 : decode cX7_addRule 59 = .ok (.bipush 6, 2) := by decide +kernel
theorem dX7_addRule_61 : decode cX7_addRule 61 = .ok (.if_icmp .lt 13, 3) := by decide +kernel
theorem dX7_addRule_64 : decode cX7_addRule 64 = .ok (.new 87, 3) := by decide +kernel
theorem dX7_addRule_67 : decode cX7_addRule 67 = .ok (.dup, 1) := by decide +kernel
theorem dX7_addRule_68 : decode cX7_addRule 68 = .ok (.ldc 191, 2) := by decide +kernel
theorem dX7_addRule_70 : decode cX7_addRule 70 = .ok (.invokespecial 91, 3) := by decide +kernel
theorem dX7_addRule_73 : decode cX7_addRule 73 = .ok (.athrow, 1) := by decide +kernel
theorem dX7_addRule_74 : decode cX7_addRule 74 = .ok (.aload_n 0, 1) := by decide +kernel
theorem dX7_addRule_75 : decode cX7_addRule 75 = .ok (.getfield 26, 3) := by decide +kernel
theorem dX7_addRule_78 : decode cX7_addRule 78 = .ok (.new 193, 3) := by decide +kernel
theorem dX7_addRule_81 : decode cX7_addRule 81 = .ok (.dup, 1) := by decide +kernel
theorem dX7_addRule_82 : decode cX7_addRule 82 = .ok (.new 142, 3) := by decide +kernel
theorem dX7_addRule_85 : decode cX7_addRule 85 = .ok (.dup, 1) := by decide +kernel
theorem dX7_addRule_86 : decode cX7_addRule 86 = .ok (.iload_n 1, 1) := by decide +kernel
theorem dX7_addRule_87 : decode cX7_addRule 87 = .ok (.iload_n 2, 1) := by decide +kernel
theorem dX7_addRule_88 : decode cX7_addRule 88 = .ok (.iload_n 3, 1) := by decide +kernel
theorem dX7_addRule_89 : decode cX7_addRule 89 = .ok (.iload 4, 2) := by decide +kernel
theorem dX7_addRule_91 : decode cX7_addRule 91 = .ok (.invokespecial 144, 3) := by decide +kernel
theorem dX7_addRule_94 : decode cX7_addRule 94 = .ok (.aload 7, 2) := by decide +kernel
theorem dX7_addRule_96 : decode cX7_addRule 96 = .ok (.iload 6, 2) := by decide +kernel
theorem dX7_addRule_98 : decode cX7_addRule 98 = .ok (.invokespecial 195, 3) := by decide +kernel
theorem dX7_addRule_101 : decode cX7_addRule 101 = .ok (.invokevirtual 106, 3) := by decide +kernel
theorem dX7_addRule_104 : decode cX7_addRule 104 = .ok (.pop, 1) := by decide +kernel
theorem dX7_addRule_105 : decode cX7_addRule 105 = .ok (.iload 8, 2) := by decide +kernel
theorem dX7_addRule_107 : decode cX7_addRule 107 = .ok (.ireturn, 1) := by decide +kernel
set_option maxRecDepth 20000 in
theorem ggX7_setRank_X7_ruleAt : GoodIn wsX7_setRank wsX7_ruleAt := goodIn_r _ [9, 10, 11, 12, 13, 14, 15, 16, 17, 18, 19, 20, 21, 22, 23, 24, 25, 26, 27, 28, 29, 30, 31, 32, 33, 34, 41, 42, 43, 44, 45, 46, 47, 48, 49, 50, 51, 52, 53, 54, 55, 56] (by decide +kernel) (by decide +kernel)
set_option maxRecDepth 20000 in
theorem gX7_setRank_X7_ruleAt : GoodIn wsX7_setRank (wsV RX7 198 RX7 yX7_ruleAt wsX7_ruleAt) := goodIn_app (goodIn_of _ (by decide +kernel)) ggX7_setRank_X7_ruleAt
set_option maxRecDepth 20000 in
theorem ggX7_setRank_X7_isRank : GoodIn wsX7_setRank wsX7_isRank := goodIn_r _ [37] (by decide +kernel) (by decide +kernel)
set_option maxRecDepth 20000 in
theorem gX7_setRank_X7_isRank : GoodIn wsX7_setRank (va_wsS RX7 186 yX7_isRank wsX7_isRank) := goodIn_app (goodIn_of _ (by decide +kernel)) ggX7_setRank_X7_isRank
theorem dX7_setRank_0 : decode cX7_setRank 0 = .ok (.aload_n 0, 1) := by decide +kernel
theorem dX7_setRank_1 : decode cX7_setRank 1 = .ok (.iload_n 1, 1) := by decide +kernel
theorem dX7_setRank_2 : decode cX7_setRank 2 = .ok (.invokevirtual 198, 3) := by decide +kernel
theorem dX7_setRank_5 : decode cX7_setRank 5 = .ok (.astore_n 3, 1) := by decide +kernel
theorem dX7_setRank_6 : decode cX7_setRank 6 = .ok (.aload_n 3, 1) := by decide +kernel
theorem dX7_setRank_7 : decode cX7_setRank 7 = .ok (.ifnonnull 13, 3) := by decide +kernel
theorem dX7_setRank_10 : decode cX7_setRank 10 = .ok (.new 202, 3) := by decide +kernel
theorem dX7_setRank_13 : decode cX7_setRank 13 = .ok (.dup, 1) := by decide +kernel
theorem dX7_setRank_14 : decode cX7_setRank 14 = .ok (.ldc 204, 2) := by decide +kernel
theorem dX7_setRank_16 : decode cX7_setRank 16 = .ok (.invokespecial 206, 3) := by decide +kernel
theorem dX7_setRank_19 : decode cX7_setRank 19 = .ok (.athrow, 1) := by decide +kernel
theorem dX7_setRank_20 : decode cX7_setRank 20 = .ok (.iload_n 2, 1) := by decide +kernel
theorem dX7_setRank_21 : decode cX7_setRank 21 = .ok (.invokestatic 186, 3) := by decide +kernel
theorem dX7_setRank_24 : decode cX7_setRank 24 = .ok (.ifCond .ne 13, 3) := by decide +kernel
theorem dX7_setRank_27 : decode cX7_setRank 27 = .ok (.new 66, 3) := by decide +kernel
theorem dX7_setRank_30 : decode cX7_setRank 30 = .ok (.dup, 1) := by decide +kernel
theorem dX7_setRank_31 : decode cX7_setRank 31 = .ok (.ldc 207, 2) := by decide +kernel
theorem dX7_setRank_33 : decode cX7_setRank 33 = .ok (.invokespecial 70, 3) := by decide +kernel
theorem dX7_setRank_36 : decode cX7_setRank 36 = .ok (.athrow, 1) := by decide +kernel
theorem dX7_setRank_37 : decode cX7_setRank 37 = .ok (.aload_n 3, 1) := by decide +kernel
theorem dX7_setRank_38 : decode cX7_setRank 38 = .ok (.getfield 209, 3) := by decide +kernel
theorem dX7_setRank_41 : decode cX7_setRank 41 = .ok (.istore 4, 2) := by decide +kernel
theorem dX7_setRank_43 : decode cX7_setRank 43 = .ok (.aload_n 3, 1) := by decide +kernel
theorem dX7_setRank_44 : decode cX7_setRank 44 = .ok (.iload_n 2, 1) := by decide +kernel
theorem dX7_setRank_45 : decode cX7_setRank 45 = .ok (.putfield 209, 3) := by decide +kernel
theorem dX7_setRank_48 : decode cX7_setRank 48 = .ok (.iload 4, 2) := by decide +kernel
theorem dX7_setRank_50 : decode cX7_setRank 50 = .ok (.ireturn, 1) := by decide +kernel
set_option maxRecDepth 20000 in
theorem ggX7_rule_X7_needCell : GoodIn wsX7_rule wsX7_needCell := goodIn_ca (goodIn_r _ [6, 7, 8, 9, 10, 5, 11] (by decide +kernel) (by decide +kernel)) (goodIn_sub (fun _ h => List.mem_cons_of_mem _ (List.mem_append_right _ h)) (by decide +kernel))
set_option maxRecDepth 20000 in
theorem gX7_rule_X7_needCell : GoodIn wsX7_rule (va_wsS RX7 58 yX7_needCell wsX7_needCell) := goodIn_app (goodIn_of _ (by decide +kernel)) ggX7_rule_X7_needCell
set_option maxRecDepth 20000 in
theorem ggX7_rule_X7_ruleNumberFor : GoodIn wsX7_rule wsX7_ruleNumberFor := goodIn_r _ [15, 16, 17, 18, 19, 20, 21, 22, 23, 24, 25, 26, 27, 28, 29, 30, 31, 32, 33, 34, 35, 36, 37, 38, 39, 40, 41, 42, 43, 44, 45, 46, 47, 48, 49, 50, 51, 52, 53, 54, 55, 56, 57, 58, 59, 60, 61, 62, 63, 64, 65, 66, 67, 68, 69, 70, 71, 72] (by decide +kernel) (by decide +kernel)
set_option maxRecDepth 20000 in
theorem gX7_rule_X7_ruleNumberFor : GoodIn wsX7_rule (wsV RX7 212 RX7 yX7_ruleNumberFor wsX7_ruleNumberFor) := goodIn_app (goodIn_of _ (by decide +kernel)) ggX7_rule_X7_ruleNumberFor
theorem dX7_rule_0 : decode cX7_rule 0 = .ok (.iload_n 1, 1) := by decide +kernel
theorem dX7_rule_1 : decode cX7_rule 1 = .ok (.iload_n 2, 1) := by decide +kernel
theorem dX7_rule_2 : decode cX7_rule 2 = .ok (.invokestatic 58, 3) := by decide +kernel
theorem dX7_rule_5 : decode cX7_rule 5 = .ok (.aload_n 0, 1) := by decide +kernel
theorem dX7_rule_6 : decode cX7_rule 6 = .ok (.iload_n 1, 1) := by decide +kernel
theorem dX7_rule_7 : decode cX7_rule 7 = .ok (.iload_n 2, 1) := by decide +kernel
theorem dX7_rule_8 : decode cX7_rule 8 = .ok (.invokevirtual 212, 3) := by decide +kernel
theorem dX7_rule_11 : decode cX7_rule 11 = .ok (.istore_n 3, 1) := by decide +kernel
theorem dX7_rule_12 : decode cX7_rule 12 = .ok (.iload_n 3, 1) := by decide +kernel
theorem dX7_rule_13 : decode cX7_rule 13 = .ok (.iconst (-1), 1) := by decide +kernel
theorem dX7_rule_14 : decode cX7_rule 14 = .ok (.if_icmp .ne 13, 3) := by decide +kernel
theorem dX7_rule_17 : decode cX7_rule 17 = .ok (.new 215, 3) := by decide +kernel
theorem dX7_rule_20 : decode cX7_rule 20 = .ok (.dup, 1) := by decide +kernel
theorem dX7_rule_21 : decode cX7_rule 21 = .ok (.ldc 217, 2) := by decide +kernel
theorem dX7_rule_23 : decode cX7_rule 23 = .ok (.invokespecial 219, 3) := by decide +kernel
theorem dX7_rule_26 : decode cX7_rule 26 = .ok (.athrow, 1) := by decide +kernel
theorem dX7_rule_27 : decode cX7_rule 27 = .ok (.iload_n 3, 1) := by decide +kernel
theorem dX7_rule_28 : decode cX7_rule 28 = .ok (.ireturn, 1) := by decide +kernel
theorem dX7_skipped_0 : decode cX7_skipped 0 = .ok (.aload_n 0, 1) := by decide +kernel
theorem dX7_skipped_1 : decode cX7_skipped 1 = .ok (.getfield 220, 3) := by decide +kernel
theorem dX7_skipped_4 : decode cX7_skipped 4 = .ok (.ireturn, 1) := by decide +kernel
set_option maxRecDepth 20000 in
theorem ggX7_undo_X2_takeLatest : GoodIn wsX7_undo wsX2_takeLatest := goodIn_ca (goodIn_r _ [10, 11, 12, 56, 57] (by decide +kernel) (by decide +kernel)) (goodIn_sub (fun _ h => List.mem_cons_of_mem _ (List.mem_append_right _ h)) (by decide +kernel))
set_option maxRecDepth 20000 in
theorem gX7_undo_X2_takeLatest : GoodIn wsX7_undo (wsV RX7 223 RX2 yX2_takeLatest wsX2_takeLatest) := goodIn_app (goodIn_of _ (by decide +kernel)) ggX7_undo_X2_takeLatest
set_option maxRecDepth 20000 in
theorem ggX7_undo_X0_size : GoodIn wsX7_undo wsX0_size := goodIn_r _ [17, 18, 58, 59, 60, 61, 62] (by decide +kernel) (by decide +kernel)
set_option maxRecDepth 20000 in
theorem gX7_undo_X0_size : GoodIn wsX7_undo (wsV RX7 228 RX0 yX0_size wsX0_size) := goodIn_app (goodIn_of _ (by decide +kernel)) ggX7_undo_X0_size
set_option maxRecDepth 20000 in
theorem ggX7_undo_X0_placeAt : GoodIn wsX7_undo wsX0_placeAt := goodIn_ca (goodIn_r _ [22, 18, 23, 58, 59, 60, 61, 62] (by decide +kernel) (by decide +kernel)) (goodIn_sub (fun _ h => List.mem_cons_of_mem _ (List.mem_append_right _ h)) (by decide +kernel))
set_option maxRecDepth 20000 in
theorem gX7_undo_X0_placeAt : GoodIn wsX7_undo (wsV RX7 229 RX0 yX0_placeAt wsX0_placeAt) := goodIn_app (goodIn_of _ (by decide +kernel)) ggX7_undo_X0_placeAt
set_option maxRecDepth 20000 in
theorem ggX7_undo_X0_beforeAt : GoodIn wsX7_undo wsX0_beforeAt := goodIn_ca (goodIn_r _ [27, 18, 28, 58, 59, 60, 61, 62] (by decide +kernel) (by decide +kernel)) (goodIn_sub (fun _ h => List.mem_cons_of_mem _ (List.mem_append_right _ h)) (by decide +kernel))
set_option maxRecDepth 20000 in
theorem gX7_undo_X0_beforeAt : GoodIn wsX7_undo (wsV RX7 232 RX0 yX0_beforeAt wsX0_beforeAt) := goodIn_app (goodIn_of _ (by decide +kernel)) ggX7_undo_X0_beforeAt
set_option maxRecDepth 20000 in
theorem ggX7_undo_X1_put : GoodIn wsX7_undo wsX1_put := goodIn_ca (goodIn_r _ [33, 34, 35, 36, 37, 32, 38, 63] (by decide +kernel) (by decide +kernel)) (goodIn_sub (fun _ h => List.mem_cons_of_mem _ (List.mem_append_right _ h)) (by decide +kernel))
set_option maxRecDepth 20000 in
theorem gX7_undo_X1_put : GoodIn wsX7_undo (wsV RX7 235 RX1 yX1_put wsX1_put) := goodIn_app (goodIn_of _ (by decide +kernel)) ggX7_undo_X1_put
set_option maxRecDepth 20000 in
theorem ggX7_undo_X0_cutTo : GoodIn wsX7_undo wsX0_cutTo := goodIn_r _ [42, 18, 58, 59, 60, 61, 62] (by decide +kernel) (by decide +kernel)
set_option maxRecDepth 20000 in
theorem gX7_undo_X0_cutTo : GoodIn wsX7_undo (wsV RX7 238 RX0 yX0_cutTo wsX0_cutTo) := goodIn_app (goodIn_of _ (by decide +kernel)) ggX7_undo_X0_cutTo
theorem dX7_undo_0 : decode cX7_undo 0 = .ok (.aload_n 0, 1) := by decide +kernel
theorem dX7_undo_1 : decode cX7_undo 1 = .ok (.getfield 39, 3) := by decide +kernel
theorem dX7_undo_4 : decode cX7_undo 4 = .ok (.invokevirtual 223, 3) := by decide +kernel
theorem dX7_undo_7 : decode cX7_undo 7 = .ok (.istore_n 1, 1) := by decide +kernel
theorem dX7_undo_8 : decode cX7_undo 8 = .ok (.iload_n 1, 1) := by decide +kernel
theorem dX7_undo_9 : decode cX7_undo 9 = .ok (.iconst (-1), 1) := by decide +kernel
theorem dX7_undo_10 : decode cX7_undo 10 = .ok (.if_icmp .ne 13, 3) := by decide +kernel
theorem dX7_undo_13 : decode cX7_undo 13 = .ok (.new 87, 3) := by decide +kernel
theorem dX7_undo_16 : decode cX7_undo 16 = .ok (.dup, 1) := by decide +kernel
theorem dX7_undo_17 : decode cX7_undo 17 = .ok (.ldc 226, 2) := by decide +kernel
theorem dX7_undo_19 : decode cX7_undo 19 = .ok (.invokespecial 91, 3) := by decide +kernel
theorem dX7_undo_22 : decode cX7_undo 22 = .ok (.athrow, 1) := by decide +kernel
theorem dX7_undo_23 : decode cX7_undo 23 = .ok (.aload_n 0, 1) := by decide +kernel
theorem dX7_undo_24 : decode cX7_undo 24 = .ok (.getfield 32, 3) := by decide +kernel
theorem dX7_undo_27 : decode cX7_undo 27 = .ok (.invokevirtual 228, 3) := by decide +kernel
theorem dX7_undo_30 : decode cX7_undo 30 = .ok (.istore_n 2, 1) := by decide +kernel
theorem dX7_undo_31 : decode cX7_undo 31 = .ok (.iload_n 2, 1) := by decide +kernel
theorem dX7_undo_32 : decode cX7_undo 32 = .ok (.iconst 1, 1) := by decide +kernel
theorem dX7_undo_33 : decode cX7_undo 33 = .ok (.isub, 1) := by decide +kernel
theorem dX7_undo_34 : decode cX7_undo 34 = .ok (.istore_n 3, 1) := by decide +kernel
theorem dX7_undo_35 : decode cX7_undo 35 = .ok (.iload_n 3, 1) := by decide +kernel
theorem dX7_undo_36 : decode cX7_undo 36 = .ok (.iload_n 1, 1) := by decide +kernel
theorem dX7_undo_37 : decode cX7_undo 37 = .ok (.if_icmp .lt 32, 3) := by decide +kernel
theorem dX7_undo_40 : decode cX7_undo 40 = .ok (.aload_n 0, 1) := by decide +kernel
theorem dX7_undo_41 : decode cX7_undo 41 = .ok (.getfield 12, 3) := by decide +kernel
theorem dX7_undo_44 : decode cX7_undo 44 = .ok (.aload_n 0, 1) := by decide +kernel
theorem dX7_undo_45 : decode cX7_undo 45 = .ok (.getfield 32, 3) := by decide +kernel
theorem dX7_undo_48 : decode cX7_undo 48 = .ok (.iload_n 3, 1) := by decide +kernel
theorem dX7_undo_49 : decode cX7_undo 49 = .ok (.invokevirtual 229, 3) := by decide +kernel
theorem dX7_undo_52 : decode cX7_undo 52 = .ok (.aload_n 0, 1) := by decide +kernel
theorem dX7_undo_53 : decode cX7_undo 53 = .ok (.getfield 32, 3) := by decide +kernel
theorem dX7_undo_56 : decode cX7_undo 56 = .ok (.iload_n 3, 1) := by decide +kernel
theorem dX7_undo_57 : decode cX7_undo 57 = .ok (.invokevirtual 232, 3) := by decide +kernel
theorem dX7_undo_60 : decode cX7_undo 60 = .ok (.invokevirtual 235, 3) := by decide +kernel
theorem dX7_undo_63 : decode cX7_undo 63 = .ok (.iinc 3 (-1), 3) := by decide +kernel
theorem dX7_undo_66 : decode cX7_undo 66 = .ok (.goto (-31), 3) := by decide +kernel
theorem dX7_undo_69 : decode cX7_undo 69 = .ok (.aload_n 0, 1) := by decide +kernel
theorem dX7_undo_70 : decode cX7_undo 70 = .ok (.getfield 32, 3) := by decide +kernel
theorem dX7_undo_73 : decode cX7_undo 73 = .ok (.iload_n 1, 1) := by decide +kernel
theorem dX7_undo_74 : decode cX7_undo 74 = .ok (.invokevirtual 238, 3) := by decide +kernel
theorem dX7_undo_77 : decode cX7_undo 77 = .ok (.iload_n 2, 1) := by decide +kernel
theorem dX7_undo_78 : decode cX7_undo 78 = .ok (.iload_n 1, 1) := by decide +kernel
theorem dX7_undo_79 : decode cX7_undo 79 = .ok (.isub, 1) := by decide +kernel
theorem dX7_undo_80 : decode cX7_undo 80 = .ok (.ireturn, 1) := by decide +kernel
set_option maxRecDepth 20000 in
theorem ggX7_entries_X0_size : GoodIn wsX7_entries wsX0_size := goodIn_r _ [6, 7, 21, 22, 23, 24, 25] (by decide +kernel) (by decide +kernel)
set_option maxRecDepth 20000 in
theorem gX7_entries_X0_size : GoodIn wsX7_entries (wsV RX7 228 RX0 yX0_size wsX0_size) := goodIn_app (goodIn_of _ (by decide +kernel)) ggX7_entries_X0_size
theorem dX7_entries_0 : decode cX7_entries 0 = .ok (.aload_n 0, 1) := by decide +kernel
theorem dX7_entries_1 : decode cX7_entries 1 = .ok (.getfield 32, 3) := by decide +kernel
theorem dX7_entries_4 : decode cX7_entries 4 = .ok (.invokevirtual 228, 3) := by decide +kernel
theorem dX7_entries_7 : decode cX7_entries 7 = .ok (.ireturn, 1) := by decide +kernel
set_option maxRecDepth 20000 in
theorem ggX7_meanValue_X1_valueAt : GoodIn wsX7_meanValue wsX1_valueAt := goodIn_ca (goodIn_r _ [8, 9, 10, 11, 12, 7, 13, 27] (by decide +kernel) (by decide +kernel)) (goodIn_sub (fun _ h => List.mem_cons_of_mem _ (List.mem_append_right _ h)) (by decide +kernel))
set_option maxRecDepth 20000 in
theorem gX7_meanValue_X1_valueAt : GoodIn wsX7_meanValue (wsV RX7 81 RX1 yX1_valueAt wsX1_valueAt) := goodIn_app (goodIn_of _ (by decide +kernel)) ggX7_meanValue_X1_valueAt
theorem dX7_meanValue_0 : decode cX7_meanValue 0 = .ok (.iconst 0, 1) := by decide +kernel
theorem dX7_meanValue_1 : decode cX7_meanValue 1 = .ok (.istore_n 1, 1) := by decide +kernel
theorem dX7_meanValue_2 : decode cX7_meanValue 2 = .ok (.iconst 0, 1) := by decide +kernel
theorem dX7_meanValue_3 : decode cX7_meanValue 3 = .ok (.istore_n 2, 1) := by decide +kernel
theorem dX7_meanValue_4 : decode cX7_meanValue 4 = .ok (.iconst 0, 1) := by decide +kernel
theorem dX7_meanValue_5 : decode cX7_meanValue 5 = .ok (.istore_n 3, 1) := by decide +kernel
theorem dX7_meanValue_6 : decode cX7_meanValue 6 = .ok (.iload_n 3, 1) := by decide +kernel
theorem dX7_meanValue_7 : decode cX7_meanValue 7 = .ok (.bipush 48, 2) := by decide +kernel
theorem dX7_meanValue_9 : decode cX7_meanValue 9 = .ok (.if_icmp .ge 32, 3) := by decide +kernel
theorem dX7_meanValue_12 : decode cX7_meanValue 12 = .ok (.aload_n 0, 1) := by decide +kernel
theorem dX7_meanValue_13 : decode cX7_meanValue 13 = .ok (.getfield 12, 3) := by decide +kernel
theorem dX7_meanValue_16 : decode cX7_meanValue 16 = .ok (.iload_n 3, 1) := by decide +kernel
theorem dX7_meanValue_17 : decode cX7_meanValue 17 = .ok (.invokevirtual 81, 3) := by decide +kernel
theorem dX7_meanValue_20 : decode cX7_meanValue 20 = .ok (.istore 4, 2) := by decide +kernel
theorem dX7_meanValue_22 : decode cX7_meanValue 22 = .ok (.iload 4, 2) := by decide +kernel
theorem dX7_meanValue_24 : decode cX7_meanValue 24 = .ok (.ifCond .eq 11, 3) := by decide +kernel
theorem dX7_meanValue_27 : decode cX7_meanValue 27 = .ok (.iload_n 1, 1) := by decide +kernel
theorem dX7_meanValue_28 : decode cX7_meanValue 28 = .ok (.iload 4, 2) := by decide +kernel
theorem dX7_meanValue_30 : decode cX7_meanValue 30 = .ok (.iadd, 1) := by decide +kernel
theorem dX7_meanValue_31 : decode cX7_meanValue 31 = .ok (.istore_n 1, 1) := by decide +kernel
theorem dX7_meanValue_32 : decode cX7_meanValue 32 = .ok (.iinc 2 1, 3) := by decide +kernel
theorem dX7_meanValue_35 : decode cX7_meanValue 35 = .ok (.iinc 3 1, 3) := by decide +kernel
theorem dX7_meanValue_38 : decode cX7_meanValue 38 = .ok (.goto (-32), 3) := by decide +kernel
theorem dX7_meanValue_41 : decode cX7_meanValue 41 = .ok (.iload_n 2, 1) := by decide +kernel
theorem dX7_meanValue_42 : decode cX7_meanValue 42 = .ok (.ifCond .ne 14, 3) := by decide +kernel
theorem dX7_meanValue_45 : decode cX7_meanValue 45 = .ok (.new 297, 3) := by decide +kernel
theorem dX7_meanValue_48 : decode cX7_meanValue 48 = .ok (.dup, 1) := by decide +kernel
theorem dX7_meanValue_49 : decode cX7_meanValue 49 = .ok (.ldc_w 302, 3) := by decide +kernel
theorem dX7_meanValue_52 : decode cX7_meanValue 52 = .ok (.invokespecial 301, 3) := by decide +kernel
theorem dX7_meanValue_55 : decode cX7_meanValue 55 = .ok (.athrow, 1) := by decide +kernel
theorem dX7_meanValue_56 : decode cX7_meanValue 56 = .ok (.iload_n 1, 1) := by decide +kernel
theorem dX7_meanValue_57 : decode cX7_meanValue 57 = .ok (.i2d, 1) := by decide +kernel
theorem dX7_meanValue_58 : decode cX7_meanValue 58 = .ok (.iload_n 2, 1) := by decide +kernel
theorem dX7_meanValue_59 : decode cX7_meanValue 59 = .ok (.i2d, 1) := by decide +kernel
theorem dX7_meanValue_60 : decode cX7_meanValue 60 = .ok (.ddiv, 1) := by decide +kernel
theorem dX7_meanValue_61 : decode cX7_meanValue 61 = .ok (.dreturn, 1) := by decide +kernel
set_option maxRecDepth 20000 in
theorem ggX7_needCell_X7_isCell : GoodIn wsX7_needCell wsX7_isCell := goodIn_r _ [6] (by decide +kernel) (by decide +kernel)
set_option maxRecDepth 20000 in
theorem gX7_needCell_X7_isCell : GoodIn wsX7_needCell (va_wsS RX7 304 yX7_isCell wsX7_isCell) := goodIn_app (goodIn_of _ (by decide +kernel)) ggX7_needCell_X7_isCell
theorem dX7_needCell_0 : decode cX7_needCell 0 = .ok (.iload_n 0, 1) := by decide +kernel
theorem dX7_needCell_1 : decode cX7_needCell 1 = .ok (.iload_n 1, 1) := by decide +kernel
theorem dX7_needCell_2 : decode cX7_needCell 2 = .ok (.invokestatic 304, 3) := by decide +kernel
theorem dX7_needCell_5 : decode cX7_needCell 5 = .ok (.ifCond .ne 14, 3) := by decide +kernel
theorem dX7_needCell_8 : decode cX7_needCell 8 = .ok (.new 202, 3) := by decide +kernel
theorem dX7_needCell_11 : decode cX7_needCell 11 = .ok (.dup, 1) := by decide +kernel
theorem dX7_needCell_12 : decode cX7_needCell 12 = .ok (.ldc_w 307, 3) := by decide +kernel
theorem dX7_needCell_15 : decode cX7_needCell 15 = .ok (.invokespecial 206, 3) := by decide +kernel
theorem dX7_needCell_18 : decode cX7_needCell 18 = .ok (.athrow, 1) := by decide +kernel
theorem dX7_needCell_19 : decode cX7_needCell 19 = .ok (.return_, 1) := by decide +kernel
set_option maxRecDepth 20000 in
theorem ggX7_neededMacro_X7_macroAt : GoodIn wsX7_neededMacro wsX7_macroAt := goodIn_r _ [7, 8, 9, 10, 11, 12, 13, 14, 15, 16, 17, 18, 19, 20, 21, 22, 23, 24, 25, 26, 27, 28, 29, 30, 31, 32, 33, 34, 35, 36, 37, 38, 39, 40, 41, 42, 43, 44, 45, 46, 47, 48] (by decide +kernel) (by decide +kernel)
set_option maxRecDepth 20000 in
theorem gX7_neededMacro_X7_macroAt : GoodIn wsX7_neededMacro (wsV RX7 128 RX7 yX7_macroAt wsX7_macroAt) := goodIn_app (goodIn_of _ (by decide +kernel)) ggX7_neededMacro_X7_macroAt
theorem dX7_neededMacro_0 : decode cX7_neededMacro 0 = .ok (.aload_n 0, 1) := by decide +kernel
theorem dX7_neededMacro_1 : decode cX7_neededMacro 1 = .ok (.iload_n 1, 1) := by decide +kernel
theorem dX7_neededMacro_2 : decode cX7_neededMacro 2 = .ok (.invokevirtual 128, 3) := by decide +kernel
theorem dX7_neededMacro_5 : decode cX7_neededMacro 5 = .ok (.astore_n 2, 1) := by decide +kernel
theorem dX7_neededMacro_6 : decode cX7_neededMacro 6 = .ok (.aload_n 2, 1) := by decide +kernel
theorem dX7_neededMacro_7 : decode cX7_neededMacro 7 = .ok (.ifnonnull 13, 3) := by decide +kernel
theorem dX7_neededMacro_10 : decode cX7_neededMacro 10 = .ok (.new 202, 3) := by decide +kernel
theorem dX7_neededMacro_13 : decode cX7_neededMacro 13 = .ok (.dup, 1) := by decide +kernel
theorem dX7_neededMacro_14 : decode cX7_neededMacro 14 = .ok (.ldc 241, 2) := by decide +kernel
theorem dX7_neededMacro_16 : decode cX7_neededMacro 16 = .ok (.invokespecial 206, 3) := by decide +kernel
theorem dX7_neededMacro_19 : decode cX7_neededMacro 19 = .ok (.athrow, 1) := by decide +kernel
theorem dX7_neededMacro_20 : decode cX7_neededMacro 20 = .ok (.aload_n 2, 1) := by decide +kernel
theorem dX7_neededMacro_21 : decode cX7_neededMacro 21 = .ok (.areturn, 1) := by decide +kernel
theorem dX7_isCell_0 : decode cX7_isCell 0 = .ok (.iload_n 0, 1) := by decide +kernel
theorem dX7_isCell_1 : decode cX7_isCell 1 = .ok (.ifCond .lt 23, 3) := by decide +kernel
theorem dX7_isCell_4 : decode cX7_isCell 4 = .ok (.iload_n 0, 1) := by decide +kernel
theorem dX7_isCell_5 : decode cX7_isCell 5 = .ok (.bipush 6, 2) := by decide +kernel
theorem dX7_isCell_7 : decode cX7_isCell 7 = .ok (.if_icmp .ge 17, 3) := by decide +kernel
theorem dX7_isCell_10 : decode cX7_isCell 10 = .ok (.iload_n 1, 1) := by decide +kernel
theorem dX7_isCell_11 : decode cX7_isCell 11 = .ok (.ifCond .lt 13, 3) := by decide +kernel
theorem dX7_isCell_14 : decode cX7_isCell 14 = .ok (.iload_n 1, 1) := by decide +kernel
theorem dX7_isCell_15 : decode cX7_isCell 15 = .ok (.bipush 8, 2) := by decide +kernel
theorem dX7_isCell_17 : decode cX7_isCell 17 = .ok (.if_icmp .ge 7, 3) := by decide +kernel
theorem dX7_isCell_20 : decode cX7_isCell 20 = .ok (.iconst 1, 1) := by decide +kernel
theorem dX7_isCell_21 : decode cX7_isCell 21 = .ok (.goto 4, 3) := by decide +kernel
theorem dX7_isCell_24 : decode cX7_isCell 24 = .ok (.iconst 0, 1) := by decide +kernel
theorem dX7_isCell_25 : decode cX7_isCell 25 = .ok (.ireturn, 1) := by decide +kernel
theorem dX7_isRange_0 : decode cX7_isRange 0 = .ok (.iload_n 2, 1) := by decide +kernel
theorem dX7_isRange_1 : decode cX7_isRange 1 = .ok (.iload_n 0, 1) := by decide +kernel
theorem dX7_isRange_2 : decode cX7_isRange 2 = .ok (.if_icmp .lt 12, 3) := by decide +kernel
theorem dX7_isRange_5 : decode cX7_isRange 5 = .ok (.iload_n 3, 1) := by decide +kernel
theorem dX7_isRange_6 : decode cX7_isRange 6 = .ok (.iload_n 1, 1) := by decide +kernel
theorem dX7_isRange_7 : decode cX7_isRange 7 = .ok (.if_icmp .lt 7, 3) := by decide +kernel
theorem dX7_isRange_10 : decode cX7_isRange 10 = .ok (.iconst 1, 1) := by decide +kernel
theorem dX7_isRange_11 : decode cX7_isRange 11 = .ok (.goto 4, 3) := by decide +kernel
theorem dX7_isRange_14 : decode cX7_isRange 14 = .ok (.iconst 0, 1) := by decide +kernel
theorem dX7_isRange_15 : decode cX7_isRange 15 = .ok (.ireturn, 1) := by decide +kernel
theorem dX7_isValue_0 : decode cX7_isValue 0 = .ok (.iload_n 0, 1) := by decide +kernel
theorem dX7_isValue_1 : decode cX7_isValue 1 = .ok (.sipush (-9999), 3) := by decide +kernel
theorem dX7_isValue_4 : decode cX7_isValue 4 = .ok (.if_icmp .lt 14, 3) := by decide +kernel
theorem dX7_isValue_7 : decode cX7_isValue 7 = .ok (.iload_n 0, 1) := by decide +kernel
theorem dX7_isValue_8 : decode cX7_isValue 8 = .ok (.sipush 9999, 3) := by decide +kernel
theorem dX7_isValue_11 : decode cX7_isValue 11 = .ok (.if_icmp .gt 7, 3) := by decide +kernel
theorem dX7_isValue_14 : decode cX7_isValue 14 = .ok (.iconst 1, 1) := by decide +kernel
theorem dX7_isValue_15 : decode cX7_isValue 15 = .ok (.goto 4, 3) := by decide +kernel
theorem dX7_isValue_18 : decode cX7_isValue 18 = .ok (.iconst 0, 1) := by decide +kernel
theorem dX7_isValue_19 : decode cX7_isValue 19 = .ok (.ireturn, 1) := by decide +kernel
theorem dX7_isRank_0 : decode cX7_isRank 0 = .ok (.iload_n 0, 1) := by decide +kernel
theorem dX7_isRank_1 : decode cX7_isRank 1 = .ok (.ifCond .lt 13, 3) := by decide +kernel
theorem dX7_isRank_4 : decode cX7_isRank 4 = .ok (.iload_n 0, 1) := by decide +kernel
theorem dX7_isRank_5 : decode cX7_isRank 5 = .ok (.bipush 9, 2) := by decide +kernel
theorem dX7_isRank_7 : decode cX7_isRank 7 = .ok (.if_icmp .gt 7, 3) := by decide +kernel
theorem dX7_isRank_10 : decode cX7_isRank 10 = .ok (.iconst 1, 1) := by decide +kernel
theorem dX7_isRank_11 : decode cX7_isRank 11 = .ok (.goto 4, 3) := by decide +kernel
theorem dX7_isRank_14 : decode cX7_isRank 14 = .ok (.iconst 0, 1) := by decide +kernel
theorem dX7_isRank_15 : decode cX7_isRank 15 = .ok (.ireturn, 1) := by decide +kernel
theorem dX7_placeOf_0 : decode cX7_placeOf 0 = .ok (.iload_n 1, 1) := by decide +kernel
theorem dX7_placeOf_1 : decode cX7_placeOf 1 = .ok (.bipush 6, 2) := by decide +kernel
theorem dX7_placeOf_3 : decode cX7_placeOf 3 = .ok (.imul, 1) := by decide +kernel
theorem dX7_placeOf_4 : decode cX7_placeOf 4 = .ok (.iload_n 0, 1) := by decide +kernel
theorem dX7_placeOf_5 : decode cX7_placeOf 5 = .ok (.iadd, 1) := by decide +kernel
theorem dX7_placeOf_6 : decode cX7_placeOf 6 = .ok (.ireturn, 1) := by decide +kernel
set_option maxRecDepth 20000 in
theorem ggX7_macroAt_Jx4a65c_size_8abf5 : GoodIn wsX7_macroAt wsJx4a65c_size_8abf5 := goodIn_r _ [7, 8, 39, 40, 41] (by decide +kernel) (by decide +kernel)
set_option maxRecDepth 20000 in
theorem gX7_macroAt_Jx4a65c_size_8abf5 : GoodIn wsX7_macroAt (wsV RX7 95 RJx4a65c yJx4a65c_size_8abf5 wsJx4a65c_size_8abf5) := goodIn_app (goodIn_of _ (by decide +kernel)) ggX7_macroAt_Jx4a65c_size_8abf5
set_option maxRecDepth 20000 in
theorem ggX7_macroAt_Jx4a65c_get_915e3 : GoodIn wsX7_macroAt wsJx4a65c_get_915e3 := goodIn_r _ [12, 8, 13, 14, 15, 16, 17, 18, 19, 20, 21, 22, 23, 6, 24, 25, 39, 40, 41] (by decide +kernel) (by decide +kernel)
set_option maxRecDepth 20000 in
theorem gX7_macroAt_Jx4a65c_get_915e3 : GoodIn wsX7_macroAt (wsV RX7 154 RJx4a65c yJx4a65c_get_915e3 wsJx4a65c_get_915e3) := goodIn_app (goodIn_of _ (by decide +kernel)) ggX7_macroAt_Jx4a65c_get_915e3
theorem dX7_macroAt_0 : decode cX7_macroAt 0 = .ok (.iload_n 1, 1) := by decide +kernel
theorem dX7_macroAt_1 : decode cX7_macroAt 1 = .ok (.ifCond .lt 28, 3) := by decide +kernel
theorem dX7_macroAt_4 : decode cX7_macroAt 4 = .ok (.iload_n 1, 1) := by decide +kernel
theorem dX7_macroAt_5 : decode cX7_macroAt 5 = .ok (.aload_n 0, 1) := by decide +kernel
theorem dX7_macroAt_6 : decode cX7_macroAt 6 = .ok (.getfield 22, 3) := by decide +kernel
theorem dX7_macroAt_9 : decode cX7_macroAt 9 = .ok (.invokevirtual 95, 3) := by decide +kernel
theorem dX7_macroAt_12 : decode cX7_macroAt 12 = .ok (.if_icmp .ge 17, 3) := by decide +kernel
theorem dX7_macroAt_15 : decode cX7_macroAt 15 = .ok (.aload_n 0, 1) := by decide +kernel
theorem dX7_macroAt_16 : decode cX7_macroAt 16 = .ok (.getfield 22, 3) := by decide +kernel
theorem dX7_macroAt_19 : decode cX7_macroAt 19 = .ok (.iload_n 1, 1) := by decide +kernel
theorem dX7_macroAt_20 : decode cX7_macroAt 20 = .ok (.invokevirtual 154, 3) := by decide +kernel
theorem dX7_macroAt_23 : decode cX7_macroAt 23 = .ok (.checkcast 101, 3) := by decide +kernel
theorem dX7_macroAt_26 : decode cX7_macroAt 26 = .ok (.goto 4, 3) := by decide +kernel
theorem dX7_macroAt_29 : decode cX7_macroAt 29 = .ok (.aconst_null, 1) := by decide +kernel
theorem dX7_macroAt_30 : decode cX7_macroAt 30 = .ok (.areturn, 1) := by decide +kernel
set_option maxRecDepth 20000 in
theorem ggX7_ruleAt_Jx4a65c_size_8abf5 : GoodIn wsX7_ruleAt wsJx4a65c_size_8abf5 := goodIn_r _ [7, 8, 39, 40, 41] (by decide +kernel) (by decide +kernel)
set_option maxRecDepth 20000 in
theorem gX7_ruleAt_Jx4a65c_size_8abf5 : GoodIn wsX7_ruleAt (wsV RX7 95 RJx4a65c yJx4a65c_size_8abf5 wsJx4a65c_size_8abf5) := goodIn_app (goodIn_of _ (by decide +kernel)) ggX7_ruleAt_Jx4a65c_size_8abf5
set_option maxRecDepth 20000 in
theorem ggX7_ruleAt_Jx4a65c_get_915e3 : GoodIn wsX7_ruleAt wsJx4a65c_get_915e3 := goodIn_r _ [12, 8, 13, 14, 15, 16, 17, 18, 19, 20, 21, 22, 23, 6, 24, 25, 39, 40, 41] (by decide +kernel) (by decide +kernel)
set_option maxRecDepth 20000 in
theorem gX7_ruleAt_Jx4a65c_get_915e3 : GoodIn wsX7_ruleAt (wsV RX7 154 RJx4a65c yJx4a65c_get_915e3 wsJx4a65c_get_915e3) := goodIn_app (goodIn_of _ (by decide +kernel)) ggX7_ruleAt_Jx4a65c_get_915e3
theorem dX7_ruleAt_0 : decode cX7_ruleAt 0 = .ok (.iload_n 1, 1) := by decide +kernel
theorem dX7_ruleAt_1 : decode cX7_ruleAt 1 = .ok (.ifCond .lt 28, 3) := by decide +kernel
theorem dX7_ruleAt_4 : decode cX7_ruleAt 4 = .ok (.iload_n 1, 1) := by decide +kernel
theorem dX7_ruleAt_5 : decode cX7_ruleAt 5 = .ok (.aload_n 0, 1) := by decide +kernel
theorem dX7_ruleAt_6 : decode cX7_ruleAt 6 = .ok (.getfield 26, 3) := by decide +kernel
theorem dX7_ruleAt_9 : decode cX7_ruleAt 9 = .ok (.invokevirtual 95, 3) := by decide +kernel
theorem dX7_ruleAt_12 : decode cX7_ruleAt 12 = .ok (.if_icmp .ge 17, 3) := by decide +kernel
theorem dX7_ruleAt_15 : decode cX7_ruleAt 15 = .ok (.aload_n 0, 1) := by decide +kernel
theorem dX7_ruleAt_16 : decode cX7_ruleAt 16 = .ok (.getfield 26, 3) := by decide +kernel
theorem dX7_ruleAt_19 : decode cX7_ruleAt 19 = .ok (.iload_n 1, 1) := by decide +kernel
theorem dX7_ruleAt_20 : decode cX7_ruleAt 20 = .ok (.invokevirtual 154, 3) := by decide +kernel
theorem dX7_ruleAt_23 : decode cX7_ruleAt 23 = .ok (.checkcast 193, 3) := by decide +kernel
theorem dX7_ruleAt_26 : decode cX7_ruleAt 26 = .ok (.goto 4, 3) := by decide +kernel

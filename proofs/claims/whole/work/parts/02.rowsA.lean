theorem inlX0 : ∀ w ∈ wsX00, w ∈ wsL_law := fun _ h => List.mem_append_left _ (List.mem_append_left _ (List.mem_append_left _ (List.mem_append_right _ h)))
theorem inlX1 : ∀ w ∈ wsX10, w ∈ wsL_law := fun _ h => List.mem_append_left _ (List.mem_append_left _ (List.mem_append_right _ h))
theorem inlX2 : ∀ w ∈ wsX20, w ∈ wsL_law := fun _ h => List.mem_append_left _ (List.mem_append_left _ (List.mem_append_left _ (List.mem_append_left _ (List.mem_append_right _ h))))
theorem inlX3 : ∀ w ∈ wsX30, w ∈ wsL_law := fun _ h => List.mem_append_left _ (List.mem_append_right _ h)
theorem inlX4 : ∀ w ∈ wsX40, w ∈ wsL_law := fun _ h => List.mem_append_left _ (List.mem_append_left _ (List.mem_append_left _ (List.mem_append_left _ (List.mem_append_left _ (List.mem_append_right _ h)))))
theorem dX0_init_0 : decode cX0_init 0 = .ok (.aload_n 0, 1) := by decide +kernel
theorem dX0_init_1 : decode cX0_init 1 = .ok (.invokespecial 3, 3) := by decide +kernel
theorem dX0_init_4 : decode cX0_init 4 = .ok (.aload_n 0, 1) := by decide +kernel
theorem dX0_init_5 : decode cX0_init 5 = .ok (.sipush 480, 3) := by decide +kernel
theorem dX0_init_8 : decode cX0_init 8 = .ok (.newarray .int, 2) := by decide +kernel
theorem dX0_init_10 : decode cX0_init 10 = .ok (.putfield 11, 3) := by decide +kernel
theorem dX0_init_13 : decode cX0_init 13 = .ok (.return_, 1) := by decide +kernel
theorem dX0_keep_0 : decode cX0_keep 0 = .ok (.aload_n 0, 1) := by decide +kernel
theorem dX0_keep_1 : decode cX0_keep 1 = .ok (.getfield 15, 3) := by decide +kernel
theorem dX0_keep_4 : decode cX0_keep 4 = .ok (.bipush 20, 2) := by decide +kernel
theorem dX0_keep_6 : decode cX0_keep 6 = .ok (.imul, 1) := by decide +kernel
theorem dX0_keep_7 : decode cX0_keep 7 = .ok (.istore_n 2, 1) := by decide +kernel
theorem dX0_keep_8 : decode cX0_keep 8 = .ok (.aload_n 0, 1) := by decide +kernel
theorem dX0_keep_9 : decode cX0_keep 9 = .ok (.getfield 11, 3) := by decide +kernel
theorem dX0_keep_12 : decode cX0_keep 12 = .ok (.iload_n 2, 1) := by decide +kernel
theorem dX0_keep_13 : decode cX0_keep 13 = .ok (.iinc 2 1, 3) := by decide +kernel
theorem dX0_keep_16 : decode cX0_keep 16 = .ok (.aload_n 1, 1) := by decide +kernel
theorem dX0_keep_17 : decode cX0_keep 17 = .ok (.getfield 19, 3) := by decide +kernel
theorem dX0_keep_20 : decode cX0_keep 20 = .ok (.iastore, 1) := by decide +kernel
theorem dX0_keep_21 : decode cX0_keep 21 = .ok (.iconst 0, 1) := by decide +kernel
theorem dX0_keep_22 : decode cX0_keep 22 = .ok (.istore_n 3, 1) := by decide +kernel
theorem dX0_keep_23 : decode cX0_keep 23 = .ok (.iload_n 3, 1) := by decide +kernel
theorem dX0_keep_24 : decode cX0_keep 24 = .ok (.bipush 9, 2) := by decide +kernel
theorem dX0_keep_26 : decode cX0_keep 26 = .ok (.if_icmp .ge 24, 3) := by decide +kernel
theorem dX0_keep_29 : decode cX0_keep 29 = .ok (.aload_n 0, 1) := by decide +kernel
theorem dX0_keep_30 : decode cX0_keep 30 = .ok (.getfield 11, 3) := by decide +kernel
theorem dX0_keep_33 : decode cX0_keep 33 = .ok (.iload_n 2, 1) := by decide +kernel
theorem dX0_keep_34 : decode cX0_keep 34 = .ok (.iinc 2 1, 3) := by decide +kernel
theorem dX0_keep_37 : decode cX0_keep 37 = .ok (.aload_n 1, 1) := by decide +kernel
theorem dX0_keep_38 : decode cX0_keep 38 = .ok (.getfield 24, 3) := by decide +kernel
theorem dX0_keep_41 : decode cX0_keep 41 = .ok (.iload_n 3, 1) := by decide +kernel
theorem dX0_keep_42 : decode cX0_keep 42 = .ok (.iaload, 1) := by decide +kernel
theorem dX0_keep_43 : decode cX0_keep 43 = .ok (.iastore, 1) := by decide +kernel
theorem dX0_keep_44 : decode cX0_keep 44 = .ok (.iinc 3 1, 3) := by decide +kernel
theorem dX0_keep_47 : decode cX0_keep 47 = .ok (.goto (-24), 3) := by decide +kernel
theorem dX0_keep_50 : decode cX0_keep 50 = .ok (.iconst 0, 1) := by decide +kernel
theorem dX0_keep_51 : decode cX0_keep 51 = .ok (.istore_n 3, 1) := by decide +kernel
theorem dX0_keep_52 : decode cX0_keep 52 = .ok (.iload_n 3, 1) := by decide +kernel
theorem dX0_keep_53 : decode cX0_keep 53 = .ok (.iconst 5, 1) := by decide +kernel
theorem dX0_keep_54 : decode cX0_keep 54 = .ok (.if_icmp .ge 39, 3) := by decide +kernel
theorem dX0_keep_57 : decode cX0_keep 57 = .ok (.aload_n 0, 1) := by decide +kernel
theorem dX0_keep_58 : decode cX0_keep 58 = .ok (.getfield 11, 3) := by decide +kernel
theorem dX0_keep_61 : decode cX0_keep 61 = .ok (.iload_n 2, 1) := by decide +kernel
theorem dX0_keep_62 : decode cX0_keep 62 = .ok (.iinc 2 1, 3) := by decide +kernel
theorem dX0_keep_65 : decode cX0_keep 65 = .ok (.aload_n 1, 1) := by decide +kernel
theorem dX0_keep_66 : decode cX0_keep 66 = .ok (.getfield 27, 3) := by decide +kernel
theorem dX0_keep_69 : decode cX0_keep 69 = .ok (.iload_n 3, 1) := by decide +kernel
theorem dX0_keep_70 : decode cX0_keep 70 = .ok (.iaload, 1) := by decide +kernel
theorem dX0_keep_71 : decode cX0_keep 71 = .ok (.iastore, 1) := by decide +kernel
theorem dX0_keep_72 : decode cX0_keep 72 = .ok (.aload_n 0, 1) := by decide +kernel
theorem dX0_keep_73 : decode cX0_keep 73 = .ok (.getfield 11, 3) := by decide +kernel
theorem dX0_keep_76 : decode cX0_keep 76 = .ok (.iload_n 2, 1) := by decide +kernel
theorem dX0_keep_77 : decode cX0_keep 77 = .ok (.iinc 2 1, 3) := by decide +kernel
theorem dX0_keep_80 : decode cX0_keep 80 = .ok (.aload_n 1, 1) := by decide +kernel
theorem dX0_keep_81 : decode cX0_keep 81 = .ok (.getfield 30, 3) := by decide +kernel
theorem dX0_keep_84 : decode cX0_keep 84 = .ok (.iload_n 3, 1) := by decide +kernel
theorem dX0_keep_85 : decode cX0_keep 85 = .ok (.iaload, 1) := by decide +kernel
theorem dX0_keep_86 : decode cX0_keep 86 = .ok (.iastore, 1) := by decide +kernel
theorem dX0_keep_87 : decode cX0_keep 87 = .ok (.iinc 3 1, 3) := by decide +kernel
theorem dX0_keep_90 : decode cX0_keep 90 = .ok (.goto (-38), 3) := by decide +kernel
theorem dX0_keep_93 : decode cX0_keep 93 = .ok (.aload_n 0, 1) := by decide +kernel
theorem dX0_keep_94 : decode cX0_keep 94 = .ok (.aload_n 0, 1) := by decide +kernel
theorem dX0_keep_95 : decode cX0_keep 95 = .ok (.getfield 15, 3) := by decide +kernel
theorem dX0_keep_98 : decode cX0_keep 98 = .ok (.iconst 1, 1) := by decide +kernel
theorem dX0_keep_99 : decode cX0_keep 99 = .ok (.iadd, 1) := by decide +kernel
theorem dX0_keep_100 : decode cX0_keep 100 = .ok (.bipush 24, 2) := by decide +kernel
theorem dX0_keep_102 : decode cX0_keep 102 = .ok (.if_icmp .ge 12, 3) := by decide +kernel
theorem dX0_keep_105 : decode cX0_keep 105 = .ok (.aload_n 0, 1) := by decide +kernel
theorem dX0_keep_106 : decode cX0_keep 106 = .ok (.getfield 15, 3) := by decide +kernel
theorem dX0_keep_109 : decode cX0_keep 109 = .ok (.iconst 1, 1) := by decide +kernel
theorem dX0_keep_110 : decode cX0_keep 110 = .ok (.iadd, 1) := by decide +kernel
theorem dX0_keep_111 : decode cX0_keep 111 = .ok (.goto 4, 3) := by decide +kernel
theorem dX0_keep_114 : decode cX0_keep 114 = .ok (.iconst 0, 1) := by decide +kernel
theorem dX0_keep_115 : decode cX0_keep 115 = .ok (.putfield 15, 3) := by decide +kernel
theorem dX0_keep_118 : decode cX0_keep 118 = .ok (.aload_n 0, 1) := by decide +kernel
theorem dX0_keep_119 : decode cX0_keep 119 = .ok (.aload_n 0, 1) := by decide +kernel
theorem dX0_keep_120 : decode cX0_keep 120 = .ok (.getfield 33, 3) := by decide +kernel
theorem dX0_keep_123 : decode cX0_keep 123 = .ok (.iconst 1, 1) := by decide +kernel
theorem dX0_keep_124 : decode cX0_keep 124 = .ok (.iadd, 1) := by decide +kernel
theorem dX0_keep_125 : decode cX0_keep 125 = .ok (.bipush 24, 2) := by decide +kernel
theorem dX0_keep_127 : decode cX0_keep 127 = .ok (.invokestatic 36, 3) := by decide +kernel
theorem dX0_keep_130 : decode cX0_keep 130 = .ok (.putfield 33, 3) := by decide +kernel
theorem dX0_keep_133 : decode cX0_keep 133 = .ok (.return_, 1) := by decide +kernel
theorem dX0_giveBack_0 : decode cX0_giveBack 0 = .ok (.aload_n 0, 1) := by decide +kernel
theorem dX0_giveBack_1 : decode cX0_giveBack 1 = .ok (.aload_n 0, 1) := by decide +kernel
theorem dX0_giveBack_2 : decode cX0_giveBack 2 = .ok (.getfield 15, 3) := by decide +kernel
theorem dX0_giveBack_5 : decode cX0_giveBack 5 = .ok (.ifCond .le 12, 3) := by decide +kernel
theorem dX0_giveBack_8 : decode cX0_giveBack 8 = .ok (.aload_n 0, 1) := by decide +kernel
theorem dX0_giveBack_9 : decode cX0_giveBack 9 = .ok (.getfield 15, 3) := by decide +kernel
theorem dX0_giveBack_12 : decode cX0_giveBack 12 = .ok (.iconst 1, 1) := by decide +kernel
theorem dX0_giveBack_13 : decode cX0_giveBack 13 = .ok (.isub, 1) := by decide +kernel
theorem dX0_giveBack_14 : decode cX0_giveBack 14 = .ok (.goto 5, 3) := by decide +kernel
theorem dX0_giveBack_17 : decode cX0_giveBack 17 = .ok (.bipush 23, 2) := by decide +kernel
theorem dX0_giveBack_19 : decode cX0_giveBack 19 = .ok (.putfield 15, 3) := by decide +kernel
theorem dX0_giveBack_22 : decode cX0_giveBack 22 = .ok (.aload_n 0, 1) := by decide +kernel
theorem dX0_giveBack_23 : decode cX0_giveBack 23 = .ok (.dup, 1) := by decide +kernel
theorem dX0_giveBack_24 : decode cX0_giveBack 24 = .ok (.getfield 33, 3) := by decide +kernel
theorem dX0_giveBack_27 : decode cX0_giveBack 27 = .ok (.iconst 1, 1) := by decide +kernel
theorem dX0_giveBack_28 : decode cX0_giveBack 28 = .ok (.isub, 1) := by decide +kernel
theorem dX0_giveBack_29 : decode cX0_giveBack 29 = .ok (.putfield 33, 3) := by decide +kernel
theorem dX0_giveBack_32 : decode cX0_giveBack 32 = .ok (.aload_n 0, 1) := by decide +kernel
theorem dX0_giveBack_33 : decode cX0_giveBack 33 = .ok (.getfield 15, 3) := by decide +kernel
theorem dX0_giveBack_36 : decode cX0_giveBack 36 = .ok (.bipush 20, 2) := by decide +kernel
theorem dX0_giveBack_38 : decode cX0_giveBack 38 = .ok (.imul, 1) := by decide +kernel
theorem dX0_giveBack_39 : decode cX0_giveBack 39 = .ok (.istore_n 2, 1) := by decide +kernel
theorem dX0_giveBack_40 : decode cX0_giveBack 40 = .ok (.aload_n 1, 1) := by decide +kernel
theorem dX0_giveBack_41 : decode cX0_giveBack 41 = .ok (.aload_n 0, 1) := by decide +kernel
theorem dX0_giveBack_42 : decode cX0_giveBack 42 = .ok (.getfield 11, 3) := by decide +kernel
theorem dX0_giveBack_45 : decode cX0_giveBack 45 = .ok (.iload_n 2, 1) := by decide +kernel
theorem dX0_giveBack_46 : decode cX0_giveBack 46 = .ok (.iinc 2 1, 3) := by decide +kernel
theorem dX0_giveBack_49 : decode cX0_giveBack 49 = .ok (.iaload, 1) := by decide +kernel
theorem dX0_giveBack_50 : decode cX0_giveBack 50 = .ok (.putfield 19, 3) := by decide +kernel
theorem dX0_giveBack_53 : decode cX0_giveBack 53 = .ok (.iconst 0, 1) := by decide +kernel
theorem dX0_giveBack_54 : decode cX0_giveBack 54 = .ok (.istore_n 3, 1) := by decide +kernel
theorem dX0_giveBack_55 : decode cX0_giveBack 55 = .ok (.iload_n 3, 1) := by decide +kernel
theorem dX0_giveBack_56 : decode cX0_giveBack 56 = .ok (.bipush 9, 2) := by decide +kernel
theorem dX0_giveBack_58 : decode cX0_giveBack 58 = .ok (.if_icmp .ge 24, 3) := by decide +kernel
theorem dX0_giveBack_61 : decode cX0_giveBack 61 = .ok (.aload_n 1, 1) := by decide +kernel
theorem dX0_giveBack_62 : decode cX0_giveBack 62 = .ok (.getfield 24, 3) := by decide +kernel
theorem dX0_giveBack_65 : decode cX0_giveBack 65 = .ok (.iload_n 3, 1) := by decide +kernel
theorem dX0_giveBack_66 : decode cX0_giveBack 66 = .ok (.aload_n 0, 1) := by decide +kernel
theorem dX0_giveBack_67 : decode cX0_giveBack 67 = .ok (.getfield 11, 3) := by decide +kernel
theorem dX0_giveBack_70 : decode cX0_giveBack 70 = .ok (.iload_n 2, 1) := by decide +kernel
theorem dX0_giveBack_71 : decode cX0_giveBack 71 = .ok (.iinc 2 1, 3) := by decide +kernel
theorem dX0_giveBack_74 : decode cX0_giveBack 74 = .ok (.iaload, 1) := by decide +kernel
theorem dX0_giveBack_75 : decode cX0_giveBack 75 = .ok (.iastore, 1) := by decide +kernel
theorem dX0_giveBack_76 : decode cX0_giveBack 76 = .ok (.iinc 3 1, 3) := by decide +kernel
theorem dX0_giveBack_79 : decode cX0_giveBack 79 = .ok (.goto (-24), 3) := by decide +kernel
theorem dX0_giveBack_82 : decode cX0_giveBack 82 = .ok (.iconst 0, 1) := by decide +kernel
theorem dX0_giveBack_83 : decode cX0_giveBack 83 = .ok (.istore_n 3, 1) := by decide +kernel
theorem dX0_giveBack_84 : decode cX0_giveBack 84 = .ok (.iload_n 3, 1) := by decide +kernel
theorem dX0_giveBack_85 : decode cX0_giveBack 85 = .ok (.iconst 5, 1) := by decide +kernel
theorem dX0_giveBack_86 : decode cX0_giveBack 86 = .ok (.if_icmp .ge 39, 3) := by decide +kernel
theorem dX0_giveBack_89 : decode cX0_giveBack 89 = .ok (.aload_n 1, 1) := by decide +kernel
theorem dX0_giveBack_90 : decode cX0_giveBack 90 = .ok (.getfield 27, 3) := by decide +kernel
theorem dX0_giveBack_93 : decode cX0_giveBack 93 = .ok (.iload_n 3, 1) := by decide +kernel
theorem dX0_giveBack_94 : decode cX0_giveBack 94 = .ok (.aload_n 0, 1) := by decide +kernel
theorem dX0_giveBack_95 : decode cX0_giveBack 95 = .ok (.getfield 11, 3) := by decide +kernel
theorem dX0_giveBack_98 : decode cX0_giveBack 98 = .ok (.iload_n 2, 1) := by decide +kernel
theorem dX0_giveBack_99 : decode cX0_giveBack 99 = .ok (.iinc 2 1, 3) := by decide +kernel
theorem dX0_giveBack_102 : decode cX0_giveBack 102 = .ok (.iaload, 1) := by decide +kernel
theorem dX0_giveBack_103 : decode cX0_giveBack 103 = .ok (.iastore, 1) := by decide +kernel
theorem dX0_giveBack_104 : decode cX0_giveBack 104 = .ok (.aload_n 1, 1) := by decide +kernel
theorem dX0_giveBack_105 : decode cX0_giveBack 105 = .ok (.getfield 30, 3) := by decide +kernel
theorem dX0_giveBack_108 : decode cX0_giveBack 108 = .ok (.iload_n 3, 1) := by decide +kernel
theorem dX0_giveBack_109 : decode cX0_giveBack 109 = .ok (.aload_n 0, 1) := by decide +kernel
theorem dX0_giveBack_110 : decode cX0_giveBack 110 = .ok (.getfield 11, 3) := by decide +kernel
theorem dX0_giveBack_113 : decode cX0_giveBack 113 = .ok (.iload_n 2, 1) := by decide +kernel
theorem dX0_giveBack_114 : decode cX0_giveBack 114 = .ok (.iinc 2 1, 3) := by decide +kernel
theorem dX0_giveBack_117 : decode cX0_giveBack 117 = .ok (.iaload, 1) := by decide +kernel
theorem dX0_giveBack_118 : decode cX0_giveBack 118 = .ok (.iastore, 1) := by decide +kernel
theorem dX0_giveBack_119 : decode cX0_giveBack 119 = .ok (.iinc 3 1, 3) := by decide +kernel
theorem dX0_giveBack_122 : decode cX0_giveBack 122 = .ok (.goto (-38), 3) := by decide +kernel
theorem dX0_giveBack_125 : decode cX0_giveBack 125 = .ok (.return_, 1) := by decide +kernel
theorem dX1_init_0 : decode cX1_init 0 = .ok (.aload_n 0, 1) := by decide +kernel
theorem dX1_init_1 : decode cX1_init 1 = .ok (.invokespecial 3, 3) := by decide +kernel
theorem dX1_init_4 : decode cX1_init 4 = .ok (.aload_n 0, 1) := by decide +kernel
theorem dX1_init_5 : decode cX1_init 5 = .ok (.bipush 16, 2) := by decide +kernel
theorem dX1_init_7 : decode cX1_init 7 = .ok (.newarray .int, 2) := by decide +kernel
theorem dX1_init_9 : decode cX1_init 9 = .ok (.putfield 11, 3) := by decide +kernel
theorem dX1_init_12 : decode cX1_init 12 = .ok (.return_, 1) := by decide +kernel
set_option maxRecDepth 20000 in
theorem ggX1_begin_X1_bodyOf : GoodIn wsX1_begin wsX1_bodyOf := goodIn_r _ [4] (by decide +kernel) (by decide +kernel)
set_option maxRecDepth 20000 in
theorem gX1_begin_X1_bodyOf : GoodIn wsX1_begin (va_wsS RX1 20 yX1_bodyOf wsX1_bodyOf) := goodIn_app (goodIn_of _ (by decide +kernel)) ggX1_begin_X1_bodyOf
set_option maxRecDepth 20000 in
theorem ggX1_begin_X1_give : GoodIn wsX1_begin wsX1_give := goodIn_r _ [8, 9, 10, 11, 3, 12, 13, 14, 5, 6, 7, 15, 16, 17, 0, 1, 2, 4, 18, 19, 20, 21, 22, 23, 24, 25, 26, 27, 28, 29, 30, 31] (by decide +kernel) (by decide +kernel)
set_option maxRecDepth 20000 in
theorem gX1_begin_X1_give : GoodIn wsX1_begin (wsV RX1 24 RX1 yX1_give wsX1_give) := goodIn_app (goodIn_of _ (by decide +kernel)) ggX1_begin_X1_give
theorem dX1_begin_0 : decode cX1_begin 0 = .ok (.aload_n 0, 1) := by decide +kernel
theorem dX1_begin_1 : decode cX1_begin 1 = .ok (.aload_n 1, 1) := by decide +kernel
theorem dX1_begin_2 : decode cX1_begin 2 = .ok (.getfield 15, 3) := by decide +kernel
theorem dX1_begin_5 : decode cX1_begin 5 = .ok (.iload_n 2, 1) := by decide +kernel
theorem dX1_begin_6 : decode cX1_begin 6 = .ok (.iaload, 1) := by decide +kernel
theorem dX1_begin_7 : decode cX1_begin 7 = .ok (.iload_n 3, 1) := by decide +kernel
theorem dX1_begin_8 : decode cX1_begin 8 = .ok (.invokestatic 20, 3) := by decide +kernel
theorem dX1_begin_11 : decode cX1_begin 11 = .ok (.aload_n 1, 1) := by decide +kernel
theorem dX1_begin_12 : decode cX1_begin 12 = .ok (.iload_n 2, 1) := by decide +kernel
theorem dX1_begin_13 : decode cX1_begin 13 = .ok (.iload 4, 2) := by decide +kernel
theorem dX1_begin_15 : decode cX1_begin 15 = .ok (.invokevirtual 24, 3) := by decide +kernel
theorem dX1_begin_18 : decode cX1_begin 18 = .ok (.ireturn, 1) := by decide +kernel
theorem dX1_bodyOf_0 : decode cX1_bodyOf 0 = .ok (.iload_n 1, 1) := by decide +kernel
theorem dX1_bodyOf_1 : decode cX1_bodyOf 1 = .ok (.ifCond .ne 9, 3) := by decide +kernel
theorem dX1_bodyOf_4 : decode cX1_bodyOf 4 = .ok (.getstatic 28, 3) := by decide +kernel
theorem dX1_bodyOf_7 : decode cX1_bodyOf 7 = .ok (.goto 6, 3) := by decide +kernel
theorem dX1_bodyOf_10 : decode cX1_bodyOf 10 = .ok (.getstatic 31, 3) := by decide +kernel
theorem dX1_bodyOf_13 : decode cX1_bodyOf 13 = .ok (.astore_n 2, 1) := by decide +kernel
theorem dX1_bodyOf_14 : decode cX1_bodyOf 14 = .ok (.iload_n 0, 1) := by decide +kernel
theorem dX1_bodyOf_15 : decode cX1_bodyOf 15 = .ok (.istore_n 3, 1) := by decide +kernel
theorem dX1_bodyOf_16 : decode cX1_bodyOf 16 = .ok (.iconst 0, 1) := by decide +kernel
theorem dX1_bodyOf_17 : decode cX1_bodyOf 17 = .ok (.istore 4, 2) := by decide +kernel
theorem dX1_bodyOf_19 : decode cX1_bodyOf 19 = .ok (.iload 4, 2) := by decide +kernel
theorem dX1_bodyOf_21 : decode cX1_bodyOf 21 = .ok (.bipush 6, 2) := by decide +kernel
theorem dX1_bodyOf_23 : decode cX1_bodyOf 23 = .ok (.if_icmp .ge 21, 3) := by decide +kernel
theorem dX1_bodyOf_26 : decode cX1_bodyOf 26 = .ok (.aload_n 2, 1) := by decide +kernel
theorem dX1_bodyOf_27 : decode cX1_bodyOf 27 = .ok (.iload_n 3, 1) := by decide +kernel
theorem dX1_bodyOf_28 : decode cX1_bodyOf 28 = .ok (.iaload, 1) := by decide +kernel
theorem dX1_bodyOf_29 : decode cX1_bodyOf 29 = .ok (.ifCond .ne 15, 3) := by decide +kernel
theorem dX1_bodyOf_32 : decode cX1_bodyOf 32 = .ok (.getstatic 34, 3) := by decide +kernel
theorem dX1_bodyOf_35 : decode cX1_bodyOf 35 = .ok (.iload_n 3, 1) := by decide +kernel
theorem dX1_bodyOf_36 : decode cX1_bodyOf 36 = .ok (.iaload, 1) := by decide +kernel
theorem dX1_bodyOf_37 : decode cX1_bodyOf 37 = .ok (.istore_n 3, 1) := by decide +kernel
theorem dX1_bodyOf_38 : decode cX1_bodyOf 38 = .ok (.iinc 4 1, 3) := by decide +kernel
theorem dX1_bodyOf_41 : decode cX1_bodyOf 41 = .ok (.goto (-22), 3) := by decide +kernel
theorem dX1_bodyOf_44 : decode cX1_bodyOf 44 = .ok (.aload_n 2, 1) := by decide +kernel
theorem dX1_bodyOf_45 : decode cX1_bodyOf 45 = .ok (.iload_n 3, 1) := by decide +kernel
theorem dX1_bodyOf_46 : decode cX1_bodyOf 46 = .ok (.iaload, 1) := by decide +kernel
theorem dX1_bodyOf_47 : decode cX1_bodyOf 47 = .ok (.ireturn, 1) := by decide +kernel
set_option maxRecDepth 20000 in
theorem ggX1_give_X1_leave : GoodIn wsX1_give wsX1_leave := goodIn_r _ [5, 6, 7, 30, 31] (by decide +kernel) (by decide +kernel)
set_option maxRecDepth 20000 in
theorem gX1_give_X1_leave : GoodIn wsX1_give (wsV RX1 37 RX1 yX1_leave wsX1_leave) := goodIn_app (goodIn_of _ (by decide +kernel)) ggX1_give_X1_leave
set_option maxRecDepth 20000 in
theorem ggX1_give_X1_give : GoodIn wsX1_give wsX1_give := goodIn_r _ [0, 1, 2, 3, 4, 5, 6, 7, 8, 9, 10, 11, 12, 13, 14, 15, 16, 17, 18, 19, 20, 21, 22, 23, 24, 25, 26, 27, 28, 29, 30, 31] (by decide +kernel) (by decide +kernel)
set_option maxRecDepth 20000 in
theorem gX1_give_X1_give : GoodIn wsX1_give (wsV RX1 24 RX1 yX1_give wsX1_give) := goodIn_app (goodIn_of _ (by decide +kernel)) ggX1_give_X1_give
set_option maxRecDepth 20000 in
theorem ggX1_give_X1_begin : GoodIn wsX1_give wsX1_begin := goodIn_r _ [14, 15, 16, 4, 17, 8, 9, 10, 0, 1, 2, 3, 5, 6, 7, 11, 12, 13, 18, 19, 20, 21, 22, 23, 24, 25, 26, 27, 28, 29, 30, 31] (by decide +kernel) (by decide +kernel)
set_option maxRecDepth 20000 in
theorem gX1_give_X1_begin : GoodIn wsX1_give (wsV RX1 44 RX1 yX1_begin wsX1_begin) := goodIn_app (goodIn_of _ (by decide +kernel)) ggX1_give_X1_begin
theorem dX1_give_0 : decode cX1_give 0 = .ok (.iload 4, 2) := by decide +kernel
theorem dX1_give_2 : decode cX1_give 2 = .ok (.bipush 16, 2) := by decide +kernel
theorem dX1_give_4 : decode cX1_give 4 = .ok (.if_icmp .le 5, 3) := by decide +kernel
theorem dX1_give_7 : decode cX1_give 7 = .ok (.iconst 0, 1) := by decide +kernel
theorem dX1_give_8 : decode cX1_give 8 = .ok (.ireturn, 1) := by decide +kernel
theorem dX1_give_9 : decode cX1_give 9 = .ok (.aload_n 0, 1) := by decide +kernel
theorem dX1_give_10 : decode cX1_give 10 = .ok (.iload_n 1, 1) := by decide +kernel
theorem dX1_give_11 : decode cX1_give 11 = .ok (.invokevirtual 37, 3) := by decide +kernel
theorem dX1_give_14 : decode cX1_give 14 = .ok (.iload 4, 2) := by decide +kernel
theorem dX1_give_16 : decode cX1_give 16 = .ok (.iconst 1, 1) := by decide +kernel
theorem dX1_give_17 : decode cX1_give 17 = .ok (.iadd, 1) := by decide +kernel
theorem dX1_give_18 : decode cX1_give 18 = .ok (.istore 5, 2) := by decide +kernel
theorem dX1_give_20 : decode cX1_give 20 = .ok (.iload_n 1, 1) := by decide +kernel
theorem dX1_give_21 : decode cX1_give 21 = .ok (.tableswitch 211 10 24 #[75, 82, 103, 115, 129, 211, 211, 211, 211, 211, 142, 144, 162, 177, 198], 75) := by decide +kernel
theorem dX1_give_96 : decode cX1_give 96 = .ok (.aload_n 2, 1) := by decide +kernel
theorem dX1_give_97 : decode cX1_give 97 = .ok (.getfield 41, 3) := by decide +kernel
theorem dX1_give_100 : decode cX1_give 100 = .ok (.iload_n 3, 1) := by decide +kernel
theorem dX1_give_101 : decode cX1_give 101 = .ok (.iaload, 1) := by decide +kernel
theorem dX1_give_102 : decode cX1_give 102 = .ok (.ireturn, 1) := by decide +kernel
theorem dX1_give_103 : decode cX1_give 103 = .ok (.aload_n 0, 1) := by decide +kernel
theorem dX1_give_104 : decode cX1_give 104 = .ok (.bipush 10, 2) := by decide +kernel
theorem dX1_give_106 : decode cX1_give 106 = .ok (.aload_n 2, 1) := by decide +kernel
theorem dX1_give_107 : decode cX1_give 107 = .ok (.iload_n 3, 1) := by decide +kernel
theorem dX1_give_108 : decode cX1_give 108 = .ok (.iload 5, 2) := by decide +kernel
theorem dX1_give_110 : decode cX1_give 110 = .ok (.invokevirtual 24, 3) := by decide +kernel
theorem dX1_give_113 : decode cX1_give 113 = .ok (.aload_n 0, 1) := by decide +kernel
theorem dX1_give_114 : decode cX1_give 114 = .ok (.aload_n 2, 1) := by decide +kernel
theorem dX1_give_115 : decode cX1_give 115 = .ok (.iload_n 3, 1) := by decide +kernel
theorem dX1_give_116 : decode cX1_give 116 = .ok (.iconst 1, 1) := by decide +kernel
theorem dX1_give_117 : decode cX1_give 117 = .ok (.iload 5, 2) := by decide +kernel
theorem dX1_give_119 : decode cX1_give 119 = .ok (.invokevirtual 44, 3) := by decide +kernel
theorem dX1_give_122 : decode cX1_give 122 = .ok (.iadd, 1) := by decide +kernel
theorem dX1_give_123 : decode cX1_give 123 = .ok (.ireturn, 1) := by decide +kernel
theorem dX1_give_124 : decode cX1_give 124 = .ok (.aload_n 0, 1) := by decide +kernel
theorem dX1_give_125 : decode cX1_give 125 = .ok (.bipush 11, 2) := by decide +kernel
theorem dX1_give_127 : decode cX1_give 127 = .ok (.aload_n 2, 1) := by decide +kernel
theorem dX1_give_128 : decode cX1_give 128 = .ok (.iload_n 3, 1) := by decide +kernel
theorem dX1_give_129 : decode cX1_give 129 = .ok (.iload 5, 2) := by decide +kernel
theorem dX1_give_131 : decode cX1_give 131 = .ok (.invokevirtual 24, 3) := by decide +kernel
theorem dX1_give_134 : decode cX1_give 134 = .ok (.ineg, 1) := by decide +kernel
theorem dX1_give_135 : decode cX1_give 135 = .ok (.ireturn, 1) := by decide +kernel
theorem dX1_give_136 : decode cX1_give 136 = .ok (.aload_n 0, 1) := by decide +kernel
theorem dX1_give_137 : decode cX1_give 137 = .ok (.bipush 10, 2) := by decide +kernel
theorem dX1_give_139 : decode cX1_give 139 = .ok (.aload_n 2, 1) := by decide +kernel
theorem dX1_give_140 : decode cX1_give 140 = .ok (.iload_n 3, 1) := by decide +kernel
theorem dX1_give_141 : decode cX1_give 141 = .ok (.iload 5, 2) := by decide +kernel
theorem dX1_give_143 : decode cX1_give 143 = .ok (.invokevirtual 24, 3) := by decide +kernel
theorem dX1_give_146 : decode cX1_give 146 = .ok (.bipush 100, 2) := by decide +kernel
theorem dX1_give_148 : decode cX1_give 148 = .ok (.isub, 1) := by decide +kernel
theorem dX1_give_149 : decode cX1_give 149 = .ok (.ireturn, 1) := by decide +kernel
theorem dX1_give_150 : decode cX1_give 150 = .ok (.iconst 2, 1) := by decide +kernel
theorem dX1_give_151 : decode cX1_give 151 = .ok (.aload_n 0, 1) := by decide +kernel
theorem dX1_give_152 : decode cX1_give 152 = .ok (.bipush 13, 2) := by decide +kernel
theorem dX1_give_154 : decode cX1_give 154 = .ok (.aload_n 2, 1) := by decide +kernel
theorem dX1_give_155 : decode cX1_give 155 = .ok (.iload_n 3, 1) := by decide +kernel
theorem dX1_give_156 : decode cX1_give 156 = .ok (.iload 5, 2) := by decide +kernel
theorem dX1_give_158 : decode cX1_give 158 = .ok (.invokevirtual 24, 3) := by decide +kernel
theorem dX1_give_161 : decode cX1_give 161 = .ok (.imul, 1) := by decide +kernel
theorem dX1_give_162 : decode cX1_give 162 = .ok (.ireturn, 1) := by decide +kernel
theorem dX1_give_163 : decode cX1_give 163 = .ok (.iload_n 3, 1) := by decide +kernel
theorem dX1_give_164 : decode cX1_give 164 = .ok (.ireturn, 1) := by decide +kernel
theorem dX1_give_165 : decode cX1_give 165 = .ok (.aload_n 0, 1) := by decide +kernel
theorem dX1_give_166 : decode cX1_give 166 = .ok (.bipush 20, 2) := by decide +kernel
theorem dX1_give_168 : decode cX1_give 168 = .ok (.aload_n 2, 1) := by decide +kernel
theorem dX1_give_169 : decode cX1_give 169 = .ok (.iload_n 3, 1) := by decide +kernel
theorem dX1_give_170 : decode cX1_give 170 = .ok (.iload 5, 2) := by decide +kernel
theorem dX1_give_172 : decode cX1_give 172 = .ok (.invokevirtual 24, 3) := by decide +kernel
theorem dX1_give_175 : decode cX1_give 175 = .ok (.aload_n 2, 1) := by decide +kernel
theorem dX1_give_176 : decode cX1_give 176 = .ok (.getfield 48, 3) := by decide +kernel
theorem dX1_give_179 : decode cX1_give 179 = .ok (.iload_n 3, 1) := by decide +kernel
theorem dX1_give_180 : decode cX1_give 180 = .ok (.iaload, 1) := by decide +kernel
theorem dX1_give_181 : decode cX1_give 181 = .ok (.iadd, 1) := by decide +kernel
theorem dX1_give_182 : decode cX1_give 182 = .ok (.ireturn, 1) := by decide +kernel
theorem dX1_give_183 : decode cX1_give 183 = .ok (.aload_n 0, 1) := by decide +kernel
theorem dX1_give_184 : decode cX1_give 184 = .ok (.bipush 21, 2) := by decide +kernel
theorem dX1_give_186 : decode cX1_give 186 = .ok (.aload_n 2, 1) := by decide +kernel
theorem dX1_give_187 : decode cX1_give 187 = .ok (.iload_n 3, 1) := by decide +kernel
theorem dX1_give_188 : decode cX1_give 188 = .ok (.iload 5, 2) := by decide +kernel
theorem dX1_give_190 : decode cX1_give 190 = .ok (.invokevirtual 24, 3) := by decide +kernel
theorem dX1_give_193 : decode cX1_give 193 = .ok (.sipush 1000, 3) := by decide +kernel
theorem dX1_give_196 : decode cX1_give 196 = .ok (.isub, 1) := by decide +kernel
theorem dX1_give_197 : decode cX1_give 197 = .ok (.ireturn, 1) := by decide +kernel
theorem dX1_give_198 : decode cX1_give 198 = .ok (.aload_n 0, 1) := by decide +kernel
theorem dX1_give_199 : decode cX1_give 199 = .ok (.bipush 20, 2) := by decide +kernel
theorem dX1_give_201 : decode cX1_give 201 = .ok (.aload_n 2, 1) := by decide +kernel
theorem dX1_give_202 : decode cX1_give 202 = .ok (.iload_n 3, 1) := by decide +kernel
theorem dX1_give_203 : decode cX1_give 203 = .ok (.iload 5, 2) := by decide +kernel
theorem dX1_give_205 : decode cX1_give 205 = .ok (.invokevirtual 24, 3) := by decide +kernel
theorem dX1_give_208 : decode cX1_give 208 = .ok (.aload_n 0, 1) := by decide +kernel
theorem dX1_give_209 : decode cX1_give 209 = .ok (.aload_n 2, 1) := by decide +kernel
theorem dX1_give_210 : decode cX1_give 210 = .ok (.iload_n 3, 1) := by decide +kernel
theorem dX1_give_211 : decode cX1_give 211 = .ok (.iconst 0, 1) := by decide +kernel
theorem dX1_give_212 : decode cX1_give 212 = .ok (.iload 5, 2) := by decide +kernel
theorem dX1_give_214 : decode cX1_give 214 = .ok (.invokevirtual 44, 3) := by decide +kernel
theorem dX1_give_217 : decode cX1_give 217 = .ok (.isub, 1) := by decide +kernel
theorem dX1_give_218 : decode cX1_give 218 = .ok (.ireturn, 1) := by decide +kernel
theorem dX1_give_219 : decode cX1_give 219 = .ok (.iconst 2, 1) := by decide +kernel
theorem dX1_give_220 : decode cX1_give 220 = .ok (.aload_n 0, 1) := by decide +kernel
theorem dX1_give_221 : decode cX1_give 221 = .ok (.bipush 21, 2) := by decide +kernel
theorem dX1_give_223 : decode cX1_give 223 = .ok (.aload_n 2, 1) := by decide +kernel
theorem dX1_give_224 : decode cX1_give 224 = .ok (.iload_n 3, 1) := by decide +kernel
theorem dX1_give_225 : decode cX1_give 225 = .ok (.iload 5, 2) := by decide +kernel
theorem dX1_give_227 : decode cX1_give 227 = .ok (.invokevirtual 24, 3) := by decide +kernel
theorem dX1_give_230 : decode cX1_give 230 = .ok (.imul, 1) := by decide +kernel
theorem dX1_give_231 : decode cX1_give 231 = .ok (.ireturn, 1) := by decide +kernel
theorem dX1_give_232 : decode cX1_give 232 = .ok (.iconst 0, 1) := by decide +kernel
theorem dX1_give_233 : decode cX1_give 233 = .ok (.ireturn, 1) := by decide +kernel
theorem dX1_leave_0 : decode cX1_leave 0 = .ok (.aload_n 0, 1) := by decide +kernel
theorem dX1_leave_1 : decode cX1_leave 1 = .ok (.getfield 51, 3) := by decide +kernel
theorem dX1_leave_4 : decode cX1_leave 4 = .ok (.bipush 16, 2) := by decide +kernel
theorem dX1_leave_6 : decode cX1_leave 6 = .ok (.if_icmp .ge 23, 3) := by decide +kernel
theorem dX1_leave_9 : decode cX1_leave 9 = .ok (.aload_n 0, 1) := by decide +kernel
theorem dX1_leave_10 : decode cX1_leave 10 = .ok (.getfield 11, 3) := by decide +kernel
theorem dX1_leave_13 : decode cX1_leave 13 = .ok (.aload_n 0, 1) := by decide +kernel
theorem dX1_leave_14 : decode cX1_leave 14 = .ok (.getfield 51, 3) := by decide +kernel
theorem dX1_leave_17 : decode cX1_leave 17 = .ok (.iload_n 1, 1) := by decide +kernel
theorem dX1_leave_18 : decode cX1_leave 18 = .ok (.iastore, 1) := by decide +kernel
theorem dX1_leave_19 : decode cX1_leave 19 = .ok (.aload_n 0, 1) := by decide +kernel
theorem dX1_leave_20 : decode cX1_leave 20 = .ok (.dup, 1) := by decide +kernel
theorem dX1_leave_21 : decode cX1_leave 21 = .ok (.getfield 51, 3) := by decide +kernel
theorem dX1_leave_24 : decode cX1_leave 24 = .ok (.iconst 1, 1) := by decide +kernel
theorem dX1_leave_25 : decode cX1_leave 25 = .ok (.iadd, 1) := by decide +kernel
theorem dX1_leave_26 : decode cX1_leave 26 = .ok (.putfield 51, 3) := by decide +kernel
theorem dX1_leave_29 : decode cX1_leave 29 = .ok (.return_, 1) := by decide +kernel
theorem dX2_init_0 : decode cX2_init 0 = .ok (.aload_n 0, 1) := by decide +kernel
theorem dX2_init_1 : decode cX2_init 1 = .ok (.invokespecial 3, 3) := by decide +kernel
theorem dX2_init_4 : decode cX2_init 4 = .ok (.aload_n 0, 1) := by decide +kernel
theorem dX2_init_5 : decode cX2_init 5 = .ok (.bipush 9, 2) := by decide +kernel
theorem dX2_init_7 : decode cX2_init 7 = .ok (.newarray .int, 2) := by decide +kernel
theorem dX2_init_9 : decode cX2_init 9 = .ok (.putfield 9, 3) := by decide +kernel
theorem dX2_init_12 : decode cX2_init 12 = .ok (.aload_n 0, 1) := by decide +kernel
theorem dX2_init_13 : decode cX2_init 13 = .ok (.bipush 9, 2) := by decide +kernel
theorem dX2_init_15 : decode cX2_init 15 = .ok (.newarray .int, 2) := by decide +kernel
theorem dX2_init_17 : decode cX2_init 17 = .ok (.putfield 15, 3) := by decide +kernel
theorem dX2_init_20 : decode cX2_init 20 = .ok (.aload_n 0, 1) := by decide +kernel
theorem dX2_init_21 : decode cX2_init 21 = .ok (.iconst 5, 1) := by decide +kernel
theorem dX2_init_22 : decode cX2_init 22 = .ok (.newarray .int, 2) := by decide +kernel
theorem dX2_init_24 : decode cX2_init 24 = .ok (.putfield 18, 3) := by decide +kernel
theorem dX2_init_27 : decode cX2_init 27 = .ok (.aload_n 0, 1) := by decide +kernel
theorem dX2_init_28 : decode cX2_init 28 = .ok (.iconst 5, 1) := by decide +kernel
theorem dX2_init_29 : decode cX2_init 29 = .ok (.newarray .int, 2) := by decide +kernel
theorem dX2_init_31 : decode cX2_init 31 = .ok (.putfield 21, 3) := by decide +kernel
theorem dX2_init_34 : decode cX2_init 34 = .ok (.aload_n 0, 1) := by decide +kernel
theorem dX2_init_35 : decode cX2_init 35 = .ok (.iconst 5, 1) := by decide +kernel
theorem dX2_init_36 : decode cX2_init 36 = .ok (.newarray .int, 2) := by decide +kernel
theorem dX2_init_38 : decode cX2_init 38 = .ok (.putfield 24, 3) := by decide +kernel
theorem dX2_init_41 : decode cX2_init 41 = .ok (.aload_n 0, 1) := by decide +kernel
theorem dX2_init_42 : decode cX2_init 42 = .ok (.bipush 9, 2) := by decide +kernel
theorem dX2_init_44 : decode cX2_init 44 = .ok (.newarray .int, 2) := by decide +kernel
theorem dX2_init_46 : decode cX2_init 46 = .ok (.putfield 27, 3) := by decide +kernel
theorem dX2_init_49 : decode cX2_init 49 = .ok (.return_, 1) := by decide +kernel
theorem dX2_begin_0 : decode cX2_begin 0 = .ok (.aload_n 0, 1) := by decide +kernel
theorem dX2_begin_1 : decode cX2_begin 1 = .ok (.iconst 1, 1) := by decide +kernel
theorem dX2_begin_2 : decode cX2_begin 2 = .ok (.putfield 30, 3) := by decide +kernel
theorem dX2_begin_5 : decode cX2_begin 5 = .ok (.aload_n 0, 1) := by decide +kernel
theorem dX2_begin_6 : decode cX2_begin 6 = .ok (.iconst 0, 1) := by decide +kernel
theorem dX2_begin_7 : decode cX2_begin 7 = .ok (.putfield 34, 3) := by decide +kernel
theorem dX2_begin_10 : decode cX2_begin 10 = .ok (.aload_n 0, 1) := by decide +kernel
theorem dX2_begin_11 : decode cX2_begin 11 = .ok (.iconst 0, 1) := by decide +kernel
theorem dX2_begin_12 : decode cX2_begin 12 = .ok (.putfield 38, 3) := by decide +kernel
theorem dX2_begin_15 : decode cX2_begin 15 = .ok (.aload_n 0, 1) := by decide +kernel
theorem dX2_begin_16 : decode cX2_begin 16 = .ok (.iconst 0, 1) := by decide +kernel
theorem dX2_begin_17 : decode cX2_begin 17 = .ok (.putfield 41, 3) := by decide +kernel
theorem dX2_begin_20 : decode cX2_begin 20 = .ok (.iconst 0, 1) := by decide +kernel
theorem dX2_begin_21 : decode cX2_begin 21 = .ok (.istore_n 1, 1) := by decide +kernel
theorem dX2_begin_22 : decode cX2_begin 22 = .ok (.iload_n 1, 1) := by decide +kernel
theorem dX2_begin_23 : decode cX2_begin 23 = .ok (.bipush 9, 2) := by decide +kernel
theorem dX2_begin_25 : decode cX2_begin 25 = .ok (.if_icmp .ge 16, 3) := by decide +kernel
theorem dX2_begin_28 : decode cX2_begin 28 = .ok (.aload_n 0, 1) := by decide +kernel
theorem dX2_begin_29 : decode cX2_begin 29 = .ok (.getfield 15, 3) := by decide +kernel
theorem dX2_begin_32 : decode cX2_begin 32 = .ok (.iload_n 1, 1) := by decide +kernel
theorem dX2_begin_33 : decode cX2_begin 33 = .ok (.iconst 0, 1) := by decide +kernel
theorem dX2_begin_34 : decode cX2_begin 34 = .ok (.iastore, 1) := by decide +kernel
theorem dX2_begin_35 : decode cX2_begin 35 = .ok (.iinc 1 1, 3) := by decide +kernel
theorem dX2_begin_38 : decode cX2_begin 38 = .ok (.goto (-16), 3) := by decide +kernel
theorem dX2_begin_41 : decode cX2_begin 41 = .ok (.return_, 1) := by decide +kernel
theorem dX2_take_0 : decode cX2_take 0 = .ok (.aload_n 0, 1) := by decide +kernel
theorem dX2_take_1 : decode cX2_take 1 = .ok (.aload_n 1, 1) := by decide +kernel
theorem dX2_take_2 : decode cX2_take 2 = .ok (.getfield 30, 3) := by decide +kernel
theorem dX2_take_5 : decode cX2_take 5 = .ok (.putfield 30, 3) := by decide +kernel
theorem dX2_take_8 : decode cX2_take 8 = .ok (.aload_n 0, 1) := by decide +kernel
theorem dX2_take_9 : decode cX2_take 9 = .ok (.aload_n 1, 1) := by decide +kernel
theorem dX2_take_10 : decode cX2_take 10 = .ok (.getfield 44, 3) := by decide +kernel
theorem dX2_take_13 : decode cX2_take 13 = .ok (.putfield 44, 3) := by decide +kernel
theorem dX2_take_16 : decode cX2_take 16 = .ok (.aload_n 0, 1) := by decide +kernel
theorem dX2_take_17 : decode cX2_take 17 = .ok (.aload_n 1, 1) := by decide +kernel
theorem dX2_take_18 : decode cX2_take 18 = .ok (.getfield 47, 3) := by decide +kernel
theorem dX2_take_21 : decode cX2_take 21 = .ok (.putfield 47, 3) := by decide +kernel
theorem dX2_take_24 : decode cX2_take 24 = .ok (.aload_n 0, 1) := by decide +kernel
theorem dX2_take_25 : decode cX2_take 25 = .ok (.aload_n 1, 1) := by decide +kernel
theorem dX2_take_26 : decode cX2_take 26 = .ok (.getfield 34, 3) := by decide +kernel
theorem dX2_take_29 : decode cX2_take 29 = .ok (.putfield 34, 3) := by decide +kernel
theorem dX2_take_32 : decode cX2_take 32 = .ok (.aload_n 0, 1) := by decide +kernel
theorem dX2_take_33 : decode cX2_take 33 = .ok (.aload_n 1, 1) := by decide +kernel
theorem dX2_take_34 : decode cX2_take 34 = .ok (.getfield 38, 3) := by decide +kernel
theorem dX2_take_37 : decode cX2_take 37 = .ok (.putfield 38, 3) := by decide +kernel
theorem dX2_take_40 : decode cX2_take 40 = .ok (.aload_n 0, 1) := by decide +kernel
theorem dX2_take_41 : decode cX2_take 41 = .ok (.aload_n 1, 1) := by decide +kernel
theorem dX2_take_42 : decode cX2_take 42 = .ok (.getfield 41, 3) := by decide +kernel
theorem dX2_take_45 : decode cX2_take 45 = .ok (.putfield 41, 3) := by decide +kernel
theorem dX2_take_48 : decode cX2_take 48 = .ok (.iconst 0, 1) := by decide +kernel
theorem dX2_take_49 : decode cX2_take 49 = .ok (.istore_n 2, 1) := by decide +kernel
theorem dX2_take_50 : decode cX2_take 50 = .ok (.iload_n 2, 1) := by decide +kernel
theorem dX2_take_51 : decode cX2_take 51 = .ok (.bipush 9, 2) := by decide +kernel
theorem dX2_take_53 : decode cX2_take 53 = .ok (.if_icmp .ge 33, 3) := by decide +kernel
theorem dX2_take_56 : decode cX2_take 56 = .ok (.aload_n 0, 1) := by decide +kernel
theorem dX2_take_57 : decode cX2_take 57 = .ok (.getfield 9, 3) := by decide +kernel
theorem dX2_take_60 : decode cX2_take 60 = .ok (.iload_n 2, 1) := by decide +kernel
theorem dX2_take_61 : decode cX2_take 61 = .ok (.aload_n 1, 1) := by decide +kernel
theorem dX2_take_62 : decode cX2_take 62 = .ok (.getfield 9, 3) := by decide +kernel
theorem dX2_take_65 : decode cX2_take 65 = .ok (.iload_n 2, 1) := by decide +kernel
theorem dX2_take_66 : decode cX2_take 66 = .ok (.iaload, 1) := by decide +kernel
theorem dX2_take_67 : decode cX2_take 67 = .ok (.iastore, 1) := by decide +kernel
theorem dX2_take_68 : decode cX2_take 68 = .ok (.aload_n 0, 1) := by decide +kernel
theorem dX2_take_69 : decode cX2_take 69 = .ok (.getfield 15, 3) := by decide +kernel
theorem dX2_take_72 : decode cX2_take 72 = .ok (.iload_n 2, 1) := by decide +kernel
theorem dX2_take_73 : decode cX2_take 73 = .ok (.aload_n 1, 1) := by decide +kernel
theorem dX2_take_74 : decode cX2_take 74 = .ok (.getfield 15, 3) := by decide +kernel
theorem dX2_take_77 : decode cX2_take 77 = .ok (.iload_n 2, 1) := by decide +kernel
theorem dX2_take_78 : decode cX2_take 78 = .ok (.iaload, 1) := by decide +kernel
theorem dX2_take_79 : decode cX2_take 79 = .ok (.iastore, 1) := by decide +kernel
theorem dX2_take_80 : decode cX2_take 80 = .ok (.iinc 2 1, 3) := by decide +kernel
theorem dX2_take_83 : decode cX2_take 83 = .ok (.goto (-33), 3) := by decide +kernel
theorem dX2_take_86 : decode cX2_take 86 = .ok (.iconst 0, 1) := by decide +kernel
theorem dX2_take_87 : decode cX2_take 87 = .ok (.istore_n 2, 1) := by decide +kernel
theorem dX2_take_88 : decode cX2_take 88 = .ok (.iload_n 2, 1) := by decide +kernel
theorem dX2_take_89 : decode cX2_take 89 = .ok (.iconst 5, 1) := by decide +kernel
theorem dX2_take_90 : decode cX2_take 90 = .ok (.if_icmp .ge 45, 3) := by decide +kernel
theorem dX2_take_93 : decode cX2_take 93 = .ok (.aload_n 0, 1) := by decide +kernel
theorem dX2_take_94 : decode cX2_take 94 = .ok (.getfield 18, 3) := by decide +kernel
theorem dX2_take_97 : decode cX2_take 97 = .ok (.iload_n 2, 1) := by decide +kernel
theorem dX2_take_98 : decode cX2_take 98 = .ok (.aload_n 1, 1) := by decide +kernel
theorem dX2_take_99 : decode cX2_take 99 = .ok (.getfield 18, 3) := by decide +kernel
theorem dX2_take_102 : decode cX2_take 102 = .ok (.iload_n 2, 1) := by decide +kernel
theorem dX2_take_103 : decode cX2_take 103 = .ok (.iaload, 1) := by decide +kernel
theorem dX2_take_104 : decode cX2_take 104 = .ok (.iastore, 1) := by decide +kernel
theorem dX2_take_105 : decode cX2_take 105 = .ok (.aload_n 0, 1) := by decide +kernel
theorem dX2_take_106 : decode cX2_take 106 = .ok (.getfield 21, 3) := by decide +kernel
theorem dX2_take_109 : decode cX2_take 109 = .ok (.iload_n 2, 1) := by decide +kernel
theorem dX2_take_110 : decode cX2_take 110 = .ok (.aload_n 1, 1) := by decide +kernel
theorem dX2_take_111 : decode cX2_take 111 = .ok (.getfield 21, 3) := by decide +kernel
theorem dX2_take_114 : decode cX2_take 114 = .ok (.iload_n 2, 1) := by decide +kernel
theorem dX2_take_115 : decode cX2_take 115 = .ok (.iaload, 1) := by decide +kernel
theorem dX2_take_116 : decode cX2_take 116 = .ok (.iastore, 1) := by decide +kernel
theorem dX2_take_117 : decode cX2_take 117 = .ok (.aload_n 0, 1) := by decide +kernel
theorem dX2_take_118 : decode cX2_take 118 = .ok (.getfield 24, 3) := by decide +kernel
theorem dX2_take_121 : decode cX2_take 121 = .ok (.iload_n 2, 1) := by decide +kernel
theorem dX2_take_122 : decode cX2_take 122 = .ok (.aload_n 1, 1) := by decide +kernel
theorem dX2_take_123 : decode cX2_take 123 = .ok (.getfield 24, 3) := by decide +kernel
theorem dX2_take_126 : decode cX2_take 126 = .ok (.iload_n 2, 1) := by decide +kernel
theorem dX2_take_127 : decode cX2_take 127 = .ok (.iaload, 1) := by decide +kernel
theorem dX2_take_128 : decode cX2_take 128 = .ok (.iastore, 1) := by decide +kernel
theorem dX2_take_129 : decode cX2_take 129 = .ok (.iinc 2 1, 3) := by decide +kernel
theorem dX2_take_132 : decode cX2_take 132 = .ok (.goto (-44), 3) := by decide +kernel
theorem dX2_take_135 : decode cX2_take 135 = .ok (.return_, 1) := by decide +kernel
theorem dX2_nextOf_0 : decode cX2_nextOf 0 = .ok (.iload_n 1, 1) := by decide +kernel
theorem dX2_nextOf_1 : decode cX2_nextOf 1 = .ok (.iconst 1, 1) := by decide +kernel
theorem dX2_nextOf_2 : decode cX2_nextOf 2 = .ok (.iadd, 1) := by decide +kernel
theorem dX2_nextOf_3 : decode cX2_nextOf 3 = .ok (.aload_n 0, 1) := by decide +kernel
theorem dX2_nextOf_4 : decode cX2_nextOf 4 = .ok (.getfield 38, 3) := by decide +kernel
theorem dX2_nextOf_7 : decode cX2_nextOf 7 = .ok (.if_icmp .ge 9, 3) := by decide +kernel
theorem dX2_nextOf_10 : decode cX2_nextOf 10 = .ok (.iload_n 1, 1) := by decide +kernel
theorem dX2_nextOf_11 : decode cX2_nextOf 11 = .ok (.iconst 1, 1) := by decide +kernel
theorem dX2_nextOf_12 : decode cX2_nextOf 12 = .ok (.iadd, 1) := by decide +kernel
theorem dX2_nextOf_13 : decode cX2_nextOf 13 = .ok (.goto 4, 3) := by decide +kernel
theorem dX2_nextOf_16 : decode cX2_nextOf 16 = .ok (.iconst 0, 1) := by decide +kernel
theorem dX2_nextOf_17 : decode cX2_nextOf 17 = .ok (.ireturn, 1) := by decide +kernel
theorem dX2_beforeOf_0 : decode cX2_beforeOf 0 = .ok (.iload_n 1, 1) := by decide +kernel
theorem dX2_beforeOf_1 : decode cX2_beforeOf 1 = .ok (.ifCond .le 9, 3) := by decide +kernel
theorem dX2_beforeOf_4 : decode cX2_beforeOf 4 = .ok (.iload_n 1, 1) := by decide +kernel
theorem dX2_beforeOf_5 : decode cX2_beforeOf 5 = .ok (.iconst 1, 1) := by decide +kernel
theorem dX2_beforeOf_6 : decode cX2_beforeOf 6 = .ok (.isub, 1) := by decide +kernel
theorem dX2_beforeOf_7 : decode cX2_beforeOf 7 = .ok (.goto 9, 3) := by decide +kernel
theorem dX2_beforeOf_10 : decode cX2_beforeOf 10 = .ok (.aload_n 0, 1) := by decide +kernel
theorem dX2_beforeOf_11 : decode cX2_beforeOf 11 = .ok (.getfield 38, 3) := by decide +kernel
theorem dX2_beforeOf_14 : decode cX2_beforeOf 14 = .ok (.iconst 1, 1) := by decide +kernel
theorem dX2_beforeOf_15 : decode cX2_beforeOf 15 = .ok (.isub, 1) := by decide +kernel
theorem dX2_beforeOf_16 : decode cX2_beforeOf 16 = .ok (.ireturn, 1) := by decide +kernel
theorem dX2_allWords_0 : decode cX2_allWords 0 = .ok (.iconst 1, 1) := by decide +kernel
theorem dX2_allWords_1 : decode cX2_allWords 1 = .ok (.aload_n 0, 1) := by decide +kernel
theorem dX2_allWords_2 : decode cX2_allWords 2 = .ok (.getfield 44, 3) := by decide +kernel
theorem dX2_allWords_5 : decode cX2_allWords 5 = .ok (.ishl, 1) := by decide +kernel
theorem dX2_allWords_6 : decode cX2_allWords 6 = .ok (.iconst 1, 1) := by decide +kernel
theorem dX2_allWords_7 : decode cX2_allWords 7 = .ok (.isub, 1) := by decide +kernel
theorem dX2_allWords_8 : decode cX2_allWords 8 = .ok (.ireturn, 1) := by decide +kernel
set_option maxRecDepth 20000 in
theorem ggX2_goHours_X2_goHour : GoodIn wsX2_goHours wsX2_goHour := goodIn_r _ [5, 6, 7, 8, 9, 10, 11, 12, 4, 13, 14, 15, 16, 17, 18, 19, 20, 21, 22, 23, 24, 25, 26, 27, 28, 29, 30, 31, 32, 33, 34, 35, 36, 37, 38, 39, 40, 41, 42, 43, 44, 45, 46, 47, 48, 49, 50, 51, 52, 53, 54, 55, 56, 57, 58, 59, 60] (by decide +kernel) (by decide +kernel)
set_option maxRecDepth 20000 in
theorem gX2_goHours_X2_goHour : GoodIn wsX2_goHours (wsV RX2 50 RX2 yX2_goHour wsX2_goHour) := goodIn_app (goodIn_of _ (by decide +kernel)) ggX2_goHours_X2_goHour
theorem dX2_goHours_0 : decode cX2_goHours 0 = .ok (.iconst 0, 1) := by decide +kernel
theorem dX2_goHours_1 : decode cX2_goHours 1 = .ok (.istore_n 2, 1) := by decide +kernel
theorem dX2_goHours_2 : decode cX2_goHours 2 = .ok (.iload_n 2, 1) := by decide +kernel
theorem dX2_goHours_3 : decode cX2_goHours 3 = .ok (.iload_n 1, 1) := by decide +kernel
theorem dX2_goHours_4 : decode cX2_goHours 4 = .ok (.if_icmp .ge 13, 3) := by decide +kernel
theorem dX2_goHours_7 : decode cX2_goHours 7 = .ok (.aload_n 0, 1) := by decide +kernel
theorem dX2_goHours_8 : decode cX2_goHours 8 = .ok (.invokevirtual 50, 3) := by decide +kernel
theorem dX2_goHours_11 : decode cX2_goHours 11 = .ok (.iinc 2 1, 3) := by decide +kernel
theorem dX2_goHours_14 : decode cX2_goHours 14 = .ok (.goto (-12), 3) := by decide +kernel
theorem dX2_goHours_17 : decode cX2_goHours 17 = .ok (.return_, 1) := by decide +kernel
set_option maxRecDepth 20000 in
theorem ggX2_goHour_X2_councils : GoodIn wsX2_goHour wsX2_councils := goodIn_r _ [9, 3, 10, 45, 46, 47, 48, 49, 50, 51, 52, 53, 54, 55, 56] (by decide +kernel) (by decide +kernel)
set_option maxRecDepth 20000 in
theorem gX2_goHour_X2_councils : GoodIn wsX2_goHour (wsV RX2 53 RX2 yX2_councils wsX2_councils) := goodIn_app (goodIn_of _ (by decide +kernel)) ggX2_goHour_X2_councils
set_option maxRecDepth 20000 in
theorem ggX2_goHour_X2_pass : GoodIn wsX2_goHour wsX2_pass := goodIn_r _ [14, 10, 2, 15, 16, 17, 18, 19, 8, 20, 21, 22, 23, 24, 25, 26, 27, 28, 29, 30, 31, 32, 33, 34, 35, 36, 37, 38, 39, 40, 1, 41, 42, 43, 44, 45, 46, 47, 48, 49, 50, 51, 52, 53, 54, 55, 56] (by decide +kernel) (by decide +kernel)
set_option maxRecDepth 20000 in
theorem gX2_goHour_X2_pass : GoodIn wsX2_goHour (wsV RX2 57 RX2 yX2_pass wsX2_pass) := goodIn_app (goodIn_of _ (by decide +kernel)) ggX2_goHour_X2_pass
theorem dX2_goHour_0 : decode cX2_goHour 0 = .ok (.aload_n 0, 1) := by decide +kernel
theorem dX2_goHour_1 : decode cX2_goHour 1 = .ok (.invokevirtual 53, 3) := by decide +kernel
theorem dX2_goHour_4 : decode cX2_goHour 4 = .ok (.istore_n 1, 1) := by decide +kernel
theorem dX2_goHour_5 : decode cX2_goHour 5 = .ok (.iconst 0, 1) := by decide +kernel
theorem dX2_goHour_6 : decode cX2_goHour 6 = .ok (.istore_n 2, 1) := by decide +kernel
theorem dX2_goHour_7 : decode cX2_goHour 7 = .ok (.iload_n 2, 1) := by decide +kernel
theorem dX2_goHour_8 : decode cX2_goHour 8 = .ok (.aload_n 0, 1) := by decide +kernel
theorem dX2_goHour_9 : decode cX2_goHour 9 = .ok (.getfield 38, 3) := by decide +kernel
theorem dX2_goHour_12 : decode cX2_goHour 12 = .ok (.if_icmp .ge 16, 3) := by decide +kernel
theorem dX2_goHour_15 : decode cX2_goHour 15 = .ok (.aload_n 0, 1) := by decide +kernel
theorem dX2_goHour_16 : decode cX2_goHour 16 = .ok (.getfield 27, 3) := by decide +kernel
theorem dX2_goHour_19 : decode cX2_goHour 19 = .ok (.iload_n 2, 1) := by decide +kernel
theorem dX2_goHour_20 : decode cX2_goHour 20 = .ok (.iconst 0, 1) := by decide +kernel
theorem dX2_goHour_21 : decode cX2_goHour 21 = .ok (.iastore, 1) := by decide +kernel
theorem dX2_goHour_22 : decode cX2_goHour 22 = .ok (.iinc 2 1, 3) := by decide +kernel
theorem dX2_goHour_25 : decode cX2_goHour 25 = .ok (.goto (-18), 3) := by decide +kernel
theorem dX2_goHour_28 : decode cX2_goHour 28 = .ok (.iconst 0, 1) := by decide +kernel
theorem dX2_goHour_29 : decode cX2_goHour 29 = .ok (.istore_n 2, 1) := by decide +kernel
theorem dX2_goHour_30 : decode cX2_goHour 30 = .ok (.iload_n 2, 1) := by decide +kernel
theorem dX2_goHour_31 : decode cX2_goHour 31 = .ok (.aload_n 0, 1) := by decide +kernel
theorem dX2_goHour_32 : decode cX2_goHour 32 = .ok (.getfield 41, 3) := by decide +kernel
theorem dX2_goHour_35 : decode cX2_goHour 35 = .ok (.if_icmp .ge 22, 3) := by decide +kernel
theorem dX2_goHour_38 : decode cX2_goHour 38 = .ok (.iload_n 1, 1) := by decide +kernel
theorem dX2_goHour_39 : decode cX2_goHour 39 = .ok (.iload_n 2, 1) := by decide +kernel
theorem dX2_goHour_40 : decode cX2_goHour 40 = .ok (.ishr, 1) := by decide +kernel
theorem dX2_goHour_41 : decode cX2_goHour 41 = .ok (.iconst 1, 1) := by decide +kernel
theorem dX2_goHour_42 : decode cX2_goHour 42 = .ok (.iand, 1) := by decide +kernel
theorem dX2_goHour_43 : decode cX2_goHour 43 = .ok (.ifCond .ne 8, 3) := by decide +kernel
theorem dX2_goHour_46 : decode cX2_goHour 46 = .ok (.aload_n 0, 1) := by decide +kernel
theorem dX2_goHour_47 : decode cX2_goHour 47 = .ok (.iload_n 2, 1) := by decide +kernel
theorem dX2_goHour_48 : decode cX2_goHour 48 = .ok (.invokevirtual 57, 3) := by decide +kernel
theorem dX2_goHour_51 : decode cX2_goHour 51 = .ok (.iinc 2 1, 3) := by decide +kernel
theorem dX2_goHour_54 : decode cX2_goHour 54 = .ok (.goto (-24), 3) := by decide +kernel
theorem dX2_goHour_57 : decode cX2_goHour 57 = .ok (.aload_n 0, 1) := by decide +kernel
theorem dX2_goHour_58 : decode cX2_goHour 58 = .ok (.dup, 1) := by decide +kernel
theorem dX2_goHour_59 : decode cX2_goHour 59 = .ok (.getfield 34, 3) := by decide +kernel
theorem dX2_goHour_62 : decode cX2_goHour 62 = .ok (.iconst 1, 1) := by decide +kernel
theorem dX2_goHour_63 : decode cX2_goHour 63 = .ok (.iadd, 1) := by decide +kernel
theorem dX2_goHour_64 : decode cX2_goHour 64 = .ok (.putfield 34, 3) := by decide +kernel
theorem dX2_goHour_67 : decode cX2_goHour 67 = .ok (.return_, 1) := by decide +kernel
theorem dX2_councils_0 : decode cX2_councils 0 = .ok (.iconst 0, 1) := by decide +kernel
theorem dX2_councils_1 : decode cX2_councils 1 = .ok (.istore_n 1, 1) := by decide +kernel
theorem dX2_councils_2 : decode cX2_councils 2 = .ok (.iconst 0, 1) := by decide +kernel
theorem dX2_councils_3 : decode cX2_councils 3 = .ok (.istore_n 2, 1) := by decide +kernel
theorem dX2_councils_4 : decode cX2_councils 4 = .ok (.iconst 0, 1) := by decide +kernel
theorem dX2_councils_5 : decode cX2_councils 5 = .ok (.istore_n 3, 1) := by decide +kernel
theorem dX2_councils_6 : decode cX2_councils 6 = .ok (.iload_n 3, 1) := by decide +kernel
theorem dX2_councils_7 : decode cX2_councils 7 = .ok (.aload_n 0, 1) := by decide +kernel
theorem dX2_councils_8 : decode cX2_councils 8 = .ok (.getfield 41, 3) := by decide +kernel
theorem dX2_councils_11 : decode cX2_councils 11 = .ok (.if_icmp .ge 39, 3) := by decide +kernel
theorem dX2_councils_14 : decode cX2_councils 14 = .ok (.iload_n 1, 1) := by decide +kernel
theorem dX2_councils_15 : decode cX2_councils 15 = .ok (.aload_n 0, 1) := by decide +kernel
theorem dX2_councils_16 : decode cX2_councils 16 = .ok (.getfield 21, 3) := by decide +kernel
theorem dX2_councils_19 : decode cX2_councils 19 = .ok (.iload_n 3, 1) := by decide +kernel
theorem dX2_councils_20 : decode cX2_councils 20 = .ok (.iaload, 1) := by decide +kernel
theorem dX2_councils_21 : decode cX2_councils 21 = .ok (.ishr, 1) := by decide +kernel
theorem dX2_councils_22 : decode cX2_councils 22 = .ok (.iconst 1, 1) := by decide +kernel
theorem dX2_councils_23 : decode cX2_councils 23 = .ok (.iand, 1) := by decide +kernel
theorem dX2_councils_24 : decode cX2_councils 24 = .ok (.ifCond .eq 9, 3) := by decide +kernel
theorem dX2_councils_27 : decode cX2_councils 27 = .ok (.iload_n 2, 1) := by decide +kernel
theorem dX2_councils_28 : decode cX2_councils 28 = .ok (.iconst 1, 1) := by decide +kernel
theorem dX2_councils_29 : decode cX2_councils 29 = .ok (.iload_n 3, 1) := by decide +kernel
theorem dX2_councils_30 : decode cX2_councils 30 = .ok (.ishl, 1) := by decide +kernel
theorem dX2_councils_31 : decode cX2_councils 31 = .ok (.ior, 1) := by decide +kernel
theorem dX2_councils_32 : decode cX2_councils 32 = .ok (.istore_n 2, 1) := by decide +kernel
theorem dX2_councils_33 : decode cX2_councils 33 = .ok (.iload_n 1, 1) := by decide +kernel
theorem dX2_councils_34 : decode cX2_councils 34 = .ok (.iconst 1, 1) := by decide +kernel
theorem dX2_councils_35 : decode cX2_councils 35 = .ok (.aload_n 0, 1) := by decide +kernel
theorem dX2_councils_36 : decode cX2_councils 36 = .ok (.getfield 21, 3) := by decide +kernel
theorem dX2_councils_39 : decode cX2_councils 39 = .ok (.iload_n 3, 1) := by decide +kernel
theorem dX2_councils_40 : decode cX2_councils 40 = .ok (.iaload, 1) := by decide +kernel
theorem dX2_councils_41 : decode cX2_councils 41 = .ok (.ishl, 1) := by decide +kernel
theorem dX2_councils_42 : decode cX2_councils 42 = .ok (.ior, 1) := by decide +kernel
theorem dX2_councils_43 : decode cX2_councils 43 = .ok (.istore_n 1, 1) := by decide +kernel
theorem dX2_councils_44 : decode cX2_councils 44 = .ok (.iinc 3 1, 3) := by decide +kernel
theorem dX2_councils_47 : decode cX2_councils 47 = .ok (.goto (-41), 3) := by decide +kernel
theorem dX2_councils_50 : decode cX2_councils 50 = .ok (.iload_n 2, 1) := by decide +kernel
theorem dX2_councils_51 : decode cX2_councils 51 = .ok (.ireturn, 1) := by decide +kernel
set_option maxRecDepth 20000 in
theorem ggX2_pass_X2_sayings : GoodIn wsX2_pass wsX2_sayings := goodIn_r _ [9, 10, 4, 11, 1, 12, 13, 14, 8, 15, 16, 35, 36, 37, 38, 39, 40, 41, 42, 43, 44, 45, 46] (by decide +kernel) (by decide +kernel)
set_option maxRecDepth 20000 in
theorem gX2_pass_X2_sayings : GoodIn wsX2_pass (wsV RX2 61 RX2 yX2_sayings wsX2_sayings) := goodIn_app (goodIn_of _ (by decide +kernel)) ggX2_pass_X2_sayings
set_option maxRecDepth 20000 in
theorem ggX2_pass_X2_wordBehind : GoodIn wsX2_pass wsX2_wordBehind := goodIn_r _ [20, 4, 10, 11, 1, 12, 13, 14, 8, 15, 16, 35, 36, 37, 38, 39, 40, 41, 42, 43, 44, 45, 46] (by decide +kernel) (by decide +kernel)
set_option maxRecDepth 20000 in
theorem gX2_pass_X2_wordBehind : GoodIn wsX2_pass (wsV RX2 65 RX2 yX2_wordBehind wsX2_wordBehind) := goodIn_app (goodIn_of _ (by decide +kernel)) ggX2_pass_X2_wordBehind
set_option maxRecDepth 20000 in
theorem ggX2_pass_X2_stretchBehind : GoodIn wsX2_pass wsX2_stretchBehind := goodIn_r _ [24, 10, 1, 25, 26, 27, 28, 8, 29, 30, 31, 32, 33, 34, 35, 36, 37, 38, 39, 40, 41, 42, 43, 44, 45, 46] (by decide +kernel) (by decide +kernel)
set_option maxRecDepth 20000 in
theorem gX2_pass_X2_stretchBehind : GoodIn wsX2_pass (wsV RX2 68 RX2 yX2_stretchBehind wsX2_stretchBehind) := goodIn_app (goodIn_of _ (by decide +kernel)) ggX2_pass_X2_stretchBehind
theorem dX2_pass_0 : decode cX2_pass 0 = .ok (.aload_n 0, 1) := by decide +kernel
theorem dX2_pass_1 : decode cX2_pass 1 = .ok (.getfield 21, 3) := by decide +kernel
theorem dX2_pass_4 : decode cX2_pass 4 = .ok (.iload_n 1, 1) := by decide +kernel
theorem dX2_pass_5 : decode cX2_pass 5 = .ok (.iaload, 1) := by decide +kernel
theorem dX2_pass_6 : decode cX2_pass 6 = .ok (.istore_n 2, 1) := by decide +kernel
theorem dX2_pass_7 : decode cX2_pass 7 = .ok (.aload_n 0, 1) := by decide +kernel
theorem dX2_pass_8 : decode cX2_pass 8 = .ok (.iload_n 1, 1) := by decide +kernel
theorem dX2_pass_9 : decode cX2_pass 9 = .ok (.invokevirtual 61, 3) := by decide +kernel
theorem dX2_pass_12 : decode cX2_pass 12 = .ok (.istore_n 3, 1) := by decide +kernel
theorem dX2_pass_13 : decode cX2_pass 13 = .ok (.aload_n 0, 1) := by decide +kernel
theorem dX2_pass_14 : decode cX2_pass 14 = .ok (.getfield 27, 3) := by decide +kernel
theorem dX2_pass_17 : decode cX2_pass 17 = .ok (.iload_n 2, 1) := by decide +kernel
theorem dX2_pass_18 : decode cX2_pass 18 = .ok (.dup2, 1) := by decide +kernel
theorem dX2_pass_19 : decode cX2_pass 19 = .ok (.iaload, 1) := by decide +kernel
theorem dX2_pass_20 : decode cX2_pass 20 = .ok (.iload_n 3, 1) := by decide +kernel
theorem dX2_pass_21 : decode cX2_pass 21 = .ok (.ior, 1) := by decide +kernel
theorem dX2_pass_22 : decode cX2_pass 22 = .ok (.iastore, 1) := by decide +kernel
theorem dX2_pass_23 : decode cX2_pass 23 = .ok (.aload_n 0, 1) := by decide +kernel
theorem dX2_pass_24 : decode cX2_pass 24 = .ok (.getfield 15, 3) := by decide +kernel
theorem dX2_pass_27 : decode cX2_pass 27 = .ok (.iload_n 2, 1) := by decide +kernel
theorem dX2_pass_28 : decode cX2_pass 28 = .ok (.dup2, 1) := by decide +kernel
theorem dX2_pass_29 : decode cX2_pass 29 = .ok (.iaload, 1) := by decide +kernel
theorem dX2_pass_30 : decode cX2_pass 30 = .ok (.iload_n 3, 1) := by decide +kernel
theorem dX2_pass_31 : decode cX2_pass 31 = .ok (.ior, 1) := by decide +kernel
theorem dX2_pass_32 : decode cX2_pass 32 = .ok (.iastore, 1) := by decide +kernel
theorem dX2_pass_33 : decode cX2_pass 33 = .ok (.aload_n 0, 1) := by decide +kernel
theorem dX2_pass_34 : decode cX2_pass 34 = .ok (.getfield 24, 3) := by decide +kernel
theorem dX2_pass_37 : decode cX2_pass 37 = .ok (.iload_n 1, 1) := by decide +kernel
theorem dX2_pass_38 : decode cX2_pass 38 = .ok (.aload_n 0, 1) := by decide +kernel
theorem dX2_pass_39 : decode cX2_pass 39 = .ok (.iload_n 1, 1) := by decide +kernel
theorem dX2_pass_40 : decode cX2_pass 40 = .ok (.invokevirtual 65, 3) := by decide +kernel
theorem dX2_pass_43 : decode cX2_pass 43 = .ok (.iastore, 1) := by decide +kernel
theorem dX2_pass_44 : decode cX2_pass 44 = .ok (.aload_n 0, 1) := by decide +kernel
theorem dX2_pass_45 : decode cX2_pass 45 = .ok (.getfield 21, 3) := by decide +kernel
theorem dX2_pass_48 : decode cX2_pass 48 = .ok (.iload_n 1, 1) := by decide +kernel
theorem dX2_pass_49 : decode cX2_pass 49 = .ok (.aload_n 0, 1) := by decide +kernel
theorem dX2_pass_50 : decode cX2_pass 50 = .ok (.iload_n 1, 1) := by decide +kernel
theorem dX2_pass_51 : decode cX2_pass 51 = .ok (.iload_n 3, 1) := by decide +kernel
theorem dX2_pass_52 : decode cX2_pass 52 = .ok (.invokevirtual 68, 3) := by decide +kernel
theorem dX2_pass_55 : decode cX2_pass 55 = .ok (.iastore, 1) := by decide +kernel
theorem dX2_pass_56 : decode cX2_pass 56 = .ok (.return_, 1) := by decide +kernel
set_option maxRecDepth 20000 in
theorem ggX2_sayings_X2_wordAfter : GoodIn wsX2_sayings wsX2_wordAfter := goodIn_r _ [9, 1, 10, 11, 12, 13, 14, 15, 16, 17, 18, 19, 20, 21, 22] (by decide +kernel) (by decide +kernel)
set_option maxRecDepth 20000 in
theorem gX2_sayings_X2_wordAfter : GoodIn wsX2_sayings (wsV RX2 75 RX2 yX2_wordAfter wsX2_wordAfter) := goodIn_app (goodIn_of _ (by decide +kernel)) ggX2_sayings_X2_wordAfter
theorem dX2_sayings_0 : decode cX2_sayings 0 = .ok (.aload_n 0, 1) := by decide +kernel
theorem dX2_sayings_1 : decode cX2_sayings 1 = .ok (.getfield 18, 3) := by decide +kernel
theorem dX2_sayings_4 : decode cX2_sayings 4 = .ok (.iload_n 1, 1) := by decide +kernel
theorem dX2_sayings_5 : decode cX2_sayings 5 = .ok (.iaload, 1) := by decide +kernel
theorem dX2_sayings_6 : decode cX2_sayings 6 = .ok (.iconst 4, 1) := by decide +kernel
theorem dX2_sayings_7 : decode cX2_sayings 7 = .ok (.if_icmp .ne 5, 3) := by decide +kernel
theorem dX2_sayings_10 : decode cX2_sayings 10 = .ok (.iconst 0, 1) := by decide +kernel
theorem dX2_sayings_11 : decode cX2_sayings 11 = .ok (.ireturn, 1) := by decide +kernel
theorem dX2_sayings_12 : decode cX2_sayings 12 = .ok (.iconst 0, 1) := by decide +kernel
theorem dX2_sayings_13 : decode cX2_sayings 13 = .ok (.istore_n 2, 1) := by decide +kernel
theorem dX2_sayings_14 : decode cX2_sayings 14 = .ok (.aload_n 0, 1) := by decide +kernel
theorem dX2_sayings_15 : decode cX2_sayings 15 = .ok (.getfield 24, 3) := by decide +kernel
theorem dX2_sayings_18 : decode cX2_sayings 18 = .ok (.iload_n 1, 1) := by decide +kernel
theorem dX2_sayings_19 : decode cX2_sayings 19 = .ok (.iaload, 1) := by decide +kernel
theorem dX2_sayings_20 : decode cX2_sayings 20 = .ok (.istore_n 3, 1) := by decide +kernel
theorem dX2_sayings_21 : decode cX2_sayings 21 = .ok (.iconst 0, 1) := by decide +kernel
theorem dX2_sayings_22 : decode cX2_sayings 22 = .ok (.istore 4, 2) := by decide +kernel
theorem dX2_sayings_24 : decode cX2_sayings 24 = .ok (.iload 4, 2) := by decide +kernel
theorem dX2_sayings_26 : decode cX2_sayings 26 = .ok (.getstatic 72, 3) := by decide +kernel
theorem dX2_sayings_29 : decode cX2_sayings 29 = .ok (.aload_n 0, 1) := by decide +kernel
theorem dX2_sayings_30 : decode cX2_sayings 30 = .ok (.getfield 9, 3) := by decide +kernel
theorem dX2_sayings_33 : decode cX2_sayings 33 = .ok (.aload_n 0, 1) := by decide +kernel
theorem dX2_sayings_34 : decode cX2_sayings 34 = .ok (.getfield 21, 3) := by decide +kernel
theorem dX2_sayings_37 : decode cX2_sayings 37 = .ok (.iload_n 1, 1) := by decide +kernel
theorem dX2_sayings_38 : decode cX2_sayings 38 = .ok (.iaload, 1) := by decide +kernel
theorem dX2_sayings_39 : decode cX2_sayings 39 = .ok (.iaload, 1) := by decide +kernel
theorem dX2_sayings_40 : decode cX2_sayings 40 = .ok (.iaload, 1) := by decide +kernel
theorem dX2_sayings_41 : decode cX2_sayings 41 = .ok (.if_icmp .ge 22, 3) := by decide +kernel
theorem dX2_sayings_44 : decode cX2_sayings 44 = .ok (.iload_n 2, 1) := by decide +kernel
theorem dX2_sayings_45 : decode cX2_sayings 45 = .ok (.iconst 1, 1) := by decide +kernel
theorem dX2_sayings_46 : decode cX2_sayings 46 = .ok (.iload_n 3, 1) := by decide +kernel
theorem dX2_sayings_47 : decode cX2_sayings 47 = .ok (.ishl, 1) := by decide +kernel
theorem dX2_sayings_48 : decode cX2_sayings 48 = .ok (.ior, 1) := by decide +kernel
theorem dX2_sayings_49 : decode cX2_sayings 49 = .ok (.istore_n 2, 1) := by decide +kernel
theorem dX2_sayings_50 : decode cX2_sayings 50 = .ok (.aload_n 0, 1) := by decide +kernel
theorem dX2_sayings_51 : decode cX2_sayings 51 = .ok (.iload_n 1, 1) := by decide +kernel
theorem dX2_sayings_52 : decode cX2_sayings 52 = .ok (.iload_n 3, 1) := by decide +kernel
theorem dX2_sayings_53 : decode cX2_sayings 53 = .ok (.invokevirtual 75, 3) := by decide +kernel
theorem dX2_sayings_56 : decode cX2_sayings 56 = .ok (.istore_n 3, 1) := by decide +kernel
theorem dX2_sayings_57 : decode cX2_sayings 57 = .ok (.iinc 4 1, 3) := by decide +kernel
theorem dX2_sayings_60 : decode cX2_sayings 60 = .ok (.goto (-36), 3) := by decide +kernel
theorem dX2_sayings_63 : decode cX2_sayings 63 = .ok (.iload_n 2, 1) := by decide +kernel
theorem dX2_sayings_64 : decode cX2_sayings 64 = .ok (.ireturn, 1) := by decide +kernel
set_option maxRecDepth 20000 in
theorem ggX2_wordBehind_X2_wordAfter : GoodIn wsX2_wordBehind wsX2_wordAfter := goodIn_r _ [9, 2, 10, 11, 12, 13, 14, 15, 16, 17, 18, 19, 20, 21, 22] (by decide +kernel) (by decide +kernel)
set_option maxRecDepth 20000 in
theorem gX2_wordBehind_X2_wordAfter : GoodIn wsX2_wordBehind (wsV RX2 75 RX2 yX2_wordAfter wsX2_wordAfter) := goodIn_app (goodIn_of _ (by decide +kernel)) ggX2_wordBehind_X2_wordAfter
theorem dX2_wordBehind_0 : decode cX2_wordBehind 0 = .ok (.aload_n 0, 1) := by decide +kernel
theorem dX2_wordBehind_1 : decode cX2_wordBehind 1 = .ok (.getfield 24, 3) := by decide +kernel
theorem dX2_wordBehind_4 : decode cX2_wordBehind 4 = .ok (.iload_n 1, 1) := by decide +kernel
theorem dX2_wordBehind_5 : decode cX2_wordBehind 5 = .ok (.iaload, 1) := by decide +kernel
theorem dX2_wordBehind_6 : decode cX2_wordBehind 6 = .ok (.istore_n 2, 1) := by decide +kernel
theorem dX2_wordBehind_7 : decode cX2_wordBehind 7 = .ok (.aload_n 0, 1) := by decide +kernel
theorem dX2_wordBehind_8 : decode cX2_wordBehind 8 = .ok (.getfield 18, 3) := by decide +kernel
theorem dX2_wordBehind_11 : decode cX2_wordBehind 11 = .ok (.iload_n 1, 1) := by decide +kernel
theorem dX2_wordBehind_12 : decode cX2_wordBehind 12 = .ok (.iaload, 1) := by decide +kernel
theorem dX2_wordBehind_13 : decode cX2_wordBehind 13 = .ok (.iconst 4, 1) := by decide +kernel
theorem dX2_wordBehind_14 : decode cX2_wordBehind 14 = .ok (.if_icmp .eq 37, 3) := by decide +kernel
theorem dX2_wordBehind_17 : decode cX2_wordBehind 17 = .ok (.iconst 0, 1) := by decide +kernel
theorem dX2_wordBehind_18 : decode cX2_wordBehind 18 = .ok (.istore_n 3, 1) := by decide +kernel
theorem dX2_wordBehind_19 : decode cX2_wordBehind 19 = .ok (.iload_n 3, 1) := by decide +kernel
theorem dX2_wordBehind_20 : decode cX2_wordBehind 20 = .ok (.getstatic 72, 3) := by decide +kernel
theorem dX2_wordBehind_23 : decode cX2_wordBehind 23 = .ok (.aload_n 0, 1) := by decide +kernel
theorem dX2_wordBehind_24 : decode cX2_wordBehind 24 = .ok (.getfield 9, 3) := by decide +kernel
theorem dX2_wordBehind_27 : decode cX2_wordBehind 27 = .ok (.aload_n 0, 1) := by decide +kernel
theorem dX2_wordBehind_28 : decode cX2_wordBehind 28 = .ok (.getfield 21, 3) := by decide +kernel
theorem dX2_wordBehind_31 : decode cX2_wordBehind 31 = .ok (.iload_n 1, 1) := by decide +kernel
theorem dX2_wordBehind_32 : decode cX2_wordBehind 32 = .ok (.iaload, 1) := by decide +kernel
theorem dX2_wordBehind_33 : decode cX2_wordBehind 33 = .ok (.iaload, 1) := by decide +kernel
theorem dX2_wordBehind_34 : decode cX2_wordBehind 34 = .ok (.iaload, 1) := by decide +kernel
theorem dX2_wordBehind_35 : decode cX2_wordBehind 35 = .ok (.if_icmp .ge 16, 3) := by decide +kernel
theorem dX2_wordBehind_38 : decode cX2_wordBehind 38 = .ok (.aload_n 0, 1) := by decide +kernel
theorem dX2_wordBehind_39 : decode cX2_wordBehind 39 = .ok (.iload_n 1, 1) := by decide +kernel
theorem dX2_wordBehind_40 : decode cX2_wordBehind 40 = .ok (.iload_n 2, 1) := by decide +kernel
theorem dX2_wordBehind_41 : decode cX2_wordBehind 41 = .ok (.invokevirtual 75, 3) := by decide +kernel
theorem dX2_wordBehind_44 : decode cX2_wordBehind 44 = .ok (.istore_n 2, 1) := by decide +kernel
theorem dX2_wordBehind_45 : decode cX2_wordBehind 45 = .ok (.iinc 3 1, 3) := by decide +kernel
theorem dX2_wordBehind_48 : decode cX2_wordBehind 48 = .ok (.goto (-29), 3) := by decide +kernel
theorem dX2_wordBehind_51 : decode cX2_wordBehind 51 = .ok (.iload_n 2, 1) := by decide +kernel
theorem dX2_wordBehind_52 : decode cX2_wordBehind 52 = .ok (.ireturn, 1) := by decide +kernel
theorem dX2_wordAfter_0 : decode cX2_wordAfter 0 = .ok (.aload_n 0, 1) := by decide +kernel
theorem dX2_wordAfter_1 : decode cX2_wordAfter 1 = .ok (.getfield 18, 3) := by decide +kernel
theorem dX2_wordAfter_4 : decode cX2_wordAfter 4 = .ok (.iload_n 1, 1) := by decide +kernel
theorem dX2_wordAfter_5 : decode cX2_wordAfter 5 = .ok (.iaload, 1) := by decide +kernel
theorem dX2_wordAfter_6 : decode cX2_wordAfter 6 = .ok (.iconst 5, 1) := by decide +kernel
theorem dX2_wordAfter_7 : decode cX2_wordAfter 7 = .ok (.if_icmp .ne 20, 3) := by decide +kernel
theorem dX2_wordAfter_10 : decode cX2_wordAfter 10 = .ok (.iload_n 2, 1) := by decide +kernel
theorem dX2_wordAfter_11 : decode cX2_wordAfter 11 = .ok (.ifCond .le 9, 3) := by decide +kernel
theorem dX2_wordAfter_14 : decode cX2_wordAfter 14 = .ok (.iload_n 2, 1) := by decide +kernel
theorem dX2_wordAfter_15 : decode cX2_wordAfter 15 = .ok (.iconst 1, 1) := by decide +kernel
theorem dX2_wordAfter_16 : decode cX2_wordAfter 16 = .ok (.isub, 1) := by decide +kernel
theorem dX2_wordAfter_17 : decode cX2_wordAfter 17 = .ok (.goto 9, 3) := by decide +kernel
theorem dX2_wordAfter_20 : decode cX2_wordAfter 20 = .ok (.aload_n 0, 1) := by decide +kernel
theorem dX2_wordAfter_21 : decode cX2_wordAfter 21 = .ok (.getfield 44, 3) := by decide +kernel
theorem dX2_wordAfter_24 : decode cX2_wordAfter 24 = .ok (.iconst 1, 1) := by decide +kernel
theorem dX2_wordAfter_25 : decode cX2_wordAfter 25 = .ok (.isub, 1) := by decide +kernel
theorem dX2_wordAfter_26 : decode cX2_wordAfter 26 = .ok (.ireturn, 1) := by decide +kernel
theorem dX2_wordAfter_27 : decode cX2_wordAfter 27 = .ok (.iload_n 2, 1) := by decide +kernel
theorem dX2_wordAfter_28 : decode cX2_wordAfter 28 = .ok (.iconst 1, 1) := by decide +kernel
theorem dX2_wordAfter_29 : decode cX2_wordAfter 29 = .ok (.iadd, 1) := by decide +kernel
theorem dX2_wordAfter_30 : decode cX2_wordAfter 30 = .ok (.aload_n 0, 1) := by decide +kernel
theorem dX2_wordAfter_31 : decode cX2_wordAfter 31 = .ok (.getfield 44, 3) := by decide +kernel
theorem dX2_wordAfter_34 : decode cX2_wordAfter 34 = .ok (.if_icmp .ge 9, 3) := by decide +kernel
theorem dX2_wordAfter_37 : decode cX2_wordAfter 37 = .ok (.iload_n 2, 1) := by decide +kernel
theorem dX2_wordAfter_38 : decode cX2_wordAfter 38 = .ok (.iconst 1, 1) := by decide +kernel
theorem dX2_wordAfter_39 : decode cX2_wordAfter 39 = .ok (.iadd, 1) := by decide +kernel
theorem dX2_wordAfter_40 : decode cX2_wordAfter 40 = .ok (.goto 4, 3) := by decide +kernel
theorem dX2_wordAfter_43 : decode cX2_wordAfter 43 = .ok (.iconst 0, 1) := by decide +kernel
theorem dX2_wordAfter_44 : decode cX2_wordAfter 44 = .ok (.ireturn, 1) := by decide +kernel
set_option maxRecDepth 20000 in
theorem ggX2_stretchBehind_X2_beforeOf : GoodIn wsX2_stretchBehind wsX2_beforeOf := goodIn_r _ [8, 9, 14, 15, 16, 17, 18, 19, 20, 21, 22, 23, 24, 25] (by decide +kernel) (by decide +kernel)
set_option maxRecDepth 20000 in
theorem gX2_stretchBehind_X2_beforeOf : GoodIn wsX2_stretchBehind (wsV RX2 78 RX2 yX2_beforeOf wsX2_beforeOf) := goodIn_app (goodIn_of _ (by decide +kernel)) ggX2_stretchBehind_X2_beforeOf
set_option maxRecDepth 20000 in
theorem ggX2_stretchBehind_X2_nextOf : GoodIn wsX2_stretchBehind wsX2_nextOf := goodIn_r _ [13, 9, 14, 15, 16, 17, 18, 19, 20, 21, 22, 23, 24, 25] (by decide +kernel) (by decide +kernel)
set_option maxRecDepth 20000 in
theorem gX2_stretchBehind_X2_nextOf : GoodIn wsX2_stretchBehind (wsV RX2 81 RX2 yX2_nextOf wsX2_nextOf) := goodIn_app (goodIn_of _ (by decide +kernel)) ggX2_stretchBehind_X2_nextOf
theorem dX2_stretchBehind_0 : decode cX2_stretchBehind 0 = .ok (.aload_n 0, 1) := by decide +kernel
theorem dX2_stretchBehind_1 : decode cX2_stretchBehind 1 = .ok (.getfield 18, 3) := by decide +kernel
theorem dX2_stretchBehind_4 : decode cX2_stretchBehind 4 = .ok (.iload_n 1, 1) := by decide +kernel
theorem dX2_stretchBehind_5 : decode cX2_stretchBehind 5 = .ok (.iaload, 1) := by decide +kernel
theorem dX2_stretchBehind_6 : decode cX2_stretchBehind 6 = .ok (.iconst 2, 1) := by decide +kernel
theorem dX2_stretchBehind_7 : decode cX2_stretchBehind 7 = .ok (.if_icmp .ne 14, 3) := by decide +kernel
theorem dX2_stretchBehind_10 : decode cX2_stretchBehind 10 = .ok (.aload_n 0, 1) := by decide +kernel
theorem dX2_stretchBehind_11 : decode cX2_stretchBehind 11 = .ok (.aload_n 0, 1) := by decide +kernel
theorem dX2_stretchBehind_12 : decode cX2_stretchBehind 12 = .ok (.getfield 21, 3) := by decide +kernel
theorem dX2_stretchBehind_15 : decode cX2_stretchBehind 15 = .ok (.iload_n 1, 1) := by decide +kernel
theorem dX2_stretchBehind_16 : decode cX2_stretchBehind 16 = .ok (.iaload, 1) := by decide +kernel
theorem dX2_stretchBehind_17 : decode cX2_stretchBehind 17 = .ok (.invokevirtual 78, 3) := by decide +kernel
theorem dX2_stretchBehind_20 : decode cX2_stretchBehind 20 = .ok (.ireturn, 1) := by decide +kernel
theorem dX2_stretchBehind_21 : decode cX2_stretchBehind 21 = .ok (.aload_n 0, 1) := by decide +kernel
theorem dX2_stretchBehind_22 : decode cX2_stretchBehind 22 = .ok (.getfield 18, 3) := by decide +kernel
theorem dX2_stretchBehind_25 : decode cX2_stretchBehind 25 = .ok (.iload_n 1, 1) := by decide +kernel
theorem dX2_stretchBehind_26 : decode cX2_stretchBehind 26 = .ok (.iaload, 1) := by decide +kernel
theorem dX2_stretchBehind_27 : decode cX2_stretchBehind 27 = .ok (.iconst 3, 1) := by decide +kernel
theorem dX2_stretchBehind_28 : decode cX2_stretchBehind 28 = .ok (.if_icmp .ne 18, 3) := by decide +kernel
theorem dX2_stretchBehind_31 : decode cX2_stretchBehind 31 = .ok (.iload_n 2, 1) := by decide +kernel
theorem dX2_stretchBehind_32 : decode cX2_stretchBehind 32 = .ok (.aload_n 0, 1) := by decide +kernel
theorem dX2_stretchBehind_33 : decode cX2_stretchBehind 33 = .ok (.getfield 47, 3) := by decide +kernel
theorem dX2_stretchBehind_36 : decode cX2_stretchBehind 36 = .ok (.ishr, 1) := by decide +kernel
theorem dX2_stretchBehind_37 : decode cX2_stretchBehind 37 = .ok (.iconst 1, 1) := by decide +kernel
theorem dX2_stretchBehind_38 : decode cX2_stretchBehind 38 = .ok (.iand, 1) := by decide +kernel
theorem dX2_stretchBehind_39 : decode cX2_stretchBehind 39 = .ok (.ifCond .eq 7, 3) := by decide +kernel
theorem dX2_stretchBehind_42 : decode cX2_stretchBehind 42 = .ok (.iconst 1, 1) := by decide +kernel
theorem dX2_stretchBehind_43 : decode cX2_stretchBehind 43 = .ok (.goto 4, 3) := by decide +kernel
theorem dX2_stretchBehind_46 : decode cX2_stretchBehind 46 = .ok (.iconst 0, 1) := by decide +kernel
theorem dX2_stretchBehind_47 : decode cX2_stretchBehind 47 = .ok (.istore_n 3, 1) := by decide +kernel
theorem dX2_stretchBehind_48 : decode cX2_stretchBehind 48 = .ok (.iload_n 3, 1) := by decide +kernel
theorem dX2_stretchBehind_49 : decode cX2_stretchBehind 49 = .ok (.ifCond .eq 12, 3) := by decide +kernel
theorem dX2_stretchBehind_52 : decode cX2_stretchBehind 52 = .ok (.aload_n 0, 1) := by decide +kernel
theorem dX2_stretchBehind_53 : decode cX2_stretchBehind 53 = .ok (.getfield 21, 3) := by decide +kernel
theorem dX2_stretchBehind_56 : decode cX2_stretchBehind 56 = .ok (.iload_n 1, 1) := by decide +kernel
theorem dX2_stretchBehind_57 : decode cX2_stretchBehind 57 = .ok (.iaload, 1) := by decide +kernel
theorem dX2_stretchBehind_58 : decode cX2_stretchBehind 58 = .ok (.goto 13, 3) := by decide +kernel
theorem dX2_stretchBehind_61 : decode cX2_stretchBehind 61 = .ok (.aload_n 0, 1) := by decide +kernel
theorem dX2_stretchBehind_62 : decode cX2_stretchBehind 62 = .ok (.aload_n 0, 1) := by decide +kernel
theorem dX2_stretchBehind_63 : decode cX2_stretchBehind 63 = .ok (.getfield 21, 3) := by decide +kernel
theorem dX2_stretchBehind_66 : decode cX2_stretchBehind 66 = .ok (.iload_n 1, 1) := by decide +kernel
theorem dX2_stretchBehind_67 : decode cX2_stretchBehind 67 = .ok (.iaload, 1) := by decide +kernel
theorem dX2_stretchBehind_68 : decode cX2_stretchBehind 68 = .ok (.invokevirtual 81, 3) := by decide +kernel
theorem dX2_stretchBehind_71 : decode cX2_stretchBehind 71 = .ok (.ireturn, 1) := by decide +kernel
theorem dX2_pulpitsOn_0 : decode cX2_pulpitsOn 0 = .ok (.iconst 0, 1) := by decide +kernel
theorem dX2_pulpitsOn_1 : decode cX2_pulpitsOn 1 = .ok (.istore_n 2, 1) := by decide +kernel
theorem dX2_pulpitsOn_2 : decode cX2_pulpitsOn 2 = .ok (.iconst 0, 1) := by decide +kernel
theorem dX2_pulpitsOn_3 : decode cX2_pulpitsOn 3 = .ok (.istore_n 3, 1) := by decide +kernel
theorem dX2_pulpitsOn_4 : decode cX2_pulpitsOn 4 = .ok (.iload_n 3, 1) := by decide +kernel
theorem dX2_pulpitsOn_5 : decode cX2_pulpitsOn 5 = .ok (.aload_n 0, 1) := by decide +kernel
theorem dX2_pulpitsOn_6 : decode cX2_pulpitsOn 6 = .ok (.getfield 41, 3) := by decide +kernel
theorem dX2_pulpitsOn_9 : decode cX2_pulpitsOn 9 = .ok (.if_icmp .ge 25, 3) := by decide +kernel
theorem dX2_pulpitsOn_12 : decode cX2_pulpitsOn 12 = .ok (.aload_n 0, 1) := by decide +kernel
theorem dX2_pulpitsOn_13 : decode cX2_pulpitsOn 13 = .ok (.getfield 21, 3) := by decide +kernel
theorem dX2_pulpitsOn_16 : decode cX2_pulpitsOn 16 = .ok (.iload_n 3, 1) := by decide +kernel
theorem dX2_pulpitsOn_17 : decode cX2_pulpitsOn 17 = .ok (.iaload, 1) := by decide +kernel
theorem dX2_pulpitsOn_18 : decode cX2_pulpitsOn 18 = .ok (.iload_n 1, 1) := by decide +kernel
theorem dX2_pulpitsOn_19 : decode cX2_pulpitsOn 19 = .ok (.if_icmp .ne 9, 3) := by decide +kernel
theorem dX2_pulpitsOn_22 : decode cX2_pulpitsOn 22 = .ok (.iload_n 2, 1) := by decide +kernel
theorem dX2_pulpitsOn_23 : decode cX2_pulpitsOn 23 = .ok (.iconst 1, 1) := by decide +kernel
theorem dX2_pulpitsOn_24 : decode cX2_pulpitsOn 24 = .ok (.iload_n 3, 1) := by decide +kernel
theorem dX2_pulpitsOn_25 : decode cX2_pulpitsOn 25 = .ok (.ishl, 1) := by decide +kernel
theorem dX2_pulpitsOn_26 : decode cX2_pulpitsOn 26 = .ok (.ior, 1) := by decide +kernel
theorem dX2_pulpitsOn_27 : decode cX2_pulpitsOn 27 = .ok (.istore_n 2, 1) := by decide +kernel
theorem dX2_pulpitsOn_28 : decode cX2_pulpitsOn 28 = .ok (.iinc 3 1, 3) := by decide +kernel
theorem dX2_pulpitsOn_31 : decode cX2_pulpitsOn 31 = .ok (.goto (-27), 3) := by decide +kernel
theorem dX2_pulpitsOn_34 : decode cX2_pulpitsOn 34 = .ok (.iload_n 2, 1) := by decide +kernel
theorem dX2_pulpitsOn_35 : decode cX2_pulpitsOn 35 = .ok (.ireturn, 1) := by decide +kernel
theorem dX2_hasPulpitsAs_0 : decode cX2_hasPulpitsAs 0 = .ok (.iconst 0, 1) := by decide +kernel
theorem dX2_hasPulpitsAs_1 : decode cX2_hasPulpitsAs 1 = .ok (.istore_n 2, 1) := by decide +kernel
theorem dX2_hasPulpitsAs_2 : decode cX2_hasPulpitsAs 2 = .ok (.iload_n 2, 1) := by decide +kernel
theorem dX2_hasPulpitsAs_3 : decode cX2_hasPulpitsAs 3 = .ok (.aload_n 0, 1) := by decide +kernel
theorem dX2_hasPulpitsAs_4 : decode cX2_hasPulpitsAs 4 = .ok (.getfield 41, 3) := by decide +kernel
theorem dX2_hasPulpitsAs_7 : decode cX2_hasPulpitsAs 7 = .ok (.if_icmp .ge 41, 3) := by decide +kernel
theorem dX2_hasPulpitsAs_10 : decode cX2_hasPulpitsAs 10 = .ok (.aload_n 0, 1) := by decide +kernel
theorem dX2_hasPulpitsAs_11 : decode cX2_hasPulpitsAs 11 = .ok (.getfield 21, 3) := by decide +kernel
theorem dX2_hasPulpitsAs_14 : decode cX2_hasPulpitsAs 14 = .ok (.iload_n 2, 1) := by decide +kernel
theorem dX2_hasPulpitsAs_15 : decode cX2_hasPulpitsAs 15 = .ok (.iaload, 1) := by decide +kernel
theorem dX2_hasPulpitsAs_16 : decode cX2_hasPulpitsAs 16 = .ok (.aload_n 1, 1) := by decide +kernel
theorem dX2_hasPulpitsAs_17 : decode cX2_hasPulpitsAs 17 = .ok (.getfield 21, 3) := by decide +kernel
theorem dX2_hasPulpitsAs_20 : decode cX2_hasPulpitsAs 20 = .ok (.iload_n 2, 1) := by decide +kernel
theorem dX2_hasPulpitsAs_21 : decode cX2_hasPulpitsAs 21 = .ok (.iaload, 1) := by decide +kernel
theorem dX2_hasPulpitsAs_22 : decode cX2_hasPulpitsAs 22 = .ok (.if_icmp .ne 18, 3) := by decide +kernel
theorem dX2_hasPulpitsAs_25 : decode cX2_hasPulpitsAs 25 = .ok (.aload_n 0, 1) := by decide +kernel
theorem dX2_hasPulpitsAs_26 : decode cX2_hasPulpitsAs 26 = .ok (.getfield 24, 3) := by decide +kernel
theorem dX2_hasPulpitsAs_29 : decode cX2_hasPulpitsAs 29 = .ok (.iload_n 2, 1) := by decide +kernel
theorem dX2_hasPulpitsAs_30 : decode cX2_hasPulpitsAs 30 = .ok (.iaload, 1) := by decide +kernel
theorem dX2_hasPulpitsAs_31 : decode cX2_hasPulpitsAs 31 = .ok (.aload_n 1, 1) := by decide +kernel
theorem dX2_hasPulpitsAs_32 : decode cX2_hasPulpitsAs 32 = .ok (.getfield 24, 3) := by decide +kernel
theorem dX2_hasPulpitsAs_35 : decode cX2_hasPulpitsAs 35 = .ok (.iload_n 2, 1) := by decide +kernel
theorem dX2_hasPulpitsAs_36 : decode cX2_hasPulpitsAs 36 = .ok (.iaload, 1) := by decide +kernel
theorem dX2_hasPulpitsAs_37 : decode cX2_hasPulpitsAs 37 = .ok (.if_icmp .eq 5, 3) := by decide +kernel
theorem dX2_hasPulpitsAs_40 : decode cX2_hasPulpitsAs 40 = .ok (.iconst 0, 1) := by decide +kernel
theorem dX2_hasPulpitsAs_41 : decode cX2_hasPulpitsAs 41 = .ok (.ireturn, 1) := by decide +kernel
theorem dX2_hasPulpitsAs_42 : decode cX2_hasPulpitsAs 42 = .ok (.iinc 2 1, 3) := by decide +kernel
theorem dX2_hasPulpitsAs_45 : decode cX2_hasPulpitsAs 45 = .ok (.goto (-43), 3) := by decide +kernel
theorem dX2_hasPulpitsAs_48 : decode cX2_hasPulpitsAs 48 = .ok (.iconst 1, 1) := by decide +kernel
theorem dX2_hasPulpitsAs_49 : decode cX2_hasPulpitsAs 49 = .ok (.ireturn, 1) := by decide +kernel
set_option maxRecDepth 20000 in
theorem ggX2_wholeGates_X2_allWords : GoodIn wsX2_wholeGates wsX2_allWords := goodIn_r _ [7, 8, 9, 10, 11, 12, 13, 14, 15, 16, 17, 18, 19, 20] (by decide +kernel) (by decide +kernel)
set_option maxRecDepth 20000 in
theorem gX2_wholeGates_X2_allWords : GoodIn wsX2_wholeGates (wsV RX2 84 RX2 yX2_allWords wsX2_allWords) := goodIn_app (goodIn_of _ (by decide +kernel)) ggX2_wholeGates_X2_allWords
theorem dX2_wholeGates_0 : decode cX2_wholeGates 0 = .ok (.iconst 0, 1) := by decide +kernel
theorem dX2_wholeGates_1 : decode cX2_wholeGates 1 = .ok (.istore_n 1, 1) := by decide +kernel
theorem dX2_wholeGates_2 : decode cX2_wholeGates 2 = .ok (.iconst 0, 1) := by decide +kernel
theorem dX2_wholeGates_3 : decode cX2_wholeGates 3 = .ok (.istore_n 2, 1) := by decide +kernel
theorem dX2_wholeGates_4 : decode cX2_wholeGates 4 = .ok (.iload_n 2, 1) := by decide +kernel
theorem dX2_wholeGates_5 : decode cX2_wholeGates 5 = .ok (.aload_n 0, 1) := by decide +kernel
theorem dX2_wholeGates_6 : decode cX2_wholeGates 6 = .ok (.getfield 38, 3) := by decide +kernel
theorem dX2_wholeGates_9 : decode cX2_wholeGates 9 = .ok (.if_icmp .ge 28, 3) := by decide +kernel
theorem dX2_wholeGates_12 : decode cX2_wholeGates 12 = .ok (.aload_n 0, 1) := by decide +kernel
theorem dX2_wholeGates_13 : decode cX2_wholeGates 13 = .ok (.getfield 15, 3) := by decide +kernel
theorem dX2_wholeGates_16 : decode cX2_wholeGates 16 = .ok (.iload_n 2, 1) := by decide +kernel
theorem dX2_wholeGates_17 : decode cX2_wholeGates 17 = .ok (.iaload, 1) := by decide +kernel
theorem dX2_wholeGates_18 : decode cX2_wholeGates 18 = .ok (.aload_n 0, 1) := by decide +kernel
theorem dX2_wholeGates_19 : decode cX2_wholeGates 19 = .ok (.invokevirtual 84, 3) := by decide +kernel
theorem dX2_wholeGates_22 : decode cX2_wholeGates 22 = .ok (.if_icmp .ne 9, 3) := by decide +kernel
theorem dX2_wholeGates_25 : decode cX2_wholeGates 25 = .ok (.iload_n 1, 1) := by decide +kernel
theorem dX2_wholeGates_26 : decode cX2_wholeGates 26 = .ok (.iconst 1, 1) := by decide +kernel
theorem dX2_wholeGates_27 : decode cX2_wholeGates 27 = .ok (.iload_n 2, 1) := by decide +kernel
theorem dX2_wholeGates_28 : decode cX2_wholeGates 28 = .ok (.ishl, 1) := by decide +kernel
theorem dX2_wholeGates_29 : decode cX2_wholeGates 29 = .ok (.ior, 1) := by decide +kernel
theorem dX2_wholeGates_30 : decode cX2_wholeGates 30 = .ok (.istore_n 1, 1) := by decide +kernel
theorem dX2_wholeGates_31 : decode cX2_wholeGates 31 = .ok (.iinc 2 1, 3) := by decide +kernel
theorem dX2_wholeGates_34 : decode cX2_wholeGates 34 = .ok (.goto (-30), 3) := by decide +kernel
theorem dX2_wholeGates_37 : decode cX2_wholeGates 37 = .ok (.iload_n 1, 1) := by decide +kernel
theorem dX2_wholeGates_38 : decode cX2_wholeGates 38 = .ok (.ireturn, 1) := by decide +kernel
theorem dX2_heardAtAny_0 : decode cX2_heardAtAny 0 = .ok (.iconst 0, 1) := by decide +kernel
theorem dX2_heardAtAny_1 : decode cX2_heardAtAny 1 = .ok (.istore_n 2, 1) := by decide +kernel
theorem dX2_heardAtAny_2 : decode cX2_heardAtAny 2 = .ok (.iconst 0, 1) := by decide +kernel
theorem dX2_heardAtAny_3 : decode cX2_heardAtAny 3 = .ok (.istore_n 3, 1) := by decide +kernel
theorem dX2_heardAtAny_4 : decode cX2_heardAtAny 4 = .ok (.iload_n 3, 1) := by decide +kernel
theorem dX2_heardAtAny_5 : decode cX2_heardAtAny 5 = .ok (.aload_n 0, 1) := by decide +kernel
theorem dX2_heardAtAny_6 : decode cX2_heardAtAny 6 = .ok (.getfield 38, 3) := by decide +kernel
theorem dX2_heardAtAny_9 : decode cX2_heardAtAny 9 = .ok (.if_icmp .ge 26, 3) := by decide +kernel
theorem dX2_heardAtAny_12 : decode cX2_heardAtAny 12 = .ok (.iload_n 1, 1) := by decide +kernel
theorem dX2_heardAtAny_13 : decode cX2_heardAtAny 13 = .ok (.iload_n 3, 1) := by decide +kernel
theorem dX2_heardAtAny_14 : decode cX2_heardAtAny 14 = .ok (.ishr, 1) := by decide +kernel
theorem dX2_heardAtAny_15 : decode cX2_heardAtAny 15 = .ok (.iconst 1, 1) := by decide +kernel
theorem dX2_heardAtAny_16 : decode cX2_heardAtAny 16 = .ok (.iand, 1) := by decide +kernel
theorem dX2_heardAtAny_17 : decode cX2_heardAtAny 17 = .ok (.ifCond .eq 12, 3) := by decide +kernel
theorem dX2_heardAtAny_20 : decode cX2_heardAtAny 20 = .ok (.iload_n 2, 1) := by decide +kernel
theorem dX2_heardAtAny_21 : decode cX2_heardAtAny 21 = .ok (.aload_n 0, 1) := by decide +kernel
theorem dX2_heardAtAny_22 : decode cX2_heardAtAny 22 = .ok (.getfield 15, 3) := by decide +kernel
theorem dX2_heardAtAny_25 : decode cX2_heardAtAny 25 = .ok (.iload_n 3, 1) := by decide +kernel
theorem dX2_heardAtAny_26 : decode cX2_heardAtAny 26 = .ok (.iaload, 1) := by decide +kernel
theorem dX2_heardAtAny_27 : decode cX2_heardAtAny 27 = .ok (.ior, 1) := by decide +kernel
theorem dX2_heardAtAny_28 : decode cX2_heardAtAny 28 = .ok (.istore_n 2, 1) := by decide +kernel
theorem dX2_heardAtAny_29 : decode cX2_heardAtAny 29 = .ok (.iinc 3 1, 3) := by decide +kernel
theorem dX2_heardAtAny_32 : decode cX2_heardAtAny 32 = .ok (.goto (-28), 3) := by decide +kernel
theorem dX2_heardAtAny_35 : decode cX2_heardAtAny 35 = .ok (.iload_n 2, 1) := by decide +kernel
theorem dX2_heardAtAny_36 : decode cX2_heardAtAny 36 = .ok (.ireturn, 1) := by decide +kernel
set_option maxRecDepth 20000 in
theorem ggX2_wordsHeard_J6_bitCount_0f7a4 : GoodIn wsX2_wordsHeard wsJ6_bitCount_0f7a4 := goodIn_r _ [6, 7, 8, 9] (by decide +kernel) (by decide +kernel)
set_option maxRecDepth 20000 in
theorem gX2_wordsHeard_J6_bitCount_0f7a4 : GoodIn wsX2_wordsHeard (va_wsS RX2 87 yJ6_bitCount_0f7a4 wsJ6_bitCount_0f7a4) := goodIn_app (goodIn_of _ (by decide +kernel)) ggX2_wordsHeard_J6_bitCount_0f7a4
theorem dX2_wordsHeard_0 : decode cX2_wordsHeard 0 = .ok (.iconst 0, 1) := by decide +kernel
theorem dX2_wordsHeard_1 : decode cX2_wordsHeard 1 = .ok (.istore_n 1, 1) := by decide +kernel
theorem dX2_wordsHeard_2 : decode cX2_wordsHeard 2 = .ok (.iconst 0, 1) := by decide +kernel
theorem dX2_wordsHeard_3 : decode cX2_wordsHeard 3 = .ok (.istore_n 2, 1) := by decide +kernel
theorem dX2_wordsHeard_4 : decode cX2_wordsHeard 4 = .ok (.iload_n 2, 1) := by decide +kernel
theorem dX2_wordsHeard_5 : decode cX2_wordsHeard 5 = .ok (.aload_n 0, 1) := by decide +kernel
theorem dX2_wordsHeard_6 : decode cX2_wordsHeard 6 = .ok (.getfield 38, 3) := by decide +kernel
theorem dX2_wordsHeard_9 : decode cX2_wordsHeard 9 = .ok (.if_icmp .ge 21, 3) := by decide +kernel
theorem dX2_wordsHeard_12 : decode cX2_wordsHeard 12 = .ok (.iload_n 1, 1) := by decide +kernel
theorem dX2_wordsHeard_13 : decode cX2_wordsHeard 13 = .ok (.aload_n 0, 1) := by decide +kernel
theorem dX2_wordsHeard_14 : decode cX2_wordsHeard 14 = .ok (.getfield 15, 3) := by decide +kernel
theorem dX2_wordsHeard_17 : decode cX2_wordsHeard 17 = .ok (.iload_n 2, 1) := by decide +kernel
theorem dX2_wordsHeard_18 : decode cX2_wordsHeard 18 = .ok (.iaload, 1) := by decide +kernel
theorem dX2_wordsHeard_19 : decode cX2_wordsHeard 19 = .ok (.invokestatic 87, 3) := by decide +kernel
theorem dX2_wordsHeard_22 : decode cX2_wordsHeard 22 = .ok (.iadd, 1) := by decide +kernel
theorem dX2_wordsHeard_23 : decode cX2_wordsHeard 23 = .ok (.istore_n 1, 1) := by decide +kernel
theorem dX2_wordsHeard_24 : decode cX2_wordsHeard 24 = .ok (.iinc 2 1, 3) := by decide +kernel
theorem dX2_wordsHeard_27 : decode cX2_wordsHeard 27 = .ok (.goto (-23), 3) := by decide +kernel
theorem dX2_wordsHeard_30 : decode cX2_wordsHeard 30 = .ok (.iload_n 1, 1) := by decide +kernel
theorem dX2_wordsHeard_31 : decode cX2_wordsHeard 31 = .ok (.ireturn, 1) := by decide +kernel
theorem dX3_init_0 : decode cX3_init 0 = .ok (.aload_n 0, 1) := by decide +kernel
theorem dX3_init_1 : decode cX3_init 1 = .ok (.invokespecial 3, 3) := by decide +kernel
theorem dX3_init_4 : decode cX3_init 4 = .ok (.aload_n 0, 1) := by decide +kernel
theorem dX3_init_5 : decode cX3_init 5 = .ok (.bipush 40, 2) := by decide +kernel
theorem dX3_init_7 : decode cX3_init 7 = .ok (.newarray .int, 2) := by decide +kernel
theorem dX3_init_9 : decode cX3_init 9 = .ok (.putfield 9, 3) := by decide +kernel
theorem dX3_init_12 : decode cX3_init 12 = .ok (.aload_n 0, 1) := by decide +kernel
theorem dX3_init_13 : decode cX3_init 13 = .ok (.iconst 1, 1) := by decide +kernel
theorem dX3_init_14 : decode cX3_init 14 = .ok (.putfield 15, 3) := by decide +kernel
theorem dX3_init_17 : decode cX3_init 17 = .ok (.return_, 1) := by decide +kernel
theorem dX3_begin_0 : decode cX3_begin 0 = .ok (.aload_n 0, 1) := by decide +kernel
theorem dX3_begin_1 : decode cX3_begin 1 = .ok (.iconst 0, 1) := by decide +kernel
theorem dX3_begin_2 : decode cX3_begin 2 = .ok (.putfield 15, 3) := by decide +kernel
theorem dX3_begin_5 : decode cX3_begin 5 = .ok (.aload_n 0, 1) := by decide +kernel
theorem dX3_begin_6 : decode cX3_begin 6 = .ok (.iload_n 1, 1) := by decide +kernel
theorem dX3_begin_7 : decode cX3_begin 7 = .ok (.putfield 19, 3) := by decide +kernel
theorem dX3_begin_10 : decode cX3_begin 10 = .ok (.aload_n 0, 1) := by decide +kernel
theorem dX3_begin_11 : decode cX3_begin 11 = .ok (.iload_n 2, 1) := by decide +kernel
theorem dX3_begin_12 : decode cX3_begin 12 = .ok (.putfield 23, 3) := by decide +kernel
theorem dX3_begin_15 : decode cX3_begin 15 = .ok (.iconst 0, 1) := by decide +kernel
theorem dX3_begin_16 : decode cX3_begin 16 = .ok (.istore_n 3, 1) := by decide +kernel
theorem dX3_begin_17 : decode cX3_begin 17 = .ok (.iload_n 3, 1) := by decide +kernel
theorem dX3_begin_18 : decode cX3_begin 18 = .ok (.iload_n 2, 1) := by decide +kernel
theorem dX3_begin_19 : decode cX3_begin 19 = .ok (.if_icmp .ge 16, 3) := by decide +kernel
theorem dX3_begin_22 : decode cX3_begin 22 = .ok (.aload_n 0, 1) := by decide +kernel
theorem dX3_begin_23 : decode cX3_begin 23 = .ok (.getfield 9, 3) := by decide +kernel
theorem dX3_begin_26 : decode cX3_begin 26 = .ok (.iload_n 3, 1) := by decide +kernel
theorem dX3_begin_27 : decode cX3_begin 27 = .ok (.iconst 0, 1) := by decide +kernel
theorem dX3_begin_28 : decode cX3_begin 28 = .ok (.iastore, 1) := by decide +kernel
theorem dX3_begin_29 : decode cX3_begin 29 = .ok (.iinc 3 1, 3) := by decide +kernel
theorem dX3_begin_32 : decode cX3_begin 32 = .ok (.goto (-15), 3) := by decide +kernel
theorem dX3_begin_35 : decode cX3_begin 35 = .ok (.return_, 1) := by decide +kernel
theorem dX3_hasPlaces_0 : decode cX3_hasPlaces 0 = .ok (.iload_n 1, 1) := by decide +kernel
theorem dX3_hasPlaces_1 : decode cX3_hasPlaces 1 = .ok (.ifCond .lt 29, 3) := by decide +kernel
theorem dX3_hasPlaces_4 : decode cX3_hasPlaces 4 = .ok (.iload_n 2, 1) := by decide +kernel
theorem dX3_hasPlaces_5 : decode cX3_hasPlaces 5 = .ok (.ifCond .lt 25, 3) := by decide +kernel
theorem dX3_hasPlaces_8 : decode cX3_hasPlaces 8 = .ok (.iload_n 1, 1) := by decide +kernel
theorem dX3_hasPlaces_9 : decode cX3_hasPlaces 9 = .ok (.aload_n 0, 1) := by decide +kernel
theorem dX3_hasPlaces_10 : decode cX3_hasPlaces 10 = .ok (.getfield 23, 3) := by decide +kernel
theorem dX3_hasPlaces_13 : decode cX3_hasPlaces 13 = .ok (.if_icmp .gt 17, 3) := by decide +kernel
theorem dX3_hasPlaces_16 : decode cX3_hasPlaces 16 = .ok (.iload_n 2, 1) := by decide +kernel
theorem dX3_hasPlaces_17 : decode cX3_hasPlaces 17 = .ok (.aload_n 0, 1) := by decide +kernel
theorem dX3_hasPlaces_18 : decode cX3_hasPlaces 18 = .ok (.getfield 23, 3) := by decide +kernel
theorem dX3_hasPlaces_21 : decode cX3_hasPlaces 21 = .ok (.iload_n 1, 1) := by decide +kernel
theorem dX3_hasPlaces_22 : decode cX3_hasPlaces 22 = .ok (.isub, 1) := by decide +kernel
theorem dX3_hasPlaces_23 : decode cX3_hasPlaces 23 = .ok (.if_icmp .gt 7, 3) := by decide +kernel
theorem dX3_hasPlaces_26 : decode cX3_hasPlaces 26 = .ok (.iconst 1, 1) := by decide +kernel
theorem dX3_hasPlaces_27 : decode cX3_hasPlaces 27 = .ok (.goto 4, 3) := by decide +kernel
theorem dX3_hasPlaces_30 : decode cX3_hasPlaces 30 = .ok (.iconst 0, 1) := by decide +kernel
theorem dX3_hasPlaces_31 : decode cX3_hasPlaces 31 = .ok (.ireturn, 1) := by decide +kernel
theorem dX3_cut_0 : decode cX3_cut 0 = .ok (.aload_n 0, 1) := by decide +kernel
theorem dX3_cut_1 : decode cX3_cut 1 = .ok (.getfield 19, 3) := by decide +kernel
theorem dX3_cut_4 : decode cX3_cut 4 = .ok (.ifCond .ne 6, 3) := by decide +kernel
theorem dX3_cut_7 : decode cX3_cut 7 = .ok (.iload_n 1, 1) := by decide +kernel
theorem dX3_cut_8 : decode cX3_cut 8 = .ok (.i2b, 1) := by decide +kernel
theorem dX3_cut_9 : decode cX3_cut 9 = .ok (.ireturn, 1) := by decide +kernel
theorem dX3_cut_10 : decode cX3_cut 10 = .ok (.aload_n 0, 1) := by decide +kernel
theorem dX3_cut_11 : decode cX3_cut 11 = .ok (.getfield 19, 3) := by decide +kernel
theorem dX3_cut_14 : decode cX3_cut 14 = .ok (.iconst 1, 1) := by decide +kernel
theorem dX3_cut_15 : decode cX3_cut 15 = .ok (.if_icmp .ne 8, 3) := by decide +kernel
theorem dX3_cut_18 : decode cX3_cut 18 = .ok (.iload_n 1, 1) := by decide +kernel
theorem dX3_cut_19 : decode cX3_cut 19 = .ok (.i2s, 1) := by decide +kernel
theorem dX3_cut_20 : decode cX3_cut 20 = .ok (.goto 4, 3) := by decide +kernel
theorem dX3_cut_23 : decode cX3_cut 23 = .ok (.iload_n 1, 1) := by decide +kernel
theorem dX3_cut_24 : decode cX3_cut 24 = .ok (.ireturn, 1) := by decide +kernel
theorem dX4_init_0 : decode cX4_init 0 = .ok (.aload_n 0, 1) := by decide +kernel
theorem dX4_init_1 : decode cX4_init 1 = .ok (.invokespecial 3, 3) := by decide +kernel
theorem dX4_init_4 : decode cX4_init 4 = .ok (.aload_n 0, 1) := by decide +kernel
theorem dX4_init_5 : decode cX4_init 5 = .ok (.bipush 90, 2) := by decide +kernel
theorem dX4_init_7 : decode cX4_init 7 = .ok (.newarray .int, 2) := by decide +kernel
theorem dX4_init_9 : decode cX4_init 9 = .ok (.putfield 9, 3) := by decide +kernel
theorem dX4_init_12 : decode cX4_init 12 = .ok (.return_, 1) := by decide +kernel
theorem dX4_add_0 : decode cX4_add 0 = .ok (.aload_n 0, 1) := by decide +kernel
theorem dX4_add_1 : decode cX4_add 1 = .ok (.getfield 15, 3) := by decide +kernel
theorem dX4_add_4 : decode cX4_add 4 = .ok (.bipush 90, 2) := by decide +kernel
theorem dX4_add_6 : decode cX4_add 6 = .ok (.if_icmp .ge 23, 3) := by decide +kernel
theorem dX4_add_9 : decode cX4_add 9 = .ok (.aload_n 0, 1) := by decide +kernel
theorem dX4_add_10 : decode cX4_add 10 = .ok (.getfield 9, 3) := by decide +kernel
theorem dX4_add_13 : decode cX4_add 13 = .ok (.aload_n 0, 1) := by decide +kernel
theorem dX4_add_14 : decode cX4_add 14 = .ok (.getfield 15, 3) := by decide +kernel
theorem dX4_add_17 : decode cX4_add 17 = .ok (.iload_n 1, 1) := by decide +kernel
theorem dX4_add_18 : decode cX4_add 18 = .ok (.iastore, 1) := by decide +kernel
theorem dX4_add_19 : decode cX4_add 19 = .ok (.aload_n 0, 1) := by decide +kernel
theorem dX4_add_20 : decode cX4_add 20 = .ok (.dup, 1) := by decide +kernel
theorem dX4_add_21 : decode cX4_add 21 = .ok (.getfield 15, 3) := by decide +kernel
theorem dX4_add_24 : decode cX4_add 24 = .ok (.iconst 1, 1) := by decide +kernel
theorem dX4_add_25 : decode cX4_add 25 = .ok (.iadd, 1) := by decide +kernel
theorem dX4_add_26 : decode cX4_add 26 = .ok (.putfield 15, 3) := by decide +kernel
theorem dX4_add_29 : decode cX4_add 29 = .ok (.return_, 1) := by decide +kernel
set_option maxRecDepth 20000 in
theorem ggX4_readInto_X2_begin : GoodIn wsX4_readInto wsX2_begin := goodIn_r _ [6, 7, 8, 9, 10, 11, 63, 64, 65, 66, 67, 68, 69, 70, 71, 72, 73, 74] (by decide +kernel) (by decide +kernel)
set_option maxRecDepth 20000 in
theorem gX4_readInto_X2_begin_n19 : GoodIn wsX4_readInto (wsX2_begin) := ggX4_readInto_X2_begin
set_option maxRecDepth 20000 in
theorem ggX4_readInto_X4_readLaw : GoodIn wsX4_readInto wsX4_readLaw := goodIn_r _ [16, 2, 17, 18, 19, 15, 20, 1, 21, 22, 23, 24, 25, 26, 27, 28, 29, 30, 31, 32, 33, 34, 35, 36, 37, 38, 39, 40, 41, 42, 63, 64, 65, 66, 67, 68, 69, 70, 71, 72, 73, 74, 59, 60, 61, 62] (by decide +kernel) (by decide +kernel)
set_option maxRecDepth 20000 in
theorem gX4_readInto_X4_readLaw : GoodIn wsX4_readInto (wsV RX4 30 RX4 yX4_readLaw wsX4_readLaw) := goodIn_app (goodIn_of _ (by decide +kernel)) ggX4_readInto_X4_readLaw
set_option maxRecDepth 20000 in
theorem ggX4_readInto_X4_readStretches : GoodIn wsX4_readInto wsX4_readStretches := goodIn_r _ [46, 2, 21, 22, 23, 15, 24, 1, 25, 26, 27, 28, 29, 30, 17, 18, 19, 20, 31, 32, 33, 34, 35, 36, 37, 38, 39, 40, 41, 42, 63, 64, 65, 66, 67, 68, 69, 70, 71, 72, 73, 74, 59, 60, 61, 62] (by decide +kernel) (by decide +kernel)
set_option maxRecDepth 20000 in
theorem gX4_readInto_X4_readStretches : GoodIn wsX4_readInto (wsV RX4 34 RX4 yX4_readStretches wsX4_readStretches) := goodIn_app (goodIn_of _ (by decide +kernel)) ggX4_readInto_X4_readStretches
set_option maxRecDepth 20000 in
theorem ggX4_readInto_X4_readPulpits : GoodIn wsX4_readInto wsX4_readPulpits := goodIn_r _ [50, 1, 29, 51, 52, 53, 15, 54, 21, 22, 23, 24, 25, 26, 27, 28, 30, 31, 32, 33, 34, 2, 55, 56, 57, 58, 35, 36, 37, 38, 39, 40, 41, 42, 17, 18, 19, 20, 59, 60, 61, 62, 63, 64, 65, 66, 67, 68, 69, 70, 71, 72, 73, 74] (by decide +kernel) (by decide +kernel)
set_option maxRecDepth 20000 in
theorem gX4_readInto_X4_readPulpits : GoodIn wsX4_readInto (wsV RX4 37 RX4 yX4_readPulpits wsX4_readPulpits) := goodIn_app (goodIn_of _ (by decide +kernel)) ggX4_readInto_X4_readPulpits
theorem dX4_readInto_0 : decode cX4_readInto 0 = .ok (.aload_n 1, 1) := by decide +kernel
theorem dX4_readInto_1 : decode cX4_readInto 1 = .ok (.invokevirtual 19, 3) := by decide +kernel
theorem dX4_readInto_4 : decode cX4_readInto 4 = .ok (.aload_n 0, 1) := by decide +kernel
theorem dX4_readInto_5 : decode cX4_readInto 5 = .ok (.iconst 0, 1) := by decide +kernel
theorem dX4_readInto_6 : decode cX4_readInto 6 = .ok (.putfield 24, 3) := by decide +kernel
theorem dX4_readInto_9 : decode cX4_readInto 9 = .ok (.aload_n 0, 1) := by decide +kernel
theorem dX4_readInto_10 : decode cX4_readInto 10 = .ok (.iconst 0, 1) := by decide +kernel
theorem dX4_readInto_11 : decode cX4_readInto 11 = .ok (.putfield 27, 3) := by decide +kernel
theorem dX4_readInto_14 : decode cX4_readInto 14 = .ok (.aload_n 0, 1) := by decide +kernel
theorem dX4_readInto_15 : decode cX4_readInto 15 = .ok (.aload_n 1, 1) := by decide +kernel
theorem dX4_readInto_16 : decode cX4_readInto 16 = .ok (.invokevirtual 30, 3) := by decide +kernel
theorem dX4_readInto_19 : decode cX4_readInto 19 = .ok (.ifCond .eq 23, 3) := by decide +kernel
theorem dX4_readInto_22 : decode cX4_readInto 22 = .ok (.aload_n 0, 1) := by decide +kernel
theorem dX4_readInto_23 : decode cX4_readInto 23 = .ok (.aload_n 1, 1) := by decide +kernel
theorem dX4_readInto_24 : decode cX4_readInto 24 = .ok (.invokevirtual 34, 3) := by decide +kernel
theorem dX4_readInto_27 : decode cX4_readInto 27 = .ok (.ifCond .eq 15, 3) := by decide +kernel
theorem dX4_readInto_30 : decode cX4_readInto 30 = .ok (.aload_n 0, 1) := by decide +kernel
theorem dX4_readInto_31 : decode cX4_readInto 31 = .ok (.aload_n 1, 1) := by decide +kernel
theorem dX4_readInto_32 : decode cX4_readInto 32 = .ok (.invokevirtual 37, 3) := by decide +kernel
theorem dX4_readInto_35 : decode cX4_readInto 35 = .ok (.ifCond .eq 7, 3) := by decide +kernel
theorem dX4_readInto_38 : decode cX4_readInto 38 = .ok (.iconst 1, 1) := by decide +kernel
theorem dX4_readInto_39 : decode cX4_readInto 39 = .ok (.goto 4, 3) := by decide +kernel
theorem dX4_readInto_42 : decode cX4_readInto 42 = .ok (.iconst 0, 1) := by decide +kernel
theorem dX4_readInto_43 : decode cX4_readInto 43 = .ok (.ireturn, 1) := by decide +kernel
set_option maxRecDepth 20000 in
theorem ggX4_readLaw_X4_takeSign : GoodIn wsX4_readLaw wsX4_takeSign := goodIn_r _ [6, 7, 8, 9, 10, 5, 11, 12, 13, 14, 15, 16, 17, 18, 19, 20, 21, 1, 42, 43, 44, 45] (by decide +kernel) (by decide +kernel)
set_option maxRecDepth 20000 in
theorem gX4_readLaw_X4_takeSign : GoodIn wsX4_readLaw (wsV RX4 40 RX4 yX4_takeSign wsX4_takeSign) := goodIn_app (goodIn_of _ (by decide +kernel)) ggX4_readLaw_X4_takeSign
set_option maxRecDepth 20000 in
theorem ggX4_readLaw_X4_takeNumber : GoodIn wsX4_readLaw wsX4_takeNumber := goodIn_r _ [25, 7, 17, 26, 27, 28, 5, 29, 12, 13, 14, 15, 16, 18, 19, 20, 21, 1, 42, 43, 44, 45] (by decide +kernel) (by decide +kernel)
set_option maxRecDepth 20000 in
theorem gX4_readLaw_X4_takeNumber : GoodIn wsX4_readLaw (wsV RX4 44 RX4 yX4_takeNumber wsX4_takeNumber) := goodIn_app (goodIn_of _ (by decide +kernel)) ggX4_readLaw_X4_takeNumber
theorem dX4_readLaw_0 : decode cX4_readLaw 0 = .ok (.aload_n 0, 1) := by decide +kernel
theorem dX4_readLaw_1 : decode cX4_readLaw 1 = .ok (.bipush 112, 2) := by decide +kernel
theorem dX4_readLaw_3 : decode cX4_readLaw 3 = .ok (.invokevirtual 40, 3) := by decide +kernel
theorem dX4_readLaw_6 : decode cX4_readLaw 6 = .ok (.ifCond .ne 5, 3) := by decide +kernel
theorem dX4_readLaw_9 : decode cX4_readLaw 9 = .ok (.iconst 0, 1) := by decide +kernel
theorem dX4_readLaw_10 : decode cX4_readLaw 10 = .ok (.ireturn, 1) := by decide +kernel
theorem dX4_readLaw_11 : decode cX4_readLaw 11 = .ok (.aload_n 1, 1) := by decide +kernel
theorem dX4_readLaw_12 : decode cX4_readLaw 12 = .ok (.aload_n 0, 1) := by decide +kernel
theorem dX4_readLaw_13 : decode cX4_readLaw 13 = .ok (.iconst 4, 1) := by decide +kernel
theorem dX4_readLaw_14 : decode cX4_readLaw 14 = .ok (.bipush 16, 2) := by decide +kernel
theorem dX4_readLaw_16 : decode cX4_readLaw 16 = .ok (.invokevirtual 44, 3) := by decide +kernel
theorem dX4_readLaw_19 : decode cX4_readLaw 19 = .ok (.putfield 48, 3) := by decide +kernel
theorem dX4_readLaw_22 : decode cX4_readLaw 22 = .ok (.aload_n 0, 1) := by decide +kernel
theorem dX4_readLaw_23 : decode cX4_readLaw 23 = .ok (.getfield 27, 3) := by decide +kernel
theorem dX4_readLaw_26 : decode cX4_readLaw 26 = .ok (.ifCond .ne 12, 3) := by decide +kernel
theorem dX4_readLaw_29 : decode cX4_readLaw 29 = .ok (.aload_n 0, 1) := by decide +kernel
theorem dX4_readLaw_30 : decode cX4_readLaw 30 = .ok (.bipush 44, 2) := by decide +kernel
theorem dX4_readLaw_32 : decode cX4_readLaw 32 = .ok (.invokevirtual 40, 3) := by decide +kernel
theorem dX4_readLaw_35 : decode cX4_readLaw 35 = .ok (.ifCond .ne 5, 3) := by decide +kernel
theorem dX4_readLaw_38 : decode cX4_readLaw 38 = .ok (.iconst 0, 1) := by decide +kernel
theorem dX4_readLaw_39 : decode cX4_readLaw 39 = .ok (.ireturn, 1) := by decide +kernel
theorem dX4_readLaw_40 : decode cX4_readLaw 40 = .ok (.aload_n 1, 1) := by decide +kernel
theorem dX4_readLaw_41 : decode cX4_readLaw 41 = .ok (.aload_n 0, 1) := by decide +kernel
theorem dX4_readLaw_42 : decode cX4_readLaw 42 = .ok (.iconst 0, 1) := by decide +kernel
theorem dX4_readLaw_43 : decode cX4_readLaw 43 = .ok (.aload_n 1, 1) := by decide +kernel
theorem dX4_readLaw_44 : decode cX4_readLaw 44 = .ok (.getfield 48, 3) := by decide +kernel
theorem dX4_readLaw_47 : decode cX4_readLaw 47 = .ok (.iconst 1, 1) := by decide +kernel
theorem dX4_readLaw_48 : decode cX4_readLaw 48 = .ok (.isub, 1) := by decide +kernel
theorem dX4_readLaw_49 : decode cX4_readLaw 49 = .ok (.invokevirtual 44, 3) := by decide +kernel
theorem dX4_readLaw_52 : decode cX4_readLaw 52 = .ok (.putfield 51, 3) := by decide +kernel
theorem dX4_readLaw_55 : decode cX4_readLaw 55 = .ok (.aload_n 0, 1) := by decide +kernel
theorem dX4_readLaw_56 : decode cX4_readLaw 56 = .ok (.getfield 27, 3) := by decide +kernel
theorem dX4_readLaw_59 : decode cX4_readLaw 59 = .ok (.ifCond .ne 16, 3) := by decide +kernel
theorem dX4_readLaw_62 : decode cX4_readLaw 62 = .ok (.aload_n 0, 1) := by decide +kernel
theorem dX4_readLaw_63 : decode cX4_readLaw 63 = .ok (.bipush 59, 2) := by decide +kernel
theorem dX4_readLaw_65 : decode cX4_readLaw 65 = .ok (.invokevirtual 40, 3) := by decide +kernel
theorem dX4_readLaw_68 : decode cX4_readLaw 68 = .ok (.ifCond .eq 7, 3) := by decide +kernel
theorem dX4_readLaw_71 : decode cX4_readLaw 71 = .ok (.iconst 1, 1) := by decide +kernel
theorem dX4_readLaw_72 : decode cX4_readLaw 72 = .ok (.goto 4, 3) := by decide +kernel
theorem dX4_readLaw_75 : decode cX4_readLaw 75 = .ok (.iconst 0, 1) := by decide +kernel
theorem dX4_readLaw_76 : decode cX4_readLaw 76 = .ok (.ireturn, 1) := by decide +kernel
set_option maxRecDepth 20000 in
theorem ggX4_readStretches_X4_letterHere : GoodIn wsX4_readStretches wsX4_letterHere := goodIn_r _ [6, 7, 8, 9, 10, 5, 11, 12, 13, 42, 43, 44, 45] (by decide +kernel) (by decide +kernel)
set_option maxRecDepth 20000 in
theorem gX4_readStretches_X4_letterHere : GoodIn wsX4_readStretches (wsV RX4 54 RX4 yX4_letterHere wsX4_letterHere) := goodIn_app (goodIn_of _ (by decide +kernel)) ggX4_readStretches_X4_letterHere
set_option maxRecDepth 20000 in
theorem ggX4_readStretches_X4_takeSign : GoodIn wsX4_readStretches wsX4_takeSign := goodIn_r _ [17, 7, 2, 3, 4, 5, 6, 8, 9, 10, 11, 12, 13, 18, 19, 20, 21, 1, 42, 43, 44, 45] (by decide +kernel) (by decide +kernel)
set_option maxRecDepth 20000 in
theorem gX4_readStretches_X4_takeSign : GoodIn wsX4_readStretches (wsV RX4 40 RX4 yX4_takeSign wsX4_takeSign) := goodIn_app (goodIn_of _ (by decide +kernel)) ggX4_readStretches_X4_takeSign
set_option maxRecDepth 20000 in
theorem ggX4_readStretches_X4_takeNumber : GoodIn wsX4_readStretches wsX4_takeNumber := goodIn_r _ [25, 7, 13, 26, 27, 28, 5, 29, 8, 9, 10, 11, 12, 18, 19, 20, 21, 1, 42, 43, 44, 45] (by decide +kernel) (by decide +kernel)
set_option maxRecDepth 20000 in
theorem gX4_readStretches_X4_takeNumber : GoodIn wsX4_readStretches (wsV RX4 44 RX4 yX4_takeNumber wsX4_takeNumber) := goodIn_app (goodIn_of _ (by decide +kernel)) ggX4_readStretches_X4_takeNumber
set_option maxRecDepth 20000 in
theorem ggX4_readStretches_X4_blame : GoodIn wsX4_readStretches wsX4_blame := goodIn_r _ [21, 1, 42, 43, 44, 45] (by decide +kernel) (by decide +kernel)
set_option maxRecDepth 20000 in
theorem gX4_readStretches_X4_blame : GoodIn wsX4_readStretches (wsV RX4 64 RX4 yX4_blame wsX4_blame) := goodIn_app (goodIn_of _ (by decide +kernel)) ggX4_readStretches_X4_blame
theorem dX4_readStretches_0 : decode cX4_readStretches 0 = .ok (.iconst 0, 1) := by decide +kernel
theorem dX4_readStretches_1 : decode cX4_readStretches 1 = .ok (.istore_n 2, 1) := by decide +kernel
theorem dX4_readStretches_2 : decode cX4_readStretches 2 = .ok (.iload_n 2, 1) := by decide +kernel
theorem dX4_readStretches_3 : decode cX4_readStretches 3 = .ok (.bipush 9, 2) := by decide +kernel
theorem dX4_readStretches_5 : decode cX4_readStretches 5 = .ok (.if_icmp .ge 73, 3) := by decide +kernel
theorem dX4_readStretches_8 : decode cX4_readStretches 8 = .ok (.iload_n 2, 1) := by decide +kernel
theorem dX4_readStretches_9 : decode cX4_readStretches 9 = .ok (.iconst 3, 1) := by decide +kernel
theorem dX4_readStretches_10 : decode cX4_readStretches 10 = .ok (.if_icmp .lt 14, 3) := by decide +kernel
theorem dX4_readStretches_13 : decode cX4_readStretches 13 = .ok (.aload_n 0, 1) := by decide +kernel
theorem dX4_readStretches_14 : decode cX4_readStretches 14 = .ok (.invokevirtual 54, 3) := by decide +kernel
theorem dX4_readStretches_17 : decode cX4_readStretches 17 = .ok (.bipush 114, 2) := by decide +kernel
theorem dX4_readStretches_19 : decode cX4_readStretches 19 = .ok (.if_icmp .eq 5, 3) := by decide +kernel
theorem dX4_readStretches_22 : decode cX4_readStretches 22 = .ok (.iconst 1, 1) := by decide +kernel
theorem dX4_readStretches_23 : decode cX4_readStretches 23 = .ok (.ireturn, 1) := by decide +kernel
theorem dX4_readStretches_24 : decode cX4_readStretches 24 = .ok (.aload_n 0, 1) := by decide +kernel
theorem dX4_readStretches_25 : decode cX4_readStretches 25 = .ok (.bipush 114, 2) := by decide +kernel
theorem dX4_readStretches_27 : decode cX4_readStretches 27 = .ok (.invokevirtual 40, 3) := by decide +kernel
theorem dX4_readStretches_30 : decode cX4_readStretches 30 = .ok (.ifCond .ne 5, 3) := by decide +kernel
theorem dX4_readStretches_33 : decode cX4_readStretches 33 = .ok (.iconst 0, 1) := by decide +kernel
theorem dX4_readStretches_34 : decode cX4_readStretches 34 = .ok (.ireturn, 1) := by decide +kernel
theorem dX4_readStretches_35 : decode cX4_readStretches 35 = .ok (.aload_n 1, 1) := by decide +kernel
theorem dX4_readStretches_36 : decode cX4_readStretches 36 = .ok (.getfield 58, 3) := by decide +kernel
theorem dX4_readStretches_39 : decode cX4_readStretches 39 = .ok (.iload_n 2, 1) := by decide +kernel
theorem dX4_readStretches_40 : decode cX4_readStretches 40 = .ok (.aload_n 0, 1) := by decide +kernel
theorem dX4_readStretches_41 : decode cX4_readStretches 41 = .ok (.iconst 0, 1) := by decide +kernel
theorem dX4_readStretches_42 : decode cX4_readStretches 42 = .ok (.iconst 2, 1) := by decide +kernel
theorem dX4_readStretches_43 : decode cX4_readStretches 43 = .ok (.invokevirtual 44, 3) := by decide +kernel
theorem dX4_readStretches_46 : decode cX4_readStretches 46 = .ok (.iastore, 1) := by decide +kernel
theorem dX4_readStretches_47 : decode cX4_readStretches 47 = .ok (.aload_n 0, 1) := by decide +kernel
theorem dX4_readStretches_48 : decode cX4_readStretches 48 = .ok (.getfield 27, 3) := by decide +kernel
theorem dX4_readStretches_51 : decode cX4_readStretches 51 = .ok (.ifCond .ne 12, 3) := by decide +kernel
theorem dX4_readStretches_54 : decode cX4_readStretches 54 = .ok (.aload_n 0, 1) := by decide +kernel
theorem dX4_readStretches_55 : decode cX4_readStretches 55 = .ok (.bipush 59, 2) := by decide +kernel
theorem dX4_readStretches_57 : decode cX4_readStretches 57 = .ok (.invokevirtual 40, 3) := by decide +kernel
theorem dX4_readStretches_60 : decode cX4_readStretches 60 = .ok (.ifCond .ne 5, 3) := by decide +kernel
theorem dX4_readStretches_63 : decode cX4_readStretches 63 = .ok (.iconst 0, 1) := by decide +kernel
theorem dX4_readStretches_64 : decode cX4_readStretches 64 = .ok (.ireturn, 1) := by decide +kernel
theorem dX4_readStretches_65 : decode cX4_readStretches 65 = .ok (.aload_n 1, 1) := by decide +kernel
theorem dX4_readStretches_66 : decode cX4_readStretches 66 = .ok (.iload_n 2, 1) := by decide +kernel
theorem dX4_readStretches_67 : decode cX4_readStretches 67 = .ok (.iconst 1, 1) := by decide +kernel
theorem dX4_readStretches_68 : decode cX4_readStretches 68 = .ok (.iadd, 1) := by decide +kernel
theorem dX4_readStretches_69 : decode cX4_readStretches 69 = .ok (.putfield 61, 3) := by decide +kernel
theorem dX4_readStretches_72 : decode cX4_readStretches 72 = .ok (.iinc 2 1, 3) := by decide +kernel
theorem dX4_readStretches_75 : decode cX4_readStretches 75 = .ok (.goto (-73), 3) := by decide +kernel
theorem dX4_readStretches_78 : decode cX4_readStretches 78 = .ok (.aload_n 0, 1) := by decide +kernel
theorem dX4_readStretches_79 : decode cX4_readStretches 79 = .ok (.invokevirtual 54, 3) := by decide +kernel
theorem dX4_readStretches_82 : decode cX4_readStretches 82 = .ok (.bipush 114, 2) := by decide +kernel
theorem dX4_readStretches_84 : decode cX4_readStretches 84 = .ok (.if_icmp .ne 11, 3) := by decide +kernel
theorem dX4_readStretches_87 : decode cX4_readStretches 87 = .ok (.aload_n 0, 1) := by decide +kernel
theorem dX4_readStretches_88 : decode cX4_readStretches 88 = .ok (.iconst 3, 1) := by decide +kernel
theorem dX4_readStretches_89 : decode cX4_readStretches 89 = .ok (.invokevirtual 64, 3) := by decide +kernel
theorem dX4_readStretches_92 : decode cX4_readStretches 92 = .ok (.ifCond .eq 7, 3) := by decide +kernel
theorem dX4_readStretches_95 : decode cX4_readStretches 95 = .ok (.iconst 1, 1) := by decide +kernel
theorem dX4_readStretches_96 : decode cX4_readStretches 96 = .ok (.goto 4, 3) := by decide +kernel
theorem dX4_readStretches_99 : decode cX4_readStretches 99 = .ok (.iconst 0, 1) := by decide +kernel
theorem dX4_readStretches_100 : decode cX4_readStretches 100 = .ok (.ireturn, 1) := by decide +kernel
set_option maxRecDepth 20000 in
theorem ggX4_readPulpits_X4_kindHere : GoodIn wsX4_readPulpits wsX4_kindHere := goodIn_r _ [7, 8, 9, 10, 6, 11, 1, 12, 13, 14, 15, 2, 16, 38, 39, 40, 41] (by decide +kernel) (by decide +kernel)
set_option maxRecDepth 20000 in
theorem gX4_readPulpits_X4_kindHere : GoodIn wsX4_readPulpits (wsV RX4 67 RX4 yX4_kindHere wsX4_kindHere) := goodIn_app (goodIn_of _ (by decide +kernel)) ggX4_readPulpits_X4_kindHere
set_option maxRecDepth 20000 in
theorem ggX4_readPulpits_X4_blame : GoodIn wsX4_readPulpits wsX4_blame := goodIn_r _ [20, 21, 38, 39, 40, 41] (by decide +kernel) (by decide +kernel)
set_option maxRecDepth 20000 in
theorem gX4_readPulpits_X4_blame : GoodIn wsX4_readPulpits (wsV RX4 64 RX4 yX4_blame wsX4_blame) := goodIn_app (goodIn_of _ (by decide +kernel)) ggX4_readPulpits_X4_blame
set_option maxRecDepth 20000 in
theorem ggX4_readPulpits_X4_readPulpit : GoodIn wsX4_readPulpits wsX4_readPulpit := goodIn_r _ [25, 21, 26, 27, 28, 6, 29, 1, 16, 30, 31, 32, 33, 12, 13, 14, 15, 2, 17, 18, 19, 20, 34, 35, 36, 37, 8, 9, 10, 11, 42, 43, 44, 45, 46, 47, 48, 49, 50, 51, 52, 53, 38, 39, 40, 41] (by decide +kernel) (by decide +kernel)
set_option maxRecDepth 20000 in
theorem gX4_readPulpits_X4_readPulpit : GoodIn wsX4_readPulpits (wsV RX4 70 RX4 yX4_readPulpit wsX4_readPulpit) := goodIn_app (goodIn_of _ (by decide +kernel)) ggX4_readPulpits_X4_readPulpit
theorem dX4_readPulpits_0 : decode cX4_readPulpits 0 = .ok (.iconst 0, 1) := by decide +kernel
theorem dX4_readPulpits_1 : decode cX4_readPulpits 1 = .ok (.istore_n 2, 1) := by decide +kernel
theorem dX4_readPulpits_2 : decode cX4_readPulpits 2 = .ok (.iload_n 2, 1) := by decide +kernel
theorem dX4_readPulpits_3 : decode cX4_readPulpits 3 = .ok (.iconst 5, 1) := by decide +kernel
theorem dX4_readPulpits_4 : decode cX4_readPulpits 4 = .ok (.if_icmp .ge 72, 3) := by decide +kernel
theorem dX4_readPulpits_7 : decode cX4_readPulpits 7 = .ok (.aload_n 0, 1) := by decide +kernel
theorem dX4_readPulpits_8 : decode cX4_readPulpits 8 = .ok (.getfield 24, 3) := by decide +kernel
theorem dX4_readPulpits_11 : decode cX4_readPulpits 11 = .ok (.aload_n 0, 1) := by decide +kernel
theorem dX4_readPulpits_12 : decode cX4_readPulpits 12 = .ok (.getfield 15, 3) := by decide +kernel
theorem dX4_readPulpits_15 : decode cX4_readPulpits 15 = .ok (.if_icmp .ne 5, 3) := by decide +kernel
theorem dX4_readPulpits_18 : decode cX4_readPulpits 18 = .ok (.iconst 1, 1) := by decide +kernel
theorem dX4_readPulpits_19 : decode cX4_readPulpits 19 = .ok (.ireturn, 1) := by decide +kernel
theorem dX4_readPulpits_20 : decode cX4_readPulpits 20 = .ok (.aload_n 0, 1) := by decide +kernel
theorem dX4_readPulpits_21 : decode cX4_readPulpits 21 = .ok (.invokevirtual 67, 3) := by decide +kernel
theorem dX4_readPulpits_24 : decode cX4_readPulpits 24 = .ok (.istore_n 3, 1) := by decide +kernel
theorem dX4_readPulpits_25 : decode cX4_readPulpits 25 = .ok (.iload_n 3, 1) := by decide +kernel
theorem dX4_readPulpits_26 : decode cX4_readPulpits 26 = .ok (.ifCond .ne 9, 3) := by decide +kernel
theorem dX4_readPulpits_29 : decode cX4_readPulpits 29 = .ok (.aload_n 0, 1) := by decide +kernel
theorem dX4_readPulpits_30 : decode cX4_readPulpits 30 = .ok (.iconst 1, 1) := by decide +kernel
theorem dX4_readPulpits_31 : decode cX4_readPulpits 31 = .ok (.invokevirtual 64, 3) := by decide +kernel
theorem dX4_readPulpits_34 : decode cX4_readPulpits 34 = .ok (.ireturn, 1) := by decide +kernel
theorem dX4_readPulpits_35 : decode cX4_readPulpits 35 = .ok (.aload_n 0, 1) := by decide +kernel
theorem dX4_readPulpits_36 : decode cX4_readPulpits 36 = .ok (.dup, 1) := by decide +kernel
theorem dX4_readPulpits_37 : decode cX4_readPulpits 37 = .ok (.getfield 24, 3) := by decide +kernel
theorem dX4_readPulpits_40 : decode cX4_readPulpits 40 = .ok (.iconst 1, 1) := by decide +kernel
theorem dX4_readPulpits_41 : decode cX4_readPulpits 41 = .ok (.iadd, 1) := by decide +kernel
theorem dX4_readPulpits_42 : decode cX4_readPulpits 42 = .ok (.putfield 24, 3) := by decide +kernel
theorem dX4_readPulpits_45 : decode cX4_readPulpits 45 = .ok (.aload_n 0, 1) := by decide +kernel
theorem dX4_readPulpits_46 : decode cX4_readPulpits 46 = .ok (.aload_n 1, 1) := by decide +kernel
theorem dX4_readPulpits_47 : decode cX4_readPulpits 47 = .ok (.iload_n 2, 1) := by decide +kernel
theorem dX4_readPulpits_48 : decode cX4_readPulpits 48 = .ok (.invokevirtual 70, 3) := by decide +kernel
theorem dX4_readPulpits_51 : decode cX4_readPulpits 51 = .ok (.ifCond .ne 5, 3) := by decide +kernel
theorem dX4_readPulpits_54 : decode cX4_readPulpits 54 = .ok (.iconst 0, 1) := by decide +kernel
theorem dX4_readPulpits_55 : decode cX4_readPulpits 55 = .ok (.ireturn, 1) := by decide +kernel
theorem dX4_readPulpits_56 : decode cX4_readPulpits 56 = .ok (.aload_n 1, 1) := by decide +kernel
theorem dX4_readPulpits_57 : decode cX4_readPulpits 57 = .ok (.getfield 74, 3) := by decide +kernel
theorem dX4_readPulpits_60 : decode cX4_readPulpits 60 = .ok (.iload_n 2, 1) := by decide +kernel
theorem dX4_readPulpits_61 : decode cX4_readPulpits 61 = .ok (.iload_n 3, 1) := by decide +kernel
theorem dX4_readPulpits_62 : decode cX4_readPulpits 62 = .ok (.iastore, 1) := by decide +kernel
theorem dX4_readPulpits_63 : decode cX4_readPulpits 63 = .ok (.aload_n 1, 1) := by decide +kernel
theorem dX4_readPulpits_64 : decode cX4_readPulpits 64 = .ok (.iload_n 2, 1) := by decide +kernel
theorem dX4_readPulpits_65 : decode cX4_readPulpits 65 = .ok (.iconst 1, 1) := by decide +kernel
theorem dX4_readPulpits_66 : decode cX4_readPulpits 66 = .ok (.iadd, 1) := by decide +kernel
theorem dX4_readPulpits_67 : decode cX4_readPulpits 67 = .ok (.putfield 77, 3) := by decide +kernel
theorem dX4_readPulpits_70 : decode cX4_readPulpits 70 = .ok (.iinc 2 1, 3) := by decide +kernel
theorem dX4_readPulpits_73 : decode cX4_readPulpits 73 = .ok (.goto (-71), 3) := by decide +kernel
theorem dX4_readPulpits_76 : decode cX4_readPulpits 76 = .ok (.aload_n 0, 1) := by decide +kernel
theorem dX4_readPulpits_77 : decode cX4_readPulpits 77 = .ok (.getfield 24, 3) := by decide +kernel
theorem dX4_readPulpits_80 : decode cX4_readPulpits 80 = .ok (.aload_n 0, 1) := by decide +kernel
theorem dX4_readPulpits_81 : decode cX4_readPulpits 81 = .ok (.getfield 15, 3) := by decide +kernel
theorem dX4_readPulpits_84 : decode cX4_readPulpits 84 = .ok (.if_icmp .eq 22, 3) := by decide +kernel
theorem dX4_readPulpits_87 : decode cX4_readPulpits 87 = .ok (.aload_n 0, 1) := by decide +kernel
theorem dX4_readPulpits_88 : decode cX4_readPulpits 88 = .ok (.aload_n 0, 1) := by decide +kernel
theorem dX4_readPulpits_89 : decode cX4_readPulpits 89 = .ok (.invokevirtual 67, 3) := by decide +kernel
theorem dX4_readPulpits_92 : decode cX4_readPulpits 92 = .ok (.ifCond .ne 7, 3) := by decide +kernel
theorem dX4_readPulpits_95 : decode cX4_readPulpits 95 = .ok (.iconst 1, 1) := by decide +kernel
theorem dX4_readPulpits_96 : decode cX4_readPulpits 96 = .ok (.goto 4, 3) := by decide +kernel
theorem dX4_readPulpits_99 : decode cX4_readPulpits 99 = .ok (.iconst 3, 1) := by decide +kernel
theorem dX4_readPulpits_100 : decode cX4_readPulpits 100 = .ok (.invokevirtual 64, 3) := by decide +kernel
theorem dX4_readPulpits_103 : decode cX4_readPulpits 103 = .ok (.ifCond .eq 7, 3) := by decide +kernel
theorem dX4_readPulpits_106 : decode cX4_readPulpits 106 = .ok (.iconst 1, 1) := by decide +kernel
theorem dX4_readPulpits_107 : decode cX4_readPulpits 107 = .ok (.goto 4, 3) := by decide +kernel
theorem dX4_readPulpits_110 : decode cX4_readPulpits 110 = .ok (.iconst 0, 1) := by decide +kernel
theorem dX4_readPulpits_111 : decode cX4_readPulpits 111 = .ok (.ireturn, 1) := by decide +kernel
set_option maxRecDepth 20000 in
theorem ggX4_readPulpit_X4_takeNumber : GoodIn wsX4_readPulpit wsX4_takeNumber := goodIn_r _ [6, 7, 8, 9, 10, 11, 5, 12, 13, 14, 15, 16, 17, 18, 19, 20, 21, 1, 42, 43, 44, 45] (by decide +kernel) (by decide +kernel)
set_option maxRecDepth 20000 in
theorem gX4_readPulpit_X4_takeNumber : GoodIn wsX4_readPulpit (wsV RX4 44 RX4 yX4_takeNumber wsX4_takeNumber) := goodIn_app (goodIn_of _ (by decide +kernel)) ggX4_readPulpit_X4_takeNumber
set_option maxRecDepth 20000 in
theorem ggX4_readPulpit_X4_takeSign : GoodIn wsX4_readPulpit wsX4_takeSign := goodIn_r _ [25, 7, 26, 27, 28, 5, 29, 13, 14, 15, 16, 17, 8, 18, 19, 20, 21, 1, 42, 43, 44, 45] (by decide +kernel) (by decide +kernel)
set_option maxRecDepth 20000 in
theorem gX4_readPulpit_X4_takeSign : GoodIn wsX4_readPulpit (wsV RX4 40 RX4 yX4_takeSign wsX4_takeSign) := goodIn_app (goodIn_of _ (by decide +kernel)) ggX4_readPulpit_X4_takeSign
theorem dX4_readPulpit_0 : decode cX4_readPulpit 0 = .ok (.aload_n 1, 1) := by decide +kernel
theorem dX4_readPulpit_1 : decode cX4_readPulpit 1 = .ok (.getfield 80, 3) := by decide +kernel
theorem dX4_readPulpit_4 : decode cX4_readPulpit 4 = .ok (.iload_n 2, 1) := by decide +kernel
theorem dX4_readPulpit_5 : decode cX4_readPulpit 5 = .ok (.aload_n 0, 1) := by decide +kernel
theorem dX4_readPulpit_6 : decode cX4_readPulpit 6 = .ok (.iconst 0, 1) := by decide +kernel
theorem dX4_readPulpit_7 : decode cX4_readPulpit 7 = .ok (.aload_n 1, 1) := by decide +kernel
theorem dX4_readPulpit_8 : decode cX4_readPulpit 8 = .ok (.getfield 61, 3) := by decide +kernel
theorem dX4_readPulpit_11 : decode cX4_readPulpit 11 = .ok (.iconst 1, 1) := by decide +kernel
theorem dX4_readPulpit_12 : decode cX4_readPulpit 12 = .ok (.isub, 1) := by decide +kernel
theorem dX4_readPulpit_13 : decode cX4_readPulpit 13 = .ok (.invokevirtual 44, 3) := by decide +kernel
theorem dX4_readPulpit_16 : decode cX4_readPulpit 16 = .ok (.iastore, 1) := by decide +kernel
theorem dX4_readPulpit_17 : decode cX4_readPulpit 17 = .ok (.aload_n 0, 1) := by decide +kernel
theorem dX4_readPulpit_18 : decode cX4_readPulpit 18 = .ok (.getfield 27, 3) := by decide +kernel
theorem dX4_readPulpit_21 : decode cX4_readPulpit 21 = .ok (.ifCond .ne 12, 3) := by decide +kernel
theorem dX4_readPulpit_24 : decode cX4_readPulpit 24 = .ok (.aload_n 0, 1) := by decide +kernel
theorem dX4_readPulpit_25 : decode cX4_readPulpit 25 = .ok (.bipush 44, 2) := by decide +kernel
theorem dX4_readPulpit_27 : decode cX4_readPulpit 27 = .ok (.invokevirtual 40, 3) := by decide +kernel
theorem dX4_readPulpit_30 : decode cX4_readPulpit 30 = .ok (.ifCond .ne 5, 3) := by decide +kernel
theorem dX4_readPulpit_33 : decode cX4_readPulpit 33 = .ok (.iconst 0, 1) := by decide +kernel
theorem dX4_readPulpit_34 : decode cX4_readPulpit 34 = .ok (.ireturn, 1) := by decide +kernel
theorem dX4_readPulpit_35 : decode cX4_readPulpit 35 = .ok (.aload_n 1, 1) := by decide +kernel
theorem dX4_readPulpit_36 : decode cX4_readPulpit 36 = .ok (.getfield 83, 3) := by decide +kernel
theorem dX4_readPulpit_39 : decode cX4_readPulpit 39 = .ok (.iload_n 2, 1) := by decide +kernel
theorem dX4_readPulpit_40 : decode cX4_readPulpit 40 = .ok (.aload_n 0, 1) := by decide +kernel
theorem dX4_readPulpit_41 : decode cX4_readPulpit 41 = .ok (.iconst 0, 1) := by decide +kernel
theorem dX4_readPulpit_42 : decode cX4_readPulpit 42 = .ok (.aload_n 1, 1) := by decide +kernel
theorem dX4_readPulpit_43 : decode cX4_readPulpit 43 = .ok (.getfield 48, 3) := by decide +kernel
theorem dX4_readPulpit_46 : decode cX4_readPulpit 46 = .ok (.iconst 1, 1) := by decide +kernel
theorem dX4_readPulpit_47 : decode cX4_readPulpit 47 = .ok (.isub, 1) := by decide +kernel
theorem dX4_readPulpit_48 : decode cX4_readPulpit 48 = .ok (.invokevirtual 44, 3) := by decide +kernel
theorem dX4_readPulpit_51 : decode cX4_readPulpit 51 = .ok (.iastore, 1) := by decide +kernel
theorem dX4_readPulpit_52 : decode cX4_readPulpit 52 = .ok (.aload_n 0, 1) := by decide +kernel
theorem dX4_readPulpit_53 : decode cX4_readPulpit 53 = .ok (.getfield 27, 3) := by decide +kernel
theorem dX4_readPulpit_56 : decode cX4_readPulpit 56 = .ok (.ifCond .ne 16, 3) := by decide +kernel
theorem dX4_readPulpit_59 : decode cX4_readPulpit 59 = .ok (.aload_n 0, 1) := by decide +kernel
theorem dX4_readPulpit_60 : decode cX4_readPulpit 60 = .ok (.bipush 59, 2) := by decide +kernel
theorem dX4_readPulpit_62 : decode cX4_readPulpit 62 = .ok (.invokevirtual 40, 3) := by decide +kernel
theorem dX4_readPulpit_65 : decode cX4_readPulpit 65 = .ok (.ifCond .eq 7, 3) := by decide +kernel
theorem dX4_readPulpit_68 : decode cX4_readPulpit 68 = .ok (.iconst 1, 1) := by decide +kernel
theorem dX4_readPulpit_69 : decode cX4_readPulpit 69 = .ok (.goto 4, 3) := by decide +kernel
theorem dX4_readPulpit_72 : decode cX4_readPulpit 72 = .ok (.iconst 0, 1) := by decide +kernel
theorem dX4_readPulpit_73 : decode cX4_readPulpit 73 = .ok (.ireturn, 1) := by decide +kernel
set_option maxRecDepth 20000 in
theorem ggX4_letterHere_X4_letterAt : GoodIn wsX4_letterHere wsX4_letterAt := goodIn_r _ [6, 7, 8, 9, 10, 11, 12] (by decide +kernel) (by decide +kernel)
set_option maxRecDepth 20000 in
theorem gX4_letterHere_X4_letterAt : GoodIn wsX4_letterHere (wsV RX4 86 RX4 yX4_letterAt wsX4_letterAt) := goodIn_app (goodIn_of _ (by decide +kernel)) ggX4_letterHere_X4_letterAt
theorem dX4_letterHere_0 : decode cX4_letterHere 0 = .ok (.aload_n 0, 1) := by decide +kernel
theorem dX4_letterHere_1 : decode cX4_letterHere 1 = .ok (.aload_n 0, 1) := by decide +kernel
theorem dX4_letterHere_2 : decode cX4_letterHere 2 = .ok (.getfield 24, 3) := by decide +kernel
theorem dX4_letterHere_5 : decode cX4_letterHere 5 = .ok (.invokevirtual 86, 3) := by decide +kernel
theorem dX4_letterHere_8 : decode cX4_letterHere 8 = .ok (.ireturn, 1) := by decide +kernel
theorem dX4_letterAt_0 : decode cX4_letterAt 0 = .ok (.iload_n 1, 1) := by decide +kernel
theorem dX4_letterAt_1 : decode cX4_letterAt 1 = .ok (.ifCond .lt 20, 3) := by decide +kernel
theorem dX4_letterAt_4 : decode cX4_letterAt 4 = .ok (.iload_n 1, 1) := by decide +kernel
theorem dX4_letterAt_5 : decode cX4_letterAt 5 = .ok (.aload_n 0, 1) := by decide +kernel
theorem dX4_letterAt_6 : decode cX4_letterAt 6 = .ok (.getfield 15, 3) := by decide +kernel
theorem dX4_letterAt_9 : decode cX4_letterAt 9 = .ok (.if_icmp .ge 12, 3) := by decide +kernel
theorem dX4_letterAt_12 : decode cX4_letterAt 12 = .ok (.aload_n 0, 1) := by decide +kernel
theorem dX4_letterAt_13 : decode cX4_letterAt 13 = .ok (.getfield 9, 3) := by decide +kernel
theorem dX4_letterAt_16 : decode cX4_letterAt 16 = .ok (.iload_n 1, 1) := by decide +kernel
theorem dX4_letterAt_17 : decode cX4_letterAt 17 = .ok (.iaload, 1) := by decide +kernel
theorem dX4_letterAt_18 : decode cX4_letterAt 18 = .ok (.goto 4, 3) := by decide +kernel
theorem dX4_letterAt_21 : decode cX4_letterAt 21 = .ok (.iconst (-1), 1) := by decide +kernel
theorem dX4_letterAt_22 : decode cX4_letterAt 22 = .ok (.ireturn, 1) := by decide +kernel
set_option maxRecDepth 20000 in
theorem ggX4_isFigure_X4_letterAt : GoodIn wsX4_isFigure wsX4_letterAt := goodIn_r _ [5, 6, 7, 8, 9, 10, 11] (by decide +kernel) (by decide +kernel)
set_option maxRecDepth 20000 in
theorem gX4_isFigure_X4_letterAt : GoodIn wsX4_isFigure (wsV RX4 86 RX4 yX4_letterAt wsX4_letterAt) := goodIn_app (goodIn_of _ (by decide +kernel)) ggX4_isFigure_X4_letterAt
theorem dX4_isFigure_0 : decode cX4_isFigure 0 = .ok (.aload_n 0, 1) := by decide +kernel
theorem dX4_isFigure_1 : decode cX4_isFigure 1 = .ok (.iload_n 1, 1) := by decide +kernel
theorem dX4_isFigure_2 : decode cX4_isFigure 2 = .ok (.invokevirtual 86, 3) := by decide +kernel
theorem dX4_isFigure_5 : decode cX4_isFigure 5 = .ok (.istore_n 2, 1) := by decide +kernel
theorem dX4_isFigure_6 : decode cX4_isFigure 6 = .ok (.iload_n 2, 1) := by decide +kernel
theorem dX4_isFigure_7 : decode cX4_isFigure 7 = .ok (.bipush 48, 2) := by decide +kernel
theorem dX4_isFigure_9 : decode cX4_isFigure 9 = .ok (.if_icmp .lt 13, 3) := by decide +kernel
theorem dX4_isFigure_12 : decode cX4_isFigure 12 = .ok (.iload_n 2, 1) := by decide +kernel
theorem dX4_isFigure_13 : decode cX4_isFigure 13 = .ok (.bipush 57, 2) := by decide +kernel
theorem dX4_isFigure_15 : decode cX4_isFigure 15 = .ok (.if_icmp .gt 7, 3) := by decide +kernel
theorem dX4_isFigure_18 : decode cX4_isFigure 18 = .ok (.iconst 1, 1) := by decide +kernel
theorem dX4_isFigure_19 : decode cX4_isFigure 19 = .ok (.goto 4, 3) := by decide +kernel
theorem dX4_isFigure_22 : decode cX4_isFigure 22 = .ok (.iconst 0, 1) := by decide +kernel
theorem dX4_isFigure_23 : decode cX4_isFigure 23 = .ok (.ireturn, 1) := by decide +kernel
set_option maxRecDepth 20000 in
theorem ggX4_kindHere_X4_letterHere : GoodIn wsX4_kindHere wsX4_letterHere := goodIn_r _ [5, 6, 7, 8, 9, 4, 10, 11, 12, 13, 14, 15, 16] (by decide +kernel) (by decide +kernel)
set_option maxRecDepth 20000 in
theorem gX4_kindHere_X4_letterHere : GoodIn wsX4_kindHere (wsV RX4 54 RX4 yX4_letterHere wsX4_letterHere) := goodIn_app (goodIn_of _ (by decide +kernel)) ggX4_kindHere_X4_letterHere
theorem dX4_kindHere_0 : decode cX4_kindHere 0 = .ok (.aload_n 0, 1) := by decide +kernel
theorem dX4_kindHere_1 : decode cX4_kindHere 1 = .ok (.invokevirtual 54, 3) := by decide +kernel
theorem dX4_kindHere_4 : decode cX4_kindHere 4 = .ok (.lookupswitch 62 #[(98, 52), (100, 58), (101, 60), (107, 54), (121, 56)], 52) := by decide +kernel
theorem dX4_kindHere_56 : decode cX4_kindHere 56 = .ok (.iconst 1, 1) := by decide +kernel
theorem dX4_kindHere_57 : decode cX4_kindHere 57 = .ok (.ireturn, 1) := by decide +kernel
theorem dX4_kindHere_58 : decode cX4_kindHere 58 = .ok (.iconst 2, 1) := by decide +kernel
theorem dX4_kindHere_59 : decode cX4_kindHere 59 = .ok (.ireturn, 1) := by decide +kernel
theorem dX4_kindHere_60 : decode cX4_kindHere 60 = .ok (.iconst 3, 1) := by decide +kernel
theorem dX4_kindHere_61 : decode cX4_kindHere 61 = .ok (.ireturn, 1) := by decide +kernel
theorem dX4_kindHere_62 : decode cX4_kindHere 62 = .ok (.iconst 4, 1) := by decide +kernel
theorem dX4_kindHere_63 : decode cX4_kindHere 63 = .ok (.ireturn, 1) := by decide +kernel
theorem dX4_kindHere_64 : decode cX4_kindHere 64 = .ok (.iconst 5, 1) := by decide +kernel
theorem dX4_kindHere_65 : decode cX4_kindHere 65 = .ok (.ireturn, 1) := by decide +kernel
theorem dX4_kindHere_66 : decode cX4_kindHere 66 = .ok (.iconst 0, 1) := by decide +kernel
theorem dX4_kindHere_67 : decode cX4_kindHere 67 = .ok (.ireturn, 1) := by decide +kernel
set_option maxRecDepth 20000 in
theorem ggX4_takeSign_X4_letterHere : GoodIn wsX4_takeSign wsX4_letterHere := goodIn_r _ [6, 1, 7, 8, 9, 5, 10, 11, 12, 18, 19, 20, 21] (by decide +kernel) (by decide +kernel)
set_option maxRecDepth 20000 in
theorem gX4_takeSign_X4_letterHere : GoodIn wsX4_takeSign (wsV RX4 54 RX4 yX4_letterHere wsX4_letterHere) := goodIn_app (goodIn_of _ (by decide +kernel)) ggX4_takeSign_X4_letterHere
set_option maxRecDepth 20000 in
theorem ggX4_takeSign_X4_blame : GoodIn wsX4_takeSign wsX4_blame := goodIn_r _ [16, 17, 18, 19, 20, 21] (by decide +kernel) (by decide +kernel)
set_option maxRecDepth 20000 in
theorem gX4_takeSign_X4_blame : GoodIn wsX4_takeSign (wsV RX4 64 RX4 yX4_blame wsX4_blame) := goodIn_app (goodIn_of _ (by decide +kernel)) ggX4_takeSign_X4_blame
theorem dX4_takeSign_0 : decode cX4_takeSign 0 = .ok (.aload_n 0, 1) := by decide +kernel
theorem dX4_takeSign_1 : decode cX4_takeSign 1 = .ok (.invokevirtual 54, 3) := by decide +kernel
theorem dX4_takeSign_4 : decode cX4_takeSign 4 = .ok (.iload_n 1, 1) := by decide +kernel
theorem dX4_takeSign_5 : decode cX4_takeSign 5 = .ok (.if_icmp .eq 9, 3) := by decide +kernel
theorem dX4_takeSign_8 : decode cX4_takeSign 8 = .ok (.aload_n 0, 1) := by decide +kernel
theorem dX4_takeSign_9 : decode cX4_takeSign 9 = .ok (.iconst 1, 1) := by decide +kernel
theorem dX4_takeSign_10 : decode cX4_takeSign 10 = .ok (.invokevirtual 64, 3) := by decide +kernel
theorem dX4_takeSign_13 : decode cX4_takeSign 13 = .ok (.ireturn, 1) := by decide +kernel
theorem dX4_takeSign_14 : decode cX4_takeSign 14 = .ok (.aload_n 0, 1) := by decide +kernel
theorem dX4_takeSign_15 : decode cX4_takeSign 15 = .ok (.dup, 1) := by decide +kernel
theorem dX4_takeSign_16 : decode cX4_takeSign 16 = .ok (.getfield 24, 3) := by decide +kernel
theorem dX4_takeSign_19 : decode cX4_takeSign 19 = .ok (.iconst 1, 1) := by decide +kernel
theorem dX4_takeSign_20 : decode cX4_takeSign 20 = .ok (.iadd, 1) := by decide +kernel
theorem dX4_takeSign_21 : decode cX4_takeSign 21 = .ok (.putfield 24, 3) := by decide +kernel
theorem dX4_takeSign_24 : decode cX4_takeSign 24 = .ok (.iconst 1, 1) := by decide +kernel
theorem dX4_takeSign_25 : decode cX4_takeSign 25 = .ok (.ireturn, 1) := by decide +kernel
set_option maxRecDepth 20000 in
theorem ggX4_takeNumber_X4_isFigure : GoodIn wsX4_takeNumber wsX4_isFigure := goodIn_r _ [7, 8, 9, 10, 6, 11, 12, 2, 18, 19, 20, 21] (by decide +kernel) (by decide +kernel)
set_option maxRecDepth 20000 in
theorem gX4_takeNumber_X4_isFigure : GoodIn wsX4_takeNumber (wsV RX4 90 RX4 yX4_isFigure wsX4_isFigure) := goodIn_app (goodIn_of _ (by decide +kernel)) ggX4_takeNumber_X4_isFigure
set_option maxRecDepth 20000 in
theorem ggX4_takeNumber_X4_blame : GoodIn wsX4_takeNumber wsX4_blame := goodIn_r _ [16, 17, 18, 19, 20, 21] (by decide +kernel) (by decide +kernel)
set_option maxRecDepth 20000 in
theorem gX4_takeNumber_X4_blame : GoodIn wsX4_takeNumber (wsV RX4 64 RX4 yX4_blame wsX4_blame) := goodIn_app (goodIn_of _ (by decide +kernel)) ggX4_takeNumber_X4_blame
theorem dX4_takeNumber_0 : decode cX4_takeNumber 0 = .ok (.aload_n 0, 1) := by decide +kernel
theorem dX4_takeNumber_1 : decode cX4_takeNumber 1 = .ok (.aload_n 0, 1) := by decide +kernel
theorem dX4_takeNumber_2 : decode cX4_takeNumber 2 = .ok (.getfield 24, 3) := by decide +kernel
theorem dX4_takeNumber_5 : decode cX4_takeNumber 5 = .ok (.invokevirtual 90, 3) := by decide +kernel
theorem dX4_takeNumber_8 : decode cX4_takeNumber 8 = .ok (.ifCond .eq 29, 3) := by decide +kernel
theorem dX4_takeNumber_11 : decode cX4_takeNumber 11 = .ok (.aload_n 0, 1) := by decide +kernel
theorem dX4_takeNumber_12 : decode cX4_takeNumber 12 = .ok (.aload_n 0, 1) := by decide +kernel
theorem dX4_takeNumber_13 : decode cX4_takeNumber 13 = .ok (.getfield 24, 3) := by decide +kernel
theorem dX4_takeNumber_16 : decode cX4_takeNumber 16 = .ok (.iconst 1, 1) := by decide +kernel
theorem dX4_takeNumber_17 : decode cX4_takeNumber 17 = .ok (.iadd, 1) := by decide +kernel
theorem dX4_takeNumber_18 : decode cX4_takeNumber 18 = .ok (.invokevirtual 90, 3) := by decide +kernel
theorem dX4_takeNumber_21 : decode cX4_takeNumber 21 = .ok (.ifCond .eq 24, 3) := by decide +kernel
theorem dX4_takeNumber_24 : decode cX4_takeNumber 24 = .ok (.aload_n 0, 1) := by decide +kernel
theorem dX4_takeNumber_25 : decode cX4_takeNumber 25 = .ok (.aload_n 0, 1) := by decide +kernel
theorem dX4_takeNumber_26 : decode cX4_takeNumber 26 = .ok (.getfield 24, 3) := by decide +kernel
theorem dX4_takeNumber_29 : decode cX4_takeNumber 29 = .ok (.iconst 2, 1) := by decide +kernel
theorem dX4_takeNumber_30 : decode cX4_takeNumber 30 = .ok (.iadd, 1) := by decide +kernel
theorem dX4_takeNumber_31 : decode cX4_takeNumber 31 = .ok (.invokevirtual 90, 3) := by decide +kernel
theorem dX4_takeNumber_34 : decode cX4_takeNumber 34 = .ok (.ifCond .eq 11, 3) := by decide +kernel
theorem dX4_takeNumber_37 : decode cX4_takeNumber 37 = .ok (.aload_n 0, 1) := by decide +kernel
theorem dX4_takeNumber_38 : decode cX4_takeNumber 38 = .ok (.iconst 1, 1) := by decide +kernel
theorem dX4_takeNumber_39 : decode cX4_takeNumber 39 = .ok (.invokevirtual 64, 3) := by decide +kernel
theorem dX4_takeNumber_42 : decode cX4_takeNumber 42 = .ok (.pop, 1) := by decide +kernel
theorem dX4_takeNumber_43 : decode cX4_takeNumber 43 = .ok (.iload_n 1, 1) := by decide +kernel
theorem dX4_takeNumber_44 : decode cX4_takeNumber 44 = .ok (.ireturn, 1) := by decide +kernel
theorem dX4_takeNumber_45 : decode cX4_takeNumber 45 = .ok (.aload_n 0, 1) := by decide +kernel
theorem dX4_takeNumber_46 : decode cX4_takeNumber 46 = .ok (.getfield 9, 3) := by decide +kernel
theorem dX4_takeNumber_49 : decode cX4_takeNumber 49 = .ok (.aload_n 0, 1) := by decide +kernel
theorem dX4_takeNumber_50 : decode cX4_takeNumber 50 = .ok (.getfield 24, 3) := by decide +kernel
theorem dX4_takeNumber_53 : decode cX4_takeNumber 53 = .ok (.iaload, 1) := by decide +kernel
theorem dX4_takeNumber_54 : decode cX4_takeNumber 54 = .ok (.bipush 48, 2) := by decide +kernel
theorem dX4_takeNumber_56 : decode cX4_takeNumber 56 = .ok (.isub, 1) := by decide +kernel
theorem dX4_takeNumber_57 : decode cX4_takeNumber 57 = .ok (.istore_n 3, 1) := by decide +kernel
theorem dX4_takeNumber_58 : decode cX4_takeNumber 58 = .ok (.aload_n 0, 1) := by decide +kernel
theorem dX4_takeNumber_59 : decode cX4_takeNumber 59 = .ok (.getfield 24, 3) := by decide +kernel
theorem dX4_takeNumber_62 : decode cX4_takeNumber 62 = .ok (.iconst 1, 1) := by decide +kernel
theorem dX4_takeNumber_63 : decode cX4_takeNumber 63 = .ok (.iadd, 1) := by decide +kernel
theorem dX4_takeNumber_64 : decode cX4_takeNumber 64 = .ok (.istore 4, 2) := by decide +kernel
theorem dX4_takeNumber_66 : decode cX4_takeNumber 66 = .ok (.aload_n 0, 1) := by decide +kernel
theorem dX4_takeNumber_67 : decode cX4_takeNumber 67 = .ok (.iload 4, 2) := by decide +kernel
theorem dX4_takeNumber_69 : decode cX4_takeNumber 69 = .ok (.invokevirtual 90, 3) := by decide +kernel
theorem dX4_takeNumber_72 : decode cX4_takeNumber 72 = .ok (.ifCond .eq 22, 3) := by decide +kernel
theorem dX4_takeNumber_75 : decode cX4_takeNumber 75 = .ok (.iload_n 3, 1) := by decide +kernel
theorem dX4_takeNumber_76 : decode cX4_takeNumber 76 = .ok (.bipush 10, 2) := by decide +kernel
theorem dX4_takeNumber_78 : decode cX4_takeNumber 78 = .ok (.imul, 1) := by decide +kernel
theorem dX4_takeNumber_79 : decode cX4_takeNumber 79 = .ok (.aload_n 0, 1) := by decide +kernel
theorem dX4_takeNumber_80 : decode cX4_takeNumber 80 = .ok (.getfield 9, 3) := by decide +kernel
theorem dX4_takeNumber_83 : decode cX4_takeNumber 83 = .ok (.iload 4, 2) := by decide +kernel
theorem dX4_takeNumber_85 : decode cX4_takeNumber 85 = .ok (.iaload, 1) := by decide +kernel
theorem dX4_takeNumber_86 : decode cX4_takeNumber 86 = .ok (.iadd, 1) := by decide +kernel
theorem dX4_takeNumber_87 : decode cX4_takeNumber 87 = .ok (.bipush 48, 2) := by decide +kernel
theorem dX4_takeNumber_89 : decode cX4_takeNumber 89 = .ok (.isub, 1) := by decide +kernel
theorem dX4_takeNumber_90 : decode cX4_takeNumber 90 = .ok (.istore_n 3, 1) := by decide +kernel
theorem dX4_takeNumber_91 : decode cX4_takeNumber 91 = .ok (.iinc 4 1, 3) := by decide +kernel
theorem dX4_takeNumber_94 : decode cX4_takeNumber 94 = .ok (.iload_n 3, 1) := by decide +kernel
theorem dX4_takeNumber_95 : decode cX4_takeNumber 95 = .ok (.iload_n 1, 1) := by decide +kernel
theorem dX4_takeNumber_96 : decode cX4_takeNumber 96 = .ok (.if_icmp .lt 8, 3) := by decide +kernel
theorem dX4_takeNumber_99 : decode cX4_takeNumber 99 = .ok (.iload_n 3, 1) := by decide +kernel
theorem dX4_takeNumber_100 : decode cX4_takeNumber 100 = .ok (.iload_n 2, 1) := by decide +kernel
theorem dX4_takeNumber_101 : decode cX4_takeNumber 101 = .ok (.if_icmp .le 11, 3) := by decide +kernel
theorem dX4_takeNumber_104 : decode cX4_takeNumber 104 = .ok (.aload_n 0, 1) := by decide +kernel
theorem dX4_takeNumber_105 : decode cX4_takeNumber 105 = .ok (.iconst 2, 1) := by decide +kernel
theorem dX4_takeNumber_106 : decode cX4_takeNumber 106 = .ok (.invokevirtual 64, 3) := by decide +kernel
theorem dX4_takeNumber_109 : decode cX4_takeNumber 109 = .ok (.pop, 1) := by decide +kernel
theorem dX4_takeNumber_110 : decode cX4_takeNumber 110 = .ok (.iload_n 1, 1) := by decide +kernel
theorem dX4_takeNumber_111 : decode cX4_takeNumber 111 = .ok (.ireturn, 1) := by decide +kernel
theorem dX4_takeNumber_112 : decode cX4_takeNumber 112 = .ok (.aload_n 0, 1) := by decide +kernel
theorem dX4_takeNumber_113 : decode cX4_takeNumber 113 = .ok (.iload 4, 2) := by decide +kernel
theorem dX4_takeNumber_115 : decode cX4_takeNumber 115 = .ok (.putfield 24, 3) := by decide +kernel
theorem dX4_takeNumber_118 : decode cX4_takeNumber 118 = .ok (.iload_n 3, 1) := by decide +kernel
theorem dX4_takeNumber_119 : decode cX4_takeNumber 119 = .ok (.ireturn, 1) := by decide +kernel
theorem dX4_blame_0 : decode cX4_blame 0 = .ok (.aload_n 0, 1) := by decide +kernel
theorem dX4_blame_1 : decode cX4_blame 1 = .ok (.iload_n 1, 1) := by decide +kernel
theorem dX4_blame_2 : decode cX4_blame 2 = .ok (.putfield 27, 3) := by decide +kernel
theorem dX4_blame_5 : decode cX4_blame 5 = .ok (.iconst 0, 1) := by decide +kernel
theorem dX4_blame_6 : decode cX4_blame 6 = .ok (.ireturn, 1) := by decide +kernel

theorem inlX5 : ∀ w ∈ wsX50, w ∈ wsL_law := fun _ h => List.mem_append_left _ (List.mem_append_left _ (List.mem_append_left _ (List.mem_append_left _ (List.mem_append_left _ (List.mem_append_left _ (List.mem_append_left _ (List.mem_append_right _ h)))))))
set_option maxRecDepth 20000 in
theorem ggX5_init_X4_init : GoodIn wsX5_init wsX4_init := goodIn_r _ [29, 30, 2, 3, 15, 31, 64, 65, 66, 67] (by decide +kernel) (by decide +kernel)
set_option maxRecDepth 20000 in
theorem gX5_init_X4_init_n17 : GoodIn wsX5_init (wsX4_init) := ggX5_init_X4_init
set_option maxRecDepth 20000 in
theorem ggX5_init_X2_init : GoodIn wsX5_init wsX2_init := goodIn_r _ [33, 34, 2, 3, 15, 35, 36, 37, 38, 39, 40, 68, 69, 70, 71, 72, 73, 74, 75, 76, 77, 78, 79] (by decide +kernel) (by decide +kernel)
set_option maxRecDepth 20000 in
theorem gX5_init_X2_init_n24 : GoodIn wsX5_init (wsX2_init) := ggX5_init_X2_init
set_option maxRecDepth 20000 in
theorem ggX5_init_X0_init : GoodIn wsX5_init wsX0_init := goodIn_r _ [42, 43, 2, 3, 15, 44, 80, 81, 82] (by decide +kernel) (by decide +kernel)
set_option maxRecDepth 20000 in
theorem gX5_init_X0_init_n42 : GoodIn wsX5_init (wsX0_init) := ggX5_init_X0_init
set_option maxRecDepth 20000 in
theorem ggX5_init_X1_init : GoodIn wsX5_init wsX1_init := goodIn_r _ [46, 47, 2, 3, 15, 48, 83, 84] (by decide +kernel) (by decide +kernel)
set_option maxRecDepth 20000 in
theorem gX5_init_X1_init_n49 : GoodIn wsX5_init (wsX1_init) := ggX5_init_X1_init
set_option maxRecDepth 20000 in
theorem ggX5_init_X3_init : GoodIn wsX5_init wsX3_init := goodIn_r _ [50, 51, 2, 3, 15, 52, 53, 85, 86, 87, 88] (by decide +kernel) (by decide +kernel)
set_option maxRecDepth 20000 in
theorem gX5_init_X3_init_n54 : GoodIn wsX5_init (wsX3_init) := ggX5_init_X3_init
theorem dX5_init_0 : decode cX5_init 0 = .ok (.aload_n 0, 1) := by decide +kernel
theorem dX5_init_1 : decode cX5_init 1 = .ok (.invokespecial 1, 3) := by decide +kernel
theorem dX5_init_4 : decode cX5_init 4 = .ok (.aload_n 0, 1) := by decide +kernel
theorem dX5_init_5 : decode cX5_init 5 = .ok (.bipush 8, 2) := by decide +kernel
theorem dX5_init_7 : decode cX5_init 7 = .ok (.anewarray 9, 3) := by decide +kernel
theorem dX5_init_10 : decode cX5_init 10 = .ok (.putfield 11, 3) := by decide +kernel
theorem dX5_init_13 : decode cX5_init 13 = .ok (.aload_n 0, 1) := by decide +kernel
theorem dX5_init_14 : decode cX5_init 14 = .ok (.new 15, 3) := by decide +kernel
theorem dX5_init_17 : decode cX5_init 17 = .ok (.dup, 1) := by decide +kernel
theorem dX5_init_18 : decode cX5_init 18 = .ok (.invokespecial 17, 3) := by decide +kernel
theorem dX5_init_21 : decode cX5_init 21 = .ok (.putfield 18, 3) := by decide +kernel
theorem dX5_init_24 : decode cX5_init 24 = .ok (.aload_n 0, 1) := by decide +kernel
theorem dX5_init_25 : decode cX5_init 25 = .ok (.new 22, 3) := by decide +kernel
theorem dX5_init_28 : decode cX5_init 28 = .ok (.dup, 1) := by decide +kernel
theorem dX5_init_29 : decode cX5_init 29 = .ok (.invokespecial 24, 3) := by decide +kernel
theorem dX5_init_32 : decode cX5_init 32 = .ok (.putfield 25, 3) := by decide +kernel
theorem dX5_init_35 : decode cX5_init 35 = .ok (.aload_n 0, 1) := by decide +kernel
theorem dX5_init_36 : decode cX5_init 36 = .ok (.new 22, 3) := by decide +kernel
theorem dX5_init_39 : decode cX5_init 39 = .ok (.dup, 1) := by decide +kernel
theorem dX5_init_40 : decode cX5_init 40 = .ok (.invokespecial 24, 3) := by decide +kernel
theorem dX5_init_43 : decode cX5_init 43 = .ok (.putfield 29, 3) := by decide +kernel
theorem dX5_init_46 : decode cX5_init 46 = .ok (.aload_n 0, 1) := by decide +kernel
theorem dX5_init_47 : decode cX5_init 47 = .ok (.bipush 72, 2) := by decide +kernel
theorem dX5_init_49 : decode cX5_init 49 = .ok (.newarray .int, 2) := by decide +kernel
theorem dX5_init_51 : decode cX5_init 51 = .ok (.putfield 32, 3) := by decide +kernel
theorem dX5_init_54 : decode cX5_init 54 = .ok (.aload_n 0, 1) := by decide +kernel
theorem dX5_init_55 : decode cX5_init 55 = .ok (.iconst 2, 1) := by decide +kernel
theorem dX5_init_56 : decode cX5_init 56 = .ok (.anewarray 22, 3) := by decide +kernel
theorem dX5_init_59 : decode cX5_init 59 = .ok (.putfield 36, 3) := by decide +kernel
theorem dX5_init_62 : decode cX5_init 62 = .ok (.aload_n 0, 1) := by decide +kernel
theorem dX5_init_63 : decode cX5_init 63 = .ok (.new 40, 3) := by decide +kernel
theorem dX5_init_66 : decode cX5_init 66 = .ok (.dup, 1) := by decide +kernel
theorem dX5_init_67 : decode cX5_init 67 = .ok (.invokespecial 42, 3) := by decide +kernel
theorem dX5_init_70 : decode cX5_init 70 = .ok (.putfield 43, 3) := by decide +kernel
theorem dX5_init_73 : decode cX5_init 73 = .ok (.aload_n 0, 1) := by decide +kernel
theorem dX5_init_74 : decode cX5_init 74 = .ok (.new 47, 3) := by decide +kernel
theorem dX5_init_77 : decode cX5_init 77 = .ok (.dup, 1) := by decide +kernel
theorem dX5_init_78 : decode cX5_init 78 = .ok (.invokespecial 49, 3) := by decide +kernel
theorem dX5_init_81 : decode cX5_init 81 = .ok (.putfield 50, 3) := by decide +kernel
theorem dX5_init_84 : decode cX5_init 84 = .ok (.iconst 0, 1) := by decide +kernel
theorem dX5_init_85 : decode cX5_init 85 = .ok (.istore_n 1, 1) := by decide +kernel
theorem dX5_init_86 : decode cX5_init 86 = .ok (.iload_n 1, 1) := by decide +kernel
theorem dX5_init_87 : decode cX5_init 87 = .ok (.bipush 8, 2) := by decide +kernel
theorem dX5_init_89 : decode cX5_init 89 = .ok (.if_icmp .ge 22, 3) := by decide +kernel
theorem dX5_init_92 : decode cX5_init 92 = .ok (.aload_n 0, 1) := by decide +kernel
theorem dX5_init_93 : decode cX5_init 93 = .ok (.getfield 11, 3) := by decide +kernel
theorem dX5_init_96 : decode cX5_init 96 = .ok (.iload_n 1, 1) := by decide +kernel
theorem dX5_init_97 : decode cX5_init 97 = .ok (.new 9, 3) := by decide +kernel
theorem dX5_init_100 : decode cX5_init 100 = .ok (.dup, 1) := by decide +kernel
theorem dX5_init_101 : decode cX5_init 101 = .ok (.invokespecial 54, 3) := by decide +kernel
theorem dX5_init_104 : decode cX5_init 104 = .ok (.aastore, 1) := by decide +kernel
theorem dX5_init_105 : decode cX5_init 105 = .ok (.iinc 1 1, 3) := by decide +kernel
theorem dX5_init_108 : decode cX5_init 108 = .ok (.goto (-22), 3) := by decide +kernel
theorem dX5_init_111 : decode cX5_init 111 = .ok (.iconst 0, 1) := by decide +kernel
theorem dX5_init_112 : decode cX5_init 112 = .ok (.istore_n 1, 1) := by decide +kernel
theorem dX5_init_113 : decode cX5_init 113 = .ok (.iload_n 1, 1) := by decide +kernel
theorem dX5_init_114 : decode cX5_init 114 = .ok (.iconst 2, 1) := by decide +kernel
theorem dX5_init_115 : decode cX5_init 115 = .ok (.if_icmp .ge 22, 3) := by decide +kernel
theorem dX5_init_118 : decode cX5_init 118 = .ok (.aload_n 0, 1) := by decide +kernel
theorem dX5_init_119 : decode cX5_init 119 = .ok (.getfield 36, 3) := by decide +kernel
theorem dX5_init_122 : decode cX5_init 122 = .ok (.iload_n 1, 1) := by decide +kernel
theorem dX5_init_123 : decode cX5_init 123 = .ok (.new 22, 3) := by decide +kernel
theorem dX5_init_126 : decode cX5_init 126 = .ok (.dup, 1) := by decide +kernel
theorem dX5_init_127 : decode cX5_init 127 = .ok (.invokespecial 24, 3) := by decide +kernel
theorem dX5_init_130 : decode cX5_init 130 = .ok (.aastore, 1) := by decide +kernel
theorem dX5_init_131 : decode cX5_init 131 = .ok (.iinc 1 1, 3) := by decide +kernel
theorem dX5_init_134 : decode cX5_init 134 = .ok (.goto (-21), 3) := by decide +kernel
theorem dX5_init_137 : decode cX5_init 137 = .ok (.return_, 1) := by decide +kernel
set_option maxRecDepth 20000 in
theorem ggX5_row_X5_isRow : GoodIn wsX5_row wsX5_isRow := goodIn_r _ [6] (by decide +kernel) (by decide +kernel)
set_option maxRecDepth 20000 in
theorem gX5_row_X5_isRow : GoodIn wsX5_row (va_wsS RX5 55 yX5_isRow wsX5_isRow) := goodIn_app (goodIn_of _ (by decide +kernel)) ggX5_row_X5_isRow
set_option maxRecDepth 20000 in
theorem ggX5_row_X5_found : GoodIn wsX5_row wsX5_found := goodIn_r _ [10, 11, 12, 25, 26, 27, 28, 29, 30, 31, 32, 33, 34] (by decide +kernel) (by decide +kernel)
set_option maxRecDepth 20000 in
theorem gX5_row_X5_found : GoodIn wsX5_row (wsV RX5 60 RX5 yX5_found wsX5_found) := goodIn_app (goodIn_of _ (by decide +kernel)) ggX5_row_X5_found
set_option maxRecDepth 20000 in
theorem ggX5_row_X3_begin : GoodIn wsX5_row wsX3_begin := goodIn_r _ [16, 17, 18, 19, 20, 35, 36, 37, 38] (by decide +kernel) (by decide +kernel)
set_option maxRecDepth 20000 in
theorem gX5_row_X3_begin_n64 : GoodIn wsX5_row (wsX3_begin) := ggX5_row_X3_begin
set_option maxRecDepth 20000 in
theorem ggX5_row_X5_foundNothing : GoodIn wsX5_row wsX5_foundNothing := goodIn_r _ [24, 11, 25, 26, 27, 28, 29, 30, 31, 32, 33, 34] (by decide +kernel) (by decide +kernel)
set_option maxRecDepth 20000 in
theorem gX5_row_X5_foundNothing : GoodIn wsX5_row (wsV RX5 68 RX5 yX5_foundNothing wsX5_foundNothing) := goodIn_app (goodIn_of _ (by decide +kernel)) ggX5_row_X5_foundNothing
theorem dX5_row_0 : decode cX5_row 0 = .ok (.iload_n 1, 1) := by decide +kernel
theorem dX5_row_1 : decode cX5_row 1 = .ok (.invokestatic 55, 3) := by decide +kernel
theorem dX5_row_4 : decode cX5_row 4 = .ok (.ifCond .eq 18, 3) := by decide +kernel
theorem dX5_row_7 : decode cX5_row 7 = .ok (.iload_n 2, 1) := by decide +kernel
theorem dX5_row_8 : decode cX5_row 8 = .ok (.ifCond .lt 14, 3) := by decide +kernel
theorem dX5_row_11 : decode cX5_row 11 = .ok (.iload_n 2, 1) := by decide +kernel
theorem dX5_row_12 : decode cX5_row 12 = .ok (.iconst 3, 1) := by decide +kernel
theorem dX5_row_13 : decode cX5_row 13 = .ok (.if_icmp .ge 9, 3) := by decide +kernel
theorem dX5_row_16 : decode cX5_row 16 = .ok (.iload_n 3, 1) := by decide +kernel
theorem dX5_row_17 : decode cX5_row 17 = .ok (.bipush 40, 2) := by decide +kernel
theorem dX5_row_19 : decode cX5_row 19 = .ok (.if_icmp .le 6, 3) := by decide +kernel
theorem dX5_row_22 : decode cX5_row 22 = .ok (.ldc 59, 2) := by decide +kernel
theorem dX5_row_24 : decode cX5_row 24 = .ok (.ireturn, 1) := by decide +kernel
theorem dX5_row_25 : decode cX5_row 25 = .ok (.iload_n 3, 1) := by decide +kernel
theorem dX5_row_26 : decode cX5_row 26 = .ok (.ifCond .ge 9, 3) := by decide +kernel
theorem dX5_row_29 : decode cX5_row 29 = .ok (.aload_n 0, 1) := by decide +kernel
theorem dX5_row_30 : decode cX5_row 30 = .ok (.iconst 4, 1) := by decide +kernel
theorem dX5_row_31 : decode cX5_row 31 = .ok (.invokevirtual 60, 3) := by decide +kernel
theorem dX5_row_34 : decode cX5_row 34 = .ok (.ireturn, 1) := by decide +kernel
theorem dX5_row_35 : decode cX5_row 35 = .ok (.aload_n 0, 1) := by decide +kernel
theorem dX5_row_36 : decode cX5_row 36 = .ok (.getfield 11, 3) := by decide +kernel
theorem dX5_row_39 : decode cX5_row 39 = .ok (.iload_n 1, 1) := by decide +kernel
theorem dX5_row_40 : decode cX5_row 40 = .ok (.aaload, 1) := by decide +kernel
theorem dX5_row_41 : decode cX5_row 41 = .ok (.iload_n 2, 1) := by decide +kernel
theorem dX5_row_42 : decode cX5_row 42 = .ok (.iload_n 3, 1) := by decide +kernel
theorem dX5_row_43 : decode cX5_row 43 = .ok (.invokevirtual 64, 3) := by decide +kernel
theorem dX5_row_46 : decode cX5_row 46 = .ok (.aload_n 0, 1) := by decide +kernel
theorem dX5_row_47 : decode cX5_row 47 = .ok (.iload_n 3, 1) := by decide +kernel
theorem dX5_row_48 : decode cX5_row 48 = .ok (.invokevirtual 68, 3) := by decide +kernel
theorem dX5_row_51 : decode cX5_row 51 = .ok (.ireturn, 1) := by decide +kernel
set_option maxRecDepth 20000 in
theorem ggX5_set_X5_isRow : GoodIn wsX5_set wsX5_isRow := goodIn_r _ [6] (by decide +kernel) (by decide +kernel)
set_option maxRecDepth 20000 in
theorem gX5_set_X5_isRow : GoodIn wsX5_set (va_wsS RX5 55 yX5_isRow wsX5_isRow) := goodIn_app (goodIn_of _ (by decide +kernel)) ggX5_set_X5_isRow
set_option maxRecDepth 20000 in
theorem ggX5_set_X5_found : GoodIn wsX5_set wsX5_found := goodIn_r _ [10, 11, 12, 26, 27, 28, 29, 30, 31, 32, 33, 34, 35] (by decide +kernel) (by decide +kernel)
set_option maxRecDepth 20000 in
theorem gX5_set_X5_found : GoodIn wsX5_set (wsV RX5 60 RX5 yX5_found wsX5_found) := goodIn_app (goodIn_of _ (by decide +kernel)) ggX5_set_X5_found
set_option maxRecDepth 20000 in
theorem ggX5_set_X3_hasPlaces : GoodIn wsX5_set wsX3_hasPlaces := goodIn_r _ [16, 17, 36, 37, 38, 39] (by decide +kernel) (by decide +kernel)
set_option maxRecDepth 20000 in
theorem gX5_set_X3_hasPlaces_n75 : GoodIn wsX5_set (wsX3_hasPlaces) := ggX5_set_X3_hasPlaces
set_option maxRecDepth 20000 in
theorem ggX5_set_X3_cut : GoodIn wsX5_set wsX3_cut := goodIn_r _ [20, 21, 36, 37, 38, 39] (by decide +kernel) (by decide +kernel)
set_option maxRecDepth 20000 in
theorem gX5_set_X3_cut_n82 : GoodIn wsX5_set (wsX3_cut) := ggX5_set_X3_cut
set_option maxRecDepth 20000 in
theorem ggX5_set_X5_foundNothing : GoodIn wsX5_set wsX5_foundNothing := goodIn_r _ [25, 11, 26, 27, 28, 29, 30, 31, 32, 33, 34, 35] (by decide +kernel) (by decide +kernel)
set_option maxRecDepth 20000 in
theorem gX5_set_X5_foundNothing : GoodIn wsX5_set (wsV RX5 68 RX5 yX5_foundNothing wsX5_foundNothing) := goodIn_app (goodIn_of _ (by decide +kernel)) ggX5_set_X5_foundNothing
theorem dX5_set_0 : decode cX5_set 0 = .ok (.iload_n 1, 1) := by decide +kernel
theorem dX5_set_1 : decode cX5_set 1 = .ok (.invokestatic 55, 3) := by decide +kernel
theorem dX5_set_4 : decode cX5_set 4 = .ok (.ifCond .ne 6, 3) := by decide +kernel
theorem dX5_set_7 : decode cX5_set 7 = .ok (.ldc 59, 2) := by decide +kernel
theorem dX5_set_9 : decode cX5_set 9 = .ok (.ireturn, 1) := by decide +kernel
theorem dX5_set_10 : decode cX5_set 10 = .ok (.aload_n 0, 1) := by decide +kernel
theorem dX5_set_11 : decode cX5_set 11 = .ok (.getfield 11, 3) := by decide +kernel
theorem dX5_set_14 : decode cX5_set 14 = .ok (.iload_n 1, 1) := by decide +kernel
theorem dX5_set_15 : decode cX5_set 15 = .ok (.aaload, 1) := by decide +kernel
theorem dX5_set_16 : decode cX5_set 16 = .ok (.astore 4, 2) := by decide +kernel
theorem dX5_set_18 : decode cX5_set 18 = .ok (.aload 4, 2) := by decide +kernel
theorem dX5_set_20 : decode cX5_set 20 = .ok (.getfield 71, 3) := by decide +kernel
theorem dX5_set_23 : decode cX5_set 23 = .ok (.ifCond .eq 9, 3) := by decide +kernel
theorem dX5_set_26 : decode cX5_set 26 = .ok (.aload_n 0, 1) := by decide +kernel
theorem dX5_set_27 : decode cX5_set 27 = .ok (.iconst 1, 1) := by decide +kernel
theorem dX5_set_28 : decode cX5_set 28 = .ok (.invokevirtual 60, 3) := by decide +kernel
theorem dX5_set_31 : decode cX5_set 31 = .ok (.ireturn, 1) := by decide +kernel
theorem dX5_set_32 : decode cX5_set 32 = .ok (.aload 4, 2) := by decide +kernel
theorem dX5_set_34 : decode cX5_set 34 = .ok (.iload_n 2, 1) := by decide +kernel
theorem dX5_set_35 : decode cX5_set 35 = .ok (.iconst 1, 1) := by decide +kernel
theorem dX5_set_36 : decode cX5_set 36 = .ok (.invokevirtual 75, 3) := by decide +kernel
theorem dX5_set_39 : decode cX5_set 39 = .ok (.ifCond .ne 9, 3) := by decide +kernel
theorem dX5_set_42 : decode cX5_set 42 = .ok (.aload_n 0, 1) := by decide +kernel
theorem dX5_set_43 : decode cX5_set 43 = .ok (.iconst 2, 1) := by decide +kernel
theorem dX5_set_44 : decode cX5_set 44 = .ok (.invokevirtual 60, 3) := by decide +kernel
theorem dX5_set_47 : decode cX5_set 47 = .ok (.ireturn, 1) := by decide +kernel
theorem dX5_set_48 : decode cX5_set 48 = .ok (.aload 4, 2) := by decide +kernel
theorem dX5_set_50 : decode cX5_set 50 = .ok (.getfield 79, 3) := by decide +kernel
theorem dX5_set_53 : decode cX5_set 53 = .ok (.iload_n 2, 1) := by decide +kernel
theorem dX5_set_54 : decode cX5_set 54 = .ok (.aload 4, 2) := by decide +kernel
theorem dX5_set_56 : decode cX5_set 56 = .ok (.iload_n 3, 1) := by decide +kernel
theorem dX5_set_57 : decode cX5_set 57 = .ok (.invokevirtual 82, 3) := by decide +kernel
theorem dX5_set_60 : decode cX5_set 60 = .ok (.iastore, 1) := by decide +kernel
theorem dX5_set_61 : decode cX5_set 61 = .ok (.aload_n 0, 1) := by decide +kernel
theorem dX5_set_62 : decode cX5_set 62 = .ok (.aload 4, 2) := by decide +kernel
theorem dX5_set_64 : decode cX5_set 64 = .ok (.getfield 79, 3) := by decide +kernel
theorem dX5_set_67 : decode cX5_set 67 = .ok (.iload_n 2, 1) := by decide +kernel
theorem dX5_set_68 : decode cX5_set 68 = .ok (.iaload, 1) := by decide +kernel
theorem dX5_set_69 : decode cX5_set 69 = .ok (.invokevirtual 68, 3) := by decide +kernel
theorem dX5_set_72 : decode cX5_set 72 = .ok (.ireturn, 1) := by decide +kernel
set_option maxRecDepth 20000 in
theorem ggX5_copy_X5_isRow : GoodIn wsX5_copy wsX5_isRow := goodIn_r _ [10] (by decide +kernel) (by decide +kernel)
set_option maxRecDepth 20000 in
theorem gX5_copy_X5_isRow : GoodIn wsX5_copy (va_wsS RX5 55 yX5_isRow wsX5_isRow) := goodIn_app (goodIn_of _ (by decide +kernel)) ggX5_copy_X5_isRow
set_option maxRecDepth 20000 in
theorem ggX5_copy_X5_found : GoodIn wsX5_copy wsX5_found := goodIn_r _ [14, 15, 16, 26, 27, 28, 29, 30, 31, 32, 33, 34, 35] (by decide +kernel) (by decide +kernel)
set_option maxRecDepth 20000 in
theorem gX5_copy_X5_found : GoodIn wsX5_copy (wsV RX5 60 RX5 yX5_found wsX5_found) := goodIn_app (goodIn_of _ (by decide +kernel)) ggX5_copy_X5_found
set_option maxRecDepth 20000 in
theorem ggX5_copy_X3_hasPlaces : GoodIn wsX5_copy wsX3_hasPlaces := goodIn_r _ [20, 21, 36, 37, 38, 39] (by decide +kernel) (by decide +kernel)
set_option maxRecDepth 20000 in
theorem gX5_copy_X3_hasPlaces_n75 : GoodIn wsX5_copy (wsX3_hasPlaces) := ggX5_copy_X3_hasPlaces
set_option maxRecDepth 20000 in
theorem ggX5_copy_X5_foundNothing : GoodIn wsX5_copy wsX5_foundNothing := goodIn_r _ [25, 15, 26, 27, 28, 29, 30, 31, 32, 33, 34, 35] (by decide +kernel) (by decide +kernel)
set_option maxRecDepth 20000 in
theorem gX5_copy_X5_foundNothing : GoodIn wsX5_copy (wsV RX5 68 RX5 yX5_foundNothing wsX5_foundNothing) := goodIn_app (goodIn_of _ (by decide +kernel)) ggX5_copy_X5_foundNothing
theorem dX5_copy_0 : decode cX5_copy 0 = .ok (.iload_n 1, 1) := by decide +kernel
theorem dX5_copy_1 : decode cX5_copy 1 = .ok (.invokestatic 55, 3) := by decide +kernel
theorem dX5_copy_4 : decode cX5_copy 4 = .ok (.ifCond .eq 10, 3) := by decide +kernel
theorem dX5_copy_7 : decode cX5_copy 7 = .ok (.iload_n 3, 1) := by decide +kernel
theorem dX5_copy_8 : decode cX5_copy 8 = .ok (.invokestatic 55, 3) := by decide +kernel
theorem dX5_copy_11 : decode cX5_copy 11 = .ok (.ifCond .ne 6, 3) := by decide +kernel
theorem dX5_copy_14 : decode cX5_copy 14 = .ok (.ldc 59, 2) := by decide +kernel
theorem dX5_copy_16 : decode cX5_copy 16 = .ok (.ireturn, 1) := by decide +kernel
theorem dX5_copy_17 : decode cX5_copy 17 = .ok (.aload_n 0, 1) := by decide +kernel
theorem dX5_copy_18 : decode cX5_copy 18 = .ok (.getfield 11, 3) := by decide +kernel
theorem dX5_copy_21 : decode cX5_copy 21 = .ok (.iload_n 1, 1) := by decide +kernel
theorem dX5_copy_22 : decode cX5_copy 22 = .ok (.aaload, 1) := by decide +kernel
theorem dX5_copy_23 : decode cX5_copy 23 = .ok (.astore 6, 2) := by decide +kernel
theorem dX5_copy_25 : decode cX5_copy 25 = .ok (.aload_n 0, 1) := by decide +kernel
theorem dX5_copy_26 : decode cX5_copy 26 = .ok (.getfield 11, 3) := by decide +kernel
theorem dX5_copy_29 : decode cX5_copy 29 = .ok (.iload_n 3, 1) := by decide +kernel
theorem dX5_copy_30 : decode cX5_copy 30 = .ok (.aaload, 1) := by decide +kernel
theorem dX5_copy_31 : decode cX5_copy 31 = .ok (.astore 7, 2) := by decide +kernel
theorem dX5_copy_33 : decode cX5_copy 33 = .ok (.aload 6, 2) := by decide +kernel
theorem dX5_copy_35 : decode cX5_copy 35 = .ok (.getfield 71, 3) := by decide +kernel
theorem dX5_copy_38 : decode cX5_copy 38 = .ok (.ifCond .ne 11, 3) := by decide +kernel
theorem dX5_copy_41 : decode cX5_copy 41 = .ok (.aload 7, 2) := by decide +kernel
theorem dX5_copy_43 : decode cX5_copy 43 = .ok (.getfield 71, 3) := by decide +kernel
theorem dX5_copy_46 : decode cX5_copy 46 = .ok (.ifCond .eq 9, 3) := by decide +kernel
theorem dX5_copy_49 : decode cX5_copy 49 = .ok (.aload_n 0, 1) := by decide +kernel
theorem dX5_copy_50 : decode cX5_copy 50 = .ok (.iconst 1, 1) := by decide +kernel
theorem dX5_copy_51 : decode cX5_copy 51 = .ok (.invokevirtual 60, 3) := by decide +kernel
theorem dX5_copy_54 : decode cX5_copy 54 = .ok (.ireturn, 1) := by decide +kernel
theorem dX5_copy_55 : decode cX5_copy 55 = .ok (.aload 6, 2) := by decide +kernel
theorem dX5_copy_57 : decode cX5_copy 57 = .ok (.getfield 85, 3) := by decide +kernel
theorem dX5_copy_60 : decode cX5_copy 60 = .ok (.aload 7, 2) := by decide +kernel
theorem dX5_copy_62 : decode cX5_copy 62 = .ok (.getfield 85, 3) := by decide +kernel
theorem dX5_copy_65 : decode cX5_copy 65 = .ok (.if_icmp .eq 9, 3) := by decide +kernel
theorem dX5_copy_68 : decode cX5_copy 68 = .ok (.aload_n 0, 1) := by decide +kernel
theorem dX5_copy_69 : decode cX5_copy 69 = .ok (.iconst 5, 1) := by decide +kernel
theorem dX5_copy_70 : decode cX5_copy 70 = .ok (.invokevirtual 60, 3) := by decide +kernel
theorem dX5_copy_73 : decode cX5_copy 73 = .ok (.ireturn, 1) := by decide +kernel
theorem dX5_copy_74 : decode cX5_copy 74 = .ok (.aload 6, 2) := by decide +kernel
theorem dX5_copy_76 : decode cX5_copy 76 = .ok (.iload_n 2, 1) := by decide +kernel
theorem dX5_copy_77 : decode cX5_copy 77 = .ok (.iload 5, 2) := by decide +kernel
theorem dX5_copy_79 : decode cX5_copy 79 = .ok (.invokevirtual 75, 3) := by decide +kernel
theorem dX5_copy_82 : decode cX5_copy 82 = .ok (.ifCond .eq 15, 3) := by decide +kernel
theorem dX5_copy_85 : decode cX5_copy 85 = .ok (.aload 7, 2) := by decide +kernel
theorem dX5_copy_87 : decode cX5_copy 87 = .ok (.iload 4, 2) := by decide +kernel
theorem dX5_copy_89 : decode cX5_copy 89 = .ok (.iload 5, 2) := by decide +kernel
theorem dX5_copy_91 : decode cX5_copy 91 = .ok (.invokevirtual 75, 3) := by decide +kernel
theorem dX5_copy_94 : decode cX5_copy 94 = .ok (.ifCond .ne 9, 3) := by decide +kernel
theorem dX5_copy_97 : decode cX5_copy 97 = .ok (.aload_n 0, 1) := by decide +kernel
theorem dX5_copy_98 : decode cX5_copy 98 = .ok (.iconst 2, 1) := by decide +kernel
theorem dX5_copy_99 : decode cX5_copy 99 = .ok (.invokevirtual 60, 3) := by decide +kernel
theorem dX5_copy_102 : decode cX5_copy 102 = .ok (.ireturn, 1) := by decide +kernel
theorem dX5_copy_103 : decode cX5_copy 103 = .ok (.aload 6, 2) := by decide +kernel
theorem dX5_copy_105 : decode cX5_copy 105 = .ok (.getfield 79, 3) := by decide +kernel
theorem dX5_copy_108 : decode cX5_copy 108 = .ok (.iload_n 2, 1) := by decide +kernel
theorem dX5_copy_109 : decode cX5_copy 109 = .ok (.aload 7, 2) := by decide +kernel
theorem dX5_copy_111 : decode cX5_copy 111 = .ok (.getfield 79, 3) := by decide +kernel
theorem dX5_copy_114 : decode cX5_copy 114 = .ok (.iload 4, 2) := by decide +kernel
theorem dX5_copy_116 : decode cX5_copy 116 = .ok (.iload 5, 2) := by decide +kernel
theorem dX5_copy_118 : decode cX5_copy 118 = .ok (.invokestatic 89, 3) := by decide +kernel
theorem dX5_copy_121 : decode cX5_copy 121 = .ok (.aload_n 0, 1) := by decide +kernel
theorem dX5_copy_122 : decode cX5_copy 122 = .ok (.iload 5, 2) := by decide +kernel
theorem dX5_copy_124 : decode cX5_copy 124 = .ok (.invokevirtual 68, 3) := by decide +kernel
theorem dX5_copy_127 : decode cX5_copy 127 = .ok (.ireturn, 1) := by decide +kernel
set_option maxRecDepth 20000 in
theorem ggX5_drop_X5_isRow : GoodIn wsX5_drop wsX5_isRow := goodIn_r _ [6] (by decide +kernel) (by decide +kernel)
set_option maxRecDepth 20000 in
theorem gX5_drop_X5_isRow : GoodIn wsX5_drop (va_wsS RX5 55 yX5_isRow wsX5_isRow) := goodIn_app (goodIn_of _ (by decide +kernel)) ggX5_drop_X5_isRow
set_option maxRecDepth 20000 in
theorem ggX5_drop_X5_found : GoodIn wsX5_drop wsX5_found := goodIn_r _ [10, 11, 12, 17, 18, 19, 20, 21, 22, 23, 24, 25, 26] (by decide +kernel) (by decide +kernel)
set_option maxRecDepth 20000 in
theorem gX5_drop_X5_found : GoodIn wsX5_drop (wsV RX5 60 RX5 yX5_found wsX5_found) := goodIn_app (goodIn_of _ (by decide +kernel)) ggX5_drop_X5_found
set_option maxRecDepth 20000 in
theorem ggX5_drop_X5_foundNothing : GoodIn wsX5_drop wsX5_foundNothing := goodIn_r _ [16, 11, 17, 18, 19, 20, 21, 22, 23, 24, 25, 26] (by decide +kernel) (by decide +kernel)
set_option maxRecDepth 20000 in
theorem gX5_drop_X5_foundNothing : GoodIn wsX5_drop (wsV RX5 68 RX5 yX5_foundNothing wsX5_foundNothing) := goodIn_app (goodIn_of _ (by decide +kernel)) ggX5_drop_X5_foundNothing
theorem dX5_drop_0 : decode cX5_drop 0 = .ok (.iload_n 1, 1) := by decide +kernel
theorem dX5_drop_1 : decode cX5_drop 1 = .ok (.invokestatic 55, 3) := by decide +kernel
theorem dX5_drop_4 : decode cX5_drop 4 = .ok (.ifCond .ne 6, 3) := by decide +kernel
theorem dX5_drop_7 : decode cX5_drop 7 = .ok (.ldc 59, 2) := by decide +kernel
theorem dX5_drop_9 : decode cX5_drop 9 = .ok (.ireturn, 1) := by decide +kernel
theorem dX5_drop_10 : decode cX5_drop 10 = .ok (.aload_n 0, 1) := by decide +kernel
theorem dX5_drop_11 : decode cX5_drop 11 = .ok (.getfield 11, 3) := by decide +kernel
theorem dX5_drop_14 : decode cX5_drop 14 = .ok (.iload_n 1, 1) := by decide +kernel
theorem dX5_drop_15 : decode cX5_drop 15 = .ok (.aaload, 1) := by decide +kernel
theorem dX5_drop_16 : decode cX5_drop 16 = .ok (.astore_n 2, 1) := by decide +kernel
theorem dX5_drop_17 : decode cX5_drop 17 = .ok (.aload_n 2, 1) := by decide +kernel
theorem dX5_drop_18 : decode cX5_drop 18 = .ok (.getfield 71, 3) := by decide +kernel
theorem dX5_drop_21 : decode cX5_drop 21 = .ok (.ifCond .eq 9, 3) := by decide +kernel
theorem dX5_drop_24 : decode cX5_drop 24 = .ok (.aload_n 0, 1) := by decide +kernel
theorem dX5_drop_25 : decode cX5_drop 25 = .ok (.iconst 1, 1) := by decide +kernel
theorem dX5_drop_26 : decode cX5_drop 26 = .ok (.invokevirtual 60, 3) := by decide +kernel
theorem dX5_drop_29 : decode cX5_drop 29 = .ok (.ireturn, 1) := by decide +kernel
theorem dX5_drop_30 : decode cX5_drop 30 = .ok (.aload_n 2, 1) := by decide +kernel
theorem dX5_drop_31 : decode cX5_drop 31 = .ok (.iconst 1, 1) := by decide +kernel
theorem dX5_drop_32 : decode cX5_drop 32 = .ok (.putfield 71, 3) := by decide +kernel
theorem dX5_drop_35 : decode cX5_drop 35 = .ok (.aload_n 0, 1) := by decide +kernel
theorem dX5_drop_36 : decode cX5_drop 36 = .ok (.aload_n 2, 1) := by decide +kernel
theorem dX5_drop_37 : decode cX5_drop 37 = .ok (.getfield 95, 3) := by decide +kernel
theorem dX5_drop_40 : decode cX5_drop 40 = .ok (.invokevirtual 68, 3) := by decide +kernel
theorem dX5_drop_43 : decode cX5_drop 43 = .ok (.ireturn, 1) := by decide +kernel
set_option maxRecDepth 20000 in
theorem ggX5_feed_X4_add : GoodIn wsX5_feed wsX4_add := goodIn_r _ [7, 8, 9, 20, 21, 22, 23] (by decide +kernel) (by decide +kernel)
set_option maxRecDepth 20000 in
theorem gX5_feed_X4_add_n100 : GoodIn wsX5_feed (wsX4_add) := ggX5_feed_X4_add
theorem dX5_feed_0 : decode cX5_feed 0 = .ok (.iload_n 1, 1) := by decide +kernel
theorem dX5_feed_1 : decode cX5_feed 1 = .ok (.ifCond .lt 10, 3) := by decide +kernel
theorem dX5_feed_4 : decode cX5_feed 4 = .ok (.iload_n 1, 1) := by decide +kernel
theorem dX5_feed_5 : decode cX5_feed 5 = .ok (.sipush 255, 3) := by decide +kernel
theorem dX5_feed_8 : decode cX5_feed 8 = .ok (.if_icmp .le 6, 3) := by decide +kernel
theorem dX5_feed_11 : decode cX5_feed 11 = .ok (.ldc 59, 2) := by decide +kernel
theorem dX5_feed_13 : decode cX5_feed 13 = .ok (.ireturn, 1) := by decide +kernel
theorem dX5_feed_14 : decode cX5_feed 14 = .ok (.aload_n 0, 1) := by decide +kernel
theorem dX5_feed_15 : decode cX5_feed 15 = .ok (.getfield 18, 3) := by decide +kernel
theorem dX5_feed_18 : decode cX5_feed 18 = .ok (.getfield 98, 3) := by decide +kernel
theorem dX5_feed_21 : decode cX5_feed 21 = .ok (.bipush 90, 2) := by decide +kernel
theorem dX5_feed_23 : decode cX5_feed 23 = .ok (.if_icmp .lt 6, 3) := by decide +kernel
theorem dX5_feed_26 : decode cX5_feed 26 = .ok (.ldc 99, 2) := by decide +kernel
theorem dX5_feed_28 : decode cX5_feed 28 = .ok (.ireturn, 1) := by decide +kernel
theorem dX5_feed_29 : decode cX5_feed 29 = .ok (.aload_n 0, 1) := by decide +kernel
theorem dX5_feed_30 : decode cX5_feed 30 = .ok (.getfield 18, 3) := by decide +kernel
theorem dX5_feed_33 : decode cX5_feed 33 = .ok (.iload_n 1, 1) := by decide +kernel
theorem dX5_feed_34 : decode cX5_feed 34 = .ok (.invokevirtual 100, 3) := by decide +kernel
theorem dX5_feed_37 : decode cX5_feed 37 = .ok (.aload_n 0, 1) := by decide +kernel
theorem dX5_feed_38 : decode cX5_feed 38 = .ok (.getfield 18, 3) := by decide +kernel
theorem dX5_feed_41 : decode cX5_feed 41 = .ok (.getfield 98, 3) := by decide +kernel
theorem dX5_feed_44 : decode cX5_feed 44 = .ok (.ireturn, 1) := by decide +kernel
set_option maxRecDepth 20000 in
theorem ggX5_road_X4_readInto : GoodIn wsX5_road wsX4_readInto := goodIn_r _ [10, 11, 12, 13, 14, 15, 16, 17, 18, 19, 20, 21, 22, 23, 24, 8, 25, 26, 27, 28, 29, 30, 31, 32, 33, 34, 35, 36, 37, 38, 39, 40, 41, 42, 43, 44, 45, 46, 47, 48, 49, 50, 51, 52, 53, 54, 55, 56, 57, 58, 59, 60, 61, 62, 63, 64, 65, 66, 67, 87, 88, 89, 90, 94, 95, 96, 97, 98, 99, 100, 101, 102, 103, 104, 105] (by decide +kernel) (by decide +kernel)
set_option maxRecDepth 20000 in
theorem gX5_road_X4_readInto_n104 : GoodIn wsX5_road (wsX4_readInto) := ggX5_road_X4_readInto
set_option maxRecDepth 20000 in
theorem ggX5_road_X2_take : GoodIn wsX5_road wsX2_take := goodIn_r _ [70, 17, 71, 72, 18, 19, 20, 73, 21, 74, 75, 76, 94, 95, 96, 97, 98, 99, 100, 101, 102, 103, 104, 105] (by decide +kernel) (by decide +kernel)
set_option maxRecDepth 20000 in
theorem gX5_road_X2_take_n118 : GoodIn wsX5_road (wsX2_take) := ggX5_road_X2_take
theorem dX5_road_0 : decode cX5_road 0 = .ok (.aload_n 0, 1) := by decide +kernel
theorem dX5_road_1 : decode cX5_road 1 = .ok (.getfield 18, 3) := by decide +kernel
theorem dX5_road_4 : decode cX5_road 4 = .ok (.aload_n 0, 1) := by decide +kernel
theorem dX5_road_5 : decode cX5_road 5 = .ok (.getfield 29, 3) := by decide +kernel
theorem dX5_road_8 : decode cX5_road 8 = .ok (.invokevirtual 104, 3) := by decide +kernel
theorem dX5_road_11 : decode cX5_road 11 = .ok (.istore_n 1, 1) := by decide +kernel
theorem dX5_road_12 : decode cX5_road 12 = .ok (.aload_n 0, 1) := by decide +kernel
theorem dX5_road_13 : decode cX5_road 13 = .ok (.getfield 18, 3) := by decide +kernel
theorem dX5_road_16 : decode cX5_road 16 = .ok (.iconst 0, 1) := by decide +kernel
theorem dX5_road_17 : decode cX5_road 17 = .ok (.putfield 98, 3) := by decide +kernel
theorem dX5_road_20 : decode cX5_road 20 = .ok (.iload_n 1, 1) := by decide +kernel
theorem dX5_road_21 : decode cX5_road 21 = .ok (.ifCond .ne 25, 3) := by decide +kernel
theorem dX5_road_24 : decode cX5_road 24 = .ok (.aload_n 0, 1) := by decide +kernel
theorem dX5_road_25 : decode cX5_road 25 = .ok (.aload_n 0, 1) := by decide +kernel
theorem dX5_road_26 : decode cX5_road 26 = .ok (.getfield 18, 3) := by decide +kernel
theorem dX5_road_29 : decode cX5_road 29 = .ok (.getfield 108, 3) := by decide +kernel
theorem dX5_road_32 : decode cX5_road 32 = .ok (.putfield 111, 3) := by decide +kernel
theorem dX5_road_35 : decode cX5_road 35 = .ok (.ldc 114, 2) := by decide +kernel
theorem dX5_road_37 : decode cX5_road 37 = .ok (.aload_n 0, 1) := by decide +kernel
theorem dX5_road_38 : decode cX5_road 38 = .ok (.getfield 18, 3) := by decide +kernel
theorem dX5_road_41 : decode cX5_road 41 = .ok (.getfield 115, 3) := by decide +kernel
theorem dX5_road_44 : decode cX5_road 44 = .ok (.isub, 1) := by decide +kernel
theorem dX5_road_45 : decode cX5_road 45 = .ok (.ireturn, 1) := by decide +kernel
theorem dX5_road_46 : decode cX5_road 46 = .ok (.aload_n 0, 1) := by decide +kernel
theorem dX5_road_47 : decode cX5_road 47 = .ok (.getfield 25, 3) := by decide +kernel
theorem dX5_road_50 : decode cX5_road 50 = .ok (.aload_n 0, 1) := by decide +kernel
theorem dX5_road_51 : decode cX5_road 51 = .ok (.getfield 29, 3) := by decide +kernel
theorem dX5_road_54 : decode cX5_road 54 = .ok (.invokevirtual 118, 3) := by decide +kernel
theorem dX5_road_57 : decode cX5_road 57 = .ok (.aload_n 0, 1) := by decide +kernel
theorem dX5_road_58 : decode cX5_road 58 = .ok (.getfield 43, 3) := by decide +kernel
theorem dX5_road_61 : decode cX5_road 61 = .ok (.iconst 0, 1) := by decide +kernel
theorem dX5_road_62 : decode cX5_road 62 = .ok (.putfield 122, 3) := by decide +kernel
theorem dX5_road_65 : decode cX5_road 65 = .ok (.aload_n 0, 1) := by decide +kernel
theorem dX5_road_66 : decode cX5_road 66 = .ok (.getfield 25, 3) := by decide +kernel
theorem dX5_road_69 : decode cX5_road 69 = .ok (.getfield 125, 3) := by decide +kernel
theorem dX5_road_72 : decode cX5_road 72 = .ok (.ireturn, 1) := by decide +kernel
theorem dX5_fault_0 : decode cX5_fault 0 = .ok (.aload_n 0, 1) := by decide +kernel
theorem dX5_fault_1 : decode cX5_fault 1 = .ok (.getfield 111, 3) := by decide +kernel
theorem dX5_fault_4 : decode cX5_fault 4 = .ok (.ireturn, 1) := by decide +kernel
set_option maxRecDepth 20000 in
theorem ggX5_hours_X0_keep : GoodIn wsX5_hours wsX0_keep := goodIn_r _ [9, 10, 11, 12, 13, 14, 15, 16, 93, 94, 95, 81, 82, 83, 84, 85, 86, 87, 88, 89, 90, 91, 92] (by decide +kernel) (by decide +kernel)
set_option maxRecDepth 20000 in
theorem gX5_hours_X0_keep_n135 : GoodIn wsX5_hours (wsX0_keep) := ggX5_hours_X0_keep
set_option maxRecDepth 20000 in
theorem ggX5_hours_X2_goHour : GoodIn wsX5_hours wsX2_goHour := goodIn_r _ [20, 21, 22, 23, 24, 25, 26, 27, 18, 28, 29, 30, 31, 32, 33, 34, 35, 36, 37, 38, 39, 40, 41, 42, 43, 44, 45, 46, 47, 48, 49, 50, 51, 52, 53, 54, 55, 56, 57, 58, 59, 60, 61, 62, 63, 81, 82, 83, 84, 85, 86, 87, 88, 89, 90, 91, 92] (by decide +kernel) (by decide +kernel)
set_option maxRecDepth 20000 in
theorem gX5_hours_X2_goHour_n138 : GoodIn wsX5_hours (wsX2_goHour) := ggX5_hours_X2_goHour
set_option maxRecDepth 20000 in
theorem ggX5_hours_X2_wholeGates : GoodIn wsX5_hours wsX2_wholeGates := goodIn_r _ [66, 21, 34, 67, 68, 69, 18, 70, 46, 81, 82, 83, 84, 85, 86, 87, 88, 89, 90, 91, 92] (by decide +kernel) (by decide +kernel)
set_option maxRecDepth 20000 in
theorem gX5_hours_X2_wholeGates_n141 : GoodIn wsX5_hours (wsX2_wholeGates) := ggX5_hours_X2_wholeGates
theorem dX5_hours_0 : decode cX5_hours 0 = .ok (.aload_n 0, 1) := by decide +kernel
theorem dX5_hours_1 : decode cX5_hours 1 = .ok (.getfield 25, 3) := by decide +kernel
theorem dX5_hours_4 : decode cX5_hours 4 = .ok (.getfield 128, 3) := by decide +kernel
theorem dX5_hours_7 : decode cX5_hours 7 = .ok (.ifCond .ne 6, 3) := by decide +kernel
theorem dX5_hours_10 : decode cX5_hours 10 = .ok (.ldc 131, 2) := by decide +kernel
theorem dX5_hours_12 : decode cX5_hours 12 = .ok (.ireturn, 1) := by decide +kernel
theorem dX5_hours_13 : decode cX5_hours 13 = .ok (.iload_n 1, 1) := by decide +kernel
theorem dX5_hours_14 : decode cX5_hours 14 = .ok (.iconst 1, 1) := by decide +kernel
theorem dX5_hours_15 : decode cX5_hours 15 = .ok (.if_icmp .lt 9, 3) := by decide +kernel
theorem dX5_hours_18 : decode cX5_hours 18 = .ok (.iload_n 1, 1) := by decide +kernel
theorem dX5_hours_19 : decode cX5_hours 19 = .ok (.bipush 24, 2) := by decide +kernel
theorem dX5_hours_21 : decode cX5_hours 21 = .ok (.if_icmp .le 6, 3) := by decide +kernel
theorem dX5_hours_24 : decode cX5_hours 24 = .ok (.ldc 59, 2) := by decide +kernel
theorem dX5_hours_26 : decode cX5_hours 26 = .ok (.ireturn, 1) := by decide +kernel
theorem dX5_hours_27 : decode cX5_hours 27 = .ok (.aload_n 0, 1) := by decide +kernel
theorem dX5_hours_28 : decode cX5_hours 28 = .ok (.getfield 25, 3) := by decide +kernel
theorem dX5_hours_31 : decode cX5_hours 31 = .ok (.getfield 132, 3) := by decide +kernel
theorem dX5_hours_34 : decode cX5_hours 34 = .ok (.iload_n 1, 1) := by decide +kernel
theorem dX5_hours_35 : decode cX5_hours 35 = .ok (.iadd, 1) := by decide +kernel
theorem dX5_hours_36 : decode cX5_hours 36 = .ok (.sipush 9999, 3) := by decide +kernel
theorem dX5_hours_39 : decode cX5_hours 39 = .ok (.if_icmp .le 6, 3) := by decide +kernel
theorem dX5_hours_42 : decode cX5_hours 42 = .ok (.ldc 99, 2) := by decide +kernel
theorem dX5_hours_44 : decode cX5_hours 44 = .ok (.ireturn, 1) := by decide +kernel
theorem dX5_hours_45 : decode cX5_hours 45 = .ok (.iconst 0, 1) := by decide +kernel
theorem dX5_hours_46 : decode cX5_hours 46 = .ok (.istore_n 2, 1) := by decide +kernel
theorem dX5_hours_47 : decode cX5_hours 47 = .ok (.iload_n 2, 1) := by decide +kernel
theorem dX5_hours_48 : decode cX5_hours 48 = .ok (.iload_n 1, 1) := by decide +kernel
theorem dX5_hours_49 : decode cX5_hours 49 = .ok (.if_icmp .ge 27, 3) := by decide +kernel
theorem dX5_hours_52 : decode cX5_hours 52 = .ok (.aload_n 0, 1) := by decide +kernel
theorem dX5_hours_53 : decode cX5_hours 53 = .ok (.getfield 43, 3) := by decide +kernel
theorem dX5_hours_56 : decode cX5_hours 56 = .ok (.aload_n 0, 1) := by decide +kernel
theorem dX5_hours_57 : decode cX5_hours 57 = .ok (.getfield 25, 3) := by decide +kernel
theorem dX5_hours_60 : decode cX5_hours 60 = .ok (.invokevirtual 135, 3) := by decide +kernel
theorem dX5_hours_63 : decode cX5_hours 63 = .ok (.aload_n 0, 1) := by decide +kernel
theorem dX5_hours_64 : decode cX5_hours 64 = .ok (.getfield 25, 3) := by decide +kernel
theorem dX5_hours_67 : decode cX5_hours 67 = .ok (.invokevirtual 138, 3) := by decide +kernel
theorem dX5_hours_70 : decode cX5_hours 70 = .ok (.iinc 2 1, 3) := by decide +kernel
theorem dX5_hours_73 : decode cX5_hours 73 = .ok (.goto (-26), 3) := by decide +kernel
theorem dX5_hours_76 : decode cX5_hours 76 = .ok (.aload_n 0, 1) := by decide +kernel
theorem dX5_hours_77 : decode cX5_hours 77 = .ok (.getfield 25, 3) := by decide +kernel
theorem dX5_hours_80 : decode cX5_hours 80 = .ok (.invokevirtual 141, 3) := by decide +kernel
theorem dX5_hours_83 : decode cX5_hours 83 = .ok (.ireturn, 1) := by decide +kernel
set_option maxRecDepth 20000 in
theorem ggX5_put_X5_isPulpit : GoodIn wsX5_put wsX5_isPulpit := goodIn_r _ [9, 2, 25, 26, 27, 28, 29, 30, 31, 32, 33, 34, 35, 36, 37, 38, 39, 40, 41, 42, 43, 44, 45, 46] (by decide +kernel) (by decide +kernel)
set_option maxRecDepth 20000 in
theorem gX5_put_X5_isPulpit : GoodIn wsX5_put (wsV RX5 145 RX5 yX5_isPulpit wsX5_isPulpit) := goodIn_app (goodIn_of _ (by decide +kernel)) ggX5_put_X5_isPulpit
set_option maxRecDepth 20000 in
theorem ggX5_put_X5_isStretch : GoodIn wsX5_put wsX5_isStretch := goodIn_r _ [13, 2, 25, 26, 27, 28, 29, 30, 31, 32, 33, 34, 35, 36, 37, 38, 39, 40, 41, 42, 43, 44, 45, 46] (by decide +kernel) (by decide +kernel)
set_option maxRecDepth 20000 in
theorem gX5_put_X5_isStretch : GoodIn wsX5_put (wsV RX5 148 RX5 yX5_isStretch wsX5_isStretch) := goodIn_app (goodIn_of _ (by decide +kernel)) ggX5_put_X5_isStretch
set_option maxRecDepth 20000 in
theorem ggX5_put_X0_keep : GoodIn wsX5_put wsX0_keep := goodIn_r _ [17, 18, 19, 20, 21, 22, 23, 24, 47, 48, 49, 35, 36, 37, 38, 39, 40, 41, 42, 43, 44, 45, 46] (by decide +kernel) (by decide +kernel)
set_option maxRecDepth 20000 in
theorem gX5_put_X0_keep_n135 : GoodIn wsX5_put (wsX0_keep) := ggX5_put_X0_keep
theorem dX5_put_0 : decode cX5_put 0 = .ok (.aload_n 0, 1) := by decide +kernel
theorem dX5_put_1 : decode cX5_put 1 = .ok (.iload_n 1, 1) := by decide +kernel
theorem dX5_put_2 : decode cX5_put 2 = .ok (.invokevirtual 145, 3) := by decide +kernel
theorem dX5_put_5 : decode cX5_put 5 = .ok (.ifCond .eq 11, 3) := by decide +kernel
theorem dX5_put_8 : decode cX5_put 8 = .ok (.aload_n 0, 1) := by decide +kernel
theorem dX5_put_9 : decode cX5_put 9 = .ok (.iload_n 2, 1) := by decide +kernel
theorem dX5_put_10 : decode cX5_put 10 = .ok (.invokevirtual 148, 3) := by decide +kernel
theorem dX5_put_13 : decode cX5_put 13 = .ok (.ifCond .ne 6, 3) := by decide +kernel
theorem dX5_put_16 : decode cX5_put 16 = .ok (.ldc 59, 2) := by decide +kernel
theorem dX5_put_18 : decode cX5_put 18 = .ok (.ireturn, 1) := by decide +kernel
theorem dX5_put_19 : decode cX5_put 19 = .ok (.aload_n 0, 1) := by decide +kernel
theorem dX5_put_20 : decode cX5_put 20 = .ok (.getfield 25, 3) := by decide +kernel
theorem dX5_put_23 : decode cX5_put 23 = .ok (.getfield 151, 3) := by decide +kernel
theorem dX5_put_26 : decode cX5_put 26 = .ok (.iload_n 1, 1) := by decide +kernel
theorem dX5_put_27 : decode cX5_put 27 = .ok (.iaload, 1) := by decide +kernel
theorem dX5_put_28 : decode cX5_put 28 = .ok (.istore_n 3, 1) := by decide +kernel
theorem dX5_put_29 : decode cX5_put 29 = .ok (.iload_n 3, 1) := by decide +kernel
theorem dX5_put_30 : decode cX5_put 30 = .ok (.iload_n 2, 1) := by decide +kernel
theorem dX5_put_31 : decode cX5_put 31 = .ok (.if_icmp .ne 6, 3) := by decide +kernel
theorem dX5_put_34 : decode cX5_put 34 = .ok (.ldc 131, 2) := by decide +kernel
theorem dX5_put_36 : decode cX5_put 36 = .ok (.ireturn, 1) := by decide +kernel
theorem dX5_put_37 : decode cX5_put 37 = .ok (.aload_n 0, 1) := by decide +kernel
theorem dX5_put_38 : decode cX5_put 38 = .ok (.getfield 43, 3) := by decide +kernel
theorem dX5_put_41 : decode cX5_put 41 = .ok (.aload_n 0, 1) := by decide +kernel
theorem dX5_put_42 : decode cX5_put 42 = .ok (.getfield 25, 3) := by decide +kernel
theorem dX5_put_45 : decode cX5_put 45 = .ok (.invokevirtual 135, 3) := by decide +kernel
theorem dX5_put_48 : decode cX5_put 48 = .ok (.aload_n 0, 1) := by decide +kernel
theorem dX5_put_49 : decode cX5_put 49 = .ok (.getfield 25, 3) := by decide +kernel
theorem dX5_put_52 : decode cX5_put 52 = .ok (.getfield 151, 3) := by decide +kernel
theorem dX5_put_55 : decode cX5_put 55 = .ok (.iload_n 1, 1) := by decide +kernel
theorem dX5_put_56 : decode cX5_put 56 = .ok (.iload_n 2, 1) := by decide +kernel
theorem dX5_put_57 : decode cX5_put 57 = .ok (.iastore, 1) := by decide +kernel
theorem dX5_put_58 : decode cX5_put 58 = .ok (.iload_n 3, 1) := by decide +kernel
theorem dX5_put_59 : decode cX5_put 59 = .ok (.ireturn, 1) := by decide +kernel
set_option maxRecDepth 20000 in
theorem ggX5_skip_X5_isPulpit : GoodIn wsX5_skip wsX5_isPulpit := goodIn_r _ [8, 2, 24, 25, 26, 27, 28, 29, 30, 31, 32, 33, 34, 35, 36, 37, 38, 39, 40, 41, 42, 43, 44, 45] (by decide +kernel) (by decide +kernel)
set_option maxRecDepth 20000 in
theorem gX5_skip_X5_isPulpit : GoodIn wsX5_skip (wsV RX5 145 RX5 yX5_isPulpit wsX5_isPulpit) := goodIn_app (goodIn_of _ (by decide +kernel)) ggX5_skip_X5_isPulpit
set_option maxRecDepth 20000 in
theorem ggX5_skip_X5_isWord : GoodIn wsX5_skip wsX5_isWord := goodIn_r _ [12, 2, 24, 25, 26, 27, 28, 29, 30, 31, 32, 33, 34, 35, 36, 37, 38, 39, 40, 41, 42, 43, 44, 45] (by decide +kernel) (by decide +kernel)
set_option maxRecDepth 20000 in
theorem gX5_skip_X5_isWord : GoodIn wsX5_skip (wsV RX5 154 RX5 yX5_isWord wsX5_isWord) := goodIn_app (goodIn_of _ (by decide +kernel)) ggX5_skip_X5_isWord
set_option maxRecDepth 20000 in
theorem ggX5_skip_X0_keep : GoodIn wsX5_skip wsX0_keep := goodIn_r _ [16, 17, 18, 19, 20, 21, 22, 23, 46, 47, 48, 34, 35, 36, 37, 38, 39, 40, 41, 42, 43, 44, 45] (by decide +kernel) (by decide +kernel)
set_option maxRecDepth 20000 in
theorem gX5_skip_X0_keep_n135 : GoodIn wsX5_skip (wsX0_keep) := ggX5_skip_X0_keep
theorem dX5_skip_0 : decode cX5_skip 0 = .ok (.aload_n 0, 1) := by decide +kernel
theorem dX5_skip_1 : decode cX5_skip 1 = .ok (.iload_n 1, 1) := by decide +kernel
theorem dX5_skip_2 : decode cX5_skip 2 = .ok (.invokevirtual 145, 3) := by decide +kernel
theorem dX5_skip_5 : decode cX5_skip 5 = .ok (.ifCond .eq 11, 3) := by decide +kernel
theorem dX5_skip_8 : decode cX5_skip 8 = .ok (.aload_n 0, 1) := by decide +kernel
theorem dX5_skip_9 : decode cX5_skip 9 = .ok (.iload_n 2, 1) := by decide +kernel
theorem dX5_skip_10 : decode cX5_skip 10 = .ok (.invokevirtual 154, 3) := by decide +kernel
theorem dX5_skip_13 : decode cX5_skip 13 = .ok (.ifCond .ne 6, 3) := by decide +kernel
theorem dX5_skip_16 : decode cX5_skip 16 = .ok (.ldc 59, 2) := by decide +kernel
theorem dX5_skip_18 : decode cX5_skip 18 = .ok (.ireturn, 1) := by decide +kernel
theorem dX5_skip_19 : decode cX5_skip 19 = .ok (.aload_n 0, 1) := by decide +kernel
theorem dX5_skip_20 : decode cX5_skip 20 = .ok (.getfield 25, 3) := by decide +kernel
theorem dX5_skip_23 : decode cX5_skip 23 = .ok (.getfield 157, 3) := by decide +kernel
theorem dX5_skip_26 : decode cX5_skip 26 = .ok (.iload_n 1, 1) := by decide +kernel
theorem dX5_skip_27 : decode cX5_skip 27 = .ok (.iaload, 1) := by decide +kernel
theorem dX5_skip_28 : decode cX5_skip 28 = .ok (.istore_n 3, 1) := by decide +kernel
theorem dX5_skip_29 : decode cX5_skip 29 = .ok (.aload_n 0, 1) := by decide +kernel
theorem dX5_skip_30 : decode cX5_skip 30 = .ok (.getfield 43, 3) := by decide +kernel
theorem dX5_skip_33 : decode cX5_skip 33 = .ok (.aload_n 0, 1) := by decide +kernel
theorem dX5_skip_34 : decode cX5_skip 34 = .ok (.getfield 25, 3) := by decide +kernel
theorem dX5_skip_37 : decode cX5_skip 37 = .ok (.invokevirtual 135, 3) := by decide +kernel
theorem dX5_skip_40 : decode cX5_skip 40 = .ok (.aload_n 0, 1) := by decide +kernel
theorem dX5_skip_41 : decode cX5_skip 41 = .ok (.getfield 25, 3) := by decide +kernel
theorem dX5_skip_44 : decode cX5_skip 44 = .ok (.getfield 157, 3) := by decide +kernel
theorem dX5_skip_47 : decode cX5_skip 47 = .ok (.iload_n 1, 1) := by decide +kernel
theorem dX5_skip_48 : decode cX5_skip 48 = .ok (.iload_n 2, 1) := by decide +kernel
theorem dX5_skip_49 : decode cX5_skip 49 = .ok (.iastore, 1) := by decide +kernel
theorem dX5_skip_50 : decode cX5_skip 50 = .ok (.iload_n 3, 1) := by decide +kernel
theorem dX5_skip_51 : decode cX5_skip 51 = .ok (.ireturn, 1) := by decide +kernel
set_option maxRecDepth 20000 in
theorem ggX5_forget_X5_isStretch : GoodIn wsX5_forget wsX5_isStretch := goodIn_r _ [9, 2, 28, 29, 30, 31, 32, 33, 34, 35, 36, 37, 38, 39, 40, 41, 42, 43, 44, 45, 46, 47, 48, 49] (by decide +kernel) (by decide +kernel)
set_option maxRecDepth 20000 in
theorem gX5_forget_X5_isStretch : GoodIn wsX5_forget (wsV RX5 148 RX5 yX5_isStretch wsX5_isStretch) := goodIn_app (goodIn_of _ (by decide +kernel)) ggX5_forget_X5_isStretch
set_option maxRecDepth 20000 in
theorem ggX5_forget_J6_bitCount_0f7a4 : GoodIn wsX5_forget wsJ6_bitCount_0f7a4 := goodIn_r _ [13, 14, 15, 16] (by decide +kernel) (by decide +kernel)
set_option maxRecDepth 20000 in
theorem gX5_forget_J6_bitCount_0f7a4 : GoodIn wsX5_forget (va_wsS RX5 163 yJ6_bitCount_0f7a4 wsJ6_bitCount_0f7a4) := goodIn_app (goodIn_of _ (by decide +kernel)) ggX5_forget_J6_bitCount_0f7a4
set_option maxRecDepth 20000 in
theorem ggX5_forget_X0_keep : GoodIn wsX5_forget wsX0_keep := goodIn_r _ [20, 21, 22, 23, 24, 25, 26, 27, 50, 51, 52, 38, 39, 40, 41, 42, 43, 44, 45, 46, 47, 48, 49] (by decide +kernel) (by decide +kernel)
set_option maxRecDepth 20000 in
theorem gX5_forget_X0_keep_n135 : GoodIn wsX5_forget (wsX0_keep) := ggX5_forget_X0_keep
theorem dX5_forget_0 : decode cX5_forget 0 = .ok (.aload_n 0, 1) := by decide +kernel
theorem dX5_forget_1 : decode cX5_forget 1 = .ok (.iload_n 1, 1) := by decide +kernel
theorem dX5_forget_2 : decode cX5_forget 2 = .ok (.invokevirtual 148, 3) := by decide +kernel
theorem dX5_forget_5 : decode cX5_forget 5 = .ok (.ifCond .ne 6, 3) := by decide +kernel
theorem dX5_forget_8 : decode cX5_forget 8 = .ok (.ldc 59, 2) := by decide +kernel
theorem dX5_forget_10 : decode cX5_forget 10 = .ok (.ireturn, 1) := by decide +kernel
theorem dX5_forget_11 : decode cX5_forget 11 = .ok (.aload_n 0, 1) := by decide +kernel
theorem dX5_forget_12 : decode cX5_forget 12 = .ok (.getfield 25, 3) := by decide +kernel
theorem dX5_forget_15 : decode cX5_forget 15 = .ok (.getfield 160, 3) := by decide +kernel
theorem dX5_forget_18 : decode cX5_forget 18 = .ok (.iload_n 1, 1) := by decide +kernel
theorem dX5_forget_19 : decode cX5_forget 19 = .ok (.iaload, 1) := by decide +kernel
theorem dX5_forget_20 : decode cX5_forget 20 = .ok (.invokestatic 163, 3) := by decide +kernel
theorem dX5_forget_23 : decode cX5_forget 23 = .ok (.istore_n 2, 1) := by decide +kernel
theorem dX5_forget_24 : decode cX5_forget 24 = .ok (.iload_n 2, 1) := by decide +kernel
theorem dX5_forget_25 : decode cX5_forget 25 = .ok (.ifCond .ne 6, 3) := by decide +kernel
theorem dX5_forget_28 : decode cX5_forget 28 = .ok (.ldc 131, 2) := by decide +kernel
theorem dX5_forget_30 : decode cX5_forget 30 = .ok (.ireturn, 1) := by decide +kernel
theorem dX5_forget_31 : decode cX5_forget 31 = .ok (.aload_n 0, 1) := by decide +kernel
theorem dX5_forget_32 : decode cX5_forget 32 = .ok (.getfield 43, 3) := by decide +kernel
theorem dX5_forget_35 : decode cX5_forget 35 = .ok (.aload_n 0, 1) := by decide +kernel
theorem dX5_forget_36 : decode cX5_forget 36 = .ok (.getfield 25, 3) := by decide +kernel
theorem dX5_forget_39 : decode cX5_forget 39 = .ok (.invokevirtual 135, 3) := by decide +kernel
theorem dX5_forget_42 : decode cX5_forget 42 = .ok (.aload_n 0, 1) := by decide +kernel
theorem dX5_forget_43 : decode cX5_forget 43 = .ok (.getfield 25, 3) := by decide +kernel
theorem dX5_forget_46 : decode cX5_forget 46 = .ok (.getfield 160, 3) := by decide +kernel
theorem dX5_forget_49 : decode cX5_forget 49 = .ok (.iload_n 1, 1) := by decide +kernel
theorem dX5_forget_50 : decode cX5_forget 50 = .ok (.iconst 0, 1) := by decide +kernel
theorem dX5_forget_51 : decode cX5_forget 51 = .ok (.iastore, 1) := by decide +kernel
theorem dX5_forget_52 : decode cX5_forget 52 = .ok (.iload_n 2, 1) := by decide +kernel
theorem dX5_forget_53 : decode cX5_forget 53 = .ok (.ireturn, 1) := by decide +kernel
set_option maxRecDepth 20000 in
theorem ggX5_undo_X0_giveBack : GoodIn wsX5_undo wsX0_giveBack := goodIn_r _ [7, 8, 9, 10, 21, 22, 23, 24, 25, 26, 27, 28, 29, 30, 31, 32, 33, 34, 35] (by decide +kernel) (by decide +kernel)
set_option maxRecDepth 20000 in
theorem gX5_undo_X0_giveBack_n168 : GoodIn wsX5_undo (wsX0_giveBack) := ggX5_undo_X0_giveBack
theorem dX5_undo_0 : decode cX5_undo 0 = .ok (.aload_n 0, 1) := by decide +kernel
theorem dX5_undo_1 : decode cX5_undo 1 = .ok (.getfield 43, 3) := by decide +kernel
theorem dX5_undo_4 : decode cX5_undo 4 = .ok (.getfield 122, 3) := by decide +kernel
theorem dX5_undo_7 : decode cX5_undo 7 = .ok (.ifCond .ne 6, 3) := by decide +kernel
theorem dX5_undo_10 : decode cX5_undo 10 = .ok (.ldc 131, 2) := by decide +kernel
theorem dX5_undo_12 : decode cX5_undo 12 = .ok (.ireturn, 1) := by decide +kernel
theorem dX5_undo_13 : decode cX5_undo 13 = .ok (.aload_n 0, 1) := by decide +kernel
theorem dX5_undo_14 : decode cX5_undo 14 = .ok (.getfield 43, 3) := by decide +kernel
theorem dX5_undo_17 : decode cX5_undo 17 = .ok (.aload_n 0, 1) := by decide +kernel
theorem dX5_undo_18 : decode cX5_undo 18 = .ok (.getfield 25, 3) := by decide +kernel
theorem dX5_undo_21 : decode cX5_undo 21 = .ok (.invokevirtual 168, 3) := by decide +kernel
theorem dX5_undo_24 : decode cX5_undo 24 = .ok (.aload_n 0, 1) := by decide +kernel
theorem dX5_undo_25 : decode cX5_undo 25 = .ok (.getfield 43, 3) := by decide +kernel
theorem dX5_undo_28 : decode cX5_undo 28 = .ok (.getfield 122, 3) := by decide +kernel
theorem dX5_undo_31 : decode cX5_undo 31 = .ok (.ireturn, 1) := by decide +kernel
set_option maxRecDepth 20000 in
theorem ggX5_pulpit_X5_isPulpit : GoodIn wsX5_pulpit wsX5_isPulpit := goodIn_r _ [7, 2, 25, 26, 27, 28, 29, 30, 31, 32, 33, 34, 35, 36, 37, 38, 39, 40, 41, 42, 43, 44, 45, 46] (by decide +kernel) (by decide +kernel)
set_option maxRecDepth 20000 in
theorem gX5_pulpit_X5_isPulpit : GoodIn wsX5_pulpit (wsV RX5 145 RX5 yX5_isPulpit wsX5_isPulpit) := goodIn_app (goodIn_of _ (by decide +kernel)) ggX5_pulpit_X5_isPulpit
set_option maxRecDepth 20000 in
theorem ggX5_pulpit_X2_councils : GoodIn wsX5_pulpit wsX2_councils := goodIn_r _ [11, 12, 13, 35, 36, 37, 38, 39, 40, 41, 42, 43, 44, 45, 46] (by decide +kernel) (by decide +kernel)
set_option maxRecDepth 20000 in
theorem gX5_pulpit_X2_councils_n171 : GoodIn wsX5_pulpit (wsX2_councils) := ggX5_pulpit_X2_councils
set_option maxRecDepth 20000 in
theorem ggX5_pulpit_X2_sayings : GoodIn wsX5_pulpit wsX2_sayings := goodIn_r _ [16, 17, 18, 19, 13, 20, 21, 22, 9, 23, 24, 35, 36, 37, 38, 39, 40, 41, 42, 43, 44, 45, 46] (by decide +kernel) (by decide +kernel)
set_option maxRecDepth 20000 in
theorem gX5_pulpit_X2_sayings_n174 : GoodIn wsX5_pulpit (wsX2_sayings) := ggX5_pulpit_X2_sayings
theorem dX5_pulpit_0 : decode cX5_pulpit 0 = .ok (.aload_n 0, 1) := by decide +kernel
theorem dX5_pulpit_1 : decode cX5_pulpit 1 = .ok (.iload_n 1, 1) := by decide +kernel
theorem dX5_pulpit_2 : decode cX5_pulpit 2 = .ok (.invokevirtual 145, 3) := by decide +kernel
theorem dX5_pulpit_5 : decode cX5_pulpit 5 = .ok (.ifCond .ne 6, 3) := by decide +kernel
theorem dX5_pulpit_8 : decode cX5_pulpit 8 = .ok (.ldc 59, 2) := by decide +kernel
theorem dX5_pulpit_10 : decode cX5_pulpit 10 = .ok (.ireturn, 1) := by decide +kernel
theorem dX5_pulpit_11 : decode cX5_pulpit 11 = .ok (.iload_n 2, 1) := by decide +kernel
theorem dX5_pulpit_12 : decode cX5_pulpit 12 = .ok (.tableswitch 73 0 3 #[32, 42, 52, 64], 32) := by decide +kernel
theorem dX5_pulpit_44 : decode cX5_pulpit 44 = .ok (.aload_n 0, 1) := by decide +kernel
theorem dX5_pulpit_45 : decode cX5_pulpit 45 = .ok (.getfield 25, 3) := by decide +kernel
theorem dX5_pulpit_48 : decode cX5_pulpit 48 = .ok (.getfield 151, 3) := by decide +kernel
theorem dX5_pulpit_51 : decode cX5_pulpit 51 = .ok (.iload_n 1, 1) := by decide +kernel
theorem dX5_pulpit_52 : decode cX5_pulpit 52 = .ok (.iaload, 1) := by decide +kernel
theorem dX5_pulpit_53 : decode cX5_pulpit 53 = .ok (.ireturn, 1) := by decide +kernel
theorem dX5_pulpit_54 : decode cX5_pulpit 54 = .ok (.aload_n 0, 1) := by decide +kernel
theorem dX5_pulpit_55 : decode cX5_pulpit 55 = .ok (.getfield 25, 3) := by decide +kernel
theorem dX5_pulpit_58 : decode cX5_pulpit 58 = .ok (.getfield 157, 3) := by decide +kernel
theorem dX5_pulpit_61 : decode cX5_pulpit 61 = .ok (.iload_n 1, 1) := by decide +kernel
theorem dX5_pulpit_62 : decode cX5_pulpit 62 = .ok (.iaload, 1) := by decide +kernel
theorem dX5_pulpit_63 : decode cX5_pulpit 63 = .ok (.ireturn, 1) := by decide +kernel
theorem dX5_pulpit_64 : decode cX5_pulpit 64 = .ok (.aload_n 0, 1) := by decide +kernel
theorem dX5_pulpit_65 : decode cX5_pulpit 65 = .ok (.getfield 25, 3) := by decide +kernel
theorem dX5_pulpit_68 : decode cX5_pulpit 68 = .ok (.invokevirtual 171, 3) := by decide +kernel
theorem dX5_pulpit_71 : decode cX5_pulpit 71 = .ok (.iload_n 1, 1) := by decide +kernel
theorem dX5_pulpit_72 : decode cX5_pulpit 72 = .ok (.ishr, 1) := by decide +kernel
theorem dX5_pulpit_73 : decode cX5_pulpit 73 = .ok (.iconst 1, 1) := by decide +kernel
theorem dX5_pulpit_74 : decode cX5_pulpit 74 = .ok (.iand, 1) := by decide +kernel
theorem dX5_pulpit_75 : decode cX5_pulpit 75 = .ok (.ireturn, 1) := by decide +kernel
theorem dX5_pulpit_76 : decode cX5_pulpit 76 = .ok (.aload_n 0, 1) := by decide +kernel
theorem dX5_pulpit_77 : decode cX5_pulpit 77 = .ok (.getfield 25, 3) := by decide +kernel
theorem dX5_pulpit_80 : decode cX5_pulpit 80 = .ok (.iload_n 1, 1) := by decide +kernel
theorem dX5_pulpit_81 : decode cX5_pulpit 81 = .ok (.invokevirtual 174, 3) := by decide +kernel
theorem dX5_pulpit_84 : decode cX5_pulpit 84 = .ok (.ireturn, 1) := by decide +kernel
theorem dX5_pulpit_85 : decode cX5_pulpit 85 = .ok (.ldc 59, 2) := by decide +kernel
theorem dX5_pulpit_87 : decode cX5_pulpit 87 = .ok (.ireturn, 1) := by decide +kernel
set_option maxRecDepth 20000 in
theorem ggX5_stretch_X5_isStretch : GoodIn wsX5_stretch wsX5_isStretch := goodIn_r _ [7, 2, 14, 15, 16, 17, 18, 19, 20, 21, 22, 23, 24, 25, 26, 27, 28, 29, 30, 31, 32, 33, 34, 35] (by decide +kernel) (by decide +kernel)
set_option maxRecDepth 20000 in
theorem gX5_stretch_X5_isStretch : GoodIn wsX5_stretch (wsV RX5 148 RX5 yX5_isStretch wsX5_isStretch) := goodIn_app (goodIn_of _ (by decide +kernel)) ggX5_stretch_X5_isStretch
set_option maxRecDepth 20000 in
theorem ggX5_stretch_X2_pulpitsOn : GoodIn wsX5_stretch wsX2_pulpitsOn := goodIn_r _ [11, 12, 13, 24, 25, 26, 27, 28, 29, 30, 31, 32, 33, 34, 35] (by decide +kernel) (by decide +kernel)
set_option maxRecDepth 20000 in
theorem gX5_stretch_X2_pulpitsOn_n180 : GoodIn wsX5_stretch (wsX2_pulpitsOn) := ggX5_stretch_X2_pulpitsOn
theorem dX5_stretch_0 : decode cX5_stretch 0 = .ok (.aload_n 0, 1) := by decide +kernel
theorem dX5_stretch_1 : decode cX5_stretch 1 = .ok (.iload_n 1, 1) := by decide +kernel
theorem dX5_stretch_2 : decode cX5_stretch 2 = .ok (.invokevirtual 148, 3) := by decide +kernel
theorem dX5_stretch_5 : decode cX5_stretch 5 = .ok (.ifCond .ne 6, 3) := by decide +kernel
theorem dX5_stretch_8 : decode cX5_stretch 8 = .ok (.ldc 59, 2) := by decide +kernel
theorem dX5_stretch_10 : decode cX5_stretch 10 = .ok (.ireturn, 1) := by decide +kernel
theorem dX5_stretch_11 : decode cX5_stretch 11 = .ok (.iload_n 2, 1) := by decide +kernel
theorem dX5_stretch_12 : decode cX5_stretch 12 = .ok (.tableswitch 57 0 2 #[28, 38, 48], 28) := by decide +kernel
theorem dX5_stretch_40 : decode cX5_stretch 40 = .ok (.aload_n 0, 1) := by decide +kernel
theorem dX5_stretch_41 : decode cX5_stretch 41 = .ok (.getfield 25, 3) := by decide +kernel
theorem dX5_stretch_44 : decode cX5_stretch 44 = .ok (.getfield 177, 3) := by decide +kernel
theorem dX5_stretch_47 : decode cX5_stretch 47 = .ok (.iload_n 1, 1) := by decide +kernel
theorem dX5_stretch_48 : decode cX5_stretch 48 = .ok (.iaload, 1) := by decide +kernel
theorem dX5_stretch_49 : decode cX5_stretch 49 = .ok (.ireturn, 1) := by decide +kernel
theorem dX5_stretch_50 : decode cX5_stretch 50 = .ok (.aload_n 0, 1) := by decide +kernel
theorem dX5_stretch_51 : decode cX5_stretch 51 = .ok (.getfield 25, 3) := by decide +kernel
theorem dX5_stretch_54 : decode cX5_stretch 54 = .ok (.getfield 160, 3) := by decide +kernel
theorem dX5_stretch_57 : decode cX5_stretch 57 = .ok (.iload_n 1, 1) := by decide +kernel
theorem dX5_stretch_58 : decode cX5_stretch 58 = .ok (.iaload, 1) := by decide +kernel
theorem dX5_stretch_59 : decode cX5_stretch 59 = .ok (.ireturn, 1) := by decide +kernel
theorem dX5_stretch_60 : decode cX5_stretch 60 = .ok (.aload_n 0, 1) := by decide +kernel
theorem dX5_stretch_61 : decode cX5_stretch 61 = .ok (.getfield 25, 3) := by decide +kernel
theorem dX5_stretch_64 : decode cX5_stretch 64 = .ok (.iload_n 1, 1) := by decide +kernel
theorem dX5_stretch_65 : decode cX5_stretch 65 = .ok (.invokevirtual 180, 3) := by decide +kernel
theorem dX5_stretch_68 : decode cX5_stretch 68 = .ok (.ireturn, 1) := by decide +kernel
theorem dX5_stretch_69 : decode cX5_stretch 69 = .ok (.ldc 59, 2) := by decide +kernel
theorem dX5_stretch_71 : decode cX5_stretch 71 = .ok (.ireturn, 1) := by decide +kernel
set_option maxRecDepth 20000 in
theorem ggX5_ahead_X5_isPulpit : GoodIn wsX5_ahead wsX5_isPulpit := goodIn_r _ [7, 8, 71, 72, 73, 74, 75, 76, 77, 78, 79, 80, 81, 82, 83, 84, 85, 86, 87, 88, 89, 90, 91, 92] (by decide +kernel) (by decide +kernel)
set_option maxRecDepth 20000 in
theorem gX5_ahead_X5_isPulpit : GoodIn wsX5_ahead (wsV RX5 145 RX5 yX5_isPulpit wsX5_isPulpit) := goodIn_app (goodIn_of _ (by decide +kernel)) ggX5_ahead_X5_isPulpit
set_option maxRecDepth 20000 in
theorem ggX5_ahead_X5_isWithin : GoodIn wsX5_ahead wsX5_isWithin := goodIn_r _ [11] (by decide +kernel) (by decide +kernel)
set_option maxRecDepth 20000 in
theorem gX5_ahead_X5_isWithin : GoodIn wsX5_ahead (va_wsS RX5 183 yX5_isWithin wsX5_isWithin) := goodIn_app (goodIn_of _ (by decide +kernel)) ggX5_ahead_X5_isWithin
set_option maxRecDepth 20000 in
theorem ggX5_ahead_X5_foretell : GoodIn wsX5_ahead wsX5_foretell := goodIn_r _ [15, 2, 8, 16, 17, 18, 19, 20, 21, 22, 23, 24, 25, 26, 27, 28, 29, 30, 31, 32, 33, 34, 35, 36, 37, 38, 39, 40, 41, 42, 43, 44, 45, 46, 47, 48, 49, 50, 51, 52, 53, 54, 55, 56, 57, 58, 59, 60, 61, 62, 63, 64, 65, 66, 67, 68, 69, 70, 71, 72, 73, 74, 75, 76, 77, 78, 79, 80, 81, 82, 83, 84, 85, 86, 87, 88, 89, 90, 91, 92] (by decide +kernel) (by decide +kernel)
set_option maxRecDepth 20000 in
theorem gX5_ahead_X5_foretell : GoodIn wsX5_ahead (wsV RX5 187 RX5 yX5_foretell wsX5_foretell) := goodIn_app (goodIn_of _ (by decide +kernel)) ggX5_ahead_X5_foretell
theorem dX5_ahead_0 : decode cX5_ahead 0 = .ok (.aload_n 0, 1) := by decide +kernel
theorem dX5_ahead_1 : decode cX5_ahead 1 = .ok (.iload_n 1, 1) := by decide +kernel
theorem dX5_ahead_2 : decode cX5_ahead 2 = .ok (.invokevirtual 145, 3) := by decide +kernel
theorem dX5_ahead_5 : decode cX5_ahead 5 = .ok (.ifCond .eq 22, 3) := by decide +kernel
theorem dX5_ahead_8 : decode cX5_ahead 8 = .ok (.iload_n 2, 1) := by decide +kernel
theorem dX5_ahead_9 : decode cX5_ahead 9 = .ok (.iconst 0, 1) := by decide +kernel
theorem dX5_ahead_10 : decode cX5_ahead 10 = .ok (.bipush 60, 2) := by decide +kernel
theorem dX5_ahead_12 : decode cX5_ahead 12 = .ok (.invokestatic 183, 3) := by decide +kernel
theorem dX5_ahead_15 : decode cX5_ahead 15 = .ok (.ifCond .eq 12, 3) := by decide +kernel
theorem dX5_ahead_18 : decode cX5_ahead 18 = .ok (.iload_n 3, 1) := by decide +kernel
theorem dX5_ahead_19 : decode cX5_ahead 19 = .ok (.iconst 0, 1) := by decide +kernel
theorem dX5_ahead_20 : decode cX5_ahead 20 = .ok (.iconst 1, 1) := by decide +kernel
theorem dX5_ahead_21 : decode cX5_ahead 21 = .ok (.invokestatic 183, 3) := by decide +kernel
theorem dX5_ahead_24 : decode cX5_ahead 24 = .ok (.ifCond .ne 6, 3) := by decide +kernel
theorem dX5_ahead_27 : decode cX5_ahead 27 = .ok (.ldc 59, 2) := by decide +kernel
theorem dX5_ahead_29 : decode cX5_ahead 29 = .ok (.ireturn, 1) := by decide +kernel
theorem dX5_ahead_30 : decode cX5_ahead 30 = .ok (.aload_n 0, 1) := by decide +kernel
theorem dX5_ahead_31 : decode cX5_ahead 31 = .ok (.iload_n 2, 1) := by decide +kernel
theorem dX5_ahead_32 : decode cX5_ahead 32 = .ok (.invokevirtual 187, 3) := by decide +kernel
theorem dX5_ahead_35 : decode cX5_ahead 35 = .ok (.iload_n 3, 1) := by decide +kernel
theorem dX5_ahead_36 : decode cX5_ahead 36 = .ok (.ifCond .ne 15, 3) := by decide +kernel
theorem dX5_ahead_39 : decode cX5_ahead 39 = .ok (.aload_n 0, 1) := by decide +kernel
theorem dX5_ahead_40 : decode cX5_ahead 40 = .ok (.getfield 29, 3) := by decide +kernel
theorem dX5_ahead_43 : decode cX5_ahead 43 = .ok (.getfield 151, 3) := by decide +kernel
theorem dX5_ahead_46 : decode cX5_ahead 46 = .ok (.iload_n 1, 1) := by decide +kernel
theorem dX5_ahead_47 : decode cX5_ahead 47 = .ok (.iaload, 1) := by decide +kernel
theorem dX5_ahead_48 : decode cX5_ahead 48 = .ok (.goto 12, 3) := by decide +kernel
theorem dX5_ahead_51 : decode cX5_ahead 51 = .ok (.aload_n 0, 1) := by decide +kernel
theorem dX5_ahead_52 : decode cX5_ahead 52 = .ok (.getfield 29, 3) := by decide +kernel
theorem dX5_ahead_55 : decode cX5_ahead 55 = .ok (.getfield 157, 3) := by decide +kernel
theorem dX5_ahead_58 : decode cX5_ahead 58 = .ok (.iload_n 1, 1) := by decide +kernel
theorem dX5_ahead_59 : decode cX5_ahead 59 = .ok (.iaload, 1) := by decide +kernel
theorem dX5_ahead_60 : decode cX5_ahead 60 = .ok (.ireturn, 1) := by decide +kernel
set_option maxRecDepth 20000 in
theorem ggX5_heard_X5_isStretch : GoodIn wsX5_heard wsX5_isStretch := goodIn_r _ [7, 8, 71, 72, 73, 74, 75, 76, 77, 78, 79, 80, 81, 82, 83, 84, 85, 86, 87, 88, 89, 90, 91, 92] (by decide +kernel) (by decide +kernel)
set_option maxRecDepth 20000 in
theorem gX5_heard_X5_isStretch : GoodIn wsX5_heard (wsV RX5 148 RX5 yX5_isStretch wsX5_isStretch) := goodIn_app (goodIn_of _ (by decide +kernel)) ggX5_heard_X5_isStretch
set_option maxRecDepth 20000 in
theorem ggX5_heard_X5_isWithin : GoodIn wsX5_heard wsX5_isWithin := goodIn_r _ [11] (by decide +kernel) (by decide +kernel)
set_option maxRecDepth 20000 in
theorem gX5_heard_X5_isWithin : GoodIn wsX5_heard (va_wsS RX5 183 yX5_isWithin wsX5_isWithin) := goodIn_app (goodIn_of _ (by decide +kernel)) ggX5_heard_X5_isWithin
set_option maxRecDepth 20000 in
theorem ggX5_heard_X5_foretell : GoodIn wsX5_heard wsX5_foretell := goodIn_r _ [15, 2, 8, 16, 17, 18, 19, 20, 21, 22, 23, 24, 25, 26, 27, 28, 29, 30, 31, 32, 33, 34, 35, 36, 37, 38, 39, 40, 41, 42, 43, 44, 45, 46, 47, 48, 49, 50, 51, 52, 53, 54, 55, 56, 57, 58, 59, 60, 61, 62, 63, 64, 65, 66, 67, 68, 69, 70, 71, 72, 73, 74, 75, 76, 77, 78, 79, 80, 81, 82, 83, 84, 85, 86, 87, 88, 89, 90, 91, 92] (by decide +kernel) (by decide +kernel)
set_option maxRecDepth 20000 in
theorem gX5_heard_X5_foretell : GoodIn wsX5_heard (wsV RX5 187 RX5 yX5_foretell wsX5_foretell) := goodIn_app (goodIn_of _ (by decide +kernel)) ggX5_heard_X5_foretell
theorem dX5_heard_0 : decode cX5_heard 0 = .ok (.aload_n 0, 1) := by decide +kernel
theorem dX5_heard_1 : decode cX5_heard 1 = .ok (.iload_n 1, 1) := by decide +kernel
theorem dX5_heard_2 : decode cX5_heard 2 = .ok (.invokevirtual 148, 3) := by decide +kernel
theorem dX5_heard_5 : decode cX5_heard 5 = .ok (.ifCond .eq 13, 3) := by decide +kernel
theorem dX5_heard_8 : decode cX5_heard 8 = .ok (.iload_n 2, 1) := by decide +kernel
theorem dX5_heard_9 : decode cX5_heard 9 = .ok (.iconst 0, 1) := by decide +kernel
theorem dX5_heard_10 : decode cX5_heard 10 = .ok (.bipush 60, 2) := by decide +kernel
theorem dX5_heard_12 : decode cX5_heard 12 = .ok (.invokestatic 183, 3) := by decide +kernel
theorem dX5_heard_15 : decode cX5_heard 15 = .ok (.ifCond .ne 6, 3) := by decide +kernel
theorem dX5_heard_18 : decode cX5_heard 18 = .ok (.ldc 59, 2) := by decide +kernel
theorem dX5_heard_20 : decode cX5_heard 20 = .ok (.ireturn, 1) := by decide +kernel
theorem dX5_heard_21 : decode cX5_heard 21 = .ok (.aload_n 0, 1) := by decide +kernel
theorem dX5_heard_22 : decode cX5_heard 22 = .ok (.iload_n 2, 1) := by decide +kernel
theorem dX5_heard_23 : decode cX5_heard 23 = .ok (.invokevirtual 187, 3) := by decide +kernel
theorem dX5_heard_26 : decode cX5_heard 26 = .ok (.aload_n 0, 1) := by decide +kernel
theorem dX5_heard_27 : decode cX5_heard 27 = .ok (.getfield 29, 3) := by decide +kernel
theorem dX5_heard_30 : decode cX5_heard 30 = .ok (.getfield 160, 3) := by decide +kernel
theorem dX5_heard_33 : decode cX5_heard 33 = .ok (.iload_n 1, 1) := by decide +kernel
theorem dX5_heard_34 : decode cX5_heard 34 = .ok (.iaload, 1) := by decide +kernel
theorem dX5_heard_35 : decode cX5_heard 35 = .ok (.ireturn, 1) := by decide +kernel
set_option maxRecDepth 20000 in
theorem ggX5_whole_X5_isStretch : GoodIn wsX5_whole wsX5_isStretch := goodIn_r _ [6, 7, 80, 81, 82, 83, 84, 85, 86, 87, 88, 89, 90, 91, 92, 93, 94, 95, 96, 97, 98, 99, 100, 101] (by decide +kernel) (by decide +kernel)
set_option maxRecDepth 20000 in
theorem gX5_whole_X5_isStretch : GoodIn wsX5_whole (wsV RX5 148 RX5 yX5_isStretch wsX5_isStretch) := goodIn_app (goodIn_of _ (by decide +kernel)) ggX5_whole_X5_isStretch
set_option maxRecDepth 20000 in
theorem ggX5_whole_X5_hoursToWhole : GoodIn wsX5_whole wsX5_hoursToWhole := goodIn_r _ [11, 12, 13, 14, 15, 16, 5, 17, 7, 18, 19, 20, 21, 22, 23, 24, 25, 26, 27, 28, 29, 30, 31, 32, 33, 34, 35, 36, 37, 38, 39, 40, 41, 42, 43, 44, 45, 46, 47, 48, 49, 50, 51, 52, 53, 54, 55, 56, 57, 58, 59, 60, 61, 62, 63, 64, 65, 66, 67, 68, 69, 70, 71, 72, 73, 74, 75, 76, 77, 78, 79, 80, 81, 82, 83, 84, 85, 86, 87, 88, 89, 90, 91, 92, 93, 94, 95, 96, 97, 98, 99, 100, 101] (by decide +kernel) (by decide +kernel)
set_option maxRecDepth 20000 in
theorem gX5_whole_X5_hoursToWhole : GoodIn wsX5_whole (wsV RX5 190 RX5 yX5_hoursToWhole wsX5_hoursToWhole) := goodIn_app (goodIn_of _ (by decide +kernel)) ggX5_whole_X5_hoursToWhole
theorem dX5_whole_0 : decode cX5_whole 0 = .ok (.aload_n 0, 1) := by decide +kernel
theorem dX5_whole_1 : decode cX5_whole 1 = .ok (.iload_n 1, 1) := by decide +kernel
theorem dX5_whole_2 : decode cX5_whole 2 = .ok (.invokevirtual 148, 3) := by decide +kernel
theorem dX5_whole_5 : decode cX5_whole 5 = .ok (.ifCond .ne 6, 3) := by decide +kernel
theorem dX5_whole_8 : decode cX5_whole 8 = .ok (.ldc 59, 2) := by decide +kernel
theorem dX5_whole_10 : decode cX5_whole 10 = .ok (.ireturn, 1) := by decide +kernel
theorem dX5_whole_11 : decode cX5_whole 11 = .ok (.aload_n 0, 1) := by decide +kernel
theorem dX5_whole_12 : decode cX5_whole 12 = .ok (.iconst 1, 1) := by decide +kernel
theorem dX5_whole_13 : decode cX5_whole 13 = .ok (.iload_n 1, 1) := by decide +kernel
theorem dX5_whole_14 : decode cX5_whole 14 = .ok (.ishl, 1) := by decide +kernel
theorem dX5_whole_15 : decode cX5_whole 15 = .ok (.invokevirtual 190, 3) := by decide +kernel
theorem dX5_whole_18 : decode cX5_whole 18 = .ok (.ireturn, 1) := by decide +kernel
set_option maxRecDepth 20000 in
theorem ggX5_first_X5_isWithin : GoodIn wsX5_first wsX5_isWithin := goodIn_r _ [9] (by decide +kernel) (by decide +kernel)
set_option maxRecDepth 20000 in
theorem gX5_first_X5_isWithin : GoodIn wsX5_first (va_wsS RX5 183 yX5_isWithin wsX5_isWithin) := goodIn_app (goodIn_of _ (by decide +kernel)) ggX5_first_X5_isWithin
set_option maxRecDepth 20000 in
theorem ggX5_first_X5_hoursToWhole : GoodIn wsX5_first wsX5_hoursToWhole := goodIn_r _ [13, 5, 4, 14, 15, 16, 8, 17, 1, 18, 19, 20, 21, 22, 23, 24, 25, 26, 27, 28, 29, 30, 31, 32, 33, 34, 35, 36, 37, 38, 39, 40, 41, 42, 43, 44, 45, 46, 47, 48, 49, 50, 51, 52, 53, 54, 55, 56, 57, 58, 59, 60, 61, 62, 63, 64, 65, 66, 67, 68, 69, 70, 71, 72, 73, 74, 75, 76, 77, 78, 79, 83, 84, 85, 86, 87, 88, 89, 90, 91, 92, 93, 94, 95, 96, 97, 98, 99, 100, 101, 102, 103, 104] (by decide +kernel) (by decide +kernel)
set_option maxRecDepth 20000 in
theorem gX5_first_X5_hoursToWhole : GoodIn wsX5_first (wsV RX5 190 RX5 yX5_hoursToWhole wsX5_hoursToWhole) := goodIn_app (goodIn_of _ (by decide +kernel)) ggX5_first_X5_hoursToWhole
set_option maxRecDepth 20000 in
theorem ggX5_first_X2_wholeGates : GoodIn wsX5_first wsX2_wholeGates := goodIn_r _ [75, 26, 29, 76, 77, 78, 19, 79, 23, 93, 94, 95, 96, 97, 98, 99, 100, 101, 102, 103, 104] (by decide +kernel) (by decide +kernel)
set_option maxRecDepth 20000 in
theorem gX5_first_X2_wholeGates_n141 : GoodIn wsX5_first (wsX2_wholeGates) := ggX5_first_X2_wholeGates
set_option maxRecDepth 20000 in
theorem ggX5_first_X5_leastOf : GoodIn wsX5_first wsX5_leastOf := goodIn_r _ [82, 4] (by decide +kernel) (by decide +kernel)
set_option maxRecDepth 20000 in
theorem gX5_first_X5_leastOf : GoodIn wsX5_first (va_wsS RX5 197 yX5_leastOf wsX5_leastOf) := goodIn_app (goodIn_of _ (by decide +kernel)) ggX5_first_X5_leastOf
theorem dX5_first_0 : decode cX5_first 0 = .ok (.aload_n 0, 1) := by decide +kernel
theorem dX5_first_1 : decode cX5_first 1 = .ok (.getfield 25, 3) := by decide +kernel
theorem dX5_first_4 : decode cX5_first 4 = .ok (.getfield 128, 3) := by decide +kernel
theorem dX5_first_7 : decode cX5_first 7 = .ok (.ifCond .ne 6, 3) := by decide +kernel
theorem dX5_first_10 : decode cX5_first 10 = .ok (.ldc 131, 2) := by decide +kernel
theorem dX5_first_12 : decode cX5_first 12 = .ok (.ireturn, 1) := by decide +kernel
theorem dX5_first_13 : decode cX5_first 13 = .ok (.iload_n 1, 1) := by decide +kernel
theorem dX5_first_14 : decode cX5_first 14 = .ok (.iconst 0, 1) := by decide +kernel
theorem dX5_first_15 : decode cX5_first 15 = .ok (.iconst 1, 1) := by decide +kernel
theorem dX5_first_16 : decode cX5_first 16 = .ok (.invokestatic 183, 3) := by decide +kernel
theorem dX5_first_19 : decode cX5_first 19 = .ok (.ifCond .ne 6, 3) := by decide +kernel
theorem dX5_first_22 : decode cX5_first 22 = .ok (.ldc 59, 2) := by decide +kernel
theorem dX5_first_24 : decode cX5_first 24 = .ok (.ireturn, 1) := by decide +kernel
theorem dX5_first_25 : decode cX5_first 25 = .ok (.aload_n 0, 1) := by decide +kernel
theorem dX5_first_26 : decode cX5_first 26 = .ok (.iconst 1, 1) := by decide +kernel
theorem dX5_first_27 : decode cX5_first 27 = .ok (.aload_n 0, 1) := by decide +kernel
theorem dX5_first_28 : decode cX5_first 28 = .ok (.getfield 25, 3) := by decide +kernel
theorem dX5_first_31 : decode cX5_first 31 = .ok (.getfield 193, 3) := by decide +kernel
theorem dX5_first_34 : decode cX5_first 34 = .ok (.ishl, 1) := by decide +kernel
theorem dX5_first_35 : decode cX5_first 35 = .ok (.iconst 1, 1) := by decide +kernel
theorem dX5_first_36 : decode cX5_first 36 = .ok (.isub, 1) := by decide +kernel
theorem dX5_first_37 : decode cX5_first 37 = .ok (.invokevirtual 190, 3) := by decide +kernel
theorem dX5_first_40 : decode cX5_first 40 = .ok (.istore_n 2, 1) := by decide +kernel
theorem dX5_first_41 : decode cX5_first 41 = .ok (.iload_n 2, 1) := by decide +kernel
theorem dX5_first_42 : decode cX5_first 42 = .ok (.ldc 196, 2) := by decide +kernel
theorem dX5_first_44 : decode cX5_first 44 = .ok (.if_icmp .eq 8, 3) := by decide +kernel
theorem dX5_first_47 : decode cX5_first 47 = .ok (.iload_n 1, 1) := by decide +kernel
theorem dX5_first_48 : decode cX5_first 48 = .ok (.iconst 1, 1) := by decide +kernel
theorem dX5_first_49 : decode cX5_first 49 = .ok (.if_icmp .ne 5, 3) := by decide +kernel
theorem dX5_first_52 : decode cX5_first 52 = .ok (.iload_n 2, 1) := by decide +kernel
theorem dX5_first_53 : decode cX5_first 53 = .ok (.ireturn, 1) := by decide +kernel
theorem dX5_first_54 : decode cX5_first 54 = .ok (.aload_n 0, 1) := by decide +kernel
theorem dX5_first_55 : decode cX5_first 55 = .ok (.getfield 29, 3) := by decide +kernel
theorem dX5_first_58 : decode cX5_first 58 = .ok (.invokevirtual 141, 3) := by decide +kernel
theorem dX5_first_61 : decode cX5_first 61 = .ok (.invokestatic 197, 3) := by decide +kernel
theorem dX5_first_64 : decode cX5_first 64 = .ok (.ireturn, 1) := by decide +kernel
set_option maxRecDepth 20000 in
theorem ggX5_left_X5_isWithin : GoodIn wsX5_left wsX5_isWithin := goodIn_r _ [8] (by decide +kernel) (by decide +kernel)
set_option maxRecDepth 20000 in
theorem gX5_left_X5_isWithin : GoodIn wsX5_left (va_wsS RX5 183 yX5_isWithin wsX5_isWithin) := goodIn_app (goodIn_of _ (by decide +kernel)) ggX5_left_X5_isWithin
set_option maxRecDepth 20000 in
theorem ggX5_left_X5_foretell : GoodIn wsX5_left wsX5_foretell := goodIn_r _ [12, 4, 1, 13, 14, 15, 16, 17, 18, 19, 20, 21, 22, 23, 24, 25, 26, 27, 28, 29, 30, 31, 32, 33, 34, 35, 36, 37, 38, 39, 40, 41, 42, 43, 44, 45, 46, 47, 48, 49, 50, 51, 52, 53, 54, 55, 56, 57, 58, 59, 60, 61, 62, 63, 64, 65, 66, 67, 74, 75, 76, 77, 78, 79, 80, 81, 82, 83, 84, 85, 86, 87, 88, 89, 90, 91, 92, 93, 94, 95] (by decide +kernel) (by decide +kernel)
set_option maxRecDepth 20000 in
theorem gX5_left_X5_foretell : GoodIn wsX5_left (wsV RX5 187 RX5 yX5_foretell wsX5_foretell) := goodIn_app (goodIn_of _ (by decide +kernel)) ggX5_left_X5_foretell
set_option maxRecDepth 20000 in
theorem ggX5_left_X2_allWords : GoodIn wsX5_left wsX2_allWords := goodIn_r _ [70, 18, 84, 85, 86, 87, 88, 89, 90, 91, 92, 93, 94, 95] (by decide +kernel) (by decide +kernel)
set_option maxRecDepth 20000 in
theorem gX5_left_X2_allWords_n200 : GoodIn wsX5_left (wsX2_allWords) := ggX5_left_X2_allWords
set_option maxRecDepth 20000 in
theorem ggX5_left_X2_heardAtAny : GoodIn wsX5_left wsX2_heardAtAny := goodIn_r _ [73, 21, 24, 84, 85, 86, 87, 88, 89, 90, 91, 92, 93, 94, 95] (by decide +kernel) (by decide +kernel)
set_option maxRecDepth 20000 in
theorem gX5_left_X2_heardAtAny_n203 : GoodIn wsX5_left (wsX2_heardAtAny) := ggX5_left_X2_heardAtAny
theorem dX5_left_0 : decode cX5_left 0 = .ok (.aload_n 0, 1) := by decide +kernel
theorem dX5_left_1 : decode cX5_left 1 = .ok (.getfield 25, 3) := by decide +kernel
theorem dX5_left_4 : decode cX5_left 4 = .ok (.getfield 128, 3) := by decide +kernel
theorem dX5_left_7 : decode cX5_left 7 = .ok (.ifCond .ne 6, 3) := by decide +kernel
theorem dX5_left_10 : decode cX5_left 10 = .ok (.ldc 131, 2) := by decide +kernel
theorem dX5_left_12 : decode cX5_left 12 = .ok (.ireturn, 1) := by decide +kernel
theorem dX5_left_13 : decode cX5_left 13 = .ok (.iload_n 1, 1) := by decide +kernel
theorem dX5_left_14 : decode cX5_left 14 = .ok (.iconst 0, 1) := by decide +kernel
theorem dX5_left_15 : decode cX5_left 15 = .ok (.bipush 60, 2) := by decide +kernel
theorem dX5_left_17 : decode cX5_left 17 = .ok (.invokestatic 183, 3) := by decide +kernel
theorem dX5_left_20 : decode cX5_left 20 = .ok (.ifCond .ne 6, 3) := by decide +kernel
theorem dX5_left_23 : decode cX5_left 23 = .ok (.ldc 59, 2) := by decide +kernel
theorem dX5_left_25 : decode cX5_left 25 = .ok (.ireturn, 1) := by decide +kernel
theorem dX5_left_26 : decode cX5_left 26 = .ok (.aload_n 0, 1) := by decide +kernel
theorem dX5_left_27 : decode cX5_left 27 = .ok (.iload_n 1, 1) := by decide +kernel
theorem dX5_left_28 : decode cX5_left 28 = .ok (.invokevirtual 187, 3) := by decide +kernel
theorem dX5_left_31 : decode cX5_left 31 = .ok (.aload_n 0, 1) := by decide +kernel
theorem dX5_left_32 : decode cX5_left 32 = .ok (.getfield 29, 3) := by decide +kernel
theorem dX5_left_35 : decode cX5_left 35 = .ok (.invokevirtual 200, 3) := by decide +kernel
theorem dX5_left_38 : decode cX5_left 38 = .ok (.aload_n 0, 1) := by decide +kernel
theorem dX5_left_39 : decode cX5_left 39 = .ok (.getfield 29, 3) := by decide +kernel
theorem dX5_left_42 : decode cX5_left 42 = .ok (.iconst 1, 1) := by decide +kernel
theorem dX5_left_43 : decode cX5_left 43 = .ok (.aload_n 0, 1) := by decide +kernel
theorem dX5_left_44 : decode cX5_left 44 = .ok (.getfield 29, 3) := by decide +kernel
theorem dX5_left_47 : decode cX5_left 47 = .ok (.getfield 193, 3) := by decide +kernel
theorem dX5_left_50 : decode cX5_left 50 = .ok (.ishl, 1) := by decide +kernel
theorem dX5_left_51 : decode cX5_left 51 = .ok (.iconst 1, 1) := by decide +kernel
theorem dX5_left_52 : decode cX5_left 52 = .ok (.isub, 1) := by decide +kernel
theorem dX5_left_53 : decode cX5_left 53 = .ok (.invokevirtual 203, 3) := by decide +kernel
theorem dX5_left_56 : decode cX5_left 56 = .ok (.iconst (-1), 1) := by decide +kernel
theorem dX5_left_57 : decode cX5_left 57 = .ok (.ixor, 1) := by decide +kernel
theorem dX5_left_58 : decode cX5_left 58 = .ok (.iand, 1) := by decide +kernel
theorem dX5_left_59 : decode cX5_left 59 = .ok (.ireturn, 1) := by decide +kernel
set_option maxRecDepth 20000 in
theorem ggX5_meet_X5_isPulpit : GoodIn wsX5_meet wsX5_isPulpit := goodIn_r _ [8, 9, 69, 70, 71, 72, 73, 74, 75, 76, 77, 78, 79, 80, 81, 82, 83, 84, 85, 86, 87, 88, 89, 90] (by decide +kernel) (by decide +kernel)
set_option maxRecDepth 20000 in
theorem gX5_meet_X5_isPulpit : GoodIn wsX5_meet (wsV RX5 145 RX5 yX5_isPulpit wsX5_isPulpit) := goodIn_app (goodIn_of _ (by decide +kernel)) ggX5_meet_X5_isPulpit
set_option maxRecDepth 20000 in
theorem ggX5_meet_X5_foretell : GoodIn wsX5_meet wsX5_foretell := goodIn_r _ [13, 2, 9, 14, 15, 16, 17, 18, 19, 20, 21, 22, 23, 24, 25, 26, 27, 28, 29, 30, 31, 32, 33, 34, 35, 36, 37, 38, 39, 40, 41, 42, 43, 44, 45, 46, 47, 48, 49, 50, 51, 52, 53, 54, 55, 56, 57, 58, 59, 60, 61, 62, 63, 64, 65, 66, 67, 68, 69, 70, 71, 72, 73, 74, 75, 76, 77, 78, 79, 80, 81, 82, 83, 84, 85, 86, 87, 88, 89, 90] (by decide +kernel) (by decide +kernel)
set_option maxRecDepth 20000 in
theorem gX5_meet_X5_foretell : GoodIn wsX5_meet (wsV RX5 187 RX5 yX5_foretell wsX5_foretell) := goodIn_app (goodIn_of _ (by decide +kernel)) ggX5_meet_X5_foretell
set_option maxRecDepth 20000 in
theorem ggX5_meet_X2_goHour : GoodIn wsX5_meet wsX2_goHour := goodIn_r _ [35, 22, 36, 23, 21, 37, 38, 39, 15, 40, 27, 41, 42, 43, 44, 25, 28, 45, 46, 47, 48, 26, 24, 49, 50, 51, 52, 19, 53, 54, 55, 56, 57, 58, 59, 60, 20, 61, 62, 63, 64, 65, 66, 67, 68, 79, 80, 81, 82, 83, 84, 85, 86, 87, 88, 89, 90] (by decide +kernel) (by decide +kernel)
set_option maxRecDepth 20000 in
theorem gX5_meet_X2_goHour_n138 : GoodIn wsX5_meet (wsX2_goHour) := ggX5_meet_X2_goHour
theorem dX5_meet_0 : decode cX5_meet 0 = .ok (.aload_n 0, 1) := by decide +kernel
theorem dX5_meet_1 : decode cX5_meet 1 = .ok (.iload_n 1, 1) := by decide +kernel
theorem dX5_meet_2 : decode cX5_meet 2 = .ok (.invokevirtual 145, 3) := by decide +kernel
theorem dX5_meet_5 : decode cX5_meet 5 = .ok (.ifCond .eq 16, 3) := by decide +kernel
theorem dX5_meet_8 : decode cX5_meet 8 = .ok (.aload_n 0, 1) := by decide +kernel
theorem dX5_meet_9 : decode cX5_meet 9 = .ok (.iload_n 2, 1) := by decide +kernel
theorem dX5_meet_10 : decode cX5_meet 10 = .ok (.invokevirtual 145, 3) := by decide +kernel
theorem dX5_meet_13 : decode cX5_meet 13 = .ok (.ifCond .eq 8, 3) := by decide +kernel
theorem dX5_meet_16 : decode cX5_meet 16 = .ok (.iload_n 1, 1) := by decide +kernel
theorem dX5_meet_17 : decode cX5_meet 17 = .ok (.iload_n 2, 1) := by decide +kernel
theorem dX5_meet_18 : decode cX5_meet 18 = .ok (.if_icmp .ne 6, 3) := by decide +kernel
theorem dX5_meet_21 : decode cX5_meet 21 = .ok (.ldc 59, 2) := by decide +kernel
theorem dX5_meet_23 : decode cX5_meet 23 = .ok (.ireturn, 1) := by decide +kernel
theorem dX5_meet_24 : decode cX5_meet 24 = .ok (.aload_n 0, 1) := by decide +kernel
theorem dX5_meet_25 : decode cX5_meet 25 = .ok (.iconst 0, 1) := by decide +kernel
theorem dX5_meet_26 : decode cX5_meet 26 = .ok (.invokevirtual 187, 3) := by decide +kernel
theorem dX5_meet_29 : decode cX5_meet 29 = .ok (.iconst 0, 1) := by decide +kernel
theorem dX5_meet_30 : decode cX5_meet 30 = .ok (.istore_n 3, 1) := by decide +kernel
theorem dX5_meet_31 : decode cX5_meet 31 = .ok (.iload_n 3, 1) := by decide +kernel
theorem dX5_meet_32 : decode cX5_meet 32 = .ok (.bipush 60, 2) := by decide +kernel
theorem dX5_meet_34 : decode cX5_meet 34 = .ok (.if_icmp .gt 39, 3) := by decide +kernel
theorem dX5_meet_37 : decode cX5_meet 37 = .ok (.aload_n 0, 1) := by decide +kernel
theorem dX5_meet_38 : decode cX5_meet 38 = .ok (.getfield 29, 3) := by decide +kernel
theorem dX5_meet_41 : decode cX5_meet 41 = .ok (.getfield 151, 3) := by decide +kernel
theorem dX5_meet_44 : decode cX5_meet 44 = .ok (.iload_n 1, 1) := by decide +kernel
theorem dX5_meet_45 : decode cX5_meet 45 = .ok (.iaload, 1) := by decide +kernel
theorem dX5_meet_46 : decode cX5_meet 46 = .ok (.aload_n 0, 1) := by decide +kernel
theorem dX5_meet_47 : decode cX5_meet 47 = .ok (.getfield 29, 3) := by decide +kernel
theorem dX5_meet_50 : decode cX5_meet 50 = .ok (.getfield 151, 3) := by decide +kernel
theorem dX5_meet_53 : decode cX5_meet 53 = .ok (.iload_n 2, 1) := by decide +kernel
theorem dX5_meet_54 : decode cX5_meet 54 = .ok (.iaload, 1) := by decide +kernel
theorem dX5_meet_55 : decode cX5_meet 55 = .ok (.if_icmp .ne 5, 3) := by decide +kernel
theorem dX5_meet_58 : decode cX5_meet 58 = .ok (.iload_n 3, 1) := by decide +kernel
theorem dX5_meet_59 : decode cX5_meet 59 = .ok (.ireturn, 1) := by decide +kernel
theorem dX5_meet_60 : decode cX5_meet 60 = .ok (.aload_n 0, 1) := by decide +kernel
theorem dX5_meet_61 : decode cX5_meet 61 = .ok (.getfield 29, 3) := by decide +kernel
theorem dX5_meet_64 : decode cX5_meet 64 = .ok (.invokevirtual 138, 3) := by decide +kernel
theorem dX5_meet_67 : decode cX5_meet 67 = .ok (.iinc 3 1, 3) := by decide +kernel
theorem dX5_meet_70 : decode cX5_meet 70 = .ok (.goto (-39), 3) := by decide +kernel
theorem dX5_meet_73 : decode cX5_meet 73 = .ok (.ldc 196, 2) := by decide +kernel
theorem dX5_meet_75 : decode cX5_meet 75 = .ok (.ireturn, 1) := by decide +kernel
set_option maxRecDepth 20000 in
theorem ggX5_round_X5_foretell : GoodIn wsX5_round wsX5_foretell := goodIn_r _ [9, 3, 1, 10, 11, 12, 13, 14, 15, 16, 17, 18, 19, 20, 21, 22, 23, 24, 25, 26, 27, 28, 29, 30, 31, 32, 33, 34, 35, 36, 37, 38, 39, 40, 41, 42, 43, 44, 45, 46, 47, 48, 49, 50, 51, 52, 53, 54, 55, 56, 57, 58, 59, 60, 61, 62, 63, 64, 68, 69, 70, 71, 72, 73, 74, 75, 76, 77, 78, 79, 80, 81, 82, 83, 84, 85, 86, 87, 88, 89] (by decide +kernel) (by decide +kernel)
set_option maxRecDepth 20000 in
theorem gX5_round_X5_foretell : GoodIn wsX5_round (wsV RX5 187 RX5 yX5_foretell wsX5_foretell) := goodIn_app (goodIn_of _ (by decide +kernel)) ggX5_round_X5_foretell
set_option maxRecDepth 20000 in
theorem ggX5_round_X2_goHour : GoodIn wsX5_round wsX2_goHour := goodIn_r _ [31, 18, 32, 19, 17, 33, 34, 35, 11, 36, 23, 37, 38, 39, 40, 21, 24, 41, 42, 43, 44, 22, 20, 45, 46, 47, 48, 15, 49, 50, 51, 52, 53, 54, 55, 56, 16, 57, 58, 59, 60, 61, 62, 63, 64, 78, 79, 80, 81, 82, 83, 84, 85, 86, 87, 88, 89] (by decide +kernel) (by decide +kernel)
set_option maxRecDepth 20000 in
theorem gX5_round_X2_goHour_n138 : GoodIn wsX5_round (wsX2_goHour) := ggX5_round_X2_goHour
set_option maxRecDepth 20000 in
theorem ggX5_round_X2_hasPulpitsAs : GoodIn wsX5_round wsX2_hasPulpitsAs := goodIn_r _ [67, 19, 23, 24, 78, 79, 80, 81, 82, 83, 84, 85, 86, 87, 88, 89] (by decide +kernel) (by decide +kernel)
set_option maxRecDepth 20000 in
theorem gX5_round_X2_hasPulpitsAs_n206 : GoodIn wsX5_round (wsX2_hasPulpitsAs) := ggX5_round_X2_hasPulpitsAs
theorem dX5_round_0 : decode cX5_round 0 = .ok (.aload_n 0, 1) := by decide +kernel
theorem dX5_round_1 : decode cX5_round 1 = .ok (.getfield 25, 3) := by decide +kernel
theorem dX5_round_4 : decode cX5_round 4 = .ok (.getfield 128, 3) := by decide +kernel
theorem dX5_round_7 : decode cX5_round 7 = .ok (.ifCond .ne 6, 3) := by decide +kernel
theorem dX5_round_10 : decode cX5_round 10 = .ok (.ldc 131, 2) := by decide +kernel
theorem dX5_round_12 : decode cX5_round 12 = .ok (.ireturn, 1) := by decide +kernel
theorem dX5_round_13 : decode cX5_round 13 = .ok (.aload_n 0, 1) := by decide +kernel
theorem dX5_round_14 : decode cX5_round 14 = .ok (.iconst 0, 1) := by decide +kernel
theorem dX5_round_15 : decode cX5_round 15 = .ok (.invokevirtual 187, 3) := by decide +kernel
theorem dX5_round_18 : decode cX5_round 18 = .ok (.iconst 1, 1) := by decide +kernel
theorem dX5_round_19 : decode cX5_round 19 = .ok (.istore_n 1, 1) := by decide +kernel
theorem dX5_round_20 : decode cX5_round 20 = .ok (.iload_n 1, 1) := by decide +kernel
theorem dX5_round_21 : decode cX5_round 21 = .ok (.sipush 200, 3) := by decide +kernel
theorem dX5_round_24 : decode cX5_round 24 = .ok (.if_icmp .gt 32, 3) := by decide +kernel
theorem dX5_round_27 : decode cX5_round 27 = .ok (.aload_n 0, 1) := by decide +kernel
theorem dX5_round_28 : decode cX5_round 28 = .ok (.getfield 29, 3) := by decide +kernel
theorem dX5_round_31 : decode cX5_round 31 = .ok (.invokevirtual 138, 3) := by decide +kernel
theorem dX5_round_34 : decode cX5_round 34 = .ok (.aload_n 0, 1) := by decide +kernel
theorem dX5_round_35 : decode cX5_round 35 = .ok (.getfield 29, 3) := by decide +kernel
theorem dX5_round_38 : decode cX5_round 38 = .ok (.aload_n 0, 1) := by decide +kernel
theorem dX5_round_39 : decode cX5_round 39 = .ok (.getfield 25, 3) := by decide +kernel
theorem dX5_round_42 : decode cX5_round 42 = .ok (.invokevirtual 206, 3) := by decide +kernel
theorem dX5_round_45 : decode cX5_round 45 = .ok (.ifCond .eq 5, 3) := by decide +kernel
theorem dX5_round_48 : decode cX5_round 48 = .ok (.iload_n 1, 1) := by decide +kernel
theorem dX5_round_49 : decode cX5_round 49 = .ok (.ireturn, 1) := by decide +kernel
theorem dX5_round_50 : decode cX5_round 50 = .ok (.iinc 1 1, 3) := by decide +kernel
theorem dX5_round_53 : decode cX5_round 53 = .ok (.goto (-33), 3) := by decide +kernel
theorem dX5_round_56 : decode cX5_round 56 = .ok (.ldc 196, 2) := by decide +kernel
theorem dX5_round_58 : decode cX5_round 58 = .ok (.ireturn, 1) := by decide +kernel
set_option maxRecDepth 20000 in
theorem ggX5_best_X5_isPulpit : GoodIn wsX5_best wsX5_isPulpit := goodIn_r _ [8, 2, 78, 79, 80, 81, 82, 83, 84, 85, 86, 87, 88, 89, 90, 91, 92, 93, 94, 95, 96, 97, 98, 99] (by decide +kernel) (by decide +kernel)
set_option maxRecDepth 20000 in
theorem gX5_best_X5_isPulpit : GoodIn wsX5_best (wsV RX5 145 RX5 yX5_isPulpit wsX5_isPulpit) := goodIn_app (goodIn_of _ (by decide +kernel)) ggX5_best_X5_isPulpit
set_option maxRecDepth 20000 in
theorem ggX5_best_X5_isStretch : GoodIn wsX5_best wsX5_isStretch := goodIn_r _ [12, 2, 78, 79, 80, 81, 82, 83, 84, 85, 86, 87, 88, 89, 90, 91, 92, 93, 94, 95, 96, 97, 98, 99] (by decide +kernel) (by decide +kernel)
set_option maxRecDepth 20000 in
theorem gX5_best_X5_isStretch : GoodIn wsX5_best (wsV RX5 148 RX5 yX5_isStretch wsX5_isStretch) := goodIn_app (goodIn_of _ (by decide +kernel)) ggX5_best_X5_isStretch
set_option maxRecDepth 20000 in
theorem ggX5_best_X5_isWithin : GoodIn wsX5_best wsX5_isWithin := goodIn_r _ [15] (by decide +kernel) (by decide +kernel)
set_option maxRecDepth 20000 in
theorem gX5_best_X5_isWithin : GoodIn wsX5_best (va_wsS RX5 183 yX5_isWithin wsX5_isWithin) := goodIn_app (goodIn_of _ (by decide +kernel)) ggX5_best_X5_isWithin
set_option maxRecDepth 20000 in
theorem ggX5_best_X2_take : GoodIn wsX5_best wsX2_take := goodIn_r _ [19, 20, 21, 22, 23, 24, 25, 26, 27, 28, 29, 30, 88, 89, 90, 91, 92, 93, 94, 95, 96, 97, 98, 99] (by decide +kernel) (by decide +kernel)
set_option maxRecDepth 20000 in
theorem gX5_best_X2_take_n118 : GoodIn wsX5_best (wsX2_take) := ggX5_best_X2_take
set_option maxRecDepth 20000 in
theorem ggX5_best_X2_goHours : GoodIn wsX5_best wsX2_goHours := goodIn_r _ [33, 34, 35, 36, 17, 37, 24, 38, 25, 23, 39, 40, 41, 42, 29, 43, 44, 45, 46, 27, 30, 47, 48, 49, 50, 28, 26, 51, 52, 53, 54, 21, 55, 56, 57, 58, 59, 60, 61, 62, 22, 63, 64, 65, 66, 67, 68, 69, 70, 88, 89, 90, 91, 92, 93, 94, 95, 96, 97, 98, 99] (by decide +kernel) (by decide +kernel)
set_option maxRecDepth 20000 in
theorem gX5_best_X2_goHours_n209 : GoodIn wsX5_best (wsX2_goHours) := ggX5_best_X2_goHours
set_option maxRecDepth 20000 in
theorem ggX5_best_J6_bitCount_0f7a4 : GoodIn wsX5_best wsJ6_bitCount_0f7a4 := goodIn_r _ [74, 75, 76, 77] (by decide +kernel) (by decide +kernel)
set_option maxRecDepth 20000 in
theorem gX5_best_J6_bitCount_0f7a4 : GoodIn wsX5_best (va_wsS RX5 163 yJ6_bitCount_0f7a4 wsJ6_bitCount_0f7a4) := goodIn_app (goodIn_of _ (by decide +kernel)) ggX5_best_J6_bitCount_0f7a4
theorem dX5_best_0 : decode cX5_best 0 = .ok (.aload_n 0, 1) := by decide +kernel
theorem dX5_best_1 : decode cX5_best 1 = .ok (.iload_n 1, 1) := by decide +kernel
theorem dX5_best_2 : decode cX5_best 2 = .ok (.invokevirtual 145, 3) := by decide +kernel
theorem dX5_best_5 : decode cX5_best 5 = .ok (.ifCond .eq 31, 3) := by decide +kernel
theorem dX5_best_8 : decode cX5_best 8 = .ok (.aload_n 0, 1) := by decide +kernel
theorem dX5_best_9 : decode cX5_best 9 = .ok (.iload_n 2, 1) := by decide +kernel
theorem dX5_best_10 : decode cX5_best 10 = .ok (.invokevirtual 148, 3) := by decide +kernel
theorem dX5_best_13 : decode cX5_best 13 = .ok (.ifCond .eq 23, 3) := by decide +kernel
theorem dX5_best_16 : decode cX5_best 16 = .ok (.iload_n 3, 1) := by decide +kernel
theorem dX5_best_17 : decode cX5_best 17 = .ok (.iconst 1, 1) := by decide +kernel
theorem dX5_best_18 : decode cX5_best 18 = .ok (.bipush 30, 2) := by decide +kernel
theorem dX5_best_20 : decode cX5_best 20 = .ok (.invokestatic 183, 3) := by decide +kernel
theorem dX5_best_23 : decode cX5_best 23 = .ok (.ifCond .eq 13, 3) := by decide +kernel
theorem dX5_best_26 : decode cX5_best 26 = .ok (.iload 4, 2) := by decide +kernel
theorem dX5_best_28 : decode cX5_best 28 = .ok (.iconst 0, 1) := by decide +kernel
theorem dX5_best_29 : decode cX5_best 29 = .ok (.iconst 1, 1) := by decide +kernel
theorem dX5_best_30 : decode cX5_best 30 = .ok (.invokestatic 183, 3) := by decide +kernel
theorem dX5_best_33 : decode cX5_best 33 = .ok (.ifCond .ne 6, 3) := by decide +kernel
theorem dX5_best_36 : decode cX5_best 36 = .ok (.ldc 59, 2) := by decide +kernel
theorem dX5_best_38 : decode cX5_best 38 = .ok (.ireturn, 1) := by decide +kernel
theorem dX5_best_39 : decode cX5_best 39 = .ok (.iconst (-1), 1) := by decide +kernel
theorem dX5_best_40 : decode cX5_best 40 = .ok (.istore 5, 2) := by decide +kernel
theorem dX5_best_42 : decode cX5_best 42 = .ok (.iconst 0, 1) := by decide +kernel
theorem dX5_best_43 : decode cX5_best 43 = .ok (.istore 6, 2) := by decide +kernel
theorem dX5_best_45 : decode cX5_best 45 = .ok (.iconst 0, 1) := by decide +kernel
theorem dX5_best_46 : decode cX5_best 46 = .ok (.istore 7, 2) := by decide +kernel
theorem dX5_best_48 : decode cX5_best 48 = .ok (.iload 7, 2) := by decide +kernel
theorem dX5_best_50 : decode cX5_best 50 = .ok (.aload_n 0, 1) := by decide +kernel
theorem dX5_best_51 : decode cX5_best 51 = .ok (.getfield 25, 3) := by decide +kernel
theorem dX5_best_54 : decode cX5_best 54 = .ok (.getfield 193, 3) := by decide +kernel
theorem dX5_best_57 : decode cX5_best 57 = .ok (.if_icmp .ge 68, 3) := by decide +kernel
theorem dX5_best_60 : decode cX5_best 60 = .ok (.aload_n 0, 1) := by decide +kernel
theorem dX5_best_61 : decode cX5_best 61 = .ok (.getfield 29, 3) := by decide +kernel
theorem dX5_best_64 : decode cX5_best 64 = .ok (.aload_n 0, 1) := by decide +kernel
theorem dX5_best_65 : decode cX5_best 65 = .ok (.getfield 25, 3) := by decide +kernel
theorem dX5_best_68 : decode cX5_best 68 = .ok (.invokevirtual 118, 3) := by decide +kernel
theorem dX5_best_71 : decode cX5_best 71 = .ok (.aload_n 0, 1) := by decide +kernel
theorem dX5_best_72 : decode cX5_best 72 = .ok (.getfield 29, 3) := by decide +kernel
theorem dX5_best_75 : decode cX5_best 75 = .ok (.getfield 151, 3) := by decide +kernel
theorem dX5_best_78 : decode cX5_best 78 = .ok (.iload_n 1, 1) := by decide +kernel
theorem dX5_best_79 : decode cX5_best 79 = .ok (.iload 7, 2) := by decide +kernel
theorem dX5_best_81 : decode cX5_best 81 = .ok (.iastore, 1) := by decide +kernel
theorem dX5_best_82 : decode cX5_best 82 = .ok (.aload_n 0, 1) := by decide +kernel
theorem dX5_best_83 : decode cX5_best 83 = .ok (.getfield 29, 3) := by decide +kernel
theorem dX5_best_86 : decode cX5_best 86 = .ok (.iload_n 3, 1) := by decide +kernel
theorem dX5_best_87 : decode cX5_best 87 = .ok (.invokevirtual 209, 3) := by decide +kernel
theorem dX5_best_90 : decode cX5_best 90 = .ok (.aload_n 0, 1) := by decide +kernel
theorem dX5_best_91 : decode cX5_best 91 = .ok (.getfield 29, 3) := by decide +kernel
theorem dX5_best_94 : decode cX5_best 94 = .ok (.getfield 160, 3) := by decide +kernel
theorem dX5_best_97 : decode cX5_best 97 = .ok (.iload_n 2, 1) := by decide +kernel
theorem dX5_best_98 : decode cX5_best 98 = .ok (.iaload, 1) := by decide +kernel
theorem dX5_best_99 : decode cX5_best 99 = .ok (.invokestatic 163, 3) := by decide +kernel
theorem dX5_best_102 : decode cX5_best 102 = .ok (.istore 8, 2) := by decide +kernel
theorem dX5_best_104 : decode cX5_best 104 = .ok (.iload 8, 2) := by decide +kernel
theorem dX5_best_106 : decode cX5_best 106 = .ok (.iload 5, 2) := by decide +kernel
theorem dX5_best_108 : decode cX5_best 108 = .ok (.if_icmp .le 11, 3) := by decide +kernel
theorem dX5_best_111 : decode cX5_best 111 = .ok (.iload 8, 2) := by decide +kernel
theorem dX5_best_113 : decode cX5_best 113 = .ok (.istore 5, 2) := by decide +kernel
theorem dX5_best_115 : decode cX5_best 115 = .ok (.iload 7, 2) := by decide +kernel
theorem dX5_best_117 : decode cX5_best 117 = .ok (.istore 6, 2) := by decide +kernel
theorem dX5_best_119 : decode cX5_best 119 = .ok (.iinc 7 1, 3) := by decide +kernel
theorem dX5_best_122 : decode cX5_best 122 = .ok (.goto (-74), 3) := by decide +kernel
theorem dX5_best_125 : decode cX5_best 125 = .ok (.iload 4, 2) := by decide +kernel
theorem dX5_best_127 : decode cX5_best 127 = .ok (.ifCond .ne 8, 3) := by decide +kernel
theorem dX5_best_130 : decode cX5_best 130 = .ok (.iload 6, 2) := by decide +kernel
theorem dX5_best_132 : decode cX5_best 132 = .ok (.goto 5, 3) := by decide +kernel
theorem dX5_best_135 : decode cX5_best 135 = .ok (.iload 5, 2) := by decide +kernel
theorem dX5_best_137 : decode cX5_best 137 = .ok (.ireturn, 1) := by decide +kernel
set_option maxRecDepth 20000 in
theorem ggX5_piece_X5_isWithin : GoodIn wsX5_piece wsX5_isWithin := goodIn_r _ [8] (by decide +kernel) (by decide +kernel)
set_option maxRecDepth 20000 in
theorem gX5_piece_X5_isWithin : GoodIn wsX5_piece (va_wsS RX5 183 yX5_isWithin wsX5_isWithin) := goodIn_app (goodIn_of _ (by decide +kernel)) ggX5_piece_X5_isWithin
set_option maxRecDepth 20000 in
theorem ggX5_piece_J6_bitCount_0f7a4 : GoodIn wsX5_piece wsJ6_bitCount_0f7a4 := goodIn_r _ [12, 13, 14, 15] (by decide +kernel) (by decide +kernel)
set_option maxRecDepth 20000 in
theorem gX5_piece_J6_bitCount_0f7a4 : GoodIn wsX5_piece (va_wsS RX5 163 yJ6_bitCount_0f7a4 wsJ6_bitCount_0f7a4) := goodIn_app (goodIn_of _ (by decide +kernel)) ggX5_piece_J6_bitCount_0f7a4
set_option maxRecDepth 20000 in
theorem ggX5_piece_X2_heardAtAny : GoodIn wsX5_piece wsX2_heardAtAny := goodIn_r _ [19, 20, 21, 36, 37, 38, 39, 40, 41, 42, 43, 44, 45, 46, 47] (by decide +kernel) (by decide +kernel)
set_option maxRecDepth 20000 in
theorem gX5_piece_X2_heardAtAny_n203 : GoodIn wsX5_piece (wsX2_heardAtAny) := ggX5_piece_X2_heardAtAny
set_option maxRecDepth 20000 in
theorem ggX5_piece_X2_allWords : GoodIn wsX5_piece wsX2_allWords := goodIn_r _ [24, 25, 36, 37, 38, 39, 40, 41, 42, 43, 44, 45, 46, 47] (by decide +kernel) (by decide +kernel)
set_option maxRecDepth 20000 in
theorem gX5_piece_X2_allWords_n200 : GoodIn wsX5_piece (wsX2_allWords) := ggX5_piece_X2_allWords
theorem dX5_piece_0 : decode cX5_piece 0 = .ok (.aload_n 0, 1) := by decide +kernel
theorem dX5_piece_1 : decode cX5_piece 1 = .ok (.getfield 25, 3) := by decide +kernel
theorem dX5_piece_4 : decode cX5_piece 4 = .ok (.getfield 128, 3) := by decide +kernel
theorem dX5_piece_7 : decode cX5_piece 7 = .ok (.ifCond .ne 6, 3) := by decide +kernel
theorem dX5_piece_10 : decode cX5_piece 10 = .ok (.ldc 131, 2) := by decide +kernel
theorem dX5_piece_12 : decode cX5_piece 12 = .ok (.ireturn, 1) := by decide +kernel
theorem dX5_piece_13 : decode cX5_piece 13 = .ok (.iload_n 1, 1) := by decide +kernel
theorem dX5_piece_14 : decode cX5_piece 14 = .ok (.iconst 0, 1) := by decide +kernel
theorem dX5_piece_15 : decode cX5_piece 15 = .ok (.iconst 1, 1) := by decide +kernel
theorem dX5_piece_16 : decode cX5_piece 16 = .ok (.invokestatic 183, 3) := by decide +kernel
theorem dX5_piece_19 : decode cX5_piece 19 = .ok (.ifCond .ne 6, 3) := by decide +kernel
theorem dX5_piece_22 : decode cX5_piece 22 = .ok (.ldc 59, 2) := by decide +kernel
theorem dX5_piece_24 : decode cX5_piece 24 = .ok (.ireturn, 1) := by decide +kernel
theorem dX5_piece_25 : decode cX5_piece 25 = .ok (.ldc 196, 2) := by decide +kernel
theorem dX5_piece_27 : decode cX5_piece 27 = .ok (.istore_n 2, 1) := by decide +kernel
theorem dX5_piece_28 : decode cX5_piece 28 = .ok (.ldc 196, 2) := by decide +kernel
theorem dX5_piece_30 : decode cX5_piece 30 = .ok (.istore_n 3, 1) := by decide +kernel
theorem dX5_piece_31 : decode cX5_piece 31 = .ok (.iconst 1, 1) := by decide +kernel
theorem dX5_piece_32 : decode cX5_piece 32 = .ok (.istore 4, 2) := by decide +kernel
theorem dX5_piece_34 : decode cX5_piece 34 = .ok (.iload 4, 2) := by decide +kernel
theorem dX5_piece_36 : decode cX5_piece 36 = .ok (.iconst 1, 1) := by decide +kernel
theorem dX5_piece_37 : decode cX5_piece 37 = .ok (.aload_n 0, 1) := by decide +kernel
theorem dX5_piece_38 : decode cX5_piece 38 = .ok (.getfield 25, 3) := by decide +kernel
theorem dX5_piece_41 : decode cX5_piece 41 = .ok (.getfield 193, 3) := by decide +kernel
theorem dX5_piece_44 : decode cX5_piece 44 = .ok (.ishl, 1) := by decide +kernel
theorem dX5_piece_45 : decode cX5_piece 45 = .ok (.if_icmp .ge 53, 3) := by decide +kernel
theorem dX5_piece_48 : decode cX5_piece 48 = .ok (.iload 4, 2) := by decide +kernel
theorem dX5_piece_50 : decode cX5_piece 50 = .ok (.invokestatic 163, 3) := by decide +kernel
theorem dX5_piece_53 : decode cX5_piece 53 = .ok (.istore 5, 2) := by decide +kernel
theorem dX5_piece_55 : decode cX5_piece 55 = .ok (.iload_n 2, 1) := by decide +kernel
theorem dX5_piece_56 : decode cX5_piece 56 = .ok (.ldc 196, 2) := by decide +kernel
theorem dX5_piece_58 : decode cX5_piece 58 = .ok (.if_icmp .eq 9, 3) := by decide +kernel
theorem dX5_piece_61 : decode cX5_piece 61 = .ok (.iload 5, 2) := by decide +kernel
theorem dX5_piece_63 : decode cX5_piece 63 = .ok (.iload_n 2, 1) := by decide +kernel
theorem dX5_piece_64 : decode cX5_piece 64 = .ok (.if_icmp .ge 28, 3) := by decide +kernel
theorem dX5_piece_67 : decode cX5_piece 67 = .ok (.aload_n 0, 1) := by decide +kernel
theorem dX5_piece_68 : decode cX5_piece 68 = .ok (.getfield 25, 3) := by decide +kernel
theorem dX5_piece_71 : decode cX5_piece 71 = .ok (.iload 4, 2) := by decide +kernel
theorem dX5_piece_73 : decode cX5_piece 73 = .ok (.invokevirtual 203, 3) := by decide +kernel
theorem dX5_piece_76 : decode cX5_piece 76 = .ok (.aload_n 0, 1) := by decide +kernel
theorem dX5_piece_77 : decode cX5_piece 77 = .ok (.getfield 25, 3) := by decide +kernel
theorem dX5_piece_80 : decode cX5_piece 80 = .ok (.invokevirtual 200, 3) := by decide +kernel
theorem dX5_piece_83 : decode cX5_piece 83 = .ok (.if_icmp .ne 9, 3) := by decide +kernel
theorem dX5_piece_86 : decode cX5_piece 86 = .ok (.iload 5, 2) := by decide +kernel
theorem dX5_piece_88 : decode cX5_piece 88 = .ok (.istore_n 2, 1) := by decide +kernel
theorem dX5_piece_89 : decode cX5_piece 89 = .ok (.iload 4, 2) := by decide +kernel
theorem dX5_piece_91 : decode cX5_piece 91 = .ok (.istore_n 3, 1) := by decide +kernel
theorem dX5_piece_92 : decode cX5_piece 92 = .ok (.iinc 4 1, 3) := by decide +kernel
theorem dX5_piece_95 : decode cX5_piece 95 = .ok (.goto (-61), 3) := by decide +kernel
theorem dX5_piece_98 : decode cX5_piece 98 = .ok (.iload_n 1, 1) := by decide +kernel
theorem dX5_piece_99 : decode cX5_piece 99 = .ok (.ifCond .ne 7, 3) := by decide +kernel
theorem dX5_piece_102 : decode cX5_piece 102 = .ok (.iload_n 2, 1) := by decide +kernel
theorem dX5_piece_103 : decode cX5_piece 103 = .ok (.goto 4, 3) := by decide +kernel
theorem dX5_piece_106 : decode cX5_piece 106 = .ok (.iload_n 3, 1) := by decide +kernel
theorem dX5_piece_107 : decode cX5_piece 107 = .ok (.ireturn, 1) := by decide +kernel
set_option maxRecDepth 20000 in
theorem ggX5_walk_X5_isStretch : GoodIn wsX5_walk wsX5_isStretch := goodIn_r _ [6, 7, 87, 88, 89, 90, 91, 92, 93, 94, 95, 96, 97, 98, 99, 100, 101, 102, 103, 104, 105, 106, 107, 108] (by decide +kernel) (by decide +kernel)
set_option maxRecDepth 20000 in
theorem gX5_walk_X5_isStretch : GoodIn wsX5_walk (wsV RX5 148 RX5 yX5_isStretch wsX5_isStretch) := goodIn_app (goodIn_of _ (by decide +kernel)) ggX5_walk_X5_isStretch
set_option maxRecDepth 20000 in
theorem ggX5_walk_X5_isWithin : GoodIn wsX5_walk wsX5_isWithin := goodIn_r _ [10] (by decide +kernel) (by decide +kernel)
set_option maxRecDepth 20000 in
theorem gX5_walk_X5_isWithin : GoodIn wsX5_walk (va_wsS RX5 183 yX5_isWithin wsX5_isWithin) := goodIn_app (goodIn_of _ (by decide +kernel)) ggX5_walk_X5_isWithin
set_option maxRecDepth 20000 in
theorem ggX5_walk_X5_foretellSayings : GoodIn wsX5_walk wsX5_foretellSayings := goodIn_r _ [14, 15, 16, 17, 18, 19, 5, 20, 7, 21, 22, 23, 24, 25, 26, 27, 28, 29, 30, 31, 32, 33, 34, 35, 36, 37, 38, 39, 40, 41, 42, 43, 44, 45, 46, 47, 48, 49, 50, 51, 52, 53, 54, 55, 56, 57, 58, 59, 60, 61, 62, 63, 64, 65, 66, 67, 68, 69, 70, 71, 72, 73, 74, 75, 87, 88, 89, 90, 91, 92, 93, 94, 95, 96, 97, 98, 99, 100, 101, 102, 103, 104, 105, 106, 107, 108] (by decide +kernel) (by decide +kernel)
set_option maxRecDepth 20000 in
theorem gX5_walk_X5_foretellSayings : GoodIn wsX5_walk (wsV RX5 212 RX5 yX5_foretellSayings wsX5_foretellSayings) := goodIn_app (goodIn_of _ (by decide +kernel)) ggX5_walk_X5_foretellSayings
set_option maxRecDepth 20000 in
theorem ggX5_walk_X5_heardOnWay : GoodIn wsX5_walk wsX5_heardOnWay := goodIn_r _ [79, 15, 16, 73, 22, 74, 75, 29, 87, 88, 89, 90, 91, 92, 93, 94, 95, 96, 97, 98, 99, 100, 101, 102, 103, 104, 105, 106, 107, 108] (by decide +kernel) (by decide +kernel)
set_option maxRecDepth 20000 in
theorem gX5_walk_X5_heardOnWay : GoodIn wsX5_walk (wsV RX5 215 RX5 yX5_heardOnWay wsX5_heardOnWay) := goodIn_app (goodIn_of _ (by decide +kernel)) ggX5_walk_X5_heardOnWay
set_option maxRecDepth 20000 in
theorem ggX5_walk_J6_bitCount_0f7a4 : GoodIn wsX5_walk wsJ6_bitCount_0f7a4 := goodIn_r _ [83, 84, 85, 86] (by decide +kernel) (by decide +kernel)
set_option maxRecDepth 20000 in
theorem gX5_walk_J6_bitCount_0f7a4 : GoodIn wsX5_walk (va_wsS RX5 163 yJ6_bitCount_0f7a4 wsJ6_bitCount_0f7a4) := goodIn_app (goodIn_of _ (by decide +kernel)) ggX5_walk_J6_bitCount_0f7a4
theorem dX5_walk_0 : decode cX5_walk 0 = .ok (.aload_n 0, 1) := by decide +kernel
theorem dX5_walk_1 : decode cX5_walk 1 = .ok (.iload_n 1, 1) := by decide +kernel
theorem dX5_walk_2 : decode cX5_walk 2 = .ok (.invokevirtual 148, 3) := by decide +kernel
theorem dX5_walk_5 : decode cX5_walk 5 = .ok (.ifCond .eq 22, 3) := by decide +kernel
theorem dX5_walk_8 : decode cX5_walk 8 = .ok (.iload_n 2, 1) := by decide +kernel
theorem dX5_walk_9 : decode cX5_walk 9 = .ok (.iconst 1, 1) := by decide +kernel
theorem dX5_walk_10 : decode cX5_walk 10 = .ok (.bipush 8, 2) := by decide +kernel
theorem dX5_walk_12 : decode cX5_walk 12 = .ok (.invokestatic 183, 3) := by decide +kernel
theorem dX5_walk_15 : decode cX5_walk 15 = .ok (.ifCond .eq 12, 3) := by decide +kernel
theorem dX5_walk_18 : decode cX5_walk 18 = .ok (.iload_n 3, 1) := by decide +kernel
theorem dX5_walk_19 : decode cX5_walk 19 = .ok (.iconst 0, 1) := by decide +kernel
theorem dX5_walk_20 : decode cX5_walk 20 = .ok (.iconst 1, 1) := by decide +kernel
theorem dX5_walk_21 : decode cX5_walk 21 = .ok (.invokestatic 183, 3) := by decide +kernel
theorem dX5_walk_24 : decode cX5_walk 24 = .ok (.ifCond .ne 6, 3) := by decide +kernel
theorem dX5_walk_27 : decode cX5_walk 27 = .ok (.ldc 59, 2) := by decide +kernel
theorem dX5_walk_29 : decode cX5_walk 29 = .ok (.ireturn, 1) := by decide +kernel
theorem dX5_walk_30 : decode cX5_walk 30 = .ok (.aload_n 0, 1) := by decide +kernel
theorem dX5_walk_31 : decode cX5_walk 31 = .ok (.iload_n 2, 1) := by decide +kernel
theorem dX5_walk_32 : decode cX5_walk 32 = .ok (.invokevirtual 212, 3) := by decide +kernel
theorem dX5_walk_35 : decode cX5_walk 35 = .ok (.iconst (-1), 1) := by decide +kernel
theorem dX5_walk_36 : decode cX5_walk 36 = .ok (.istore 4, 2) := by decide +kernel
theorem dX5_walk_38 : decode cX5_walk 38 = .ok (.iconst 0, 1) := by decide +kernel
theorem dX5_walk_39 : decode cX5_walk 39 = .ok (.istore 5, 2) := by decide +kernel
theorem dX5_walk_41 : decode cX5_walk 41 = .ok (.iconst 0, 1) := by decide +kernel
theorem dX5_walk_42 : decode cX5_walk 42 = .ok (.istore 6, 2) := by decide +kernel
theorem dX5_walk_44 : decode cX5_walk 44 = .ok (.iload 6, 2) := by decide +kernel
theorem dX5_walk_46 : decode cX5_walk 46 = .ok (.iconst 1, 1) := by decide +kernel
theorem dX5_walk_47 : decode cX5_walk 47 = .ok (.iload_n 2, 1) := by decide +kernel
theorem dX5_walk_48 : decode cX5_walk 48 = .ok (.ishl, 1) := by decide +kernel
theorem dX5_walk_49 : decode cX5_walk 49 = .ok (.if_icmp .ge 37, 3) := by decide +kernel
theorem dX5_walk_52 : decode cX5_walk 52 = .ok (.aload_n 0, 1) := by decide +kernel
theorem dX5_walk_53 : decode cX5_walk 53 = .ok (.iload_n 1, 1) := by decide +kernel
theorem dX5_walk_54 : decode cX5_walk 54 = .ok (.iload_n 2, 1) := by decide +kernel
theorem dX5_walk_55 : decode cX5_walk 55 = .ok (.iload 6, 2) := by decide +kernel
theorem dX5_walk_57 : decode cX5_walk 57 = .ok (.invokevirtual 215, 3) := by decide +kernel
theorem dX5_walk_60 : decode cX5_walk 60 = .ok (.invokestatic 163, 3) := by decide +kernel
theorem dX5_walk_63 : decode cX5_walk 63 = .ok (.istore 7, 2) := by decide +kernel
theorem dX5_walk_65 : decode cX5_walk 65 = .ok (.iload 7, 2) := by decide +kernel
theorem dX5_walk_67 : decode cX5_walk 67 = .ok (.iload 4, 2) := by decide +kernel
theorem dX5_walk_69 : decode cX5_walk 69 = .ok (.if_icmp .le 11, 3) := by decide +kernel
theorem dX5_walk_72 : decode cX5_walk 72 = .ok (.iload 7, 2) := by decide +kernel
theorem dX5_walk_74 : decode cX5_walk 74 = .ok (.istore 4, 2) := by decide +kernel
theorem dX5_walk_76 : decode cX5_walk 76 = .ok (.iload 6, 2) := by decide +kernel
theorem dX5_walk_78 : decode cX5_walk 78 = .ok (.istore 5, 2) := by decide +kernel
theorem dX5_walk_80 : decode cX5_walk 80 = .ok (.iinc 6 1, 3) := by decide +kernel
theorem dX5_walk_83 : decode cX5_walk 83 = .ok (.goto (-39), 3) := by decide +kernel
theorem dX5_walk_86 : decode cX5_walk 86 = .ok (.iload_n 3, 1) := by decide +kernel
theorem dX5_walk_87 : decode cX5_walk 87 = .ok (.ifCond .ne 8, 3) := by decide +kernel
theorem dX5_walk_90 : decode cX5_walk 90 = .ok (.iload 4, 2) := by decide +kernel
theorem dX5_walk_92 : decode cX5_walk 92 = .ok (.goto 5, 3) := by decide +kernel
theorem dX5_walk_95 : decode cX5_walk 95 = .ok (.iload 5, 2) := by decide +kernel
theorem dX5_walk_97 : decode cX5_walk 97 = .ok (.ireturn, 1) := by decide +kernel
set_option maxRecDepth 20000 in
theorem ggX5_fits_X5_isPulpit : GoodIn wsX5_fits wsX5_isPulpit := goodIn_r _ [9, 4, 94, 95, 96, 97, 98, 99, 100, 101, 102, 103, 108, 109, 110, 111, 112, 113, 114, 115, 116, 117, 118, 119] (by decide +kernel) (by decide +kernel)
set_option maxRecDepth 20000 in
theorem gX5_fits_X5_isPulpit : GoodIn wsX5_fits (wsV RX5 145 RX5 yX5_isPulpit wsX5_isPulpit) := goodIn_app (goodIn_of _ (by decide +kernel)) ggX5_fits_X5_isPulpit
set_option maxRecDepth 20000 in
theorem ggX5_fits_X5_isRow : GoodIn wsX5_fits wsX5_isRow := goodIn_r _ [12] (by decide +kernel) (by decide +kernel)
set_option maxRecDepth 20000 in
theorem gX5_fits_X5_isRow : GoodIn wsX5_fits (va_wsS RX5 55 yX5_isRow wsX5_isRow) := goodIn_app (goodIn_of _ (by decide +kernel)) ggX5_fits_X5_isRow
set_option maxRecDepth 20000 in
theorem ggX5_fits_X5_isWithin : GoodIn wsX5_fits wsX5_isWithin := goodIn_r _ [15] (by decide +kernel) (by decide +kernel)
set_option maxRecDepth 20000 in
theorem gX5_fits_X5_isWithin : GoodIn wsX5_fits (va_wsS RX5 183 yX5_isWithin wsX5_isWithin) := goodIn_app (goodIn_of _ (by decide +kernel)) ggX5_fits_X5_isWithin
set_option maxRecDepth 20000 in
theorem ggX5_fits_X5_found : GoodIn wsX5_fits wsX5_found := goodIn_r _ [19, 20, 21, 94, 95, 96, 97, 98, 99, 100, 101, 102, 103] (by decide +kernel) (by decide +kernel)
set_option maxRecDepth 20000 in
theorem gX5_fits_X5_found : GoodIn wsX5_fits (wsV RX5 60 RX5 yX5_found wsX5_found) := goodIn_app (goodIn_of _ (by decide +kernel)) ggX5_fits_X5_found
set_option maxRecDepth 20000 in
theorem ggX5_fits_X3_hasPlaces : GoodIn wsX5_fits wsX3_hasPlaces := goodIn_r _ [25, 26, 104, 105, 106, 107] (by decide +kernel) (by decide +kernel)
set_option maxRecDepth 20000 in
theorem gX5_fits_X3_hasPlaces_n75 : GoodIn wsX5_fits (wsX3_hasPlaces) := ggX5_fits_X3_hasPlaces
set_option maxRecDepth 20000 in
theorem ggX5_fits_X5_guessEnd : GoodIn wsX5_fits wsX5_guessEnd := goodIn_r _ [30, 4, 94, 95, 96, 97, 98, 99, 100, 101, 102, 103, 108, 109, 110, 111, 112, 113, 114, 115, 116, 117, 118, 119] (by decide +kernel) (by decide +kernel)
set_option maxRecDepth 20000 in
theorem gX5_fits_X5_guessEnd : GoodIn wsX5_fits (wsV RX5 219 RX5 yX5_guessEnd wsX5_guessEnd) := goodIn_app (goodIn_of _ (by decide +kernel)) ggX5_fits_X5_guessEnd
set_option maxRecDepth 20000 in
theorem ggX5_fits_X2_take : GoodIn wsX5_fits wsX2_take := goodIn_r _ [34, 35, 36, 37, 38, 39, 40, 41, 42, 43, 44, 45, 108, 109, 110, 111, 112, 113, 114, 115, 116, 117, 118, 119] (by decide +kernel) (by decide +kernel)
set_option maxRecDepth 20000 in
theorem gX5_fits_X2_take_n118 : GoodIn wsX5_fits (wsX2_take) := ggX5_fits_X2_take
set_option maxRecDepth 20000 in
theorem ggX5_fits_X5_suppose : GoodIn wsX5_fits wsX5_suppose := goodIn_r _ [49, 3, 94, 95, 96, 97, 98, 99, 100, 101, 102, 103, 108, 109, 110, 111, 112, 113, 114, 115, 116, 117, 118, 119] (by decide +kernel) (by decide +kernel)
set_option maxRecDepth 20000 in
theorem gX5_fits_X5_suppose : GoodIn wsX5_fits (wsV RX5 222 RX5 yX5_suppose wsX5_suppose) := goodIn_app (goodIn_of _ (by decide +kernel)) ggX5_fits_X5_suppose
set_option maxRecDepth 20000 in
theorem ggX5_fits_X5_goesAsTold : GoodIn wsX5_fits wsX5_goesAsTold := goodIn_r _ [53, 3, 54, 32, 55, 56, 39, 57, 40, 38, 58, 59, 60, 61, 44, 62, 63, 64, 65, 42, 45, 66, 67, 68, 69, 43, 41, 70, 71, 72, 73, 36, 74, 75, 76, 77, 78, 79, 80, 81, 37, 82, 83, 84, 85, 86, 87, 88, 89, 94, 95, 96, 97, 98, 99, 100, 101, 102, 103, 108, 109, 110, 111, 112, 113, 114, 115, 116, 117, 118, 119, 104, 105, 106, 107] (by decide +kernel) (by decide +kernel)
set_option maxRecDepth 20000 in
theorem gX5_fits_X5_goesAsTold : GoodIn wsX5_fits (wsV RX5 226 RX5 yX5_goesAsTold wsX5_goesAsTold) := goodIn_app (goodIn_of _ (by decide +kernel)) ggX5_fits_X5_goesAsTold
set_option maxRecDepth 20000 in
theorem ggX5_fits_X5_foundNothing : GoodIn wsX5_fits wsX5_foundNothing := goodIn_r _ [93, 20, 94, 95, 96, 97, 98, 99, 100, 101, 102, 103] (by decide +kernel) (by decide +kernel)
set_option maxRecDepth 20000 in
theorem gX5_fits_X5_foundNothing : GoodIn wsX5_fits (wsV RX5 68 RX5 yX5_foundNothing wsX5_foundNothing) := goodIn_app (goodIn_of _ (by decide +kernel)) ggX5_fits_X5_foundNothing
theorem dX5_fits_0 : decode cX5_fits 0 = .ok (.aload_n 0, 1) := by decide +kernel
theorem dX5_fits_1 : decode cX5_fits 1 = .ok (.iload_n 1, 1) := by decide +kernel
theorem dX5_fits_2 : decode cX5_fits 2 = .ok (.invokevirtual 145, 3) := by decide +kernel
theorem dX5_fits_5 : decode cX5_fits 5 = .ok (.ifCond .eq 31, 3) := by decide +kernel
theorem dX5_fits_8 : decode cX5_fits 8 = .ok (.iload_n 2, 1) := by decide +kernel
theorem dX5_fits_9 : decode cX5_fits 9 = .ok (.invokestatic 55, 3) := by decide +kernel
theorem dX5_fits_12 : decode cX5_fits 12 = .ok (.ifCond .eq 24, 3) := by decide +kernel
theorem dX5_fits_15 : decode cX5_fits 15 = .ok (.iload 4, 2) := by decide +kernel
theorem dX5_fits_17 : decode cX5_fits 17 = .ok (.iconst 1, 1) := by decide +kernel
theorem dX5_fits_18 : decode cX5_fits 18 = .ok (.bipush 12, 2) := by decide +kernel
theorem dX5_fits_20 : decode cX5_fits 20 = .ok (.invokestatic 183, 3) := by decide +kernel
theorem dX5_fits_23 : decode cX5_fits 23 = .ok (.ifCond .eq 13, 3) := by decide +kernel
theorem dX5_fits_26 : decode cX5_fits 26 = .ok (.iload 5, 2) := by decide +kernel
theorem dX5_fits_28 : decode cX5_fits 28 = .ok (.iconst 0, 1) := by decide +kernel
theorem dX5_fits_29 : decode cX5_fits 29 = .ok (.iconst 3, 1) := by decide +kernel
theorem dX5_fits_30 : decode cX5_fits 30 = .ok (.invokestatic 183, 3) := by decide +kernel
theorem dX5_fits_33 : decode cX5_fits 33 = .ok (.ifCond .ne 6, 3) := by decide +kernel
theorem dX5_fits_36 : decode cX5_fits 36 = .ok (.ldc 59, 2) := by decide +kernel
theorem dX5_fits_38 : decode cX5_fits 38 = .ok (.ireturn, 1) := by decide +kernel
theorem dX5_fits_39 : decode cX5_fits 39 = .ok (.aload_n 0, 1) := by decide +kernel
theorem dX5_fits_40 : decode cX5_fits 40 = .ok (.getfield 11, 3) := by decide +kernel
theorem dX5_fits_43 : decode cX5_fits 43 = .ok (.iload_n 2, 1) := by decide +kernel
theorem dX5_fits_44 : decode cX5_fits 44 = .ok (.aaload, 1) := by decide +kernel
theorem dX5_fits_45 : decode cX5_fits 45 = .ok (.astore 6, 2) := by decide +kernel
theorem dX5_fits_47 : decode cX5_fits 47 = .ok (.aload 6, 2) := by decide +kernel
theorem dX5_fits_49 : decode cX5_fits 49 = .ok (.getfield 71, 3) := by decide +kernel
theorem dX5_fits_52 : decode cX5_fits 52 = .ok (.ifCond .eq 9, 3) := by decide +kernel
theorem dX5_fits_55 : decode cX5_fits 55 = .ok (.aload_n 0, 1) := by decide +kernel
theorem dX5_fits_56 : decode cX5_fits 56 = .ok (.iconst 1, 1) := by decide +kernel
theorem dX5_fits_57 : decode cX5_fits 57 = .ok (.invokevirtual 60, 3) := by decide +kernel
theorem dX5_fits_60 : decode cX5_fits 60 = .ok (.ireturn, 1) := by decide +kernel
theorem dX5_fits_61 : decode cX5_fits 61 = .ok (.aload 6, 2) := by decide +kernel
theorem dX5_fits_63 : decode cX5_fits 63 = .ok (.iload_n 3, 1) := by decide +kernel
theorem dX5_fits_64 : decode cX5_fits 64 = .ok (.iload 4, 2) := by decide +kernel
theorem dX5_fits_66 : decode cX5_fits 66 = .ok (.invokevirtual 75, 3) := by decide +kernel
theorem dX5_fits_69 : decode cX5_fits 69 = .ok (.ifCond .ne 9, 3) := by decide +kernel
theorem dX5_fits_72 : decode cX5_fits 72 = .ok (.aload_n 0, 1) := by decide +kernel
theorem dX5_fits_73 : decode cX5_fits 73 = .ok (.iconst 2, 1) := by decide +kernel
theorem dX5_fits_74 : decode cX5_fits 74 = .ok (.invokevirtual 60, 3) := by decide +kernel
theorem dX5_fits_77 : decode cX5_fits 77 = .ok (.ireturn, 1) := by decide +kernel
theorem dX5_fits_78 : decode cX5_fits 78 = .ok (.iconst 0, 1) := by decide +kernel
theorem dX5_fits_79 : decode cX5_fits 79 = .ok (.istore 7, 2) := by decide +kernel
theorem dX5_fits_81 : decode cX5_fits 81 = .ok (.aload_n 0, 1) := by decide +kernel
theorem dX5_fits_82 : decode cX5_fits 82 = .ok (.iload 5, 2) := by decide +kernel
theorem dX5_fits_84 : decode cX5_fits 84 = .ok (.invokevirtual 219, 3) := by decide +kernel
theorem dX5_fits_87 : decode cX5_fits 87 = .ok (.istore 8, 2) := by decide +kernel
theorem dX5_fits_89 : decode cX5_fits 89 = .ok (.iload 5, 2) := by decide +kernel
theorem dX5_fits_91 : decode cX5_fits 91 = .ok (.ifCond .ne 7, 3) := by decide +kernel
theorem dX5_fits_94 : decode cX5_fits 94 = .ok (.iconst 1, 1) := by decide +kernel
theorem dX5_fits_95 : decode cX5_fits 95 = .ok (.goto 4, 3) := by decide +kernel
theorem dX5_fits_98 : decode cX5_fits 98 = .ok (.iconst 0, 1) := by decide +kernel
theorem dX5_fits_99 : decode cX5_fits 99 = .ok (.istore 9, 2) := by decide +kernel
theorem dX5_fits_101 : decode cX5_fits 101 = .ok (.iload 9, 2) := by decide +kernel
theorem dX5_fits_103 : decode cX5_fits 103 = .ok (.iload 8, 2) := by decide +kernel
theorem dX5_fits_105 : decode cX5_fits 105 = .ok (.if_icmp .ge 51, 3) := by decide +kernel
theorem dX5_fits_108 : decode cX5_fits 108 = .ok (.aload_n 0, 1) := by decide +kernel
theorem dX5_fits_109 : decode cX5_fits 109 = .ok (.getfield 29, 3) := by decide +kernel
theorem dX5_fits_112 : decode cX5_fits 112 = .ok (.aload_n 0, 1) := by decide +kernel
theorem dX5_fits_113 : decode cX5_fits 113 = .ok (.getfield 25, 3) := by decide +kernel
theorem dX5_fits_116 : decode cX5_fits 116 = .ok (.invokevirtual 118, 3) := by decide +kernel
theorem dX5_fits_119 : decode cX5_fits 119 = .ok (.aload_n 0, 1) := by decide +kernel
theorem dX5_fits_120 : decode cX5_fits 120 = .ok (.iload_n 1, 1) := by decide +kernel
theorem dX5_fits_121 : decode cX5_fits 121 = .ok (.iload 5, 2) := by decide +kernel
theorem dX5_fits_123 : decode cX5_fits 123 = .ok (.iload 9, 2) := by decide +kernel
theorem dX5_fits_125 : decode cX5_fits 125 = .ok (.invokevirtual 222, 3) := by decide +kernel
theorem dX5_fits_128 : decode cX5_fits 128 = .ok (.aload_n 0, 1) := by decide +kernel
theorem dX5_fits_129 : decode cX5_fits 129 = .ok (.iload_n 1, 1) := by decide +kernel
theorem dX5_fits_130 : decode cX5_fits 130 = .ok (.aload 6, 2) := by decide +kernel
theorem dX5_fits_132 : decode cX5_fits 132 = .ok (.iload_n 3, 1) := by decide +kernel
theorem dX5_fits_133 : decode cX5_fits 133 = .ok (.iload 4, 2) := by decide +kernel
theorem dX5_fits_135 : decode cX5_fits 135 = .ok (.invokevirtual 226, 3) := by decide +kernel
theorem dX5_fits_138 : decode cX5_fits 138 = .ok (.ifCond .eq 12, 3) := by decide +kernel
theorem dX5_fits_141 : decode cX5_fits 141 = .ok (.iload 7, 2) := by decide +kernel
theorem dX5_fits_143 : decode cX5_fits 143 = .ok (.iconst 1, 1) := by decide +kernel
theorem dX5_fits_144 : decode cX5_fits 144 = .ok (.iload 9, 2) := by decide +kernel
theorem dX5_fits_146 : decode cX5_fits 146 = .ok (.ishl, 1) := by decide +kernel
theorem dX5_fits_147 : decode cX5_fits 147 = .ok (.ior, 1) := by decide +kernel
theorem dX5_fits_148 : decode cX5_fits 148 = .ok (.istore 7, 2) := by decide +kernel
theorem dX5_fits_150 : decode cX5_fits 150 = .ok (.iinc 9 1, 3) := by decide +kernel
theorem dX5_fits_153 : decode cX5_fits 153 = .ok (.goto (-52), 3) := by decide +kernel
theorem dX5_fits_156 : decode cX5_fits 156 = .ok (.aload_n 0, 1) := by decide +kernel
theorem dX5_fits_157 : decode cX5_fits 157 = .ok (.iload 7, 2) := by decide +kernel
theorem dX5_fits_159 : decode cX5_fits 159 = .ok (.invokevirtual 68, 3) := by decide +kernel
theorem dX5_fits_162 : decode cX5_fits 162 = .ok (.ireturn, 1) := by decide +kernel
set_option maxRecDepth 20000 in
theorem ggX5_axles_X5_isStretch : GoodIn wsX5_axles wsX5_isStretch := goodIn_r _ [6, 7, 39, 40, 41, 42, 43, 44, 45, 46, 47, 48, 49, 50, 51, 52, 53, 54, 55, 56, 57, 58, 59, 60] (by decide +kernel) (by decide +kernel)
set_option maxRecDepth 20000 in
theorem gX5_axles_X5_isStretch : GoodIn wsX5_axles (wsV RX5 148 RX5 yX5_isStretch wsX5_isStretch) := goodIn_app (goodIn_of _ (by decide +kernel)) ggX5_axles_X5_isStretch
set_option maxRecDepth 20000 in
theorem ggX5_axles_X5_isWord : GoodIn wsX5_axles wsX5_isWord := goodIn_r _ [11, 7, 39, 40, 41, 42, 43, 44, 45, 46, 47, 48, 49, 50, 51, 52, 53, 54, 55, 56, 57, 58, 59, 60] (by decide +kernel) (by decide +kernel)
set_option maxRecDepth 20000 in
theorem gX5_axles_X5_isWord : GoodIn wsX5_axles (wsV RX5 154 RX5 yX5_isWord wsX5_isWord) := goodIn_app (goodIn_of _ (by decide +kernel)) ggX5_axles_X5_isWord
set_option maxRecDepth 20000 in
theorem ggX5_axles_X5_isWithin : GoodIn wsX5_axles wsX5_isWithin := goodIn_r _ [14] (by decide +kernel) (by decide +kernel)
set_option maxRecDepth 20000 in
theorem gX5_axles_X5_isWithin : GoodIn wsX5_axles (va_wsS RX5 183 yX5_isWithin wsX5_isWithin) := goodIn_app (goodIn_of _ (by decide +kernel)) ggX5_axles_X5_isWithin
set_option maxRecDepth 20000 in
theorem ggX5_axles_X5_tenthsOfHearing : GoodIn wsX5_axles wsX5_tenthsOfHearing := goodIn_r _ [18, 7, 19, 20, 21, 22, 23, 24, 25, 26, 27, 28, 29, 30, 31, 32, 33, 34, 35, 39, 40, 41, 42, 43, 44, 45, 46, 47, 48, 49, 50, 51, 52, 53, 54, 55, 56, 57, 58, 59, 60] (by decide +kernel) (by decide +kernel)
set_option maxRecDepth 20000 in
theorem gX5_axles_X5_tenthsOfHearing : GoodIn wsX5_axles (wsV RX5 230 RX5 yX5_tenthsOfHearing wsX5_tenthsOfHearing) := goodIn_app (goodIn_of _ (by decide +kernel)) ggX5_axles_X5_tenthsOfHearing
set_option maxRecDepth 20000 in
theorem ggX5_axles_X5_commonDivisor : GoodIn wsX5_axles wsX5_commonDivisor := goodIn_r _ [38] (by decide +kernel) (by decide +kernel)
set_option maxRecDepth 20000 in
theorem gX5_axles_X5_commonDivisor : GoodIn wsX5_axles (va_wsS RX5 233 yX5_commonDivisor wsX5_commonDivisor) := goodIn_app (goodIn_of _ (by decide +kernel)) ggX5_axles_X5_commonDivisor
theorem dX5_axles_0 : decode cX5_axles 0 = .ok (.aload_n 0, 1) := by decide +kernel
theorem dX5_axles_1 : decode cX5_axles 1 = .ok (.iload_n 1, 1) := by decide +kernel
theorem dX5_axles_2 : decode cX5_axles 2 = .ok (.invokevirtual 148, 3) := by decide +kernel
theorem dX5_axles_5 : decode cX5_axles 5 = .ok (.ifCond .eq 31, 3) := by decide +kernel
theorem dX5_axles_8 : decode cX5_axles 8 = .ok (.aload_n 0, 1) := by decide +kernel
theorem dX5_axles_9 : decode cX5_axles 9 = .ok (.iload_n 2, 1) := by decide +kernel
theorem dX5_axles_10 : decode cX5_axles 10 = .ok (.invokevirtual 154, 3) := by decide +kernel
theorem dX5_axles_13 : decode cX5_axles 13 = .ok (.ifCond .eq 23, 3) := by decide +kernel
theorem dX5_axles_16 : decode cX5_axles 16 = .ok (.iload_n 3, 1) := by decide +kernel
theorem dX5_axles_17 : decode cX5_axles 17 = .ok (.iconst 0, 1) := by decide +kernel
theorem dX5_axles_18 : decode cX5_axles 18 = .ok (.bipush 10, 2) := by decide +kernel
theorem dX5_axles_20 : decode cX5_axles 20 = .ok (.invokestatic 183, 3) := by decide +kernel
theorem dX5_axles_23 : decode cX5_axles 23 = .ok (.ifCond .eq 13, 3) := by decide +kernel
theorem dX5_axles_26 : decode cX5_axles 26 = .ok (.iload 4, 2) := by decide +kernel
theorem dX5_axles_28 : decode cX5_axles 28 = .ok (.iconst 0, 1) := by decide +kernel
theorem dX5_axles_29 : decode cX5_axles 29 = .ok (.iconst 1, 1) := by decide +kernel
theorem dX5_axles_30 : decode cX5_axles 30 = .ok (.invokestatic 183, 3) := by decide +kernel
theorem dX5_axles_33 : decode cX5_axles 33 = .ok (.ifCond .ne 6, 3) := by decide +kernel
theorem dX5_axles_36 : decode cX5_axles 36 = .ok (.ldc 59, 2) := by decide +kernel
theorem dX5_axles_38 : decode cX5_axles 38 = .ok (.ireturn, 1) := by decide +kernel
theorem dX5_axles_39 : decode cX5_axles 39 = .ok (.aload_n 0, 1) := by decide +kernel
theorem dX5_axles_40 : decode cX5_axles 40 = .ok (.iload_n 1, 1) := by decide +kernel
theorem dX5_axles_41 : decode cX5_axles 41 = .ok (.iload_n 2, 1) := by decide +kernel
theorem dX5_axles_42 : decode cX5_axles 42 = .ok (.iload_n 3, 1) := by decide +kernel
theorem dX5_axles_43 : decode cX5_axles 43 = .ok (.invokevirtual 230, 3) := by decide +kernel
theorem dX5_axles_46 : decode cX5_axles 46 = .ok (.istore 5, 2) := by decide +kernel
theorem dX5_axles_48 : decode cX5_axles 48 = .ok (.iload 5, 2) := by decide +kernel
theorem dX5_axles_50 : decode cX5_axles 50 = .ok (.bipush 10, 2) := by decide +kernel
theorem dX5_axles_52 : decode cX5_axles 52 = .ok (.invokestatic 233, 3) := by decide +kernel
theorem dX5_axles_55 : decode cX5_axles 55 = .ok (.istore 6, 2) := by decide +kernel
theorem dX5_axles_57 : decode cX5_axles 57 = .ok (.iload 4, 2) := by decide +kernel
theorem dX5_axles_59 : decode cX5_axles 59 = .ok (.ifCond .ne 8, 3) := by decide +kernel
theorem dX5_axles_62 : decode cX5_axles 62 = .ok (.iload 5, 2) := by decide +kernel
theorem dX5_axles_64 : decode cX5_axles 64 = .ok (.goto 5, 3) := by decide +kernel
theorem dX5_axles_67 : decode cX5_axles 67 = .ok (.bipush 10, 2) := by decide +kernel
theorem dX5_axles_69 : decode cX5_axles 69 = .ok (.iload 6, 2) := by decide +kernel
theorem dX5_axles_71 : decode cX5_axles 71 = .ok (.idiv, 1) := by decide +kernel
theorem dX5_axles_72 : decode cX5_axles 72 = .ok (.ireturn, 1) := by decide +kernel
set_option maxRecDepth 20000 in
theorem ggX5_drawn_X5_isWithin : GoodIn wsX5_drawn wsX5_isWithin := goodIn_r _ [11] (by decide +kernel) (by decide +kernel)
set_option maxRecDepth 20000 in
theorem gX5_drawn_X5_isWithin : GoodIn wsX5_drawn (va_wsS RX5 183 yX5_isWithin wsX5_isWithin) := goodIn_app (goodIn_of _ (by decide +kernel)) ggX5_drawn_X5_isWithin
set_option maxRecDepth 20000 in
theorem ggX5_drawn_X5_foretell : GoodIn wsX5_drawn wsX5_foretell := goodIn_r _ [15, 7, 1, 16, 17, 18, 19, 20, 21, 22, 23, 24, 25, 26, 27, 28, 29, 30, 31, 32, 33, 34, 35, 36, 37, 38, 39, 40, 41, 42, 43, 44, 45, 46, 47, 48, 49, 50, 51, 52, 53, 54, 55, 56, 57, 58, 59, 60, 61, 62, 63, 64, 65, 66, 67, 68, 69, 70, 94, 95, 96, 97, 98, 99, 100, 101, 102, 103, 104, 105, 106, 107, 108, 109, 110, 111, 112, 113, 114, 115] (by decide +kernel) (by decide +kernel)
set_option maxRecDepth 20000 in
theorem gX5_drawn_X5_foretell : GoodIn wsX5_drawn (wsV RX5 187 RX5 yX5_foretell wsX5_foretell) := goodIn_app (goodIn_of _ (by decide +kernel)) ggX5_drawn_X5_foretell
set_option maxRecDepth 20000 in
theorem ggX5_drawn_X5_putByDraw : GoodIn wsX5_drawn wsX5_putByDraw := goodIn_r _ [74, 75, 7, 94, 95, 96, 97, 98, 99, 100, 101, 102, 103, 104, 105, 106, 107, 108, 109, 110, 111, 112, 113, 114, 115] (by decide +kernel) (by decide +kernel)
set_option maxRecDepth 20000 in
theorem gX5_drawn_X5_putByDraw : GoodIn wsX5_drawn (wsV RX5 242 RX5 yX5_putByDraw wsX5_putByDraw) := goodIn_app (goodIn_of _ (by decide +kernel)) ggX5_drawn_X5_putByDraw
set_option maxRecDepth 20000 in
theorem ggX5_drawn_X2_goHour : GoodIn wsX5_drawn wsX2_goHour := goodIn_r _ [37, 24, 38, 25, 23, 39, 40, 41, 17, 42, 29, 43, 44, 45, 46, 27, 30, 47, 48, 49, 50, 28, 26, 51, 52, 53, 54, 21, 55, 56, 57, 58, 59, 60, 61, 62, 22, 63, 64, 65, 66, 67, 68, 69, 70, 104, 105, 106, 107, 108, 109, 110, 111, 112, 113, 114, 115] (by decide +kernel) (by decide +kernel)
set_option maxRecDepth 20000 in
theorem gX5_drawn_X2_goHour_n138 : GoodIn wsX5_drawn (wsX2_goHour) := ggX5_drawn_X2_goHour
set_option maxRecDepth 20000 in
theorem ggX5_drawn_X2_wordsHeard : GoodIn wsX5_drawn wsX2_wordsHeard := goodIn_r _ [78, 24, 27, 79, 80, 81, 82, 83, 84, 85, 104, 105, 106, 107, 108, 109, 110, 111, 112, 113, 114, 115] (by decide +kernel) (by decide +kernel)
set_option maxRecDepth 20000 in
theorem gX5_drawn_X2_wordsHeard_n246 : GoodIn wsX5_drawn (wsX2_wordsHeard) := ggX5_drawn_X2_wordsHeard
set_option maxRecDepth 20000 in
theorem ggX5_drawn_X2_wholeGates : GoodIn wsX5_drawn wsX2_wholeGates := goodIn_r _ [88, 24, 27, 89, 90, 91, 17, 92, 21, 104, 105, 106, 107, 108, 109, 110, 111, 112, 113, 114, 115] (by decide +kernel) (by decide +kernel)
set_option maxRecDepth 20000 in
theorem gX5_drawn_X2_wholeGates_n141 : GoodIn wsX5_drawn (wsX2_wholeGates) := ggX5_drawn_X2_wholeGates
set_option maxRecDepth 20000 in
theorem ggX5_drawn_J6_bitCount_0f7a4 : GoodIn wsX5_drawn wsJ6_bitCount_0f7a4 := goodIn_r _ [82, 83, 84, 85] (by decide +kernel) (by decide +kernel)
set_option maxRecDepth 20000 in
theorem gX5_drawn_J6_bitCount_0f7a4 : GoodIn wsX5_drawn (va_wsS RX5 163 yJ6_bitCount_0f7a4 wsJ6_bitCount_0f7a4) := goodIn_app (goodIn_of _ (by decide +kernel)) ggX5_drawn_J6_bitCount_0f7a4
theorem dX5_drawn_0 : decode cX5_drawn 0 = .ok (.aload_n 0, 1) := by decide +kernel
theorem dX5_drawn_1 : decode cX5_drawn 1 = .ok (.getfield 25, 3) := by decide +kernel
theorem dX5_drawn_4 : decode cX5_drawn 4 = .ok (.getfield 128, 3) := by decide +kernel
theorem dX5_drawn_7 : decode cX5_drawn 7 = .ok (.ifCond .ne 6, 3) := by decide +kernel
theorem dX5_drawn_10 : decode cX5_drawn 10 = .ok (.ldc 131, 2) := by decide +kernel
theorem dX5_drawn_12 : decode cX5_drawn 12 = .ok (.ireturn, 1) := by decide +kernel
theorem dX5_drawn_13 : decode cX5_drawn 13 = .ok (.iload_n 1, 1) := by decide +kernel
theorem dX5_drawn_14 : decode cX5_drawn 14 = .ok (.iconst 0, 1) := by decide +kernel
theorem dX5_drawn_15 : decode cX5_drawn 15 = .ok (.bipush 60, 2) := by decide +kernel
theorem dX5_drawn_17 : decode cX5_drawn 17 = .ok (.invokestatic 183, 3) := by decide +kernel
theorem dX5_drawn_20 : decode cX5_drawn 20 = .ok (.ifCond .eq 22, 3) := by decide +kernel
theorem dX5_drawn_23 : decode cX5_drawn 23 = .ok (.iload_n 2, 1) := by decide +kernel
theorem dX5_drawn_24 : decode cX5_drawn 24 = .ok (.iconst 1, 1) := by decide +kernel
theorem dX5_drawn_25 : decode cX5_drawn 25 = .ok (.ldc 237, 2) := by decide +kernel
theorem dX5_drawn_27 : decode cX5_drawn 27 = .ok (.invokestatic 183, 3) := by decide +kernel
theorem dX5_drawn_30 : decode cX5_drawn 30 = .ok (.ifCond .eq 12, 3) := by decide +kernel
theorem dX5_drawn_33 : decode cX5_drawn 33 = .ok (.iload_n 3, 1) := by decide +kernel
theorem dX5_drawn_34 : decode cX5_drawn 34 = .ok (.iconst 0, 1) := by decide +kernel
theorem dX5_drawn_35 : decode cX5_drawn 35 = .ok (.iconst 1, 1) := by decide +kernel
theorem dX5_drawn_36 : decode cX5_drawn 36 = .ok (.invokestatic 183, 3) := by decide +kernel
theorem dX5_drawn_39 : decode cX5_drawn 39 = .ok (.ifCond .ne 6, 3) := by decide +kernel
theorem dX5_drawn_42 : decode cX5_drawn 42 = .ok (.ldc 59, 2) := by decide +kernel
theorem dX5_drawn_44 : decode cX5_drawn 44 = .ok (.ireturn, 1) := by decide +kernel
theorem dX5_drawn_45 : decode cX5_drawn 45 = .ok (.aload_n 0, 1) := by decide +kernel
theorem dX5_drawn_46 : decode cX5_drawn 46 = .ok (.iconst 0, 1) := by decide +kernel
theorem dX5_drawn_47 : decode cX5_drawn 47 = .ok (.invokevirtual 187, 3) := by decide +kernel
theorem dX5_drawn_50 : decode cX5_drawn 50 = .ok (.iload_n 2, 1) := by decide +kernel
theorem dX5_drawn_51 : decode cX5_drawn 51 = .ok (.i2l, 1) := by decide +kernel
theorem dX5_drawn_52 : decode cX5_drawn 52 = .ok (.lstore 4, 2) := by decide +kernel
theorem dX5_drawn_54 : decode cX5_drawn 54 = .ok (.iconst 0, 1) := by decide +kernel
theorem dX5_drawn_55 : decode cX5_drawn 55 = .ok (.istore 6, 2) := by decide +kernel
theorem dX5_drawn_57 : decode cX5_drawn 57 = .ok (.iload 6, 2) := by decide +kernel
theorem dX5_drawn_59 : decode cX5_drawn 59 = .ok (.iload_n 1, 1) := by decide +kernel
theorem dX5_drawn_60 : decode cX5_drawn 60 = .ok (.if_icmp .ge 34, 3) := by decide +kernel
theorem dX5_drawn_63 : decode cX5_drawn 63 = .ok (.lload 4, 2) := by decide +kernel
theorem dX5_drawn_65 : decode cX5_drawn 65 = .ok (.ldc2_w 238, 3) := by decide +kernel
theorem dX5_drawn_68 : decode cX5_drawn 68 = .ok (.lmul, 1) := by decide +kernel
theorem dX5_drawn_69 : decode cX5_drawn 69 = .ok (.ldc2_w 240, 3) := by decide +kernel
theorem dX5_drawn_72 : decode cX5_drawn 72 = .ok (.lrem, 1) := by decide +kernel
theorem dX5_drawn_73 : decode cX5_drawn 73 = .ok (.lstore 4, 2) := by decide +kernel
theorem dX5_drawn_75 : decode cX5_drawn 75 = .ok (.aload_n 0, 1) := by decide +kernel
theorem dX5_drawn_76 : decode cX5_drawn 76 = .ok (.lload 4, 2) := by decide +kernel
theorem dX5_drawn_78 : decode cX5_drawn 78 = .ok (.invokevirtual 242, 3) := by decide +kernel
theorem dX5_drawn_81 : decode cX5_drawn 81 = .ok (.aload_n 0, 1) := by decide +kernel
theorem dX5_drawn_82 : decode cX5_drawn 82 = .ok (.getfield 29, 3) := by decide +kernel
theorem dX5_drawn_85 : decode cX5_drawn 85 = .ok (.invokevirtual 138, 3) := by decide +kernel
theorem dX5_drawn_88 : decode cX5_drawn 88 = .ok (.iinc 6 1, 3) := by decide +kernel
theorem dX5_drawn_91 : decode cX5_drawn 91 = .ok (.goto (-34), 3) := by decide +kernel
theorem dX5_drawn_94 : decode cX5_drawn 94 = .ok (.iload_n 3, 1) := by decide +kernel
theorem dX5_drawn_95 : decode cX5_drawn 95 = .ok (.ifCond .ne 13, 3) := by decide +kernel
theorem dX5_drawn_98 : decode cX5_drawn 98 = .ok (.aload_n 0, 1) := by decide +kernel
theorem dX5_drawn_99 : decode cX5_drawn 99 = .ok (.getfield 29, 3) := by decide +kernel
theorem dX5_drawn_102 : decode cX5_drawn 102 = .ok (.invokevirtual 246, 3) := by decide +kernel
theorem dX5_drawn_105 : decode cX5_drawn 105 = .ok (.goto 13, 3) := by decide +kernel
theorem dX5_drawn_108 : decode cX5_drawn 108 = .ok (.aload_n 0, 1) := by decide +kernel
theorem dX5_drawn_109 : decode cX5_drawn 109 = .ok (.getfield 29, 3) := by decide +kernel
theorem dX5_drawn_112 : decode cX5_drawn 112 = .ok (.invokevirtual 141, 3) := by decide +kernel
theorem dX5_drawn_115 : decode cX5_drawn 115 = .ok (.invokestatic 163, 3) := by decide +kernel
theorem dX5_drawn_118 : decode cX5_drawn 118 = .ok (.ireturn, 1) := by decide +kernel
set_option maxRecDepth 20000 in
theorem ggX5_image_X5_isWithin : GoodIn wsX5_image wsX5_isWithin := goodIn_r _ [8] (by decide +kernel) (by decide +kernel)
set_option maxRecDepth 20000 in
theorem gX5_image_X5_isWithin : GoodIn wsX5_image (va_wsS RX5 183 yX5_isWithin wsX5_isWithin) := goodIn_app (goodIn_of _ (by decide +kernel)) ggX5_image_X5_isWithin
set_option maxRecDepth 20000 in
theorem ggX5_image_X2_take : GoodIn wsX5_image wsX2_take := goodIn_r _ [12, 13, 14, 15, 16, 17, 18, 19, 20, 21, 22, 23, 34, 35, 36, 37, 38, 39, 40, 41, 42, 43, 44, 45] (by decide +kernel) (by decide +kernel)
set_option maxRecDepth 20000 in
theorem gX5_image_X2_take_n118 : GoodIn wsX5_image (wsX2_take) := ggX5_image_X2_take
theorem dX5_image_0 : decode cX5_image 0 = .ok (.iload_n 1, 1) := by decide +kernel
theorem dX5_image_1 : decode cX5_image 1 = .ok (.iconst 0, 1) := by decide +kernel
theorem dX5_image_2 : decode cX5_image 2 = .ok (.iconst 1, 1) := by decide +kernel
theorem dX5_image_3 : decode cX5_image 3 = .ok (.invokestatic 183, 3) := by decide +kernel
theorem dX5_image_6 : decode cX5_image 6 = .ok (.ifCond .ne 6, 3) := by decide +kernel
theorem dX5_image_9 : decode cX5_image 9 = .ok (.ldc 59, 2) := by decide +kernel
theorem dX5_image_11 : decode cX5_image 11 = .ok (.ireturn, 1) := by decide +kernel
theorem dX5_image_12 : decode cX5_image 12 = .ok (.aload_n 0, 1) := by decide +kernel
theorem dX5_image_13 : decode cX5_image 13 = .ok (.getfield 25, 3) := by decide +kernel
theorem dX5_image_16 : decode cX5_image 16 = .ok (.getfield 128, 3) := by decide +kernel
theorem dX5_image_19 : decode cX5_image 19 = .ok (.ifCond .ne 6, 3) := by decide +kernel
theorem dX5_image_22 : decode cX5_image 22 = .ok (.ldc 131, 2) := by decide +kernel
theorem dX5_image_24 : decode cX5_image 24 = .ok (.ireturn, 1) := by decide +kernel
theorem dX5_image_25 : decode cX5_image 25 = .ok (.aload_n 0, 1) := by decide +kernel
theorem dX5_image_26 : decode cX5_image 26 = .ok (.getfield 36, 3) := by decide +kernel
theorem dX5_image_29 : decode cX5_image 29 = .ok (.iload_n 1, 1) := by decide +kernel
theorem dX5_image_30 : decode cX5_image 30 = .ok (.aaload, 1) := by decide +kernel
theorem dX5_image_31 : decode cX5_image 31 = .ok (.aload_n 0, 1) := by decide +kernel
theorem dX5_image_32 : decode cX5_image 32 = .ok (.getfield 25, 3) := by decide +kernel
theorem dX5_image_35 : decode cX5_image 35 = .ok (.invokevirtual 118, 3) := by decide +kernel
theorem dX5_image_38 : decode cX5_image 38 = .ok (.iconst 1, 1) := by decide +kernel
theorem dX5_image_39 : decode cX5_image 39 = .ok (.ireturn, 1) := by decide +kernel
set_option maxRecDepth 20000 in
theorem ggX5_restore_X5_isWithin : GoodIn wsX5_restore wsX5_isWithin := goodIn_r _ [9] (by decide +kernel) (by decide +kernel)
set_option maxRecDepth 20000 in
theorem gX5_restore_X5_isWithin : GoodIn wsX5_restore (va_wsS RX5 183 yX5_isWithin wsX5_isWithin) := goodIn_app (goodIn_of _ (by decide +kernel)) ggX5_restore_X5_isWithin
set_option maxRecDepth 20000 in
theorem ggX5_restore_X2_take : GoodIn wsX5_restore wsX2_take := goodIn_r _ [13, 14, 15, 16, 17, 18, 19, 20, 21, 22, 23, 24, 35, 36, 37, 38, 39, 40, 41, 42, 43, 44, 45, 46] (by decide +kernel) (by decide +kernel)
set_option maxRecDepth 20000 in
theorem gX5_restore_X2_take_n118 : GoodIn wsX5_restore (wsX2_take) := ggX5_restore_X2_take
theorem dX5_restore_0 : decode cX5_restore 0 = .ok (.iload_n 1, 1) := by decide +kernel
theorem dX5_restore_1 : decode cX5_restore 1 = .ok (.iconst 0, 1) := by decide +kernel
theorem dX5_restore_2 : decode cX5_restore 2 = .ok (.iconst 1, 1) := by decide +kernel
theorem dX5_restore_3 : decode cX5_restore 3 = .ok (.invokestatic 183, 3) := by decide +kernel
theorem dX5_restore_6 : decode cX5_restore 6 = .ok (.ifCond .ne 6, 3) := by decide +kernel
theorem dX5_restore_9 : decode cX5_restore 9 = .ok (.ldc 59, 2) := by decide +kernel
theorem dX5_restore_11 : decode cX5_restore 11 = .ok (.ireturn, 1) := by decide +kernel
theorem dX5_restore_12 : decode cX5_restore 12 = .ok (.aload_n 0, 1) := by decide +kernel
theorem dX5_restore_13 : decode cX5_restore 13 = .ok (.getfield 36, 3) := by decide +kernel
theorem dX5_restore_16 : decode cX5_restore 16 = .ok (.iload_n 1, 1) := by decide +kernel
theorem dX5_restore_17 : decode cX5_restore 17 = .ok (.aaload, 1) := by decide +kernel
theorem dX5_restore_18 : decode cX5_restore 18 = .ok (.getfield 128, 3) := by decide +kernel
theorem dX5_restore_21 : decode cX5_restore 21 = .ok (.ifCond .ne 6, 3) := by decide +kernel
theorem dX5_restore_24 : decode cX5_restore 24 = .ok (.ldc 131, 2) := by decide +kernel
theorem dX5_restore_26 : decode cX5_restore 26 = .ok (.ireturn, 1) := by decide +kernel
theorem dX5_restore_27 : decode cX5_restore 27 = .ok (.aload_n 0, 1) := by decide +kernel
theorem dX5_restore_28 : decode cX5_restore 28 = .ok (.getfield 25, 3) := by decide +kernel
theorem dX5_restore_31 : decode cX5_restore 31 = .ok (.aload_n 0, 1) := by decide +kernel
theorem dX5_restore_32 : decode cX5_restore 32 = .ok (.getfield 36, 3) := by decide +kernel
theorem dX5_restore_35 : decode cX5_restore 35 = .ok (.iload_n 1, 1) := by decide +kernel
theorem dX5_restore_36 : decode cX5_restore 36 = .ok (.aaload, 1) := by decide +kernel
theorem dX5_restore_37 : decode cX5_restore 37 = .ok (.invokevirtual 118, 3) := by decide +kernel
theorem dX5_restore_40 : decode cX5_restore 40 = .ok (.aload_n 0, 1) := by decide +kernel
theorem dX5_restore_41 : decode cX5_restore 41 = .ok (.getfield 43, 3) := by decide +kernel
theorem dX5_restore_44 : decode cX5_restore 44 = .ok (.iconst 0, 1) := by decide +kernel
theorem dX5_restore_45 : decode cX5_restore 45 = .ok (.putfield 122, 3) := by decide +kernel
theorem dX5_restore_48 : decode cX5_restore 48 = .ok (.iconst 1, 1) := by decide +kernel
theorem dX5_restore_49 : decode cX5_restore 49 = .ok (.ireturn, 1) := by decide +kernel
set_option maxRecDepth 20000 in
theorem ggX5_kind_X5_isPulpit : GoodIn wsX5_kind wsX5_isPulpit := goodIn_r _ [7, 1, 8, 9, 10, 11, 12, 13, 14, 15, 16, 17, 18, 19, 20, 21, 22, 23, 24, 25, 26, 27, 28, 29] (by decide +kernel) (by decide +kernel)
set_option maxRecDepth 20000 in
theorem gX5_kind_X5_isPulpit : GoodIn wsX5_kind (wsV RX5 145 RX5 yX5_isPulpit wsX5_isPulpit) := goodIn_app (goodIn_of _ (by decide +kernel)) ggX5_kind_X5_isPulpit
theorem dX5_kind_0 : decode cX5_kind 0 = .ok (.aload_n 0, 1) := by decide +kernel
theorem dX5_kind_1 : decode cX5_kind 1 = .ok (.iload_n 1, 1) := by decide +kernel
theorem dX5_kind_2 : decode cX5_kind 2 = .ok (.invokevirtual 145, 3) := by decide +kernel
theorem dX5_kind_5 : decode cX5_kind 5 = .ok (.ifCond .eq 15, 3) := by decide +kernel
theorem dX5_kind_8 : decode cX5_kind 8 = .ok (.aload_n 0, 1) := by decide +kernel
theorem dX5_kind_9 : decode cX5_kind 9 = .ok (.getfield 25, 3) := by decide +kernel
theorem dX5_kind_12 : decode cX5_kind 12 = .ok (.getfield 249, 3) := by decide +kernel
theorem dX5_kind_15 : decode cX5_kind 15 = .ok (.iload_n 1, 1) := by decide +kernel
theorem dX5_kind_16 : decode cX5_kind 16 = .ok (.iaload, 1) := by decide +kernel
theorem dX5_kind_17 : decode cX5_kind 17 = .ok (.goto 5, 3) := by decide +kernel
theorem dX5_kind_20 : decode cX5_kind 20 = .ok (.ldc 59, 2) := by decide +kernel
theorem dX5_kind_22 : decode cX5_kind 22 = .ok (.ireturn, 1) := by decide +kernel
set_option maxRecDepth 20000 in
theorem ggX5_as_X5_isPulpit : GoodIn wsX5_as wsX5_isPulpit := goodIn_r _ [7, 2, 25, 26, 27, 28, 29, 30, 31, 32, 33, 34, 35, 36, 37, 38, 39, 40, 41, 42, 43, 44, 45, 46] (by decide +kernel) (by decide +kernel)
set_option maxRecDepth 20000 in
theorem gX5_as_X5_isPulpit : GoodIn wsX5_as (wsV RX5 145 RX5 yX5_isPulpit wsX5_isPulpit) := goodIn_app (goodIn_of _ (by decide +kernel)) ggX5_as_X5_isPulpit
set_option maxRecDepth 20000 in
theorem ggX5_as_X5_isWithin : GoodIn wsX5_as wsX5_isWithin := goodIn_r _ [10] (by decide +kernel) (by decide +kernel)
set_option maxRecDepth 20000 in
theorem gX5_as_X5_isWithin : GoodIn wsX5_as (va_wsS RX5 183 yX5_isWithin wsX5_isWithin) := goodIn_app (goodIn_of _ (by decide +kernel)) ggX5_as_X5_isWithin
set_option maxRecDepth 20000 in
theorem ggX5_as_X5_isSuch : GoodIn wsX5_as wsX5_isSuch := goodIn_r _ [13, 14] (by decide +kernel) (by decide +kernel)
set_option maxRecDepth 20000 in
theorem gX5_as_X5_isSuch : GoodIn wsX5_as (va_wsS RX5 252 yX5_isSuch wsX5_isSuch) := goodIn_app (goodIn_of _ (by decide +kernel)) ggX5_as_X5_isSuch
set_option maxRecDepth 20000 in
theorem ggX5_as_X5_foundNothing : GoodIn wsX5_as wsX5_foundNothing := goodIn_r _ [18, 19, 25, 26, 27, 28, 29, 30, 31, 32, 33, 34] (by decide +kernel) (by decide +kernel)
set_option maxRecDepth 20000 in
theorem gX5_as_X5_foundNothing : GoodIn wsX5_as (wsV RX5 68 RX5 yX5_foundNothing wsX5_foundNothing) := goodIn_app (goodIn_of _ (by decide +kernel)) ggX5_as_X5_foundNothing
set_option maxRecDepth 20000 in
theorem ggX5_as_X5_found : GoodIn wsX5_as wsX5_found := goodIn_r _ [23, 19, 24, 25, 26, 27, 28, 29, 30, 31, 32, 33, 34] (by decide +kernel) (by decide +kernel)
set_option maxRecDepth 20000 in
theorem gX5_as_X5_found : GoodIn wsX5_as (wsV RX5 60 RX5 yX5_found wsX5_found) := goodIn_app (goodIn_of _ (by decide +kernel)) ggX5_as_X5_found
theorem dX5_as_0 : decode cX5_as 0 = .ok (.aload_n 0, 1) := by decide +kernel
theorem dX5_as_1 : decode cX5_as 1 = .ok (.iload_n 1, 1) := by decide +kernel
theorem dX5_as_2 : decode cX5_as 2 = .ok (.invokevirtual 145, 3) := by decide +kernel
theorem dX5_as_5 : decode cX5_as 5 = .ok (.ifCond .eq 12, 3) := by decide +kernel
theorem dX5_as_8 : decode cX5_as 8 = .ok (.iload_n 2, 1) := by decide +kernel
theorem dX5_as_9 : decode cX5_as 9 = .ok (.iconst 0, 1) := by decide +kernel
theorem dX5_as_10 : decode cX5_as 10 = .ok (.iconst 5, 1) := by decide +kernel
theorem dX5_as_11 : decode cX5_as 11 = .ok (.invokestatic 183, 3) := by decide +kernel
theorem dX5_as_14 : decode cX5_as 14 = .ok (.ifCond .ne 6, 3) := by decide +kernel
theorem dX5_as_17 : decode cX5_as 17 = .ok (.ldc 59, 2) := by decide +kernel
theorem dX5_as_19 : decode cX5_as 19 = .ok (.ireturn, 1) := by decide +kernel
theorem dX5_as_20 : decode cX5_as 20 = .ok (.aload_n 0, 1) := by decide +kernel
theorem dX5_as_21 : decode cX5_as 21 = .ok (.getfield 25, 3) := by decide +kernel
theorem dX5_as_24 : decode cX5_as 24 = .ok (.getfield 249, 3) := by decide +kernel
theorem dX5_as_27 : decode cX5_as 27 = .ok (.iload_n 1, 1) := by decide +kernel
theorem dX5_as_28 : decode cX5_as 28 = .ok (.iaload, 1) := by decide +kernel
theorem dX5_as_29 : decode cX5_as 29 = .ok (.iload_n 2, 1) := by decide +kernel
theorem dX5_as_30 : decode cX5_as 30 = .ok (.invokestatic 252, 3) := by decide +kernel
theorem dX5_as_33 : decode cX5_as 33 = .ok (.ifCond .eq 11, 3) := by decide +kernel
theorem dX5_as_36 : decode cX5_as 36 = .ok (.aload_n 0, 1) := by decide +kernel
theorem dX5_as_37 : decode cX5_as 37 = .ok (.iload_n 1, 1) := by decide +kernel
theorem dX5_as_38 : decode cX5_as 38 = .ok (.invokevirtual 68, 3) := by decide +kernel
theorem dX5_as_41 : decode cX5_as 41 = .ok (.goto 8, 3) := by decide +kernel
theorem dX5_as_44 : decode cX5_as 44 = .ok (.aload_n 0, 1) := by decide +kernel
theorem dX5_as_45 : decode cX5_as 45 = .ok (.iconst 3, 1) := by decide +kernel
theorem dX5_as_46 : decode cX5_as 46 = .ok (.invokevirtual 60, 3) := by decide +kernel
theorem dX5_as_49 : decode cX5_as 49 = .ok (.ireturn, 1) := by decide +kernel
set_option maxRecDepth 20000 in
theorem ggX5_ask_X5_isPulpit : GoodIn wsX5_ask wsX5_isPulpit := goodIn_r _ [8, 3, 30, 31, 32, 33, 34, 35, 36, 37, 38, 39, 42, 43, 44, 45, 46, 47, 48, 49, 50, 51, 52, 53] (by decide +kernel) (by decide +kernel)
set_option maxRecDepth 20000 in
theorem gX5_ask_X5_isPulpit : GoodIn wsX5_ask (wsV RX5 145 RX5 yX5_isPulpit wsX5_isPulpit) := goodIn_app (goodIn_of _ (by decide +kernel)) ggX5_ask_X5_isPulpit
set_option maxRecDepth 20000 in
theorem ggX5_ask_X5_isWithin : GoodIn wsX5_ask wsX5_isWithin := goodIn_r _ [11] (by decide +kernel) (by decide +kernel)
set_option maxRecDepth 20000 in
theorem gX5_ask_X5_isWithin : GoodIn wsX5_ask (va_wsS RX5 183 yX5_isWithin wsX5_isWithin) := goodIn_app (goodIn_of _ (by decide +kernel)) ggX5_ask_X5_isWithin
set_option maxRecDepth 20000 in
theorem ggX5_ask_X1_begin : GoodIn wsX5_ask wsX1_begin := goodIn_r _ [15, 16, 17, 13, 18, 19, 20, 21, 22, 23, 24, 25, 26, 27, 28, 29, 12, 14, 42, 43, 44, 45, 46, 47, 48, 49, 50, 51, 52, 53, 40, 41] (by decide +kernel) (by decide +kernel)
set_option maxRecDepth 20000 in
theorem gX5_ask_X1_begin_n258 : GoodIn wsX5_ask (wsX1_begin) := ggX5_ask_X1_begin
theorem dX5_ask_0 : decode cX5_ask 0 = .ok (.aload_n 0, 1) := by decide +kernel
theorem dX5_ask_1 : decode cX5_ask 1 = .ok (.iload_n 1, 1) := by decide +kernel
theorem dX5_ask_2 : decode cX5_ask 2 = .ok (.invokevirtual 145, 3) := by decide +kernel
theorem dX5_ask_5 : decode cX5_ask 5 = .ok (.ifCond .eq 12, 3) := by decide +kernel
theorem dX5_ask_8 : decode cX5_ask 8 = .ok (.iload_n 2, 1) := by decide +kernel
theorem dX5_ask_9 : decode cX5_ask 9 = .ok (.iconst 0, 1) := by decide +kernel
theorem dX5_ask_10 : decode cX5_ask 10 = .ok (.iconst 1, 1) := by decide +kernel
theorem dX5_ask_11 : decode cX5_ask 11 = .ok (.invokestatic 183, 3) := by decide +kernel
theorem dX5_ask_14 : decode cX5_ask 14 = .ok (.ifCond .ne 6, 3) := by decide +kernel
theorem dX5_ask_17 : decode cX5_ask 17 = .ok (.ldc 59, 2) := by decide +kernel
theorem dX5_ask_19 : decode cX5_ask 19 = .ok (.ireturn, 1) := by decide +kernel
theorem dX5_ask_20 : decode cX5_ask 20 = .ok (.aload_n 0, 1) := by decide +kernel
theorem dX5_ask_21 : decode cX5_ask 21 = .ok (.getfield 50, 3) := by decide +kernel
theorem dX5_ask_24 : decode cX5_ask 24 = .ok (.iconst 0, 1) := by decide +kernel
theorem dX5_ask_25 : decode cX5_ask 25 = .ok (.putfield 255, 3) := by decide +kernel
theorem dX5_ask_28 : decode cX5_ask 28 = .ok (.aload_n 0, 1) := by decide +kernel
theorem dX5_ask_29 : decode cX5_ask 29 = .ok (.getfield 50, 3) := by decide +kernel
theorem dX5_ask_32 : decode cX5_ask 32 = .ok (.aload_n 0, 1) := by decide +kernel
theorem dX5_ask_33 : decode cX5_ask 33 = .ok (.getfield 25, 3) := by decide +kernel
theorem dX5_ask_36 : decode cX5_ask 36 = .ok (.iload_n 1, 1) := by decide +kernel
theorem dX5_ask_37 : decode cX5_ask 37 = .ok (.iload_n 2, 1) := by decide +kernel
theorem dX5_ask_38 : decode cX5_ask 38 = .ok (.iconst 0, 1) := by decide +kernel
theorem dX5_ask_39 : decode cX5_ask 39 = .ok (.invokevirtual 258, 3) := by decide +kernel
theorem dX5_ask_42 : decode cX5_ask 42 = .ok (.ireturn, 1) := by decide +kernel
theorem dX5_trace_0 : decode cX5_trace 0 = .ok (.iload_n 1, 1) := by decide +kernel
theorem dX5_trace_1 : decode cX5_trace 1 = .ok (.ifCond .lt 26, 3) := by decide +kernel
theorem dX5_trace_4 : decode cX5_trace 4 = .ok (.iload_n 1, 1) := by decide +kernel
theorem dX5_trace_5 : decode cX5_trace 5 = .ok (.aload_n 0, 1) := by decide +kernel
theorem dX5_trace_6 : decode cX5_trace 6 = .ok (.getfield 50, 3) := by decide +kernel
theorem dX5_trace_9 : decode cX5_trace 9 = .ok (.getfield 255, 3) := by decide +kernel
theorem dX5_trace_12 : decode cX5_trace 12 = .ok (.if_icmp .ge 15, 3) := by decide +kernel
theorem dX5_trace_15 : decode cX5_trace 15 = .ok (.aload_n 0, 1) := by decide +kernel
theorem dX5_trace_16 : decode cX5_trace 16 = .ok (.getfield 50, 3) := by decide +kernel
theorem dX5_trace_19 : decode cX5_trace 19 = .ok (.getfield 261, 3) := by decide +kernel
theorem dX5_trace_22 : decode cX5_trace 22 = .ok (.iload_n 1, 1) := by decide +kernel
theorem dX5_trace_23 : decode cX5_trace 23 = .ok (.iaload, 1) := by decide +kernel
theorem dX5_trace_24 : decode cX5_trace 24 = .ok (.goto 5, 3) := by decide +kernel
theorem dX5_trace_27 : decode cX5_trace 27 = .ok (.ldc 196, 2) := by decide +kernel
theorem dX5_trace_29 : decode cX5_trace 29 = .ok (.ireturn, 1) := by decide +kernel
set_option maxRecDepth 20000 in
theorem ggX5_count_X5_rowsThere : GoodIn wsX5_count wsX5_rowsThere := goodIn_r _ [9, 10, 32, 33, 34, 35, 36, 37, 38, 39, 40, 41, 61, 62, 63, 64] (by decide +kernel) (by decide +kernel)
set_option maxRecDepth 20000 in
theorem gX5_count_X5_rowsThere : GoodIn wsX5_count (wsV RX5 264 RX5 yX5_rowsThere wsX5_rowsThere) := goodIn_app (goodIn_of _ (by decide +kernel)) ggX5_count_X5_rowsThere
set_option maxRecDepth 20000 in
theorem ggX5_count_X2_wholeGates : GoodIn wsX5_count wsX2_wholeGates := goodIn_r _ [14, 15, 16, 17, 18, 19, 12, 20, 21, 42, 43, 44, 45, 46, 47, 48, 49, 50, 51, 52, 53] (by decide +kernel) (by decide +kernel)
set_option maxRecDepth 20000 in
theorem gX5_count_X2_wholeGates_n141 : GoodIn wsX5_count (wsX2_wholeGates) := ggX5_count_X2_wholeGates
set_option maxRecDepth 20000 in
theorem ggX5_count_X2_wordsHeard : GoodIn wsX5_count wsX2_wordsHeard := goodIn_r _ [24, 15, 16, 25, 26, 27, 28, 29, 30, 31, 42, 43, 44, 45, 46, 47, 48, 49, 50, 51, 52, 53] (by decide +kernel) (by decide +kernel)
set_option maxRecDepth 20000 in
theorem gX5_count_X2_wordsHeard_n246 : GoodIn wsX5_count (wsX2_wordsHeard) := ggX5_count_X2_wordsHeard
theorem dX5_count_0 : decode cX5_count 0 = .ok (.iload_n 1, 1) := by decide +kernel
theorem dX5_count_1 : decode cX5_count 1 = .ok (.tableswitch 132 0 9 #[55, 60, 68, 76, 84, 92, 100, 108, 116, 124], 55) := by decide +kernel
theorem dX5_count_56 : decode cX5_count 56 = .ok (.aload_n 0, 1) := by decide +kernel
theorem dX5_count_57 : decode cX5_count 57 = .ok (.invokevirtual 264, 3) := by decide +kernel
theorem dX5_count_60 : decode cX5_count 60 = .ok (.ireturn, 1) := by decide +kernel
theorem dX5_count_61 : decode cX5_count 61 = .ok (.aload_n 0, 1) := by decide +kernel
theorem dX5_count_62 : decode cX5_count 62 = .ok (.getfield 25, 3) := by decide +kernel
theorem dX5_count_65 : decode cX5_count 65 = .ok (.getfield 193, 3) := by decide +kernel
theorem dX5_count_68 : decode cX5_count 68 = .ok (.ireturn, 1) := by decide +kernel
theorem dX5_count_69 : decode cX5_count 69 = .ok (.aload_n 0, 1) := by decide +kernel
theorem dX5_count_70 : decode cX5_count 70 = .ok (.getfield 25, 3) := by decide +kernel
theorem dX5_count_73 : decode cX5_count 73 = .ok (.getfield 125, 3) := by decide +kernel
theorem dX5_count_76 : decode cX5_count 76 = .ok (.ireturn, 1) := by decide +kernel
theorem dX5_count_77 : decode cX5_count 77 = .ok (.aload_n 0, 1) := by decide +kernel
theorem dX5_count_78 : decode cX5_count 78 = .ok (.getfield 25, 3) := by decide +kernel
theorem dX5_count_81 : decode cX5_count 81 = .ok (.getfield 132, 3) := by decide +kernel
theorem dX5_count_84 : decode cX5_count 84 = .ok (.ireturn, 1) := by decide +kernel
theorem dX5_count_85 : decode cX5_count 85 = .ok (.aload_n 0, 1) := by decide +kernel
theorem dX5_count_86 : decode cX5_count 86 = .ok (.getfield 25, 3) := by decide +kernel
theorem dX5_count_89 : decode cX5_count 89 = .ok (.getfield 267, 3) := by decide +kernel
theorem dX5_count_92 : decode cX5_count 92 = .ok (.ireturn, 1) := by decide +kernel
theorem dX5_count_93 : decode cX5_count 93 = .ok (.aload_n 0, 1) := by decide +kernel
theorem dX5_count_94 : decode cX5_count 94 = .ok (.getfield 25, 3) := by decide +kernel
theorem dX5_count_97 : decode cX5_count 97 = .ok (.getfield 270, 3) := by decide +kernel
theorem dX5_count_100 : decode cX5_count 100 = .ok (.ireturn, 1) := by decide +kernel
theorem dX5_count_101 : decode cX5_count 101 = .ok (.aload_n 0, 1) := by decide +kernel
theorem dX5_count_102 : decode cX5_count 102 = .ok (.getfield 43, 3) := by decide +kernel
theorem dX5_count_105 : decode cX5_count 105 = .ok (.getfield 122, 3) := by decide +kernel
theorem dX5_count_108 : decode cX5_count 108 = .ok (.ireturn, 1) := by decide +kernel
theorem dX5_count_109 : decode cX5_count 109 = .ok (.aload_n 0, 1) := by decide +kernel
theorem dX5_count_110 : decode cX5_count 110 = .ok (.getfield 18, 3) := by decide +kernel
theorem dX5_count_113 : decode cX5_count 113 = .ok (.getfield 98, 3) := by decide +kernel
theorem dX5_count_116 : decode cX5_count 116 = .ok (.ireturn, 1) := by decide +kernel
theorem dX5_count_117 : decode cX5_count 117 = .ok (.aload_n 0, 1) := by decide +kernel
theorem dX5_count_118 : decode cX5_count 118 = .ok (.getfield 25, 3) := by decide +kernel
theorem dX5_count_121 : decode cX5_count 121 = .ok (.invokevirtual 141, 3) := by decide +kernel
theorem dX5_count_124 : decode cX5_count 124 = .ok (.ireturn, 1) := by decide +kernel
theorem dX5_count_125 : decode cX5_count 125 = .ok (.aload_n 0, 1) := by decide +kernel
theorem dX5_count_126 : decode cX5_count 126 = .ok (.getfield 25, 3) := by decide +kernel
theorem dX5_count_129 : decode cX5_count 129 = .ok (.invokevirtual 246, 3) := by decide +kernel
theorem dX5_count_132 : decode cX5_count 132 = .ok (.ireturn, 1) := by decide +kernel
theorem dX5_count_133 : decode cX5_count 133 = .ok (.ldc 59, 2) := by decide +kernel
theorem dX5_count_135 : decode cX5_count 135 = .ok (.ireturn, 1) := by decide +kernel
theorem dX5_status_0 : decode cX5_status 0 = .ok (.aload_n 0, 1) := by decide +kernel
theorem dX5_status_1 : decode cX5_status 1 = .ok (.getfield 273, 3) := by decide +kernel
theorem dX5_status_4 : decode cX5_status 4 = .ok (.ireturn, 1) := by decide +kernel
theorem dX5_isWithin_0 : decode cX5_isWithin 0 = .ok (.iload_n 0, 1) := by decide +kernel
theorem dX5_isWithin_1 : decode cX5_isWithin 1 = .ok (.iload_n 1, 1) := by decide +kernel
theorem dX5_isWithin_2 : decode cX5_isWithin 2 = .ok (.if_icmp .lt 12, 3) := by decide +kernel
theorem dX5_isWithin_5 : decode cX5_isWithin 5 = .ok (.iload_n 0, 1) := by decide +kernel
theorem dX5_isWithin_6 : decode cX5_isWithin 6 = .ok (.iload_n 2, 1) := by decide +kernel
theorem dX5_isWithin_7 : decode cX5_isWithin 7 = .ok (.if_icmp .gt 7, 3) := by decide +kernel
theorem dX5_isWithin_10 : decode cX5_isWithin 10 = .ok (.iconst 1, 1) := by decide +kernel
theorem dX5_isWithin_11 : decode cX5_isWithin 11 = .ok (.goto 4, 3) := by decide +kernel
theorem dX5_isWithin_14 : decode cX5_isWithin 14 = .ok (.iconst 0, 1) := by decide +kernel
theorem dX5_isWithin_15 : decode cX5_isWithin 15 = .ok (.ireturn, 1) := by decide +kernel
theorem dX5_isRow_0 : decode cX5_isRow 0 = .ok (.iload_n 0, 1) := by decide +kernel
theorem dX5_isRow_1 : decode cX5_isRow 1 = .ok (.ifCond .lt 13, 3) := by decide +kernel
theorem dX5_isRow_4 : decode cX5_isRow 4 = .ok (.iload_n 0, 1) := by decide +kernel
theorem dX5_isRow_5 : decode cX5_isRow 5 = .ok (.bipush 8, 2) := by decide +kernel
theorem dX5_isRow_7 : decode cX5_isRow 7 = .ok (.if_icmp .ge 7, 3) := by decide +kernel
theorem dX5_isRow_10 : decode cX5_isRow 10 = .ok (.iconst 1, 1) := by decide +kernel
theorem dX5_isRow_11 : decode cX5_isRow 11 = .ok (.goto 4, 3) := by decide +kernel
theorem dX5_isRow_14 : decode cX5_isRow 14 = .ok (.iconst 0, 1) := by decide +kernel
theorem dX5_isRow_15 : decode cX5_isRow 15 = .ok (.ireturn, 1) := by decide +kernel
theorem dX5_isPulpit_0 : decode cX5_isPulpit 0 = .ok (.iload_n 1, 1) := by decide +kernel
theorem dX5_isPulpit_1 : decode cX5_isPulpit 1 = .ok (.ifCond .lt 18, 3) := by decide +kernel
theorem dX5_isPulpit_4 : decode cX5_isPulpit 4 = .ok (.iload_n 1, 1) := by decide +kernel
theorem dX5_isPulpit_5 : decode cX5_isPulpit 5 = .ok (.aload_n 0, 1) := by decide +kernel
theorem dX5_isPulpit_6 : decode cX5_isPulpit 6 = .ok (.getfield 25, 3) := by decide +kernel
theorem dX5_isPulpit_9 : decode cX5_isPulpit 9 = .ok (.getfield 125, 3) := by decide +kernel
theorem dX5_isPulpit_12 : decode cX5_isPulpit 12 = .ok (.if_icmp .ge 7, 3) := by decide +kernel
theorem dX5_isPulpit_15 : decode cX5_isPulpit 15 = .ok (.iconst 1, 1) := by decide +kernel
theorem dX5_isPulpit_16 : decode cX5_isPulpit 16 = .ok (.goto 4, 3) := by decide +kernel
theorem dX5_isPulpit_19 : decode cX5_isPulpit 19 = .ok (.iconst 0, 1) := by decide +kernel
theorem dX5_isPulpit_20 : decode cX5_isPulpit 20 = .ok (.ireturn, 1) := by decide +kernel
theorem dX5_isStretch_0 : decode cX5_isStretch 0 = .ok (.iload_n 1, 1) := by decide +kernel
theorem dX5_isStretch_1 : decode cX5_isStretch 1 = .ok (.ifCond .lt 18, 3) := by decide +kernel
theorem dX5_isStretch_4 : decode cX5_isStretch 4 = .ok (.iload_n 1, 1) := by decide +kernel
theorem dX5_isStretch_5 : decode cX5_isStretch 5 = .ok (.aload_n 0, 1) := by decide +kernel
theorem dX5_isStretch_6 : decode cX5_isStretch 6 = .ok (.getfield 25, 3) := by decide +kernel
theorem dX5_isStretch_9 : decode cX5_isStretch 9 = .ok (.getfield 193, 3) := by decide +kernel
theorem dX5_isStretch_12 : decode cX5_isStretch 12 = .ok (.if_icmp .ge 7, 3) := by decide +kernel
theorem dX5_isStretch_15 : decode cX5_isStretch 15 = .ok (.iconst 1, 1) := by decide +kernel
theorem dX5_isStretch_16 : decode cX5_isStretch 16 = .ok (.goto 4, 3) := by decide +kernel
theorem dX5_isStretch_19 : decode cX5_isStretch 19 = .ok (.iconst 0, 1) := by decide +kernel
theorem dX5_isStretch_20 : decode cX5_isStretch 20 = .ok (.ireturn, 1) := by decide +kernel
theorem dX5_isWord_0 : decode cX5_isWord 0 = .ok (.iload_n 1, 1) := by decide +kernel
theorem dX5_isWord_1 : decode cX5_isWord 1 = .ok (.ifCond .lt 18, 3) := by decide +kernel
theorem dX5_isWord_4 : decode cX5_isWord 4 = .ok (.iload_n 1, 1) := by decide +kernel
theorem dX5_isWord_5 : decode cX5_isWord 5 = .ok (.aload_n 0, 1) := by decide +kernel
theorem dX5_isWord_6 : decode cX5_isWord 6 = .ok (.getfield 25, 3) := by decide +kernel
theorem dX5_isWord_9 : decode cX5_isWord 9 = .ok (.getfield 267, 3) := by decide +kernel
theorem dX5_isWord_12 : decode cX5_isWord 12 = .ok (.if_icmp .ge 7, 3) := by decide +kernel
theorem dX5_isWord_15 : decode cX5_isWord 15 = .ok (.iconst 1, 1) := by decide +kernel
theorem dX5_isWord_16 : decode cX5_isWord 16 = .ok (.goto 4, 3) := by decide +kernel
theorem dX5_isWord_19 : decode cX5_isWord 19 = .ok (.iconst 0, 1) := by decide +kernel
theorem dX5_isWord_20 : decode cX5_isWord 20 = .ok (.ireturn, 1) := by decide +kernel
theorem dX5_found_0 : decode cX5_found 0 = .ok (.aload_n 0, 1) := by decide +kernel
theorem dX5_found_1 : decode cX5_found 1 = .ok (.iload_n 1, 1) := by decide +kernel
theorem dX5_found_2 : decode cX5_found 2 = .ok (.putfield 273, 3) := by decide +kernel
theorem dX5_found_5 : decode cX5_found 5 = .ok (.ldc_w 276, 3) := by decide +kernel
theorem dX5_found_8 : decode cX5_found 8 = .ok (.iload_n 1, 1) := by decide +kernel
theorem dX5_found_9 : decode cX5_found 9 = .ok (.isub, 1) := by decide +kernel
theorem dX5_found_10 : decode cX5_found 10 = .ok (.ireturn, 1) := by decide +kernel
theorem dX5_foundNothing_0 : decode cX5_foundNothing 0 = .ok (.aload_n 0, 1) := by decide +kernel
theorem dX5_foundNothing_1 : decode cX5_foundNothing 1 = .ok (.iconst 0, 1) := by decide +kernel
theorem dX5_foundNothing_2 : decode cX5_foundNothing 2 = .ok (.putfield 273, 3) := by decide +kernel
theorem dX5_foundNothing_5 : decode cX5_foundNothing 5 = .ok (.iload_n 1, 1) := by decide +kernel
theorem dX5_foundNothing_6 : decode cX5_foundNothing 6 = .ok (.ireturn, 1) := by decide +kernel
theorem dX5_rowsThere_0 : decode cX5_rowsThere 0 = .ok (.iconst 0, 1) := by decide +kernel
theorem dX5_rowsThere_1 : decode cX5_rowsThere 1 = .ok (.istore_n 1, 1) := by decide +kernel
theorem dX5_rowsThere_2 : decode cX5_rowsThere 2 = .ok (.iconst 0, 1) := by decide +kernel
theorem dX5_rowsThere_3 : decode cX5_rowsThere 3 = .ok (.istore_n 2, 1) := by decide +kernel
theorem dX5_rowsThere_4 : decode cX5_rowsThere 4 = .ok (.iload_n 2, 1) := by decide +kernel
theorem dX5_rowsThere_5 : decode cX5_rowsThere 5 = .ok (.bipush 8, 2) := by decide +kernel
theorem dX5_rowsThere_7 : decode cX5_rowsThere 7 = .ok (.if_icmp .ge 24, 3) := by decide +kernel
theorem dX5_rowsThere_10 : decode cX5_rowsThere 10 = .ok (.aload_n 0, 1) := by decide +kernel
theorem dX5_rowsThere_11 : decode cX5_rowsThere 11 = .ok (.getfield 11, 3) := by decide +kernel
theorem dX5_rowsThere_14 : decode cX5_rowsThere 14 = .ok (.iload_n 2, 1) := by decide +kernel
theorem dX5_rowsThere_15 : decode cX5_rowsThere 15 = .ok (.aaload, 1) := by decide +kernel
theorem dX5_rowsThere_16 : decode cX5_rowsThere 16 = .ok (.getfield 71, 3) := by decide +kernel
theorem dX5_rowsThere_19 : decode cX5_rowsThere 19 = .ok (.ifCond .ne 6, 3) := by decide +kernel
theorem dX5_rowsThere_22 : decode cX5_rowsThere 22 = .ok (.iinc 1 1, 3) := by decide +kernel
theorem dX5_rowsThere_25 : decode cX5_rowsThere 25 = .ok (.iinc 2 1, 3) := by decide +kernel
theorem dX5_rowsThere_28 : decode cX5_rowsThere 28 = .ok (.goto (-24), 3) := by decide +kernel
theorem dX5_rowsThere_31 : decode cX5_rowsThere 31 = .ok (.iload_n 1, 1) := by decide +kernel
theorem dX5_rowsThere_32 : decode cX5_rowsThere 32 = .ok (.ireturn, 1) := by decide +kernel
set_option maxRecDepth 20000 in
theorem ggX5_foretell_X2_take : GoodIn wsX5_foretell wsX2_take := goodIn_r _ [6, 7, 8, 9, 10, 11, 12, 13, 14, 15, 16, 17, 68, 69, 70, 71, 72, 73, 74, 75, 76, 77, 78, 79] (by decide +kernel) (by decide +kernel)
set_option maxRecDepth 20000 in
theorem gX5_foretell_X2_take_n118 : GoodIn wsX5_foretell (wsX2_take) := ggX5_foretell_X2_take
set_option maxRecDepth 20000 in
theorem ggX5_foretell_X2_goHours : GoodIn wsX5_foretell wsX2_goHours := goodIn_r _ [20, 21, 22, 23, 4, 24, 11, 25, 12, 10, 26, 27, 28, 29, 16, 30, 31, 32, 33, 14, 17, 34, 35, 36, 37, 15, 13, 38, 39, 40, 41, 8, 42, 43, 44, 45, 46, 47, 48, 49, 9, 50, 51, 52, 53, 54, 55, 56, 57, 68, 69, 70, 71, 72, 73, 74, 75, 76, 77, 78, 79] (by decide +kernel) (by decide +kernel)
set_option maxRecDepth 20000 in
theorem gX5_foretell_X2_goHours_n209 : GoodIn wsX5_foretell (wsX2_goHours) := ggX5_foretell_X2_goHours
theorem dX5_foretell_0 : decode cX5_foretell 0 = .ok (.aload_n 0, 1) := by decide +kernel
theorem dX5_foretell_1 : decode cX5_foretell 1 = .ok (.getfield 29, 3) := by decide +kernel
theorem dX5_foretell_4 : decode cX5_foretell 4 = .ok (.aload_n 0, 1) := by decide +kernel
theorem dX5_foretell_5 : decode cX5_foretell 5 = .ok (.getfield 25, 3) := by decide +kernel
theorem dX5_foretell_8 : decode cX5_foretell 8 = .ok (.invokevirtual 118, 3) := by decide +kernel
theorem dX5_foretell_11 : decode cX5_foretell 11 = .ok (.aload_n 0, 1) := by decide +kernel
theorem dX5_foretell_12 : decode cX5_foretell 12 = .ok (.getfield 29, 3) := by decide +kernel
theorem dX5_foretell_15 : decode cX5_foretell 15 = .ok (.iload_n 1, 1) := by decide +kernel
theorem dX5_foretell_16 : decode cX5_foretell 16 = .ok (.invokevirtual 209, 3) := by decide +kernel
theorem dX5_foretell_19 : decode cX5_foretell 19 = .ok (.return_, 1) := by decide +kernel
set_option maxRecDepth 20000 in
theorem ggX5_hoursToWhole_X5_foretell : GoodIn wsX5_hoursToWhole wsX5_foretell := goodIn_r _ [7, 1, 8, 9, 10, 11, 12, 13, 14, 15, 16, 17, 18, 19, 20, 21, 22, 23, 24, 25, 26, 27, 28, 29, 30, 31, 32, 33, 34, 35, 36, 37, 38, 39, 40, 41, 42, 43, 44, 45, 46, 47, 48, 49, 50, 51, 52, 53, 54, 55, 56, 57, 58, 59, 60, 61, 62, 63, 71, 72, 73, 74, 75, 76, 77, 78, 79, 80, 81, 82, 83, 84, 85, 86, 87, 88, 89, 90, 91, 92] (by decide +kernel) (by decide +kernel)
set_option maxRecDepth 20000 in
theorem gX5_hoursToWhole_X5_foretell : GoodIn wsX5_hoursToWhole (wsV RX5 187 RX5 yX5_foretell wsX5_foretell) := goodIn_app (goodIn_of _ (by decide +kernel)) ggX5_hoursToWhole_X5_foretell
set_option maxRecDepth 20000 in
theorem ggX5_hoursToWhole_X2_wholeGates : GoodIn wsX5_hoursToWhole wsX2_wholeGates := goodIn_r _ [66, 17, 20, 67, 68, 69, 10, 70, 14, 81, 82, 83, 84, 85, 86, 87, 88, 89, 90, 91, 92] (by decide +kernel) (by decide +kernel)
set_option maxRecDepth 20000 in
theorem gX5_hoursToWhole_X2_wholeGates_n141 : GoodIn wsX5_hoursToWhole (wsX2_wholeGates) := ggX5_hoursToWhole_X2_wholeGates
set_option maxRecDepth 20000 in
theorem ggX5_hoursToWhole_X2_goHour : GoodIn wsX5_hoursToWhole wsX2_goHour := goodIn_r _ [30, 17, 31, 18, 16, 32, 33, 34, 10, 35, 22, 36, 37, 38, 39, 20, 23, 40, 41, 42, 43, 21, 19, 44, 45, 46, 47, 14, 48, 49, 50, 51, 52, 53, 54, 55, 15, 56, 57, 58, 59, 60, 61, 62, 63, 81, 82, 83, 84, 85, 86, 87, 88, 89, 90, 91, 92] (by decide +kernel) (by decide +kernel)
set_option maxRecDepth 20000 in
theorem gX5_hoursToWhole_X2_goHour_n138 : GoodIn wsX5_hoursToWhole (wsX2_goHour) := ggX5_hoursToWhole_X2_goHour
theorem dX5_hoursToWhole_0 : decode cX5_hoursToWhole 0 = .ok (.aload_n 0, 1) := by decide +kernel
theorem dX5_hoursToWhole_1 : decode cX5_hoursToWhole 1 = .ok (.iconst 0, 1) := by decide +kernel
theorem dX5_hoursToWhole_2 : decode cX5_hoursToWhole 2 = .ok (.invokevirtual 187, 3) := by decide +kernel
theorem dX5_hoursToWhole_5 : decode cX5_hoursToWhole 5 = .ok (.iconst 0, 1) := by decide +kernel
theorem dX5_hoursToWhole_6 : decode cX5_hoursToWhole 6 = .ok (.istore_n 2, 1) := by decide +kernel
theorem dX5_hoursToWhole_7 : decode cX5_hoursToWhole 7 = .ok (.iload_n 2, 1) := by decide +kernel
theorem dX5_hoursToWhole_8 : decode cX5_hoursToWhole 8 = .ok (.bipush 60, 2) := by decide +kernel
theorem dX5_hoursToWhole_10 : decode cX5_hoursToWhole 10 = .ok (.if_icmp .gt 30, 3) := by decide +kernel
theorem dX5_hoursToWhole_13 : decode cX5_hoursToWhole 13 = .ok (.aload_n 0, 1) := by decide +kernel
theorem dX5_hoursToWhole_14 : decode cX5_hoursToWhole 14 = .ok (.getfield 29, 3) := by decide +kernel
theorem dX5_hoursToWhole_17 : decode cX5_hoursToWhole 17 = .ok (.invokevirtual 141, 3) := by decide +kernel
theorem dX5_hoursToWhole_20 : decode cX5_hoursToWhole 20 = .ok (.iload_n 1, 1) := by decide +kernel
theorem dX5_hoursToWhole_21 : decode cX5_hoursToWhole 21 = .ok (.iand, 1) := by decide +kernel
theorem dX5_hoursToWhole_22 : decode cX5_hoursToWhole 22 = .ok (.ifCond .eq 5, 3) := by decide +kernel
theorem dX5_hoursToWhole_25 : decode cX5_hoursToWhole 25 = .ok (.iload_n 2, 1) := by decide +kernel
theorem dX5_hoursToWhole_26 : decode cX5_hoursToWhole 26 = .ok (.ireturn, 1) := by decide +kernel
theorem dX5_hoursToWhole_27 : decode cX5_hoursToWhole 27 = .ok (.aload_n 0, 1) := by decide +kernel
theorem dX5_hoursToWhole_28 : decode cX5_hoursToWhole 28 = .ok (.getfield 29, 3) := by decide +kernel
theorem dX5_hoursToWhole_31 : decode cX5_hoursToWhole 31 = .ok (.invokevirtual 138, 3) := by decide +kernel
theorem dX5_hoursToWhole_34 : decode cX5_hoursToWhole 34 = .ok (.iinc 2 1, 3) := by decide +kernel
theorem dX5_hoursToWhole_37 : decode cX5_hoursToWhole 37 = .ok (.goto (-30), 3) := by decide +kernel
theorem dX5_hoursToWhole_40 : decode cX5_hoursToWhole 40 = .ok (.ldc 196, 2) := by decide +kernel
theorem dX5_hoursToWhole_42 : decode cX5_hoursToWhole 42 = .ok (.ireturn, 1) := by decide +kernel
theorem dX5_leastOf_0 : decode cX5_leastOf 0 = .ok (.iconst 0, 1) := by decide +kernel
theorem dX5_leastOf_1 : decode cX5_leastOf 1 = .ok (.istore_n 1, 1) := by decide +kernel
theorem dX5_leastOf_2 : decode cX5_leastOf 2 = .ok (.iload_n 1, 1) := by decide +kernel
theorem dX5_leastOf_3 : decode cX5_leastOf 3 = .ok (.bipush 9, 2) := by decide +kernel
theorem dX5_leastOf_5 : decode cX5_leastOf 5 = .ok (.if_icmp .ge 19, 3) := by decide +kernel
theorem dX5_leastOf_8 : decode cX5_leastOf 8 = .ok (.iload_n 0, 1) := by decide +kernel
theorem dX5_leastOf_9 : decode cX5_leastOf 9 = .ok (.iload_n 1, 1) := by decide +kernel
theorem dX5_leastOf_10 : decode cX5_leastOf 10 = .ok (.ishr, 1) := by decide +kernel
theorem dX5_leastOf_11 : decode cX5_leastOf 11 = .ok (.iconst 1, 1) := by decide +kernel
theorem dX5_leastOf_12 : decode cX5_leastOf 12 = .ok (.iand, 1) := by decide +kernel
theorem dX5_leastOf_13 : decode cX5_leastOf 13 = .ok (.ifCond .eq 5, 3) := by decide +kernel
theorem dX5_leastOf_16 : decode cX5_leastOf 16 = .ok (.iload_n 1, 1) := by decide +kernel
theorem dX5_leastOf_17 : decode cX5_leastOf 17 = .ok (.ireturn, 1) := by decide +kernel
theorem dX5_leastOf_18 : decode cX5_leastOf 18 = .ok (.iinc 1 1, 3) := by decide +kernel
theorem dX5_leastOf_21 : decode cX5_leastOf 21 = .ok (.goto (-19), 3) := by decide +kernel
theorem dX5_leastOf_24 : decode cX5_leastOf 24 = .ok (.ldc 196, 2) := by decide +kernel
theorem dX5_leastOf_26 : decode cX5_leastOf 26 = .ok (.ireturn, 1) := by decide +kernel
set_option maxRecDepth 20000 in
theorem ggX5_foretellSayings_X5_foretell : GoodIn wsX5_foretellSayings wsX5_foretell := goodIn_r _ [7, 1, 8, 9, 10, 11, 12, 13, 14, 15, 16, 17, 18, 19, 20, 21, 22, 23, 24, 25, 26, 27, 28, 29, 30, 31, 32, 33, 34, 35, 36, 37, 38, 39, 40, 41, 42, 43, 44, 45, 46, 47, 48, 49, 50, 51, 52, 53, 54, 55, 56, 57, 58, 59, 60, 61, 62, 63, 64, 65, 66, 67, 68, 69, 70, 71, 72, 73, 74, 75, 76, 77, 78, 79, 80, 81, 82, 83, 84, 85] (by decide +kernel) (by decide +kernel)
set_option maxRecDepth 20000 in
theorem gX5_foretellSayings_X5_foretell : GoodIn wsX5_foretellSayings (wsV RX5 187 RX5 yX5_foretell wsX5_foretell) := goodIn_app (goodIn_of _ (by decide +kernel)) ggX5_foretellSayings_X5_foretell
set_option maxRecDepth 20000 in
theorem ggX5_foretellSayings_X2_goHour : GoodIn wsX5_foretellSayings wsX2_goHour := goodIn_r _ [30, 17, 31, 18, 16, 32, 33, 34, 10, 35, 22, 36, 37, 38, 39, 20, 23, 40, 41, 42, 43, 21, 19, 44, 45, 46, 47, 14, 48, 49, 50, 51, 52, 53, 54, 55, 15, 56, 57, 58, 59, 60, 61, 62, 63, 74, 75, 76, 77, 78, 79, 80, 81, 82, 83, 84, 85] (by decide +kernel) (by decide +kernel)
set_option maxRecDepth 20000 in
theorem gX5_foretellSayings_X2_goHour_n138 : GoodIn wsX5_foretellSayings (wsX2_goHour) := ggX5_foretellSayings_X2_goHour
theorem dX5_foretellSayings_0 : decode cX5_foretellSayings 0 = .ok (.aload_n 0, 1) := by decide +kernel
theorem dX5_foretellSayings_1 : decode cX5_foretellSayings 1 = .ok (.iconst 0, 1) := by decide +kernel
theorem dX5_foretellSayings_2 : decode cX5_foretellSayings 2 = .ok (.invokevirtual 187, 3) := by decide +kernel
theorem dX5_foretellSayings_5 : decode cX5_foretellSayings 5 = .ok (.iconst 0, 1) := by decide +kernel
theorem dX5_foretellSayings_6 : decode cX5_foretellSayings 6 = .ok (.istore_n 2, 1) := by decide +kernel
theorem dX5_foretellSayings_7 : decode cX5_foretellSayings 7 = .ok (.iload_n 2, 1) := by decide +kernel
theorem dX5_foretellSayings_8 : decode cX5_foretellSayings 8 = .ok (.iload_n 1, 1) := by decide +kernel
theorem dX5_foretellSayings_9 : decode cX5_foretellSayings 9 = .ok (.if_icmp .ge 55, 3) := by decide +kernel
theorem dX5_foretellSayings_12 : decode cX5_foretellSayings 12 = .ok (.aload_n 0, 1) := by decide +kernel
theorem dX5_foretellSayings_13 : decode cX5_foretellSayings 13 = .ok (.getfield 29, 3) := by decide +kernel
theorem dX5_foretellSayings_16 : decode cX5_foretellSayings 16 = .ok (.invokevirtual 138, 3) := by decide +kernel
theorem dX5_foretellSayings_19 : decode cX5_foretellSayings 19 = .ok (.iconst 0, 1) := by decide +kernel
theorem dX5_foretellSayings_20 : decode cX5_foretellSayings 20 = .ok (.istore_n 3, 1) := by decide +kernel
theorem dX5_foretellSayings_21 : decode cX5_foretellSayings 21 = .ok (.iload_n 3, 1) := by decide +kernel
theorem dX5_foretellSayings_22 : decode cX5_foretellSayings 22 = .ok (.aload_n 0, 1) := by decide +kernel
theorem dX5_foretellSayings_23 : decode cX5_foretellSayings 23 = .ok (.getfield 29, 3) := by decide +kernel
theorem dX5_foretellSayings_26 : decode cX5_foretellSayings 26 = .ok (.getfield 193, 3) := by decide +kernel
theorem dX5_foretellSayings_29 : decode cX5_foretellSayings 29 = .ok (.if_icmp .ge 29, 3) := by decide +kernel
theorem dX5_foretellSayings_32 : decode cX5_foretellSayings 32 = .ok (.aload_n 0, 1) := by decide +kernel
theorem dX5_foretellSayings_33 : decode cX5_foretellSayings 33 = .ok (.getfield 32, 3) := by decide +kernel
theorem dX5_foretellSayings_36 : decode cX5_foretellSayings 36 = .ok (.iload_n 2, 1) := by decide +kernel
theorem dX5_foretellSayings_37 : decode cX5_foretellSayings 37 = .ok (.bipush 9, 2) := by decide +kernel
theorem dX5_foretellSayings_39 : decode cX5_foretellSayings 39 = .ok (.imul, 1) := by decide +kernel
theorem dX5_foretellSayings_40 : decode cX5_foretellSayings 40 = .ok (.iload_n 3, 1) := by decide +kernel
theorem dX5_foretellSayings_41 : decode cX5_foretellSayings 41 = .ok (.iadd, 1) := by decide +kernel
theorem dX5_foretellSayings_42 : decode cX5_foretellSayings 42 = .ok (.aload_n 0, 1) := by decide +kernel
theorem dX5_foretellSayings_43 : decode cX5_foretellSayings 43 = .ok (.getfield 29, 3) := by decide +kernel
theorem dX5_foretellSayings_46 : decode cX5_foretellSayings 46 = .ok (.getfield 277, 3) := by decide +kernel
theorem dX5_foretellSayings_49 : decode cX5_foretellSayings 49 = .ok (.iload_n 3, 1) := by decide +kernel
theorem dX5_foretellSayings_50 : decode cX5_foretellSayings 50 = .ok (.iaload, 1) := by decide +kernel
theorem dX5_foretellSayings_51 : decode cX5_foretellSayings 51 = .ok (.iastore, 1) := by decide +kernel
theorem dX5_foretellSayings_52 : decode cX5_foretellSayings 52 = .ok (.iinc 3 1, 3) := by decide +kernel
theorem dX5_foretellSayings_55 : decode cX5_foretellSayings 55 = .ok (.goto (-34), 3) := by decide +kernel
theorem dX5_foretellSayings_58 : decode cX5_foretellSayings 58 = .ok (.iinc 2 1, 3) := by decide +kernel
theorem dX5_foretellSayings_61 : decode cX5_foretellSayings 61 = .ok (.goto (-54), 3) := by decide +kernel
theorem dX5_foretellSayings_64 : decode cX5_foretellSayings 64 = .ok (.return_, 1) := by decide +kernel
set_option maxRecDepth 20000 in
theorem ggX5_heardOnWay_X2_nextOf : GoodIn wsX5_heardOnWay wsX2_nextOf := goodIn_r _ [6, 7, 18, 19, 20, 21, 22, 23, 24, 25, 26, 27, 28, 29] (by decide +kernel) (by decide +kernel)
set_option maxRecDepth 20000 in
theorem gX5_heardOnWay_X2_nextOf_n280 : GoodIn wsX5_heardOnWay (wsX2_nextOf) := ggX5_heardOnWay_X2_nextOf
theorem dX5_heardOnWay_0 : decode cX5_heardOnWay 0 = .ok (.iload_n 1, 1) := by decide +kernel
theorem dX5_heardOnWay_1 : decode cX5_heardOnWay 1 = .ok (.istore 4, 2) := by decide +kernel
theorem dX5_heardOnWay_3 : decode cX5_heardOnWay 3 = .ok (.iconst 0, 1) := by decide +kernel
theorem dX5_heardOnWay_4 : decode cX5_heardOnWay 4 = .ok (.istore 5, 2) := by decide +kernel
theorem dX5_heardOnWay_6 : decode cX5_heardOnWay 6 = .ok (.iconst 0, 1) := by decide +kernel
theorem dX5_heardOnWay_7 : decode cX5_heardOnWay 7 = .ok (.istore 6, 2) := by decide +kernel
theorem dX5_heardOnWay_9 : decode cX5_heardOnWay 9 = .ok (.iload 6, 2) := by decide +kernel
theorem dX5_heardOnWay_11 : decode cX5_heardOnWay 11 = .ok (.iload_n 2, 1) := by decide +kernel
theorem dX5_heardOnWay_12 : decode cX5_heardOnWay 12 = .ok (.if_icmp .ge 47, 3) := by decide +kernel
theorem dX5_heardOnWay_15 : decode cX5_heardOnWay 15 = .ok (.iload_n 3, 1) := by decide +kernel
theorem dX5_heardOnWay_16 : decode cX5_heardOnWay 16 = .ok (.iload 6, 2) := by decide +kernel
theorem dX5_heardOnWay_18 : decode cX5_heardOnWay 18 = .ok (.ishr, 1) := by decide +kernel
theorem dX5_heardOnWay_19 : decode cX5_heardOnWay 19 = .ok (.iconst 1, 1) := by decide +kernel
theorem dX5_heardOnWay_20 : decode cX5_heardOnWay 20 = .ok (.iand, 1) := by decide +kernel
theorem dX5_heardOnWay_21 : decode cX5_heardOnWay 21 = .ok (.ifCond .eq 14, 3) := by decide +kernel
theorem dX5_heardOnWay_24 : decode cX5_heardOnWay 24 = .ok (.aload_n 0, 1) := by decide +kernel
theorem dX5_heardOnWay_25 : decode cX5_heardOnWay 25 = .ok (.getfield 29, 3) := by decide +kernel
theorem dX5_heardOnWay_28 : decode cX5_heardOnWay 28 = .ok (.iload 4, 2) := by decide +kernel
theorem dX5_heardOnWay_30 : decode cX5_heardOnWay 30 = .ok (.invokevirtual 280, 3) := by decide +kernel
theorem dX5_heardOnWay_33 : decode cX5_heardOnWay 33 = .ok (.istore 4, 2) := by decide +kernel
theorem dX5_heardOnWay_35 : decode cX5_heardOnWay 35 = .ok (.iload 5, 2) := by decide +kernel
theorem dX5_heardOnWay_37 : decode cX5_heardOnWay 37 = .ok (.aload_n 0, 1) := by decide +kernel
theorem dX5_heardOnWay_38 : decode cX5_heardOnWay 38 = .ok (.getfield 32, 3) := by decide +kernel
theorem dX5_heardOnWay_41 : decode cX5_heardOnWay 41 = .ok (.iload 6, 2) := by decide +kernel
theorem dX5_heardOnWay_43 : decode cX5_heardOnWay 43 = .ok (.bipush 9, 2) := by decide +kernel
theorem dX5_heardOnWay_45 : decode cX5_heardOnWay 45 = .ok (.imul, 1) := by decide +kernel
theorem dX5_heardOnWay_46 : decode cX5_heardOnWay 46 = .ok (.iload 4, 2) := by decide +kernel
theorem dX5_heardOnWay_48 : decode cX5_heardOnWay 48 = .ok (.iadd, 1) := by decide +kernel
theorem dX5_heardOnWay_49 : decode cX5_heardOnWay 49 = .ok (.iaload, 1) := by decide +kernel
theorem dX5_heardOnWay_50 : decode cX5_heardOnWay 50 = .ok (.ior, 1) := by decide +kernel
theorem dX5_heardOnWay_51 : decode cX5_heardOnWay 51 = .ok (.istore 5, 2) := by decide +kernel
theorem dX5_heardOnWay_53 : decode cX5_heardOnWay 53 = .ok (.iinc 6 1, 3) := by decide +kernel
theorem dX5_heardOnWay_56 : decode cX5_heardOnWay 56 = .ok (.goto (-47), 3) := by decide +kernel
theorem dX5_heardOnWay_59 : decode cX5_heardOnWay 59 = .ok (.iload 5, 2) := by decide +kernel
theorem dX5_heardOnWay_61 : decode cX5_heardOnWay 61 = .ok (.ireturn, 1) := by decide +kernel
theorem dX5_guessEnd_0 : decode cX5_guessEnd 0 = .ok (.iload_n 1, 1) := by decide +kernel
theorem dX5_guessEnd_1 : decode cX5_guessEnd 1 = .ok (.ifCond .ne 6, 3) := by decide +kernel
theorem dX5_guessEnd_4 : decode cX5_guessEnd 4 = .ok (.bipush 6, 2) := by decide +kernel
theorem dX5_guessEnd_6 : decode cX5_guessEnd 6 = .ok (.ireturn, 1) := by decide +kernel
theorem dX5_guessEnd_7 : decode cX5_guessEnd 7 = .ok (.iload_n 1, 1) := by decide +kernel
theorem dX5_guessEnd_8 : decode cX5_guessEnd 8 = .ok (.iconst 1, 1) := by decide +kernel
theorem dX5_guessEnd_9 : decode cX5_guessEnd 9 = .ok (.if_icmp .ne 13, 3) := by decide +kernel
theorem dX5_guessEnd_12 : decode cX5_guessEnd 12 = .ok (.aload_n 0, 1) := by decide +kernel
theorem dX5_guessEnd_13 : decode cX5_guessEnd 13 = .ok (.getfield 25, 3) := by decide +kernel
theorem dX5_guessEnd_16 : decode cX5_guessEnd 16 = .ok (.getfield 193, 3) := by decide +kernel
theorem dX5_guessEnd_19 : decode cX5_guessEnd 19 = .ok (.goto 10, 3) := by decide +kernel
theorem dX5_guessEnd_22 : decode cX5_guessEnd 22 = .ok (.aload_n 0, 1) := by decide +kernel
theorem dX5_guessEnd_23 : decode cX5_guessEnd 23 = .ok (.getfield 25, 3) := by decide +kernel
theorem dX5_guessEnd_26 : decode cX5_guessEnd 26 = .ok (.getfield 267, 3) := by decide +kernel
theorem dX5_guessEnd_29 : decode cX5_guessEnd 29 = .ok (.ireturn, 1) := by decide +kernel
theorem dX5_suppose_0 : decode cX5_suppose 0 = .ok (.iload_n 2, 1) := by decide +kernel
theorem dX5_suppose_1 : decode cX5_suppose 1 = .ok (.ifCond .ne 16, 3) := by decide +kernel
theorem dX5_suppose_4 : decode cX5_suppose 4 = .ok (.aload_n 0, 1) := by decide +kernel
theorem dX5_suppose_5 : decode cX5_suppose 5 = .ok (.getfield 29, 3) := by decide +kernel
theorem dX5_suppose_8 : decode cX5_suppose 8 = .ok (.getfield 249, 3) := by decide +kernel
theorem dX5_suppose_11 : decode cX5_suppose 11 = .ok (.iload_n 1, 1) := by decide +kernel
theorem dX5_suppose_12 : decode cX5_suppose 12 = .ok (.iload_n 3, 1) := by decide +kernel
theorem dX5_suppose_13 : decode cX5_suppose 13 = .ok (.iastore, 1) := by decide +kernel
theorem dX5_suppose_14 : decode cX5_suppose 14 = .ok (.goto 47, 3) := by decide +kernel
theorem dX5_suppose_17 : decode cX5_suppose 17 = .ok (.iload_n 2, 1) := by decide +kernel
theorem dX5_suppose_18 : decode cX5_suppose 18 = .ok (.iconst 1, 1) := by decide +kernel
theorem dX5_suppose_19 : decode cX5_suppose 19 = .ok (.if_icmp .ne 16, 3) := by decide +kernel
theorem dX5_suppose_22 : decode cX5_suppose 22 = .ok (.aload_n 0, 1) := by decide +kernel
theorem dX5_suppose_23 : decode cX5_suppose 23 = .ok (.getfield 29, 3) := by decide +kernel
theorem dX5_suppose_26 : decode cX5_suppose 26 = .ok (.getfield 151, 3) := by decide +kernel
theorem dX5_suppose_29 : decode cX5_suppose 29 = .ok (.iload_n 1, 1) := by decide +kernel
theorem dX5_suppose_30 : decode cX5_suppose 30 = .ok (.iload_n 3, 1) := by decide +kernel
theorem dX5_suppose_31 : decode cX5_suppose 31 = .ok (.iastore, 1) := by decide +kernel
theorem dX5_suppose_32 : decode cX5_suppose 32 = .ok (.goto 29, 3) := by decide +kernel
theorem dX5_suppose_35 : decode cX5_suppose 35 = .ok (.iload_n 2, 1) := by decide +kernel
theorem dX5_suppose_36 : decode cX5_suppose 36 = .ok (.iconst 2, 1) := by decide +kernel
theorem dX5_suppose_37 : decode cX5_suppose 37 = .ok (.if_icmp .ne 14, 3) := by decide +kernel
theorem dX5_suppose_40 : decode cX5_suppose 40 = .ok (.aload_n 0, 1) := by decide +kernel
theorem dX5_suppose_41 : decode cX5_suppose 41 = .ok (.getfield 29, 3) := by decide +kernel
theorem dX5_suppose_44 : decode cX5_suppose 44 = .ok (.iload_n 3, 1) := by decide +kernel
theorem dX5_suppose_45 : decode cX5_suppose 45 = .ok (.putfield 270, 3) := by decide +kernel
theorem dX5_suppose_48 : decode cX5_suppose 48 = .ok (.goto 13, 3) := by decide +kernel
theorem dX5_suppose_51 : decode cX5_suppose 51 = .ok (.aload_n 0, 1) := by decide +kernel
theorem dX5_suppose_52 : decode cX5_suppose 52 = .ok (.getfield 29, 3) := by decide +kernel
theorem dX5_suppose_55 : decode cX5_suppose 55 = .ok (.getfield 157, 3) := by decide +kernel
theorem dX5_suppose_58 : decode cX5_suppose 58 = .ok (.iload_n 1, 1) := by decide +kernel
theorem dX5_suppose_59 : decode cX5_suppose 59 = .ok (.iload_n 3, 1) := by decide +kernel
theorem dX5_suppose_60 : decode cX5_suppose 60 = .ok (.iastore, 1) := by decide +kernel
theorem dX5_suppose_61 : decode cX5_suppose 61 = .ok (.return_, 1) := by decide +kernel
set_option maxRecDepth 20000 in
theorem ggX5_goesAsTold_X2_goHour : GoodIn wsX5_goesAsTold wsX2_goHour := goodIn_r _ [5, 6, 7, 8, 9, 10, 11, 12, 3, 13, 14, 15, 16, 17, 18, 19, 20, 21, 22, 23, 24, 25, 26, 27, 28, 29, 30, 31, 32, 33, 34, 35, 36, 37, 38, 39, 40, 41, 42, 43, 44, 45, 46, 47, 48, 59, 60, 61, 62, 63, 64, 65, 66, 67, 68, 69, 70] (by decide +kernel) (by decide +kernel)
set_option maxRecDepth 20000 in
theorem gX5_goesAsTold_X2_goHour_n138 : GoodIn wsX5_goesAsTold (wsX2_goHour) := ggX5_goesAsTold_X2_goHour
theorem dX5_goesAsTold_0 : decode cX5_goesAsTold 0 = .ok (.iconst 0, 1) := by decide +kernel
theorem dX5_goesAsTold_1 : decode cX5_goesAsTold 1 = .ok (.istore 5, 2) := by decide +kernel
theorem dX5_goesAsTold_3 : decode cX5_goesAsTold 3 = .ok (.iload 5, 2) := by decide +kernel
theorem dX5_goesAsTold_5 : decode cX5_goesAsTold 5 = .ok (.iload 4, 2) := by decide +kernel
theorem dX5_goesAsTold_7 : decode cX5_goesAsTold 7 = .ok (.if_icmp .ge 39, 3) := by decide +kernel
theorem dX5_goesAsTold_10 : decode cX5_goesAsTold 10 = .ok (.aload_n 0, 1) := by decide +kernel
theorem dX5_goesAsTold_11 : decode cX5_goesAsTold 11 = .ok (.getfield 29, 3) := by decide +kernel
theorem dX5_goesAsTold_14 : decode cX5_goesAsTold 14 = .ok (.invokevirtual 138, 3) := by decide +kernel
theorem dX5_goesAsTold_17 : decode cX5_goesAsTold 17 = .ok (.aload_n 0, 1) := by decide +kernel
theorem dX5_goesAsTold_18 : decode cX5_goesAsTold 18 = .ok (.getfield 29, 3) := by decide +kernel
theorem dX5_goesAsTold_21 : decode cX5_goesAsTold 21 = .ok (.getfield 151, 3) := by decide +kernel
theorem dX5_goesAsTold_24 : decode cX5_goesAsTold 24 = .ok (.iload_n 1, 1) := by decide +kernel
theorem dX5_goesAsTold_25 : decode cX5_goesAsTold 25 = .ok (.iaload, 1) := by decide +kernel
theorem dX5_goesAsTold_26 : decode cX5_goesAsTold 26 = .ok (.aload_n 2, 1) := by decide +kernel
theorem dX5_goesAsTold_27 : decode cX5_goesAsTold 27 = .ok (.getfield 79, 3) := by decide +kernel
theorem dX5_goesAsTold_30 : decode cX5_goesAsTold 30 = .ok (.iload_n 3, 1) := by decide +kernel
theorem dX5_goesAsTold_31 : decode cX5_goesAsTold 31 = .ok (.iload 5, 2) := by decide +kernel
theorem dX5_goesAsTold_33 : decode cX5_goesAsTold 33 = .ok (.iadd, 1) := by decide +kernel
theorem dX5_goesAsTold_34 : decode cX5_goesAsTold 34 = .ok (.iaload, 1) := by decide +kernel
theorem dX5_goesAsTold_35 : decode cX5_goesAsTold 35 = .ok (.if_icmp .eq 5, 3) := by decide +kernel
theorem dX5_goesAsTold_38 : decode cX5_goesAsTold 38 = .ok (.iconst 0, 1) := by decide +kernel
theorem dX5_goesAsTold_39 : decode cX5_goesAsTold 39 = .ok (.ireturn, 1) := by decide +kernel
theorem dX5_goesAsTold_40 : decode cX5_goesAsTold 40 = .ok (.iinc 5 1, 3) := by decide +kernel
theorem dX5_goesAsTold_43 : decode cX5_goesAsTold 43 = .ok (.goto (-40), 3) := by decide +kernel
theorem dX5_goesAsTold_46 : decode cX5_goesAsTold 46 = .ok (.iconst 1, 1) := by decide +kernel
theorem dX5_goesAsTold_47 : decode cX5_goesAsTold 47 = .ok (.ireturn, 1) := by decide +kernel
set_option maxRecDepth 20000 in
theorem ggX5_tenthsOfHearing_X2_councils : GoodIn wsX5_tenthsOfHearing wsX2_councils := goodIn_r _ [5, 6, 7, 29, 30, 31, 32, 33, 34, 35, 36, 37, 38, 39, 40] (by decide +kernel) (by decide +kernel)
set_option maxRecDepth 20000 in
theorem gX5_tenthsOfHearing_X2_councils_n171 : GoodIn wsX5_tenthsOfHearing (wsX2_councils) := ggX5_tenthsOfHearing_X2_councils
set_option maxRecDepth 20000 in
theorem ggX5_tenthsOfHearing_X2_sayings : GoodIn wsX5_tenthsOfHearing wsX2_sayings := goodIn_r _ [10, 11, 12, 13, 7, 14, 15, 16, 3, 17, 18, 29, 30, 31, 32, 33, 34, 35, 36, 37, 38, 39, 40] (by decide +kernel) (by decide +kernel)
set_option maxRecDepth 20000 in
theorem gX5_tenthsOfHearing_X2_sayings_n174 : GoodIn wsX5_tenthsOfHearing (wsX2_sayings) := ggX5_tenthsOfHearing_X2_sayings
theorem dX5_tenthsOfHearing_0 : decode cX5_tenthsOfHearing 0 = .ok (.aload_n 0, 1) := by decide +kernel
theorem dX5_tenthsOfHearing_1 : decode cX5_tenthsOfHearing 1 = .ok (.getfield 25, 3) := by decide +kernel
theorem dX5_tenthsOfHearing_4 : decode cX5_tenthsOfHearing 4 = .ok (.getfield 160, 3) := by decide +kernel
theorem dX5_tenthsOfHearing_7 : decode cX5_tenthsOfHearing 7 = .ok (.iload_n 1, 1) := by decide +kernel
theorem dX5_tenthsOfHearing_8 : decode cX5_tenthsOfHearing 8 = .ok (.iaload, 1) := by decide +kernel
theorem dX5_tenthsOfHearing_9 : decode cX5_tenthsOfHearing 9 = .ok (.iload_n 2, 1) := by decide +kernel
theorem dX5_tenthsOfHearing_10 : decode cX5_tenthsOfHearing 10 = .ok (.ishr, 1) := by decide +kernel
theorem dX5_tenthsOfHearing_11 : decode cX5_tenthsOfHearing 11 = .ok (.iconst 1, 1) := by decide +kernel
theorem dX5_tenthsOfHearing_12 : decode cX5_tenthsOfHearing 12 = .ok (.iand, 1) := by decide +kernel
theorem dX5_tenthsOfHearing_13 : decode cX5_tenthsOfHearing 13 = .ok (.ifCond .eq 6, 3) := by decide +kernel
theorem dX5_tenthsOfHearing_16 : decode cX5_tenthsOfHearing 16 = .ok (.bipush 10, 2) := by decide +kernel
theorem dX5_tenthsOfHearing_18 : decode cX5_tenthsOfHearing 18 = .ok (.ireturn, 1) := by decide +kernel
theorem dX5_tenthsOfHearing_19 : decode cX5_tenthsOfHearing 19 = .ok (.aload_n 0, 1) := by decide +kernel
theorem dX5_tenthsOfHearing_20 : decode cX5_tenthsOfHearing 20 = .ok (.getfield 25, 3) := by decide +kernel
theorem dX5_tenthsOfHearing_23 : decode cX5_tenthsOfHearing 23 = .ok (.invokevirtual 171, 3) := by decide +kernel
theorem dX5_tenthsOfHearing_26 : decode cX5_tenthsOfHearing 26 = .ok (.istore 4, 2) := by decide +kernel
theorem dX5_tenthsOfHearing_28 : decode cX5_tenthsOfHearing 28 = .ok (.iconst 0, 1) := by decide +kernel
theorem dX5_tenthsOfHearing_29 : decode cX5_tenthsOfHearing 29 = .ok (.istore 5, 2) := by decide +kernel
theorem dX5_tenthsOfHearing_31 : decode cX5_tenthsOfHearing 31 = .ok (.iload 5, 2) := by decide +kernel
theorem dX5_tenthsOfHearing_33 : decode cX5_tenthsOfHearing 33 = .ok (.aload_n 0, 1) := by decide +kernel
theorem dX5_tenthsOfHearing_34 : decode cX5_tenthsOfHearing 34 = .ok (.getfield 25, 3) := by decide +kernel
theorem dX5_tenthsOfHearing_37 : decode cX5_tenthsOfHearing 37 = .ok (.getfield 125, 3) := by decide +kernel
theorem dX5_tenthsOfHearing_40 : decode cX5_tenthsOfHearing 40 = .ok (.if_icmp .ge 66, 3) := by decide +kernel
theorem dX5_tenthsOfHearing_43 : decode cX5_tenthsOfHearing 43 = .ok (.aload_n 0, 1) := by decide +kernel
theorem dX5_tenthsOfHearing_44 : decode cX5_tenthsOfHearing 44 = .ok (.getfield 25, 3) := by decide +kernel
theorem dX5_tenthsOfHearing_47 : decode cX5_tenthsOfHearing 47 = .ok (.getfield 151, 3) := by decide +kernel
theorem dX5_tenthsOfHearing_50 : decode cX5_tenthsOfHearing 50 = .ok (.iload 5, 2) := by decide +kernel
theorem dX5_tenthsOfHearing_52 : decode cX5_tenthsOfHearing 52 = .ok (.iaload, 1) := by decide +kernel
theorem dX5_tenthsOfHearing_53 : decode cX5_tenthsOfHearing 53 = .ok (.iload_n 1, 1) := by decide +kernel
theorem dX5_tenthsOfHearing_54 : decode cX5_tenthsOfHearing 54 = .ok (.if_icmp .ne 17, 3) := by decide +kernel
theorem dX5_tenthsOfHearing_57 : decode cX5_tenthsOfHearing 57 = .ok (.iload 4, 2) := by decide +kernel
theorem dX5_tenthsOfHearing_59 : decode cX5_tenthsOfHearing 59 = .ok (.iload 5, 2) := by decide +kernel
theorem dX5_tenthsOfHearing_61 : decode cX5_tenthsOfHearing 61 = .ok (.ishr, 1) := by decide +kernel
theorem dX5_tenthsOfHearing_62 : decode cX5_tenthsOfHearing 62 = .ok (.iconst 1, 1) := by decide +kernel
theorem dX5_tenthsOfHearing_63 : decode cX5_tenthsOfHearing 63 = .ok (.iand, 1) := by decide +kernel
theorem dX5_tenthsOfHearing_64 : decode cX5_tenthsOfHearing 64 = .ok (.ifCond .ne 7, 3) := by decide +kernel
theorem dX5_tenthsOfHearing_67 : decode cX5_tenthsOfHearing 67 = .ok (.iconst 1, 1) := by decide +kernel
theorem dX5_tenthsOfHearing_68 : decode cX5_tenthsOfHearing 68 = .ok (.goto 4, 3) := by decide +kernel
theorem dX5_tenthsOfHearing_71 : decode cX5_tenthsOfHearing 71 = .ok (.iconst 0, 1) := by decide +kernel
theorem dX5_tenthsOfHearing_72 : decode cX5_tenthsOfHearing 72 = .ok (.istore 6, 2) := by decide +kernel
theorem dX5_tenthsOfHearing_74 : decode cX5_tenthsOfHearing 74 = .ok (.iload 6, 2) := by decide +kernel
theorem dX5_tenthsOfHearing_76 : decode cX5_tenthsOfHearing 76 = .ok (.ifCond .eq 24, 3) := by decide +kernel
theorem dX5_tenthsOfHearing_79 : decode cX5_tenthsOfHearing 79 = .ok (.aload_n 0, 1) := by decide +kernel
theorem dX5_tenthsOfHearing_80 : decode cX5_tenthsOfHearing 80 = .ok (.getfield 25, 3) := by decide +kernel
theorem dX5_tenthsOfHearing_83 : decode cX5_tenthsOfHearing 83 = .ok (.iload 5, 2) := by decide +kernel
theorem dX5_tenthsOfHearing_85 : decode cX5_tenthsOfHearing 85 = .ok (.invokevirtual 174, 3) := by decide +kernel
theorem dX5_tenthsOfHearing_88 : decode cX5_tenthsOfHearing 88 = .ok (.iload_n 2, 1) := by decide +kernel
theorem dX5_tenthsOfHearing_89 : decode cX5_tenthsOfHearing 89 = .ok (.ishr, 1) := by decide +kernel
theorem dX5_tenthsOfHearing_90 : decode cX5_tenthsOfHearing 90 = .ok (.iconst 1, 1) := by decide +kernel
theorem dX5_tenthsOfHearing_91 : decode cX5_tenthsOfHearing 91 = .ok (.iand, 1) := by decide +kernel
theorem dX5_tenthsOfHearing_92 : decode cX5_tenthsOfHearing 92 = .ok (.ifCond .eq 8, 3) := by decide +kernel
theorem dX5_tenthsOfHearing_95 : decode cX5_tenthsOfHearing 95 = .ok (.bipush 10, 2) := by decide +kernel
theorem dX5_tenthsOfHearing_97 : decode cX5_tenthsOfHearing 97 = .ok (.iload_n 3, 1) := by decide +kernel
theorem dX5_tenthsOfHearing_98 : decode cX5_tenthsOfHearing 98 = .ok (.isub, 1) := by decide +kernel
theorem dX5_tenthsOfHearing_99 : decode cX5_tenthsOfHearing 99 = .ok (.ireturn, 1) := by decide +kernel
theorem dX5_tenthsOfHearing_100 : decode cX5_tenthsOfHearing 100 = .ok (.iinc 5 1, 3) := by decide +kernel
theorem dX5_tenthsOfHearing_103 : decode cX5_tenthsOfHearing 103 = .ok (.goto (-72), 3) := by decide +kernel
theorem dX5_tenthsOfHearing_106 : decode cX5_tenthsOfHearing 106 = .ok (.iconst 0, 1) := by decide +kernel
theorem dX5_tenthsOfHearing_107 : decode cX5_tenthsOfHearing 107 = .ok (.ireturn, 1) := by decide +kernel
theorem dX5_commonDivisor_0 : decode cX5_commonDivisor 0 = .ok (.bipush 10, 2) := by decide +kernel
theorem dX5_commonDivisor_2 : decode cX5_commonDivisor 2 = .ok (.istore_n 2, 1) := by decide +kernel
theorem dX5_commonDivisor_3 : decode cX5_commonDivisor 3 = .ok (.iload_n 2, 1) := by decide +kernel
theorem dX5_commonDivisor_4 : decode cX5_commonDivisor 4 = .ok (.iconst 1, 1) := by decide +kernel
theorem dX5_commonDivisor_5 : decode cX5_commonDivisor 5 = .ok (.if_icmp .le 23, 3) := by decide +kernel
theorem dX5_commonDivisor_8 : decode cX5_commonDivisor 8 = .ok (.iload_n 0, 1) := by decide +kernel
theorem dX5_commonDivisor_9 : decode cX5_commonDivisor 9 = .ok (.iload_n 2, 1) := by decide +kernel
theorem dX5_commonDivisor_10 : decode cX5_commonDivisor 10 = .ok (.irem, 1) := by decide +kernel
theorem dX5_commonDivisor_11 : decode cX5_commonDivisor 11 = .ok (.ifCond .ne 11, 3) := by decide +kernel
theorem dX5_commonDivisor_14 : decode cX5_commonDivisor 14 = .ok (.iload_n 1, 1) := by decide +kernel
theorem dX5_commonDivisor_15 : decode cX5_commonDivisor 15 = .ok (.iload_n 2, 1) := by decide +kernel
theorem dX5_commonDivisor_16 : decode cX5_commonDivisor 16 = .ok (.irem, 1) := by decide +kernel
theorem dX5_commonDivisor_17 : decode cX5_commonDivisor 17 = .ok (.ifCond .ne 5, 3) := by decide +kernel
theorem dX5_commonDivisor_20 : decode cX5_commonDivisor 20 = .ok (.iload_n 2, 1) := by decide +kernel
theorem dX5_commonDivisor_21 : decode cX5_commonDivisor 21 = .ok (.ireturn, 1) := by decide +kernel
theorem dX5_commonDivisor_22 : decode cX5_commonDivisor 22 = .ok (.iinc 2 (-1), 3) := by decide +kernel
theorem dX5_commonDivisor_25 : decode cX5_commonDivisor 25 = .ok (.goto (-22), 3) := by decide +kernel
theorem dX5_commonDivisor_28 : decode cX5_commonDivisor 28 = .ok (.iconst 1, 1) := by decide +kernel
theorem dX5_commonDivisor_29 : decode cX5_commonDivisor 29 = .ok (.ireturn, 1) := by decide +kernel
theorem dX5_putByDraw_0 : decode cX5_putByDraw 0 = .ok (.lload_n 1, 1) := by decide +kernel
theorem dX5_putByDraw_1 : decode cX5_putByDraw 1 = .ok (.ldc2_w 283, 3) := by decide +kernel
theorem dX5_putByDraw_4 : decode cX5_putByDraw 4 = .ok (.lrem, 1) := by decide +kernel
theorem dX5_putByDraw_5 : decode cX5_putByDraw 5 = .ok (.lconst 0, 1) := by decide +kernel
theorem dX5_putByDraw_6 : decode cX5_putByDraw 6 = .ok (.lcmp, 1) := by decide +kernel
theorem dX5_putByDraw_7 : decode cX5_putByDraw 7 = .ok (.ifCond .ne 55, 3) := by decide +kernel
theorem dX5_putByDraw_10 : decode cX5_putByDraw 10 = .ok (.aload_n 0, 1) := by decide +kernel
theorem dX5_putByDraw_11 : decode cX5_putByDraw 11 = .ok (.getfield 29, 3) := by decide +kernel
theorem dX5_putByDraw_14 : decode cX5_putByDraw 14 = .ok (.getfield 125, 3) := by decide +kernel
theorem dX5_putByDraw_17 : decode cX5_putByDraw 17 = .ok (.ifCond .le 45, 3) := by decide +kernel
theorem dX5_putByDraw_20 : decode cX5_putByDraw 20 = .ok (.aload_n 0, 1) := by decide +kernel
theorem dX5_putByDraw_21 : decode cX5_putByDraw 21 = .ok (.getfield 29, 3) := by decide +kernel
theorem dX5_putByDraw_24 : decode cX5_putByDraw 24 = .ok (.getfield 193, 3) := by decide +kernel
theorem dX5_putByDraw_27 : decode cX5_putByDraw 27 = .ok (.ifCond .le 35, 3) := by decide +kernel
theorem dX5_putByDraw_30 : decode cX5_putByDraw 30 = .ok (.lload_n 1, 1) := by decide +kernel
theorem dX5_putByDraw_31 : decode cX5_putByDraw 31 = .ok (.aload_n 0, 1) := by decide +kernel
theorem dX5_putByDraw_32 : decode cX5_putByDraw 32 = .ok (.getfield 29, 3) := by decide +kernel
theorem dX5_putByDraw_35 : decode cX5_putByDraw 35 = .ok (.getfield 125, 3) := by decide +kernel
theorem dX5_putByDraw_38 : decode cX5_putByDraw 38 = .ok (.i2l, 1) := by decide +kernel
theorem dX5_putByDraw_39 : decode cX5_putByDraw 39 = .ok (.lrem, 1) := by decide +kernel
theorem dX5_putByDraw_40 : decode cX5_putByDraw 40 = .ok (.l2i, 1) := by decide +kernel
theorem dX5_putByDraw_41 : decode cX5_putByDraw 41 = .ok (.istore_n 3, 1) := by decide +kernel
theorem dX5_putByDraw_42 : decode cX5_putByDraw 42 = .ok (.aload_n 0, 1) := by decide +kernel
theorem dX5_putByDraw_43 : decode cX5_putByDraw 43 = .ok (.getfield 29, 3) := by decide +kernel
theorem dX5_putByDraw_46 : decode cX5_putByDraw 46 = .ok (.getfield 151, 3) := by decide +kernel
theorem dX5_putByDraw_49 : decode cX5_putByDraw 49 = .ok (.iload_n 3, 1) := by decide +kernel
theorem dX5_putByDraw_50 : decode cX5_putByDraw 50 = .ok (.lload_n 1, 1) := by decide +kernel
theorem dX5_putByDraw_51 : decode cX5_putByDraw 51 = .ok (.aload_n 0, 1) := by decide +kernel
theorem dX5_putByDraw_52 : decode cX5_putByDraw 52 = .ok (.getfield 29, 3) := by decide +kernel
theorem dX5_putByDraw_55 : decode cX5_putByDraw 55 = .ok (.getfield 193, 3) := by decide +kernel
theorem dX5_putByDraw_58 : decode cX5_putByDraw 58 = .ok (.i2l, 1) := by decide +kernel
theorem dX5_putByDraw_59 : decode cX5_putByDraw 59 = .ok (.lrem, 1) := by decide +kernel
theorem dX5_putByDraw_60 : decode cX5_putByDraw 60 = .ok (.l2i, 1) := by decide +kernel
theorem dX5_putByDraw_61 : decode cX5_putByDraw 61 = .ok (.iastore, 1) := by decide +kernel
theorem dX5_putByDraw_62 : decode cX5_putByDraw 62 = .ok (.return_, 1) := by decide +kernel
theorem dX5_isSuch_0 : decode cX5_isSuch 0 = .ok (.iload_n 0, 1) := by decide +kernel
theorem dX5_isSuch_1 : decode cX5_isSuch 1 = .ok (.istore_n 2, 1) := by decide +kernel
theorem dX5_isSuch_2 : decode cX5_isSuch 2 = .ok (.iconst 0, 1) := by decide +kernel
theorem dX5_isSuch_3 : decode cX5_isSuch 3 = .ok (.istore_n 3, 1) := by decide +kernel
theorem dX5_isSuch_4 : decode cX5_isSuch 4 = .ok (.iload_n 3, 1) := by decide +kernel
theorem dX5_isSuch_5 : decode cX5_isSuch 5 = .ok (.bipush 6, 2) := by decide +kernel
theorem dX5_isSuch_7 : decode cX5_isSuch 7 = .ok (.if_icmp .ge 22, 3) := by decide +kernel
theorem dX5_isSuch_10 : decode cX5_isSuch 10 = .ok (.iload_n 2, 1) := by decide +kernel
theorem dX5_isSuch_11 : decode cX5_isSuch 11 = .ok (.iload_n 1, 1) := by decide +kernel
theorem dX5_isSuch_12 : decode cX5_isSuch 12 = .ok (.if_icmp .ne 5, 3) := by decide +kernel
theorem dX5_isSuch_15 : decode cX5_isSuch 15 = .ok (.iconst 1, 1) := by decide +kernel
theorem dX5_isSuch_16 : decode cX5_isSuch 16 = .ok (.ireturn, 1) := by decide +kernel
theorem dX5_isSuch_17 : decode cX5_isSuch 17 = .ok (.getstatic 285, 3) := by decide +kernel
theorem dX5_isSuch_20 : decode cX5_isSuch 20 = .ok (.iload_n 2, 1) := by decide +kernel
theorem dX5_isSuch_21 : decode cX5_isSuch 21 = .ok (.iaload, 1) := by decide +kernel
theorem dX5_isSuch_22 : decode cX5_isSuch 22 = .ok (.istore_n 2, 1) := by decide +kernel
theorem dX5_isSuch_23 : decode cX5_isSuch 23 = .ok (.iinc 3 1, 3) := by decide +kernel
theorem dX5_isSuch_26 : decode cX5_isSuch 26 = .ok (.goto (-22), 3) := by decide +kernel
theorem dX5_isSuch_29 : decode cX5_isSuch 29 = .ok (.iconst 0, 1) := by decide +kernel
theorem dX5_isSuch_30 : decode cX5_isSuch 30 = .ok (.ireturn, 1) := by decide +kernel

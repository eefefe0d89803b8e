theorem inlX6 : ∀ w ∈ wsX60, w ∈ wsL_law := fun _ h => List.mem_append_left _ (List.mem_append_left _ (List.mem_append_left _ (List.mem_append_left _ (List.mem_append_left _ (List.mem_append_left _ (List.mem_append_right _ h))))))
theorem dX6_init_0 : decode cX6_init 0 = .ok (.aload_n 0, 1) := by decide +kernel
theorem dX6_init_1 : decode cX6_init 1 = .ok (.invokespecial 1, 3) := by decide +kernel
theorem dX6_init_4 : decode cX6_init 4 = .ok (.aload_n 0, 1) := by decide +kernel
theorem dX6_init_5 : decode cX6_init 5 = .ok (.sipush 670, 3) := by decide +kernel
theorem dX6_init_8 : decode cX6_init 8 = .ok (.newarray .int, 2) := by decide +kernel
theorem dX6_init_10 : decode cX6_init 10 = .ok (.putfield 7, 3) := by decide +kernel
theorem dX6_init_13 : decode cX6_init 13 = .ok (.aload_n 0, 1) := by decide +kernel
theorem dX6_init_14 : decode cX6_init 14 = .ok (.bipush 90, 2) := by decide +kernel
theorem dX6_init_16 : decode cX6_init 16 = .ok (.newarray .int, 2) := by decide +kernel
theorem dX6_init_18 : decode cX6_init 18 = .ok (.putfield 13, 3) := by decide +kernel
theorem dX6_init_21 : decode cX6_init 21 = .ok (.aload_n 0, 1) := by decide +kernel
theorem dX6_init_22 : decode cX6_init 22 = .ok (.bipush 8, 2) := by decide +kernel
theorem dX6_init_24 : decode cX6_init 24 = .ok (.newarray .int, 2) := by decide +kernel
theorem dX6_init_26 : decode cX6_init 26 = .ok (.putfield 16, 3) := by decide +kernel
theorem dX6_init_29 : decode cX6_init 29 = .ok (.aload_n 0, 1) := by decide +kernel
theorem dX6_init_30 : decode cX6_init 30 = .ok (.bipush 8, 2) := by decide +kernel
theorem dX6_init_32 : decode cX6_init 32 = .ok (.newarray .int, 2) := by decide +kernel
theorem dX6_init_34 : decode cX6_init 34 = .ok (.putfield 19, 3) := by decide +kernel
theorem dX6_init_37 : decode cX6_init 37 = .ok (.aload_n 0, 1) := by decide +kernel
theorem dX6_init_38 : decode cX6_init 38 = .ok (.sipush 320, 3) := by decide +kernel
theorem dX6_init_41 : decode cX6_init 41 = .ok (.newarray .int, 2) := by decide +kernel
theorem dX6_init_43 : decode cX6_init 43 = .ok (.putfield 22, 3) := by decide +kernel
theorem dX6_init_46 : decode cX6_init 46 = .ok (.aload_n 0, 1) := by decide +kernel
theorem dX6_init_47 : decode cX6_init 47 = .ok (.bipush 40, 2) := by decide +kernel
theorem dX6_init_49 : decode cX6_init 49 = .ok (.newarray .int, 2) := by decide +kernel
theorem dX6_init_51 : decode cX6_init 51 = .ok (.putfield 25, 3) := by decide +kernel
theorem dX6_init_54 : decode cX6_init 54 = .ok (.aload_n 0, 1) := by decide +kernel
theorem dX6_init_55 : decode cX6_init 55 = .ok (.bipush 72, 2) := by decide +kernel
theorem dX6_init_57 : decode cX6_init 57 = .ok (.newarray .int, 2) := by decide +kernel
theorem dX6_init_59 : decode cX6_init 59 = .ok (.putfield 28, 3) := by decide +kernel
theorem dX6_init_62 : decode cX6_init 62 = .ok (.aload_n 0, 1) := by decide +kernel
theorem dX6_init_63 : decode cX6_init 63 = .ok (.bipush 16, 2) := by decide +kernel
theorem dX6_init_65 : decode cX6_init 65 = .ok (.newarray .int, 2) := by decide +kernel
theorem dX6_init_67 : decode cX6_init 67 = .ok (.putfield 31, 3) := by decide +kernel
theorem dX6_init_70 : decode cX6_init 70 = .ok (.iconst 0, 1) := by decide +kernel
theorem dX6_init_71 : decode cX6_init 71 = .ok (.istore_n 1, 1) := by decide +kernel
theorem dX6_init_72 : decode cX6_init 72 = .ok (.iload_n 1, 1) := by decide +kernel
theorem dX6_init_73 : decode cX6_init 73 = .ok (.bipush 8, 2) := by decide +kernel
theorem dX6_init_75 : decode cX6_init 75 = .ok (.if_icmp .ge 16, 3) := by decide +kernel
theorem dX6_init_78 : decode cX6_init 78 = .ok (.aload_n 0, 1) := by decide +kernel
theorem dX6_init_79 : decode cX6_init 79 = .ok (.getfield 16, 3) := by decide +kernel
theorem dX6_init_82 : decode cX6_init 82 = .ok (.iload_n 1, 1) := by decide +kernel
theorem dX6_init_83 : decode cX6_init 83 = .ok (.iconst (-1), 1) := by decide +kernel
theorem dX6_init_84 : decode cX6_init 84 = .ok (.iastore, 1) := by decide +kernel
theorem dX6_init_85 : decode cX6_init 85 = .ok (.iinc 1 1, 3) := by decide +kernel
theorem dX6_init_88 : decode cX6_init 88 = .ok (.goto (-16), 3) := by decide +kernel
theorem dX6_init_91 : decode cX6_init 91 = .ok (.return_, 1) := by decide +kernel
theorem dX6_in_0 : decode cX6_in 0 = .ok (.lload_n 0, 1) := by decide +kernel
theorem dX6_in_1 : decode cX6_in 1 = .ok (.lload_n 2, 1) := by decide +kernel
theorem dX6_in_2 : decode cX6_in 2 = .ok (.lcmp, 1) := by decide +kernel
theorem dX6_in_3 : decode cX6_in 3 = .ok (.ifCond .lt 14, 3) := by decide +kernel
theorem dX6_in_6 : decode cX6_in 6 = .ok (.lload_n 0, 1) := by decide +kernel
theorem dX6_in_7 : decode cX6_in 7 = .ok (.lload 4, 2) := by decide +kernel
theorem dX6_in_9 : decode cX6_in 9 = .ok (.lcmp, 1) := by decide +kernel
theorem dX6_in_10 : decode cX6_in 10 = .ok (.ifCond .gt 7, 3) := by decide +kernel
theorem dX6_in_13 : decode cX6_in 13 = .ok (.iconst 1, 1) := by decide +kernel
theorem dX6_in_14 : decode cX6_in 14 = .ok (.goto 4, 3) := by decide +kernel
theorem dX6_in_17 : decode cX6_in 17 = .ok (.iconst 0, 1) := by decide +kernel
theorem dX6_in_18 : decode cX6_in 18 = .ok (.ireturn, 1) := by decide +kernel
theorem dX6_has_0 : decode cX6_has 0 = .ok (.iload_n 0, 1) := by decide +kernel
theorem dX6_has_1 : decode cX6_has 1 = .ok (.iload_n 1, 1) := by decide +kernel
theorem dX6_has_2 : decode cX6_has 2 = .ok (.ishr, 1) := by decide +kernel
theorem dX6_has_3 : decode cX6_has 3 = .ok (.iconst 1, 1) := by decide +kernel
theorem dX6_has_4 : decode cX6_has 4 = .ok (.iand, 1) := by decide +kernel
theorem dX6_has_5 : decode cX6_has 5 = .ok (.iconst 1, 1) := by decide +kernel
theorem dX6_has_6 : decode cX6_has 6 = .ok (.if_icmp .ne 7, 3) := by decide +kernel
theorem dX6_has_9 : decode cX6_has 9 = .ok (.iconst 1, 1) := by decide +kernel
theorem dX6_has_10 : decode cX6_has 10 = .ok (.goto 4, 3) := by decide +kernel
theorem dX6_has_13 : decode cX6_has 13 = .ok (.iconst 0, 1) := by decide +kernel
theorem dX6_has_14 : decode cX6_has 14 = .ok (.ireturn, 1) := by decide +kernel
theorem dX6_ones_0 : decode cX6_ones 0 = .ok (.iconst 0, 1) := by decide +kernel
theorem dX6_ones_1 : decode cX6_ones 1 = .ok (.istore_n 1, 1) := by decide +kernel
theorem dX6_ones_2 : decode cX6_ones 2 = .ok (.iconst 0, 1) := by decide +kernel
theorem dX6_ones_3 : decode cX6_ones 3 = .ok (.istore_n 2, 1) := by decide +kernel
theorem dX6_ones_4 : decode cX6_ones 4 = .ok (.iload_n 2, 1) := by decide +kernel
theorem dX6_ones_5 : decode cX6_ones 5 = .ok (.bipush 16, 2) := by decide +kernel
theorem dX6_ones_7 : decode cX6_ones 7 = .ok (.if_icmp .ge 17, 3) := by decide +kernel
theorem dX6_ones_10 : decode cX6_ones 10 = .ok (.iload_n 1, 1) := by decide +kernel
theorem dX6_ones_11 : decode cX6_ones 11 = .ok (.iload_n 0, 1) := by decide +kernel
theorem dX6_ones_12 : decode cX6_ones 12 = .ok (.iload_n 2, 1) := by decide +kernel
theorem dX6_ones_13 : decode cX6_ones 13 = .ok (.ishr, 1) := by decide +kernel
theorem dX6_ones_14 : decode cX6_ones 14 = .ok (.iconst 1, 1) := by decide +kernel
theorem dX6_ones_15 : decode cX6_ones 15 = .ok (.iand, 1) := by decide +kernel
theorem dX6_ones_16 : decode cX6_ones 16 = .ok (.iadd, 1) := by decide +kernel
theorem dX6_ones_17 : decode cX6_ones 17 = .ok (.istore_n 1, 1) := by decide +kernel
theorem dX6_ones_18 : decode cX6_ones 18 = .ok (.iinc 2 1, 3) := by decide +kernel
theorem dX6_ones_21 : decode cX6_ones 21 = .ok (.goto (-17), 3) := by decide +kernel
theorem dX6_ones_24 : decode cX6_ones 24 = .ok (.iload_n 1, 1) := by decide +kernel
theorem dX6_ones_25 : decode cX6_ones 25 = .ok (.ireturn, 1) := by decide +kernel
theorem dX6_copyOf_0 : decode cX6_copyOf 0 = .ok (.iconst 0, 1) := by decide +kernel
theorem dX6_copyOf_1 : decode cX6_copyOf 1 = .ok (.istore 4, 2) := by decide +kernel
theorem dX6_copyOf_3 : decode cX6_copyOf 3 = .ok (.iload 4, 2) := by decide +kernel
theorem dX6_copyOf_5 : decode cX6_copyOf 5 = .ok (.iload_n 3, 1) := by decide +kernel
theorem dX6_copyOf_6 : decode cX6_copyOf 6 = .ok (.if_icmp .ge 27, 3) := by decide +kernel
theorem dX6_copyOf_9 : decode cX6_copyOf 9 = .ok (.aload_n 0, 1) := by decide +kernel
theorem dX6_copyOf_10 : decode cX6_copyOf 10 = .ok (.getfield 7, 3) := by decide +kernel
theorem dX6_copyOf_13 : decode cX6_copyOf 13 = .ok (.iload_n 2, 1) := by decide +kernel
theorem dX6_copyOf_14 : decode cX6_copyOf 14 = .ok (.iload 4, 2) := by decide +kernel
theorem dX6_copyOf_16 : decode cX6_copyOf 16 = .ok (.iadd, 1) := by decide +kernel
theorem dX6_copyOf_17 : decode cX6_copyOf 17 = .ok (.aload_n 0, 1) := by decide +kernel
theorem dX6_copyOf_18 : decode cX6_copyOf 18 = .ok (.getfield 7, 3) := by decide +kernel
theorem dX6_copyOf_21 : decode cX6_copyOf 21 = .ok (.iload_n 1, 1) := by decide +kernel
theorem dX6_copyOf_22 : decode cX6_copyOf 22 = .ok (.iload 4, 2) := by decide +kernel
theorem dX6_copyOf_24 : decode cX6_copyOf 24 = .ok (.iadd, 1) := by decide +kernel
theorem dX6_copyOf_25 : decode cX6_copyOf 25 = .ok (.iaload, 1) := by decide +kernel
theorem dX6_copyOf_26 : decode cX6_copyOf 26 = .ok (.iastore, 1) := by decide +kernel
theorem dX6_copyOf_27 : decode cX6_copyOf 27 = .ok (.iinc 4 1, 3) := by decide +kernel
theorem dX6_copyOf_30 : decode cX6_copyOf 30 = .ok (.goto (-27), 3) := by decide +kernel
theorem dX6_copyOf_33 : decode cX6_copyOf 33 = .ok (.return_, 1) := by decide +kernel
set_option maxRecDepth 20000 in
theorem ggX6_isPulpit_X6_in : GoodIn wsX6_isPulpit wsX6_in := goodIn_r _ [5] (by decide +kernel) (by decide +kernel)
set_option maxRecDepth 20000 in
theorem gX6_isPulpit_X6_in : GoodIn wsX6_isPulpit (va_wsS RX6 34 yX6_in wsX6_in) := goodIn_app (goodIn_of _ (by decide +kernel)) ggX6_isPulpit_X6_in
theorem dX6_isPulpit_0 : decode cX6_isPulpit 0 = .ok (.iload_n 1, 1) := by decide +kernel
theorem dX6_isPulpit_1 : decode cX6_isPulpit 1 = .ok (.i2l, 1) := by decide +kernel
theorem dX6_isPulpit_2 : decode cX6_isPulpit 2 = .ok (.lconst 0, 1) := by decide +kernel
theorem dX6_isPulpit_3 : decode cX6_isPulpit 3 = .ok (.aload_n 0, 1) := by decide +kernel
theorem dX6_isPulpit_4 : decode cX6_isPulpit 4 = .ok (.getfield 7, 3) := by decide +kernel
theorem dX6_isPulpit_7 : decode cX6_isPulpit 7 = .ok (.iconst 1, 1) := by decide +kernel
theorem dX6_isPulpit_8 : decode cX6_isPulpit 8 = .ok (.iaload, 1) := by decide +kernel
theorem dX6_isPulpit_9 : decode cX6_isPulpit 9 = .ok (.iconst 1, 1) := by decide +kernel
theorem dX6_isPulpit_10 : decode cX6_isPulpit 10 = .ok (.isub, 1) := by decide +kernel
theorem dX6_isPulpit_11 : decode cX6_isPulpit 11 = .ok (.i2l, 1) := by decide +kernel
theorem dX6_isPulpit_12 : decode cX6_isPulpit 12 = .ok (.invokestatic 34, 3) := by decide +kernel
theorem dX6_isPulpit_15 : decode cX6_isPulpit 15 = .ok (.ireturn, 1) := by decide +kernel
set_option maxRecDepth 20000 in
theorem ggX6_isStretch_X6_in : GoodIn wsX6_isStretch wsX6_in := goodIn_r _ [5] (by decide +kernel) (by decide +kernel)
set_option maxRecDepth 20000 in
theorem gX6_isStretch_X6_in : GoodIn wsX6_isStretch (va_wsS RX6 34 yX6_in wsX6_in) := goodIn_app (goodIn_of _ (by decide +kernel)) ggX6_isStretch_X6_in
theorem dX6_isStretch_0 : decode cX6_isStretch 0 = .ok (.iload_n 1, 1) := by decide +kernel
theorem dX6_isStretch_1 : decode cX6_isStretch 1 = .ok (.i2l, 1) := by decide +kernel
theorem dX6_isStretch_2 : decode cX6_isStretch 2 = .ok (.lconst 0, 1) := by decide +kernel
theorem dX6_isStretch_3 : decode cX6_isStretch 3 = .ok (.aload_n 0, 1) := by decide +kernel
theorem dX6_isStretch_4 : decode cX6_isStretch 4 = .ok (.getfield 7, 3) := by decide +kernel
theorem dX6_isStretch_7 : decode cX6_isStretch 7 = .ok (.iconst 0, 1) := by decide +kernel
theorem dX6_isStretch_8 : decode cX6_isStretch 8 = .ok (.iaload, 1) := by decide +kernel
theorem dX6_isStretch_9 : decode cX6_isStretch 9 = .ok (.iconst 1, 1) := by decide +kernel
theorem dX6_isStretch_10 : decode cX6_isStretch 10 = .ok (.isub, 1) := by decide +kernel
theorem dX6_isStretch_11 : decode cX6_isStretch 11 = .ok (.i2l, 1) := by decide +kernel
theorem dX6_isStretch_12 : decode cX6_isStretch 12 = .ok (.invokestatic 34, 3) := by decide +kernel
theorem dX6_isStretch_15 : decode cX6_isStretch 15 = .ok (.ireturn, 1) := by decide +kernel
theorem dX6_isRoad_0 : decode cX6_isRoad 0 = .ok (.aload_n 0, 1) := by decide +kernel
theorem dX6_isRoad_1 : decode cX6_isRoad 1 = .ok (.getfield 7, 3) := by decide +kernel
theorem dX6_isRoad_4 : decode cX6_isRoad 4 = .ok (.iconst 0, 1) := by decide +kernel
theorem dX6_isRoad_5 : decode cX6_isRoad 5 = .ok (.iaload, 1) := by decide +kernel
theorem dX6_isRoad_6 : decode cX6_isRoad 6 = .ok (.ifCond .le 7, 3) := by decide +kernel
theorem dX6_isRoad_9 : decode cX6_isRoad 9 = .ok (.iconst 1, 1) := by decide +kernel
theorem dX6_isRoad_10 : decode cX6_isRoad 10 = .ok (.goto 4, 3) := by decide +kernel
theorem dX6_isRoad_13 : decode cX6_isRoad 13 = .ok (.iconst 0, 1) := by decide +kernel
theorem dX6_isRoad_14 : decode cX6_isRoad 14 = .ok (.ireturn, 1) := by decide +kernel
set_option maxRecDepth 20000 in
theorem ggX6_isRow_X6_in : GoodIn wsX6_isRow wsX6_in := goodIn_r _ [5] (by decide +kernel) (by decide +kernel)
set_option maxRecDepth 20000 in
theorem gX6_isRow_X6_in : GoodIn wsX6_isRow (va_wsS RX6 34 yX6_in wsX6_in) := goodIn_app (goodIn_of _ (by decide +kernel)) ggX6_isRow_X6_in
theorem dX6_isRow_0 : decode cX6_isRow 0 = .ok (.iload_n 0, 1) := by decide +kernel
theorem dX6_isRow_1 : decode cX6_isRow 1 = .ok (.i2l, 1) := by decide +kernel
theorem dX6_isRow_2 : decode cX6_isRow 2 = .ok (.lconst 0, 1) := by decide +kernel
theorem dX6_isRow_3 : decode cX6_isRow 3 = .ok (.ldc2_w 38, 3) := by decide +kernel
theorem dX6_isRow_6 : decode cX6_isRow 6 = .ok (.invokestatic 34, 3) := by decide +kernel
theorem dX6_isRow_9 : decode cX6_isRow 9 = .ok (.ireturn, 1) := by decide +kernel
theorem dX6_finds_0 : decode cX6_finds 0 = .ok (.aload_n 0, 1) := by decide +kernel
theorem dX6_finds_1 : decode cX6_finds 1 = .ok (.iload_n 1, 1) := by decide +kernel
theorem dX6_finds_2 : decode cX6_finds 2 = .ok (.putfield 40, 3) := by decide +kernel
theorem dX6_finds_5 : decode cX6_finds 5 = .ok (.ldc 44, 2) := by decide +kernel
theorem dX6_finds_7 : decode cX6_finds 7 = .ok (.iload_n 1, 1) := by decide +kernel
theorem dX6_finds_8 : decode cX6_finds 8 = .ok (.isub, 1) := by decide +kernel
theorem dX6_finds_9 : decode cX6_finds 9 = .ok (.ireturn, 1) := by decide +kernel
theorem dX6_against_0 : decode cX6_against 0 = .ok (.aload_n 0, 1) := by decide +kernel
theorem dX6_against_1 : decode cX6_against 1 = .ok (.getfield 16, 3) := by decide +kernel
theorem dX6_against_4 : decode cX6_against 4 = .ok (.iload_n 1, 1) := by decide +kernel
theorem dX6_against_5 : decode cX6_against 5 = .ok (.iaload, 1) := by decide +kernel
theorem dX6_against_6 : decode cX6_against 6 = .ok (.ifCond .ge 7, 3) := by decide +kernel
theorem dX6_against_9 : decode cX6_against 9 = .ok (.iconst 1, 1) := by decide +kernel
theorem dX6_against_10 : decode cX6_against 10 = .ok (.goto 32, 3) := by decide +kernel
theorem dX6_against_13 : decode cX6_against 13 = .ok (.iload_n 2, 1) := by decide +kernel
theorem dX6_against_14 : decode cX6_against 14 = .ok (.ifCond .lt 23, 3) := by decide +kernel
theorem dX6_against_17 : decode cX6_against 17 = .ok (.iload_n 3, 1) := by decide +kernel
theorem dX6_against_18 : decode cX6_against 18 = .ok (.ifCond .lt 19, 3) := by decide +kernel
theorem dX6_against_21 : decode cX6_against 21 = .ok (.iload_n 2, 1) := by decide +kernel
theorem dX6_against_22 : decode cX6_against 22 = .ok (.i2l, 1) := by decide +kernel
theorem dX6_against_23 : decode cX6_against 23 = .ok (.iload_n 3, 1) := by decide +kernel
theorem dX6_against_24 : decode cX6_against 24 = .ok (.i2l, 1) := by decide +kernel
theorem dX6_against_25 : decode cX6_against 25 = .ok (.ladd, 1) := by decide +kernel
theorem dX6_against_26 : decode cX6_against 26 = .ok (.aload_n 0, 1) := by decide +kernel
theorem dX6_against_27 : decode cX6_against 27 = .ok (.getfield 16, 3) := by decide +kernel
theorem dX6_against_30 : decode cX6_against 30 = .ok (.iload_n 1, 1) := by decide +kernel
theorem dX6_against_31 : decode cX6_against 31 = .ok (.iaload, 1) := by decide +kernel
theorem dX6_against_32 : decode cX6_against 32 = .ok (.i2l, 1) := by decide +kernel
theorem dX6_against_33 : decode cX6_against 33 = .ok (.lcmp, 1) := by decide +kernel
theorem dX6_against_34 : decode cX6_against 34 = .ok (.ifCond .le 7, 3) := by decide +kernel
theorem dX6_against_37 : decode cX6_against 37 = .ok (.iconst 2, 1) := by decide +kernel
theorem dX6_against_38 : decode cX6_against 38 = .ok (.goto 4, 3) := by decide +kernel
theorem dX6_against_41 : decode cX6_against 41 = .ok (.iconst 0, 1) := by decide +kernel
theorem dX6_against_42 : decode cX6_against 42 = .ok (.ireturn, 1) := by decide +kernel
set_option maxRecDepth 20000 in
theorem ggX6_row_X6_isRow : GoodIn wsX6_row wsX6_isRow := goodIn_r _ [10, 11, 12, 13, 9, 14] (by decide +kernel) (by decide +kernel)
set_option maxRecDepth 20000 in
theorem gX6_row_X6_isRow : GoodIn wsX6_row (va_wsS RX6 45 yX6_isRow wsX6_isRow) := goodIn_app (goodIn_of _ (by decide +kernel)) ggX6_row_X6_isRow
set_option maxRecDepth 20000 in
theorem ggX6_row_X6_in : GoodIn wsX6_row wsX6_in := goodIn_r _ [14] (by decide +kernel) (by decide +kernel)
set_option maxRecDepth 20000 in
theorem gX6_row_X6_in : GoodIn wsX6_row (va_wsS RX6 34 yX6_in wsX6_in) := goodIn_app (goodIn_of _ (by decide +kernel)) ggX6_row_X6_in
set_option maxRecDepth 20000 in
theorem ggX6_row_X6_finds : GoodIn wsX6_row wsX6_finds := goodIn_r _ [18, 3, 19, 20, 21, 22, 23, 24, 25, 26, 27, 28, 29, 30, 31, 32, 33, 34, 35] (by decide +kernel) (by decide +kernel)
set_option maxRecDepth 20000 in
theorem gX6_row_X6_finds : GoodIn wsX6_row (wsV RX6 52 RX6 yX6_finds wsX6_finds) := goodIn_app (goodIn_of _ (by decide +kernel)) ggX6_row_X6_finds
theorem dX6_row_0 : decode cX6_row 0 = .ok (.iload_n 1, 1) := by decide +kernel
theorem dX6_row_1 : decode cX6_row 1 = .ok (.invokestatic 45, 3) := by decide +kernel
theorem dX6_row_4 : decode cX6_row 4 = .ok (.ifCond .eq 21, 3) := by decide +kernel
theorem dX6_row_7 : decode cX6_row 7 = .ok (.iload_n 2, 1) := by decide +kernel
theorem dX6_row_8 : decode cX6_row 8 = .ok (.i2l, 1) := by decide +kernel
theorem dX6_row_9 : decode cX6_row 9 = .ok (.lconst 0, 1) := by decide +kernel
theorem dX6_row_10 : decode cX6_row 10 = .ok (.ldc2_w 49, 3) := by decide +kernel
theorem dX6_row_13 : decode cX6_row 13 = .ok (.invokestatic 34, 3) := by decide +kernel
theorem dX6_row_16 : decode cX6_row 16 = .ok (.ifCond .eq 9, 3) := by decide +kernel
theorem dX6_row_19 : decode cX6_row 19 = .ok (.iload_n 3, 1) := by decide +kernel
theorem dX6_row_20 : decode cX6_row 20 = .ok (.bipush 40, 2) := by decide +kernel
theorem dX6_row_22 : decode cX6_row 22 = .ok (.if_icmp .le 6, 3) := by decide +kernel
theorem dX6_row_25 : decode cX6_row 25 = .ok (.ldc 51, 2) := by decide +kernel
theorem dX6_row_27 : decode cX6_row 27 = .ok (.ireturn, 1) := by decide +kernel
theorem dX6_row_28 : decode cX6_row 28 = .ok (.iload_n 3, 1) := by decide +kernel
theorem dX6_row_29 : decode cX6_row 29 = .ok (.ifCond .ge 9, 3) := by decide +kernel
theorem dX6_row_32 : decode cX6_row 32 = .ok (.aload_n 0, 1) := by decide +kernel
theorem dX6_row_33 : decode cX6_row 33 = .ok (.iconst 4, 1) := by decide +kernel
theorem dX6_row_34 : decode cX6_row 34 = .ok (.invokevirtual 52, 3) := by decide +kernel
theorem dX6_row_37 : decode cX6_row 37 = .ok (.ireturn, 1) := by decide +kernel
theorem dX6_row_38 : decode cX6_row 38 = .ok (.aload_n 0, 1) := by decide +kernel
theorem dX6_row_39 : decode cX6_row 39 = .ok (.iconst 0, 1) := by decide +kernel
theorem dX6_row_40 : decode cX6_row 40 = .ok (.putfield 40, 3) := by decide +kernel
theorem dX6_row_43 : decode cX6_row 43 = .ok (.aload_n 0, 1) := by decide +kernel
theorem dX6_row_44 : decode cX6_row 44 = .ok (.getfield 16, 3) := by decide +kernel
theorem dX6_row_47 : decode cX6_row 47 = .ok (.iload_n 1, 1) := by decide +kernel
theorem dX6_row_48 : decode cX6_row 48 = .ok (.iload_n 3, 1) := by decide +kernel
theorem dX6_row_49 : decode cX6_row 49 = .ok (.iastore, 1) := by decide +kernel
theorem dX6_row_50 : decode cX6_row 50 = .ok (.aload_n 0, 1) := by decide +kernel
theorem dX6_row_51 : decode cX6_row 51 = .ok (.getfield 19, 3) := by decide +kernel
theorem dX6_row_54 : decode cX6_row 54 = .ok (.iload_n 1, 1) := by decide +kernel
theorem dX6_row_55 : decode cX6_row 55 = .ok (.iload_n 2, 1) := by decide +kernel
theorem dX6_row_56 : decode cX6_row 56 = .ok (.iastore, 1) := by decide +kernel
theorem dX6_row_57 : decode cX6_row 57 = .ok (.iconst 0, 1) := by decide +kernel
theorem dX6_row_58 : decode cX6_row 58 = .ok (.istore 4, 2) := by decide +kernel
theorem dX6_row_60 : decode cX6_row 60 = .ok (.iload 4, 2) := by decide +kernel
theorem dX6_row_62 : decode cX6_row 62 = .ok (.bipush 40, 2) := by decide +kernel
theorem dX6_row_64 : decode cX6_row 64 = .ok (.if_icmp .ge 22, 3) := by decide +kernel
theorem dX6_row_67 : decode cX6_row 67 = .ok (.aload_n 0, 1) := by decide +kernel
theorem dX6_row_68 : decode cX6_row 68 = .ok (.getfield 22, 3) := by decide +kernel
theorem dX6_row_71 : decode cX6_row 71 = .ok (.bipush 40, 2) := by decide +kernel
theorem dX6_row_73 : decode cX6_row 73 = .ok (.iload_n 1, 1) := by decide +kernel
theorem dX6_row_74 : decode cX6_row 74 = .ok (.imul, 1) := by decide +kernel
theorem dX6_row_75 : decode cX6_row 75 = .ok (.iload 4, 2) := by decide +kernel
theorem dX6_row_77 : decode cX6_row 77 = .ok (.iadd, 1) := by decide +kernel
theorem dX6_row_78 : decode cX6_row 78 = .ok (.iconst 0, 1) := by decide +kernel
theorem dX6_row_79 : decode cX6_row 79 = .ok (.iastore, 1) := by decide +kernel
theorem dX6_row_80 : decode cX6_row 80 = .ok (.iinc 4 1, 3) := by decide +kernel
theorem dX6_row_83 : decode cX6_row 83 = .ok (.goto (-23), 3) := by decide +kernel
theorem dX6_row_86 : decode cX6_row 86 = .ok (.iload_n 3, 1) := by decide +kernel
theorem dX6_row_87 : decode cX6_row 87 = .ok (.ireturn, 1) := by decide +kernel
set_option maxRecDepth 20000 in
theorem ggX6_set_X6_isRow : GoodIn wsX6_set wsX6_isRow := goodIn_r _ [8, 9, 10, 11, 7, 12] (by decide +kernel) (by decide +kernel)
set_option maxRecDepth 20000 in
theorem gX6_set_X6_isRow : GoodIn wsX6_set (va_wsS RX6 45 yX6_isRow wsX6_isRow) := goodIn_app (goodIn_of _ (by decide +kernel)) ggX6_set_X6_isRow
set_option maxRecDepth 20000 in
theorem ggX6_set_X6_against : GoodIn wsX6_set wsX6_against := goodIn_r _ [16, 17, 23, 24, 25, 26, 27, 28, 29, 30, 31, 32, 33, 34, 35, 36, 37, 38] (by decide +kernel) (by decide +kernel)
set_option maxRecDepth 20000 in
theorem gX6_set_X6_against : GoodIn wsX6_set (wsV RX6 56 RX6 yX6_against wsX6_against) := goodIn_app (goodIn_of _ (by decide +kernel)) ggX6_set_X6_against
set_option maxRecDepth 20000 in
theorem ggX6_set_X6_finds : GoodIn wsX6_set wsX6_finds := goodIn_r _ [21, 2, 22, 23, 24, 25, 26, 27, 28, 29, 30, 31, 32, 33, 34, 35, 36, 37, 38] (by decide +kernel) (by decide +kernel)
set_option maxRecDepth 20000 in
theorem gX6_set_X6_finds : GoodIn wsX6_set (wsV RX6 52 RX6 yX6_finds wsX6_finds) := goodIn_app (goodIn_of _ (by decide +kernel)) ggX6_set_X6_finds
theorem dX6_set_0 : decode cX6_set 0 = .ok (.iload_n 1, 1) := by decide +kernel
theorem dX6_set_1 : decode cX6_set 1 = .ok (.invokestatic 45, 3) := by decide +kernel
theorem dX6_set_4 : decode cX6_set 4 = .ok (.ifCond .ne 6, 3) := by decide +kernel
theorem dX6_set_7 : decode cX6_set 7 = .ok (.ldc 51, 2) := by decide +kernel
theorem dX6_set_9 : decode cX6_set 9 = .ok (.ireturn, 1) := by decide +kernel
theorem dX6_set_10 : decode cX6_set 10 = .ok (.aload_n 0, 1) := by decide +kernel
theorem dX6_set_11 : decode cX6_set 11 = .ok (.iload_n 1, 1) := by decide +kernel
theorem dX6_set_12 : decode cX6_set 12 = .ok (.iload_n 2, 1) := by decide +kernel
theorem dX6_set_13 : decode cX6_set 13 = .ok (.iconst 1, 1) := by decide +kernel
theorem dX6_set_14 : decode cX6_set 14 = .ok (.invokevirtual 56, 3) := by decide +kernel
theorem dX6_set_17 : decode cX6_set 17 = .ok (.istore 4, 2) := by decide +kernel
theorem dX6_set_19 : decode cX6_set 19 = .ok (.iload 4, 2) := by decide +kernel
theorem dX6_set_21 : decode cX6_set 21 = .ok (.ifCond .le 10, 3) := by decide +kernel
theorem dX6_set_24 : decode cX6_set 24 = .ok (.aload_n 0, 1) := by decide +kernel
theorem dX6_set_25 : decode cX6_set 25 = .ok (.iload 4, 2) := by decide +kernel
theorem dX6_set_27 : decode cX6_set 27 = .ok (.invokevirtual 52, 3) := by decide +kernel
theorem dX6_set_30 : decode cX6_set 30 = .ok (.ireturn, 1) := by decide +kernel
theorem dX6_set_31 : decode cX6_set 31 = .ok (.aload_n 0, 1) := by decide +kernel
theorem dX6_set_32 : decode cX6_set 32 = .ok (.iconst 0, 1) := by decide +kernel
theorem dX6_set_33 : decode cX6_set 33 = .ok (.putfield 40, 3) := by decide +kernel
theorem dX6_set_36 : decode cX6_set 36 = .ok (.aload_n 0, 1) := by decide +kernel
theorem dX6_set_37 : decode cX6_set 37 = .ok (.getfield 22, 3) := by decide +kernel
theorem dX6_set_40 : decode cX6_set 40 = .ok (.bipush 40, 2) := by decide +kernel
theorem dX6_set_42 : decode cX6_set 42 = .ok (.iload_n 1, 1) := by decide +kernel
theorem dX6_set_43 : decode cX6_set 43 = .ok (.imul, 1) := by decide +kernel
theorem dX6_set_44 : decode cX6_set 44 = .ok (.iload_n 2, 1) := by decide +kernel
theorem dX6_set_45 : decode cX6_set 45 = .ok (.iadd, 1) := by decide +kernel
theorem dX6_set_46 : decode cX6_set 46 = .ok (.aload_n 0, 1) := by decide +kernel
theorem dX6_set_47 : decode cX6_set 47 = .ok (.getfield 19, 3) := by decide +kernel
theorem dX6_set_50 : decode cX6_set 50 = .ok (.iload_n 1, 1) := by decide +kernel
theorem dX6_set_51 : decode cX6_set 51 = .ok (.iaload, 1) := by decide +kernel
theorem dX6_set_52 : decode cX6_set 52 = .ok (.ifCond .ne 8, 3) := by decide +kernel
theorem dX6_set_55 : decode cX6_set 55 = .ok (.iload_n 3, 1) := by decide +kernel
theorem dX6_set_56 : decode cX6_set 56 = .ok (.i2b, 1) := by decide +kernel
theorem dX6_set_57 : decode cX6_set 57 = .ok (.goto 19, 3) := by decide +kernel
theorem dX6_set_60 : decode cX6_set 60 = .ok (.aload_n 0, 1) := by decide +kernel
theorem dX6_set_61 : decode cX6_set 61 = .ok (.getfield 19, 3) := by decide +kernel
theorem dX6_set_64 : decode cX6_set 64 = .ok (.iload_n 1, 1) := by decide +kernel
theorem dX6_set_65 : decode cX6_set 65 = .ok (.iaload, 1) := by decide +kernel
theorem dX6_set_66 : decode cX6_set 66 = .ok (.iconst 1, 1) := by decide +kernel
theorem dX6_set_67 : decode cX6_set 67 = .ok (.if_icmp .ne 8, 3) := by decide +kernel
theorem dX6_set_70 : decode cX6_set 70 = .ok (.iload_n 3, 1) := by decide +kernel
theorem dX6_set_71 : decode cX6_set 71 = .ok (.i2s, 1) := by decide +kernel
theorem dX6_set_72 : decode cX6_set 72 = .ok (.goto 4, 3) := by decide +kernel
theorem dX6_set_75 : decode cX6_set 75 = .ok (.iload_n 3, 1) := by decide +kernel
theorem dX6_set_76 : decode cX6_set 76 = .ok (.iastore, 1) := by decide +kernel
theorem dX6_set_77 : decode cX6_set 77 = .ok (.aload_n 0, 1) := by decide +kernel
theorem dX6_set_78 : decode cX6_set 78 = .ok (.getfield 22, 3) := by decide +kernel
theorem dX6_set_81 : decode cX6_set 81 = .ok (.bipush 40, 2) := by decide +kernel
theorem dX6_set_83 : decode cX6_set 83 = .ok (.iload_n 1, 1) := by decide +kernel
theorem dX6_set_84 : decode cX6_set 84 = .ok (.imul, 1) := by decide +kernel
theorem dX6_set_85 : decode cX6_set 85 = .ok (.iload_n 2, 1) := by decide +kernel
theorem dX6_set_86 : decode cX6_set 86 = .ok (.iadd, 1) := by decide +kernel
theorem dX6_set_87 : decode cX6_set 87 = .ok (.iaload, 1) := by decide +kernel
theorem dX6_set_88 : decode cX6_set 88 = .ok (.ireturn, 1) := by decide +kernel
set_option maxRecDepth 20000 in
theorem ggX6_copy_X6_isRow : GoodIn wsX6_copy wsX6_isRow := goodIn_r _ [10, 11, 12, 13, 9, 14] (by decide +kernel) (by decide +kernel)
set_option maxRecDepth 20000 in
theorem gX6_copy_X6_isRow : GoodIn wsX6_copy (va_wsS RX6 45 yX6_isRow wsX6_isRow) := goodIn_app (goodIn_of _ (by decide +kernel)) ggX6_copy_X6_isRow
set_option maxRecDepth 20000 in
theorem ggX6_copy_X6_finds : GoodIn wsX6_copy wsX6_finds := goodIn_r _ [18, 4, 19, 24, 25, 26, 27, 28, 29, 30, 31, 32, 33, 34, 35, 36, 37, 38, 39] (by decide +kernel) (by decide +kernel)
set_option maxRecDepth 20000 in
theorem gX6_copy_X6_finds : GoodIn wsX6_copy (wsV RX6 52 RX6 yX6_finds wsX6_finds) := goodIn_app (goodIn_of _ (by decide +kernel)) ggX6_copy_X6_finds
set_option maxRecDepth 20000 in
theorem ggX6_copy_X6_against : GoodIn wsX6_copy wsX6_against := goodIn_r _ [23, 2, 24, 25, 26, 27, 28, 29, 30, 31, 32, 33, 34, 35, 36, 37, 38, 39] (by decide +kernel) (by decide +kernel)
set_option maxRecDepth 20000 in
theorem gX6_copy_X6_against : GoodIn wsX6_copy (wsV RX6 56 RX6 yX6_against wsX6_against) := goodIn_app (goodIn_of _ (by decide +kernel)) ggX6_copy_X6_against
theorem dX6_copy_0 : decode cX6_copy 0 = .ok (.iload_n 1, 1) := by decide +kernel
theorem dX6_copy_1 : decode cX6_copy 1 = .ok (.invokestatic 45, 3) := by decide +kernel
theorem dX6_copy_4 : decode cX6_copy 4 = .ok (.ifCond .eq 10, 3) := by decide +kernel
theorem dX6_copy_7 : decode cX6_copy 7 = .ok (.iload_n 3, 1) := by decide +kernel
theorem dX6_copy_8 : decode cX6_copy 8 = .ok (.invokestatic 45, 3) := by decide +kernel
theorem dX6_copy_11 : decode cX6_copy 11 = .ok (.ifCond .ne 6, 3) := by decide +kernel
theorem dX6_copy_14 : decode cX6_copy 14 = .ok (.ldc 51, 2) := by decide +kernel
theorem dX6_copy_16 : decode cX6_copy 16 = .ok (.ireturn, 1) := by decide +kernel
theorem dX6_copy_17 : decode cX6_copy 17 = .ok (.aload_n 0, 1) := by decide +kernel
theorem dX6_copy_18 : decode cX6_copy 18 = .ok (.getfield 16, 3) := by decide +kernel
theorem dX6_copy_21 : decode cX6_copy 21 = .ok (.iload_n 1, 1) := by decide +kernel
theorem dX6_copy_22 : decode cX6_copy 22 = .ok (.iaload, 1) := by decide +kernel
theorem dX6_copy_23 : decode cX6_copy 23 = .ok (.ifCond .lt 12, 3) := by decide +kernel
theorem dX6_copy_26 : decode cX6_copy 26 = .ok (.aload_n 0, 1) := by decide +kernel
theorem dX6_copy_27 : decode cX6_copy 27 = .ok (.getfield 16, 3) := by decide +kernel
theorem dX6_copy_30 : decode cX6_copy 30 = .ok (.iload_n 3, 1) := by decide +kernel
theorem dX6_copy_31 : decode cX6_copy 31 = .ok (.iaload, 1) := by decide +kernel
theorem dX6_copy_32 : decode cX6_copy 32 = .ok (.ifCond .ge 9, 3) := by decide +kernel
theorem dX6_copy_35 : decode cX6_copy 35 = .ok (.aload_n 0, 1) := by decide +kernel
theorem dX6_copy_36 : decode cX6_copy 36 = .ok (.iconst 1, 1) := by decide +kernel
theorem dX6_copy_37 : decode cX6_copy 37 = .ok (.invokevirtual 52, 3) := by decide +kernel
theorem dX6_copy_40 : decode cX6_copy 40 = .ok (.ireturn, 1) := by decide +kernel
theorem dX6_copy_41 : decode cX6_copy 41 = .ok (.aload_n 0, 1) := by decide +kernel
theorem dX6_copy_42 : decode cX6_copy 42 = .ok (.getfield 19, 3) := by decide +kernel
theorem dX6_copy_45 : decode cX6_copy 45 = .ok (.iload_n 1, 1) := by decide +kernel
theorem dX6_copy_46 : decode cX6_copy 46 = .ok (.iaload, 1) := by decide +kernel
theorem dX6_copy_47 : decode cX6_copy 47 = .ok (.aload_n 0, 1) := by decide +kernel
theorem dX6_copy_48 : decode cX6_copy 48 = .ok (.getfield 19, 3) := by decide +kernel
theorem dX6_copy_51 : decode cX6_copy 51 = .ok (.iload_n 3, 1) := by decide +kernel
theorem dX6_copy_52 : decode cX6_copy 52 = .ok (.iaload, 1) := by decide +kernel
theorem dX6_copy_53 : decode cX6_copy 53 = .ok (.if_icmp .eq 9, 3) := by decide +kernel
theorem dX6_copy_56 : decode cX6_copy 56 = .ok (.aload_n 0, 1) := by decide +kernel
theorem dX6_copy_57 : decode cX6_copy 57 = .ok (.iconst 5, 1) := by decide +kernel
theorem dX6_copy_58 : decode cX6_copy 58 = .ok (.invokevirtual 52, 3) := by decide +kernel
theorem dX6_copy_61 : decode cX6_copy 61 = .ok (.ireturn, 1) := by decide +kernel
theorem dX6_copy_62 : decode cX6_copy 62 = .ok (.aload_n 0, 1) := by decide +kernel
theorem dX6_copy_63 : decode cX6_copy 63 = .ok (.iload_n 1, 1) := by decide +kernel
theorem dX6_copy_64 : decode cX6_copy 64 = .ok (.iload_n 2, 1) := by decide +kernel
theorem dX6_copy_65 : decode cX6_copy 65 = .ok (.iload 5, 2) := by decide +kernel
theorem dX6_copy_67 : decode cX6_copy 67 = .ok (.invokevirtual 56, 3) := by decide +kernel
theorem dX6_copy_70 : decode cX6_copy 70 = .ok (.ifCond .gt 15, 3) := by decide +kernel
theorem dX6_copy_73 : decode cX6_copy 73 = .ok (.aload_n 0, 1) := by decide +kernel
theorem dX6_copy_74 : decode cX6_copy 74 = .ok (.iload_n 3, 1) := by decide +kernel
theorem dX6_copy_75 : decode cX6_copy 75 = .ok (.iload 4, 2) := by decide +kernel
theorem dX6_copy_77 : decode cX6_copy 77 = .ok (.iload 5, 2) := by decide +kernel
theorem dX6_copy_79 : decode cX6_copy 79 = .ok (.invokevirtual 56, 3) := by decide +kernel
theorem dX6_copy_82 : decode cX6_copy 82 = .ok (.ifCond .le 9, 3) := by decide +kernel
theorem dX6_copy_85 : decode cX6_copy 85 = .ok (.aload_n 0, 1) := by decide +kernel
theorem dX6_copy_86 : decode cX6_copy 86 = .ok (.iconst 2, 1) := by decide +kernel
theorem dX6_copy_87 : decode cX6_copy 87 = .ok (.invokevirtual 52, 3) := by decide +kernel
theorem dX6_copy_90 : decode cX6_copy 90 = .ok (.ireturn, 1) := by decide +kernel
theorem dX6_copy_91 : decode cX6_copy 91 = .ok (.aload_n 0, 1) := by decide +kernel
theorem dX6_copy_92 : decode cX6_copy 92 = .ok (.iconst 0, 1) := by decide +kernel
theorem dX6_copy_93 : decode cX6_copy 93 = .ok (.putfield 40, 3) := by decide +kernel
theorem dX6_copy_96 : decode cX6_copy 96 = .ok (.iconst 0, 1) := by decide +kernel
theorem dX6_copy_97 : decode cX6_copy 97 = .ok (.istore 6, 2) := by decide +kernel
theorem dX6_copy_99 : decode cX6_copy 99 = .ok (.iload 6, 2) := by decide +kernel
theorem dX6_copy_101 : decode cX6_copy 101 = .ok (.iload 5, 2) := by decide +kernel
theorem dX6_copy_103 : decode cX6_copy 103 = .ok (.if_icmp .ge 30, 3) := by decide +kernel
theorem dX6_copy_106 : decode cX6_copy 106 = .ok (.aload_n 0, 1) := by decide +kernel
theorem dX6_copy_107 : decode cX6_copy 107 = .ok (.getfield 25, 3) := by decide +kernel
theorem dX6_copy_110 : decode cX6_copy 110 = .ok (.iload 6, 2) := by decide +kernel
theorem dX6_copy_112 : decode cX6_copy 112 = .ok (.aload_n 0, 1) := by decide +kernel
theorem dX6_copy_113 : decode cX6_copy 113 = .ok (.getfield 22, 3) := by decide +kernel
theorem dX6_copy_116 : decode cX6_copy 116 = .ok (.bipush 40, 2) := by decide +kernel
theorem dX6_copy_118 : decode cX6_copy 118 = .ok (.iload_n 1, 1) := by decide +kernel
theorem dX6_copy_119 : decode cX6_copy 119 = .ok (.imul, 1) := by decide +kernel
theorem dX6_copy_120 : decode cX6_copy 120 = .ok (.iload_n 2, 1) := by decide +kernel
theorem dX6_copy_121 : decode cX6_copy 121 = .ok (.iadd, 1) := by decide +kernel
theorem dX6_copy_122 : decode cX6_copy 122 = .ok (.iload 6, 2) := by decide +kernel
theorem dX6_copy_124 : decode cX6_copy 124 = .ok (.iadd, 1) := by decide +kernel
theorem dX6_copy_125 : decode cX6_copy 125 = .ok (.iaload, 1) := by decide +kernel
theorem dX6_copy_126 : decode cX6_copy 126 = .ok (.iastore, 1) := by decide +kernel
theorem dX6_copy_127 : decode cX6_copy 127 = .ok (.iinc 6 1, 3) := by decide +kernel
theorem dX6_copy_130 : decode cX6_copy 130 = .ok (.goto (-31), 3) := by decide +kernel
theorem dX6_copy_133 : decode cX6_copy 133 = .ok (.iconst 0, 1) := by decide +kernel
theorem dX6_copy_134 : decode cX6_copy 134 = .ok (.istore 6, 2) := by decide +kernel
theorem dX6_copy_136 : decode cX6_copy 136 = .ok (.iload 6, 2) := by decide +kernel
theorem dX6_copy_138 : decode cX6_copy 138 = .ok (.iload 5, 2) := by decide +kernel
theorem dX6_copy_140 : decode cX6_copy 140 = .ok (.if_icmp .ge 31, 3) := by decide +kernel
theorem dX6_copy_143 : decode cX6_copy 143 = .ok (.aload_n 0, 1) := by decide +kernel
theorem dX6_copy_144 : decode cX6_copy 144 = .ok (.getfield 22, 3) := by decide +kernel
theorem dX6_copy_147 : decode cX6_copy 147 = .ok (.bipush 40, 2) := by decide +kernel
theorem dX6_copy_149 : decode cX6_copy 149 = .ok (.iload_n 3, 1) := by decide +kernel
theorem dX6_copy_150 : decode cX6_copy 150 = .ok (.imul, 1) := by decide +kernel
theorem dX6_copy_151 : decode cX6_copy 151 = .ok (.iload 4, 2) := by decide +kernel
theorem dX6_copy_153 : decode cX6_copy 153 = .ok (.iadd, 1) := by decide +kernel
theorem dX6_copy_154 : decode cX6_copy 154 = .ok (.iload 6, 2) := by decide +kernel
theorem dX6_copy_156 : decode cX6_copy 156 = .ok (.iadd, 1) := by decide +kernel
theorem dX6_copy_157 : decode cX6_copy 157 = .ok (.aload_n 0, 1) := by decide +kernel
theorem dX6_copy_158 : decode cX6_copy 158 = .ok (.getfield 25, 3) := by decide +kernel
theorem dX6_copy_161 : decode cX6_copy 161 = .ok (.iload 6, 2) := by decide +kernel
theorem dX6_copy_163 : decode cX6_copy 163 = .ok (.iaload, 1) := by decide +kernel
theorem dX6_copy_164 : decode cX6_copy 164 = .ok (.iastore, 1) := by decide +kernel
theorem dX6_copy_165 : decode cX6_copy 165 = .ok (.iinc 6 1, 3) := by decide +kernel
theorem dX6_copy_168 : decode cX6_copy 168 = .ok (.goto (-32), 3) := by decide +kernel
theorem dX6_copy_171 : decode cX6_copy 171 = .ok (.iload 5, 2) := by decide +kernel
theorem dX6_copy_173 : decode cX6_copy 173 = .ok (.ireturn, 1) := by decide +kernel
set_option maxRecDepth 20000 in
theorem ggX6_drop_X6_isRow : GoodIn wsX6_drop wsX6_isRow := goodIn_r _ [7, 8, 9, 10, 6, 11] (by decide +kernel) (by decide +kernel)
set_option maxRecDepth 20000 in
theorem gX6_drop_X6_isRow : GoodIn wsX6_drop (va_wsS RX6 45 yX6_isRow wsX6_isRow) := goodIn_app (goodIn_of _ (by decide +kernel)) ggX6_drop_X6_isRow
set_option maxRecDepth 20000 in
theorem ggX6_drop_X6_finds : GoodIn wsX6_drop wsX6_finds := goodIn_r _ [15, 3, 16, 17, 18, 19, 20, 21, 22, 23, 24, 25, 26, 27, 28, 29, 30, 31, 32] (by decide +kernel) (by decide +kernel)
set_option maxRecDepth 20000 in
theorem gX6_drop_X6_finds : GoodIn wsX6_drop (wsV RX6 52 RX6 yX6_finds wsX6_finds) := goodIn_app (goodIn_of _ (by decide +kernel)) ggX6_drop_X6_finds
theorem dX6_drop_0 : decode cX6_drop 0 = .ok (.iload_n 1, 1) := by decide +kernel
theorem dX6_drop_1 : decode cX6_drop 1 = .ok (.invokestatic 45, 3) := by decide +kernel
theorem dX6_drop_4 : decode cX6_drop 4 = .ok (.ifCond .ne 6, 3) := by decide +kernel
theorem dX6_drop_7 : decode cX6_drop 7 = .ok (.ldc 51, 2) := by decide +kernel
theorem dX6_drop_9 : decode cX6_drop 9 = .ok (.ireturn, 1) := by decide +kernel
theorem dX6_drop_10 : decode cX6_drop 10 = .ok (.aload_n 0, 1) := by decide +kernel
theorem dX6_drop_11 : decode cX6_drop 11 = .ok (.getfield 16, 3) := by decide +kernel
theorem dX6_drop_14 : decode cX6_drop 14 = .ok (.iload_n 1, 1) := by decide +kernel
theorem dX6_drop_15 : decode cX6_drop 15 = .ok (.iaload, 1) := by decide +kernel
theorem dX6_drop_16 : decode cX6_drop 16 = .ok (.ifCond .ge 9, 3) := by decide +kernel
theorem dX6_drop_19 : decode cX6_drop 19 = .ok (.aload_n 0, 1) := by decide +kernel
theorem dX6_drop_20 : decode cX6_drop 20 = .ok (.iconst 1, 1) := by decide +kernel
theorem dX6_drop_21 : decode cX6_drop 21 = .ok (.invokevirtual 52, 3) := by decide +kernel
theorem dX6_drop_24 : decode cX6_drop 24 = .ok (.ireturn, 1) := by decide +kernel
theorem dX6_drop_25 : decode cX6_drop 25 = .ok (.aload_n 0, 1) := by decide +kernel
theorem dX6_drop_26 : decode cX6_drop 26 = .ok (.iconst 0, 1) := by decide +kernel
theorem dX6_drop_27 : decode cX6_drop 27 = .ok (.putfield 40, 3) := by decide +kernel
theorem dX6_drop_30 : decode cX6_drop 30 = .ok (.aload_n 0, 1) := by decide +kernel
theorem dX6_drop_31 : decode cX6_drop 31 = .ok (.getfield 16, 3) := by decide +kernel
theorem dX6_drop_34 : decode cX6_drop 34 = .ok (.iload_n 1, 1) := by decide +kernel
theorem dX6_drop_35 : decode cX6_drop 35 = .ok (.iaload, 1) := by decide +kernel
theorem dX6_drop_36 : decode cX6_drop 36 = .ok (.istore_n 2, 1) := by decide +kernel
theorem dX6_drop_37 : decode cX6_drop 37 = .ok (.aload_n 0, 1) := by decide +kernel
theorem dX6_drop_38 : decode cX6_drop 38 = .ok (.getfield 16, 3) := by decide +kernel
theorem dX6_drop_41 : decode cX6_drop 41 = .ok (.iload_n 1, 1) := by decide +kernel
theorem dX6_drop_42 : decode cX6_drop 42 = .ok (.iconst (-1), 1) := by decide +kernel
theorem dX6_drop_43 : decode cX6_drop 43 = .ok (.iastore, 1) := by decide +kernel
theorem dX6_drop_44 : decode cX6_drop 44 = .ok (.iload_n 2, 1) := by decide +kernel
theorem dX6_drop_45 : decode cX6_drop 45 = .ok (.ireturn, 1) := by decide +kernel
set_option maxRecDepth 20000 in
theorem ggX6_feed_X6_in : GoodIn wsX6_feed wsX6_in := goodIn_r _ [9] (by decide +kernel) (by decide +kernel)
set_option maxRecDepth 20000 in
theorem gX6_feed_X6_in : GoodIn wsX6_feed (va_wsS RX6 34 yX6_in wsX6_in) := goodIn_app (goodIn_of _ (by decide +kernel)) ggX6_feed_X6_in
theorem dX6_feed_0 : decode cX6_feed 0 = .ok (.iload_n 1, 1) := by decide +kernel
theorem dX6_feed_1 : decode cX6_feed 1 = .ok (.i2l, 1) := by decide +kernel
theorem dX6_feed_2 : decode cX6_feed 2 = .ok (.lconst 0, 1) := by decide +kernel
theorem dX6_feed_3 : decode cX6_feed 3 = .ok (.ldc2_w 60, 3) := by decide +kernel
theorem dX6_feed_6 : decode cX6_feed 6 = .ok (.invokestatic 34, 3) := by decide +kernel
theorem dX6_feed_9 : decode cX6_feed 9 = .ok (.ifCond .ne 6, 3) := by decide +kernel
theorem dX6_feed_12 : decode cX6_feed 12 = .ok (.ldc 51, 2) := by decide +kernel
theorem dX6_feed_14 : decode cX6_feed 14 = .ok (.ireturn, 1) := by decide +kernel
theorem dX6_feed_15 : decode cX6_feed 15 = .ok (.aload_n 0, 1) := by decide +kernel
theorem dX6_feed_16 : decode cX6_feed 16 = .ok (.getfield 62, 3) := by decide +kernel
theorem dX6_feed_19 : decode cX6_feed 19 = .ok (.bipush 90, 2) := by decide +kernel
theorem dX6_feed_21 : decode cX6_feed 21 = .ok (.if_icmp .ne 6, 3) := by decide +kernel
theorem dX6_feed_24 : decode cX6_feed 24 = .ok (.ldc 65, 2) := by decide +kernel
theorem dX6_feed_26 : decode cX6_feed 26 = .ok (.ireturn, 1) := by decide +kernel
theorem dX6_feed_27 : decode cX6_feed 27 = .ok (.aload_n 0, 1) := by decide +kernel
theorem dX6_feed_28 : decode cX6_feed 28 = .ok (.getfield 13, 3) := by decide +kernel
theorem dX6_feed_31 : decode cX6_feed 31 = .ok (.aload_n 0, 1) := by decide +kernel
theorem dX6_feed_32 : decode cX6_feed 32 = .ok (.getfield 62, 3) := by decide +kernel
theorem dX6_feed_35 : decode cX6_feed 35 = .ok (.iload_n 1, 1) := by decide +kernel
theorem dX6_feed_36 : decode cX6_feed 36 = .ok (.iastore, 1) := by decide +kernel
theorem dX6_feed_37 : decode cX6_feed 37 = .ok (.aload_n 0, 1) := by decide +kernel
theorem dX6_feed_38 : decode cX6_feed 38 = .ok (.dup, 1) := by decide +kernel
theorem dX6_feed_39 : decode cX6_feed 39 = .ok (.getfield 62, 3) := by decide +kernel
theorem dX6_feed_42 : decode cX6_feed 42 = .ok (.iconst 1, 1) := by decide +kernel
theorem dX6_feed_43 : decode cX6_feed 43 = .ok (.iadd, 1) := by decide +kernel
theorem dX6_feed_44 : decode cX6_feed 44 = .ok (.putfield 62, 3) := by decide +kernel
theorem dX6_feed_47 : decode cX6_feed 47 = .ok (.aload_n 0, 1) := by decide +kernel
theorem dX6_feed_48 : decode cX6_feed 48 = .ok (.getfield 62, 3) := by decide +kernel
theorem dX6_feed_51 : decode cX6_feed 51 = .ok (.ireturn, 1) := by decide +kernel
theorem dX6_here_0 : decode cX6_here 0 = .ok (.aload_n 0, 1) := by decide +kernel
theorem dX6_here_1 : decode cX6_here 1 = .ok (.getfield 66, 3) := by decide +kernel
theorem dX6_here_4 : decode cX6_here 4 = .ok (.aload_n 0, 1) := by decide +kernel
theorem dX6_here_5 : decode cX6_here 5 = .ok (.getfield 62, 3) := by decide +kernel
theorem dX6_here_8 : decode cX6_here 8 = .ok (.if_icmp .ge 15, 3) := by decide +kernel
theorem dX6_here_11 : decode cX6_here 11 = .ok (.aload_n 0, 1) := by decide +kernel
theorem dX6_here_12 : decode cX6_here 12 = .ok (.getfield 13, 3) := by decide +kernel
theorem dX6_here_15 : decode cX6_here 15 = .ok (.aload_n 0, 1) := by decide +kernel
theorem dX6_here_16 : decode cX6_here 16 = .ok (.getfield 66, 3) := by decide +kernel
theorem dX6_here_19 : decode cX6_here 19 = .ok (.iaload, 1) := by decide +kernel
theorem dX6_here_20 : decode cX6_here 20 = .ok (.goto 4, 3) := by decide +kernel
theorem dX6_here_23 : decode cX6_here 23 = .ok (.iconst (-1), 1) := by decide +kernel
theorem dX6_here_24 : decode cX6_here 24 = .ok (.ireturn, 1) := by decide +kernel
theorem dX6_fails_0 : decode cX6_fails 0 = .ok (.aload_n 0, 1) := by decide +kernel
theorem dX6_fails_1 : decode cX6_fails 1 = .ok (.iload_n 1, 1) := by decide +kernel
theorem dX6_fails_2 : decode cX6_fails 2 = .ok (.putfield 69, 3) := by decide +kernel
theorem dX6_fails_5 : decode cX6_fails 5 = .ok (.aload_n 0, 1) := by decide +kernel
theorem dX6_fails_6 : decode cX6_fails 6 = .ok (.iload_n 2, 1) := by decide +kernel
theorem dX6_fails_7 : decode cX6_fails 7 = .ok (.putfield 72, 3) := by decide +kernel
theorem dX6_fails_10 : decode cX6_fails 10 = .ok (.iconst 0, 1) := by decide +kernel
theorem dX6_fails_11 : decode cX6_fails 11 = .ok (.ireturn, 1) := by decide +kernel
set_option maxRecDepth 20000 in
theorem ggX6_takes_X6_here : GoodIn wsX6_takes wsX6_here := goodIn_r _ [6, 1, 7, 8, 15, 16, 17, 18, 19, 20, 21, 22, 23, 24, 25, 26, 27, 28, 29, 30] (by decide +kernel) (by decide +kernel)
set_option maxRecDepth 20000 in
theorem gX6_takes_X6_here : GoodIn wsX6_takes (wsV RX6 75 RX6 yX6_here wsX6_here) := goodIn_app (goodIn_of _ (by decide +kernel)) ggX6_takes_X6_here
set_option maxRecDepth 20000 in
theorem ggX6_takes_X6_fails : GoodIn wsX6_takes wsX6_fails := goodIn_r _ [12, 13, 14, 15, 16, 17, 18, 19, 20, 21, 22, 23, 24, 25, 26, 27, 28, 29, 30] (by decide +kernel) (by decide +kernel)
set_option maxRecDepth 20000 in
theorem gX6_takes_X6_fails : GoodIn wsX6_takes (wsV RX6 79 RX6 yX6_fails wsX6_fails) := goodIn_app (goodIn_of _ (by decide +kernel)) ggX6_takes_X6_fails
theorem dX6_takes_0 : decode cX6_takes 0 = .ok (.aload_n 0, 1) := by decide +kernel
theorem dX6_takes_1 : decode cX6_takes 1 = .ok (.invokevirtual 75, 3) := by decide +kernel
theorem dX6_takes_4 : decode cX6_takes 4 = .ok (.iload_n 1, 1) := by decide +kernel
theorem dX6_takes_5 : decode cX6_takes 5 = .ok (.if_icmp .eq 13, 3) := by decide +kernel
theorem dX6_takes_8 : decode cX6_takes 8 = .ok (.aload_n 0, 1) := by decide +kernel
theorem dX6_takes_9 : decode cX6_takes 9 = .ok (.iconst 1, 1) := by decide +kernel
theorem dX6_takes_10 : decode cX6_takes 10 = .ok (.aload_n 0, 1) := by decide +kernel
theorem dX6_takes_11 : decode cX6_takes 11 = .ok (.getfield 66, 3) := by decide +kernel
theorem dX6_takes_14 : decode cX6_takes 14 = .ok (.invokevirtual 79, 3) := by decide +kernel
theorem dX6_takes_17 : decode cX6_takes 17 = .ok (.ireturn, 1) := by decide +kernel
theorem dX6_takes_18 : decode cX6_takes 18 = .ok (.aload_n 0, 1) := by decide +kernel
theorem dX6_takes_19 : decode cX6_takes 19 = .ok (.dup, 1) := by decide +kernel
theorem dX6_takes_20 : decode cX6_takes 20 = .ok (.getfield 66, 3) := by decide +kernel
theorem dX6_takes_23 : decode cX6_takes 23 = .ok (.iconst 1, 1) := by decide +kernel
theorem dX6_takes_24 : decode cX6_takes 24 = .ok (.iadd, 1) := by decide +kernel
theorem dX6_takes_25 : decode cX6_takes 25 = .ok (.putfield 66, 3) := by decide +kernel
theorem dX6_takes_28 : decode cX6_takes 28 = .ok (.iconst 1, 1) := by decide +kernel
theorem dX6_takes_29 : decode cX6_takes 29 = .ok (.ireturn, 1) := by decide +kernel
set_option maxRecDepth 20000 in
theorem ggX6_takesNumber_X6_here : GoodIn wsX6_takesNumber wsX6_here := goodIn_r _ [10, 1, 11, 12, 22, 23, 24, 25, 26, 27, 28, 29, 30, 31, 32, 33, 34, 35, 36, 37] (by decide +kernel) (by decide +kernel)
set_option maxRecDepth 20000 in
theorem gX6_takesNumber_X6_here : GoodIn wsX6_takesNumber (wsV RX6 75 RX6 yX6_here wsX6_here) := goodIn_app (goodIn_of _ (by decide +kernel)) ggX6_takesNumber_X6_here
set_option maxRecDepth 20000 in
theorem ggX6_takesNumber_X6_in : GoodIn wsX6_takesNumber wsX6_in := goodIn_r _ [15] (by decide +kernel) (by decide +kernel)
set_option maxRecDepth 20000 in
theorem gX6_takesNumber_X6_in : GoodIn wsX6_takesNumber (va_wsS RX6 34 yX6_in wsX6_in) := goodIn_app (goodIn_of _ (by decide +kernel)) ggX6_takesNumber_X6_in
set_option maxRecDepth 20000 in
theorem ggX6_takesNumber_X6_fails : GoodIn wsX6_takesNumber wsX6_fails := goodIn_r _ [19, 20, 21, 22, 23, 24, 25, 26, 27, 28, 29, 30, 31, 32, 33, 34, 35, 36, 37] (by decide +kernel) (by decide +kernel)
set_option maxRecDepth 20000 in
theorem gX6_takesNumber_X6_fails : GoodIn wsX6_takesNumber (wsV RX6 79 RX6 yX6_fails wsX6_fails) := goodIn_app (goodIn_of _ (by decide +kernel)) ggX6_takesNumber_X6_fails
theorem dX6_takesNumber_0 : decode cX6_takesNumber 0 = .ok (.aload_n 0, 1) := by decide +kernel
theorem dX6_takesNumber_1 : decode cX6_takesNumber 1 = .ok (.getfield 66, 3) := by decide +kernel
theorem dX6_takesNumber_4 : decode cX6_takesNumber 4 = .ok (.istore_n 3, 1) := by decide +kernel
theorem dX6_takesNumber_5 : decode cX6_takesNumber 5 = .ok (.aload_n 0, 1) := by decide +kernel
theorem dX6_takesNumber_6 : decode cX6_takesNumber 6 = .ok (.iconst 0, 1) := by decide +kernel
theorem dX6_takesNumber_7 : decode cX6_takesNumber 7 = .ok (.putfield 83, 3) := by decide +kernel
theorem dX6_takesNumber_10 : decode cX6_takesNumber 10 = .ok (.aload_n 0, 1) := by decide +kernel
theorem dX6_takesNumber_11 : decode cX6_takesNumber 11 = .ok (.invokevirtual 75, 3) := by decide +kernel
theorem dX6_takesNumber_14 : decode cX6_takesNumber 14 = .ok (.i2l, 1) := by decide +kernel
theorem dX6_takesNumber_15 : decode cX6_takesNumber 15 = .ok (.ldc2_w 86, 3) := by decide +kernel
theorem dX6_takesNumber_18 : decode cX6_takesNumber 18 = .ok (.ldc2_w 88, 3) := by decide +kernel
theorem dX6_takesNumber_21 : decode cX6_takesNumber 21 = .ok (.invokestatic 34, 3) := by decide +kernel
theorem dX6_takesNumber_24 : decode cX6_takesNumber 24 = .ok (.ifCond .eq 52, 3) := by decide +kernel
theorem dX6_takesNumber_27 : decode cX6_takesNumber 27 = .ok (.aload_n 0, 1) := by decide +kernel
theorem dX6_takesNumber_28 : decode cX6_takesNumber 28 = .ok (.aload_n 0, 1) := by decide +kernel
theorem dX6_takesNumber_29 : decode cX6_takesNumber 29 = .ok (.getfield 66, 3) := by decide +kernel
theorem dX6_takesNumber_32 : decode cX6_takesNumber 32 = .ok (.iload_n 3, 1) := by decide +kernel
theorem dX6_takesNumber_33 : decode cX6_takesNumber 33 = .ok (.isub, 1) := by decide +kernel
theorem dX6_takesNumber_34 : decode cX6_takesNumber 34 = .ok (.iconst 2, 1) := by decide +kernel
theorem dX6_takesNumber_35 : decode cX6_takesNumber 35 = .ok (.if_icmp .ge 21, 3) := by decide +kernel
theorem dX6_takesNumber_38 : decode cX6_takesNumber 38 = .ok (.bipush 10, 2) := by decide +kernel
theorem dX6_takesNumber_40 : decode cX6_takesNumber 40 = .ok (.aload_n 0, 1) := by decide +kernel
theorem dX6_takesNumber_41 : decode cX6_takesNumber 41 = .ok (.getfield 83, 3) := by decide +kernel
theorem dX6_takesNumber_44 : decode cX6_takesNumber 44 = .ok (.imul, 1) := by decide +kernel
theorem dX6_takesNumber_45 : decode cX6_takesNumber 45 = .ok (.aload_n 0, 1) := by decide +kernel
theorem dX6_takesNumber_46 : decode cX6_takesNumber 46 = .ok (.invokevirtual 75, 3) := by decide +kernel
theorem dX6_takesNumber_49 : decode cX6_takesNumber 49 = .ok (.iadd, 1) := by decide +kernel
theorem dX6_takesNumber_50 : decode cX6_takesNumber 50 = .ok (.bipush 48, 2) := by decide +kernel
theorem dX6_takesNumber_52 : decode cX6_takesNumber 52 = .ok (.isub, 1) := by decide +kernel
theorem dX6_takesNumber_53 : decode cX6_takesNumber 53 = .ok (.goto 7, 3) := by decide +kernel
theorem dX6_takesNumber_56 : decode cX6_takesNumber 56 = .ok (.aload_n 0, 1) := by decide +kernel
theorem dX6_takesNumber_57 : decode cX6_takesNumber 57 = .ok (.getfield 83, 3) := by decide +kernel
theorem dX6_takesNumber_60 : decode cX6_takesNumber 60 = .ok (.putfield 83, 3) := by decide +kernel
theorem dX6_takesNumber_63 : decode cX6_takesNumber 63 = .ok (.aload_n 0, 1) := by decide +kernel
theorem dX6_takesNumber_64 : decode cX6_takesNumber 64 = .ok (.dup, 1) := by decide +kernel
theorem dX6_takesNumber_65 : decode cX6_takesNumber 65 = .ok (.getfield 66, 3) := by decide +kernel
theorem dX6_takesNumber_68 : decode cX6_takesNumber 68 = .ok (.iconst 1, 1) := by decide +kernel
theorem dX6_takesNumber_69 : decode cX6_takesNumber 69 = .ok (.iadd, 1) := by decide +kernel
theorem dX6_takesNumber_70 : decode cX6_takesNumber 70 = .ok (.putfield 66, 3) := by decide +kernel
theorem dX6_takesNumber_73 : decode cX6_takesNumber 73 = .ok (.goto (-63), 3) := by decide +kernel
theorem dX6_takesNumber_76 : decode cX6_takesNumber 76 = .ok (.aload_n 0, 1) := by decide +kernel
theorem dX6_takesNumber_77 : decode cX6_takesNumber 77 = .ok (.getfield 66, 3) := by decide +kernel
theorem dX6_takesNumber_80 : decode cX6_takesNumber 80 = .ok (.iload_n 3, 1) := by decide +kernel
theorem dX6_takesNumber_81 : decode cX6_takesNumber 81 = .ok (.isub, 1) := by decide +kernel
theorem dX6_takesNumber_82 : decode cX6_takesNumber 82 = .ok (.i2l, 1) := by decide +kernel
theorem dX6_takesNumber_83 : decode cX6_takesNumber 83 = .ok (.lconst 1, 1) := by decide +kernel
theorem dX6_takesNumber_84 : decode cX6_takesNumber 84 = .ok (.ldc2_w 49, 3) := by decide +kernel
theorem dX6_takesNumber_87 : decode cX6_takesNumber 87 = .ok (.invokestatic 34, 3) := by decide +kernel
theorem dX6_takesNumber_90 : decode cX6_takesNumber 90 = .ok (.ifCond .ne 10, 3) := by decide +kernel
theorem dX6_takesNumber_93 : decode cX6_takesNumber 93 = .ok (.aload_n 0, 1) := by decide +kernel
theorem dX6_takesNumber_94 : decode cX6_takesNumber 94 = .ok (.iconst 1, 1) := by decide +kernel
theorem dX6_takesNumber_95 : decode cX6_takesNumber 95 = .ok (.iload_n 3, 1) := by decide +kernel
theorem dX6_takesNumber_96 : decode cX6_takesNumber 96 = .ok (.invokevirtual 79, 3) := by decide +kernel
theorem dX6_takesNumber_99 : decode cX6_takesNumber 99 = .ok (.ireturn, 1) := by decide +kernel
theorem dX6_takesNumber_100 : decode cX6_takesNumber 100 = .ok (.aload_n 0, 1) := by decide +kernel
theorem dX6_takesNumber_101 : decode cX6_takesNumber 101 = .ok (.getfield 83, 3) := by decide +kernel
theorem dX6_takesNumber_104 : decode cX6_takesNumber 104 = .ok (.i2l, 1) := by decide +kernel
theorem dX6_takesNumber_105 : decode cX6_takesNumber 105 = .ok (.iload_n 1, 1) := by decide +kernel
theorem dX6_takesNumber_106 : decode cX6_takesNumber 106 = .ok (.i2l, 1) := by decide +kernel
theorem dX6_takesNumber_107 : decode cX6_takesNumber 107 = .ok (.iload_n 2, 1) := by decide +kernel
theorem dX6_takesNumber_108 : decode cX6_takesNumber 108 = .ok (.i2l, 1) := by decide +kernel
theorem dX6_takesNumber_109 : decode cX6_takesNumber 109 = .ok (.invokestatic 34, 3) := by decide +kernel
theorem dX6_takesNumber_112 : decode cX6_takesNumber 112 = .ok (.ifCond .ne 10, 3) := by decide +kernel
theorem dX6_takesNumber_115 : decode cX6_takesNumber 115 = .ok (.aload_n 0, 1) := by decide +kernel
theorem dX6_takesNumber_116 : decode cX6_takesNumber 116 = .ok (.iconst 2, 1) := by decide +kernel
theorem dX6_takesNumber_117 : decode cX6_takesNumber 117 = .ok (.iload_n 3, 1) := by decide +kernel
theorem dX6_takesNumber_118 : decode cX6_takesNumber 118 = .ok (.invokevirtual 79, 3) := by decide +kernel
theorem dX6_takesNumber_121 : decode cX6_takesNumber 121 = .ok (.ireturn, 1) := by decide +kernel
theorem dX6_takesNumber_122 : decode cX6_takesNumber 122 = .ok (.iconst 1, 1) := by decide +kernel
theorem dX6_takesNumber_123 : decode cX6_takesNumber 123 = .ok (.ireturn, 1) := by decide +kernel
theorem dX6_kindOf_0 : decode cX6_kindOf 0 = .ok (.iload_n 0, 1) := by decide +kernel
theorem dX6_kindOf_1 : decode cX6_kindOf 1 = .ok (.bipush 98, 2) := by decide +kernel
theorem dX6_kindOf_3 : decode cX6_kindOf 3 = .ok (.if_icmp .ne 7, 3) := by decide +kernel
theorem dX6_kindOf_6 : decode cX6_kindOf 6 = .ok (.iconst 1, 1) := by decide +kernel
theorem dX6_kindOf_7 : decode cX6_kindOf 7 = .ok (.goto 44, 3) := by decide +kernel
theorem dX6_kindOf_10 : decode cX6_kindOf 10 = .ok (.iload_n 0, 1) := by decide +kernel
theorem dX6_kindOf_11 : decode cX6_kindOf 11 = .ok (.bipush 107, 2) := by decide +kernel
theorem dX6_kindOf_13 : decode cX6_kindOf 13 = .ok (.if_icmp .ne 7, 3) := by decide +kernel
theorem dX6_kindOf_16 : decode cX6_kindOf 16 = .ok (.iconst 2, 1) := by decide +kernel
theorem dX6_kindOf_17 : decode cX6_kindOf 17 = .ok (.goto 34, 3) := by decide +kernel
theorem dX6_kindOf_20 : decode cX6_kindOf 20 = .ok (.iload_n 0, 1) := by decide +kernel
theorem dX6_kindOf_21 : decode cX6_kindOf 21 = .ok (.bipush 121, 2) := by decide +kernel
theorem dX6_kindOf_23 : decode cX6_kindOf 23 = .ok (.if_icmp .ne 7, 3) := by decide +kernel
theorem dX6_kindOf_26 : decode cX6_kindOf 26 = .ok (.iconst 3, 1) := by decide +kernel
theorem dX6_kindOf_27 : decode cX6_kindOf 27 = .ok (.goto 24, 3) := by decide +kernel
theorem dX6_kindOf_30 : decode cX6_kindOf 30 = .ok (.iload_n 0, 1) := by decide +kernel
theorem dX6_kindOf_31 : decode cX6_kindOf 31 = .ok (.bipush 100, 2) := by decide +kernel
theorem dX6_kindOf_33 : decode cX6_kindOf 33 = .ok (.if_icmp .ne 7, 3) := by decide +kernel
theorem dX6_kindOf_36 : decode cX6_kindOf 36 = .ok (.iconst 4, 1) := by decide +kernel
theorem dX6_kindOf_37 : decode cX6_kindOf 37 = .ok (.goto 14, 3) := by decide +kernel
theorem dX6_kindOf_40 : decode cX6_kindOf 40 = .ok (.iload_n 0, 1) := by decide +kernel
theorem dX6_kindOf_41 : decode cX6_kindOf 41 = .ok (.bipush 101, 2) := by decide +kernel
theorem dX6_kindOf_43 : decode cX6_kindOf 43 = .ok (.if_icmp .ne 7, 3) := by decide +kernel
theorem dX6_kindOf_46 : decode cX6_kindOf 46 = .ok (.iconst 5, 1) := by decide +kernel
theorem dX6_kindOf_47 : decode cX6_kindOf 47 = .ok (.goto 4, 3) := by decide +kernel
theorem dX6_kindOf_50 : decode cX6_kindOf 50 = .ok (.iconst 0, 1) := by decide +kernel
theorem dX6_kindOf_51 : decode cX6_kindOf 51 = .ok (.ireturn, 1) := by decide +kernel
set_option maxRecDepth 20000 in
theorem ggX6_takesLaw_X6_takes : GoodIn wsX6_takesLaw wsX6_takes := goodIn_r _ [7, 8, 9, 10, 11, 6, 12, 13, 14, 15, 16, 17, 18, 19, 20, 31, 32, 33, 34, 35, 36, 37, 38, 39, 40, 41, 42, 43, 44, 45, 46] (by decide +kernel) (by decide +kernel)
set_option maxRecDepth 20000 in
theorem gX6_takesLaw_X6_takes : GoodIn wsX6_takesLaw (wsV RX6 90 RX6 yX6_takes wsX6_takes) := goodIn_app (goodIn_of _ (by decide +kernel)) ggX6_takesLaw_X6_takes
set_option maxRecDepth 20000 in
theorem ggX6_takesLaw_X6_takesNumber : GoodIn wsX6_takesLaw wsX6_takesNumber := goodIn_r _ [24, 8, 2, 25, 26, 27, 9, 10, 11, 6, 12, 13, 14, 28, 29, 30, 15, 16, 17, 18, 19, 20, 31, 32, 33, 34, 35, 36, 37, 38, 39, 40, 41, 42, 43, 44, 45, 46] (by decide +kernel) (by decide +kernel)
set_option maxRecDepth 20000 in
theorem gX6_takesLaw_X6_takesNumber : GoodIn wsX6_takesLaw (wsV RX6 93 RX6 yX6_takesNumber wsX6_takesNumber) := goodIn_app (goodIn_of _ (by decide +kernel)) ggX6_takesLaw_X6_takesNumber
theorem dX6_takesLaw_0 : decode cX6_takesLaw 0 = .ok (.aload_n 0, 1) := by decide +kernel
theorem dX6_takesLaw_1 : decode cX6_takesLaw 1 = .ok (.bipush 112, 2) := by decide +kernel
theorem dX6_takesLaw_3 : decode cX6_takesLaw 3 = .ok (.invokevirtual 90, 3) := by decide +kernel
theorem dX6_takesLaw_6 : decode cX6_takesLaw 6 = .ok (.ifCond .eq 13, 3) := by decide +kernel
theorem dX6_takesLaw_9 : decode cX6_takesLaw 9 = .ok (.aload_n 0, 1) := by decide +kernel
theorem dX6_takesLaw_10 : decode cX6_takesLaw 10 = .ok (.iconst 4, 1) := by decide +kernel
theorem dX6_takesLaw_11 : decode cX6_takesLaw 11 = .ok (.bipush 16, 2) := by decide +kernel
theorem dX6_takesLaw_13 : decode cX6_takesLaw 13 = .ok (.invokevirtual 93, 3) := by decide +kernel
theorem dX6_takesLaw_16 : decode cX6_takesLaw 16 = .ok (.ifCond .ne 5, 3) := by decide +kernel
theorem dX6_takesLaw_19 : decode cX6_takesLaw 19 = .ok (.iconst 0, 1) := by decide +kernel
theorem dX6_takesLaw_20 : decode cX6_takesLaw 20 = .ok (.ireturn, 1) := by decide +kernel
theorem dX6_takesLaw_21 : decode cX6_takesLaw 21 = .ok (.aload_n 0, 1) := by decide +kernel
theorem dX6_takesLaw_22 : decode cX6_takesLaw 22 = .ok (.getfield 7, 3) := by decide +kernel
theorem dX6_takesLaw_25 : decode cX6_takesLaw 25 = .ok (.sipush 154, 3) := by decide +kernel
theorem dX6_takesLaw_28 : decode cX6_takesLaw 28 = .ok (.aload_n 0, 1) := by decide +kernel
theorem dX6_takesLaw_29 : decode cX6_takesLaw 29 = .ok (.getfield 83, 3) := by decide +kernel
theorem dX6_takesLaw_32 : decode cX6_takesLaw 32 = .ok (.iastore, 1) := by decide +kernel
theorem dX6_takesLaw_33 : decode cX6_takesLaw 33 = .ok (.aload_n 0, 1) := by decide +kernel
theorem dX6_takesLaw_34 : decode cX6_takesLaw 34 = .ok (.bipush 44, 2) := by decide +kernel
theorem dX6_takesLaw_36 : decode cX6_takesLaw 36 = .ok (.invokevirtual 90, 3) := by decide +kernel
theorem dX6_takesLaw_39 : decode cX6_takesLaw 39 = .ok (.ifCond .eq 21, 3) := by decide +kernel
theorem dX6_takesLaw_42 : decode cX6_takesLaw 42 = .ok (.aload_n 0, 1) := by decide +kernel
theorem dX6_takesLaw_43 : decode cX6_takesLaw 43 = .ok (.iconst 0, 1) := by decide +kernel
theorem dX6_takesLaw_44 : decode cX6_takesLaw 44 = .ok (.aload_n 0, 1) := by decide +kernel
theorem dX6_takesLaw_45 : decode cX6_takesLaw 45 = .ok (.getfield 7, 3) := by decide +kernel
theorem dX6_takesLaw_48 : decode cX6_takesLaw 48 = .ok (.sipush 154, 3) := by decide +kernel
theorem dX6_takesLaw_51 : decode cX6_takesLaw 51 = .ok (.iaload, 1) := by decide +kernel
theorem dX6_takesLaw_52 : decode cX6_takesLaw 52 = .ok (.iconst 1, 1) := by decide +kernel
theorem dX6_takesLaw_53 : decode cX6_takesLaw 53 = .ok (.isub, 1) := by decide +kernel
theorem dX6_takesLaw_54 : decode cX6_takesLaw 54 = .ok (.invokevirtual 93, 3) := by decide +kernel
theorem dX6_takesLaw_57 : decode cX6_takesLaw 57 = .ok (.ifCond .ne 5, 3) := by decide +kernel
theorem dX6_takesLaw_60 : decode cX6_takesLaw 60 = .ok (.iconst 0, 1) := by decide +kernel
theorem dX6_takesLaw_61 : decode cX6_takesLaw 61 = .ok (.ireturn, 1) := by decide +kernel
theorem dX6_takesLaw_62 : decode cX6_takesLaw 62 = .ok (.aload_n 0, 1) := by decide +kernel
theorem dX6_takesLaw_63 : decode cX6_takesLaw 63 = .ok (.getfield 7, 3) := by decide +kernel
theorem dX6_takesLaw_66 : decode cX6_takesLaw 66 = .ok (.sipush 155, 3) := by decide +kernel
theorem dX6_takesLaw_69 : decode cX6_takesLaw 69 = .ok (.aload_n 0, 1) := by decide +kernel
theorem dX6_takesLaw_70 : decode cX6_takesLaw 70 = .ok (.getfield 83, 3) := by decide +kernel
theorem dX6_takesLaw_73 : decode cX6_takesLaw 73 = .ok (.iastore, 1) := by decide +kernel
theorem dX6_takesLaw_74 : decode cX6_takesLaw 74 = .ok (.aload_n 0, 1) := by decide +kernel
theorem dX6_takesLaw_75 : decode cX6_takesLaw 75 = .ok (.bipush 59, 2) := by decide +kernel
theorem dX6_takesLaw_77 : decode cX6_takesLaw 77 = .ok (.invokevirtual 90, 3) := by decide +kernel
theorem dX6_takesLaw_80 : decode cX6_takesLaw 80 = .ok (.ireturn, 1) := by decide +kernel
set_option maxRecDepth 20000 in
theorem ggX6_takesStretch_X6_here : GoodIn wsX6_takesStretch wsX6_here := goodIn_r _ [8, 1, 9, 10, 31, 32, 33, 34, 35, 36, 37, 38, 39, 40, 41, 42, 43, 44, 45, 46] (by decide +kernel) (by decide +kernel)
set_option maxRecDepth 20000 in
theorem gX6_takesStretch_X6_here : GoodIn wsX6_takesStretch (wsV RX6 75 RX6 yX6_here wsX6_here) := goodIn_app (goodIn_of _ (by decide +kernel)) ggX6_takesStretch_X6_here
set_option maxRecDepth 20000 in
theorem ggX6_takesStretch_X6_fails : GoodIn wsX6_takesStretch wsX6_fails := goodIn_r _ [14, 15, 16, 31, 32, 33, 34, 35, 36, 37, 38, 39, 40, 41, 42, 43, 44, 45, 46] (by decide +kernel) (by decide +kernel)
set_option maxRecDepth 20000 in
theorem gX6_takesStretch_X6_fails : GoodIn wsX6_takesStretch (wsV RX6 79 RX6 yX6_fails wsX6_fails) := goodIn_app (goodIn_of _ (by decide +kernel)) ggX6_takesStretch_X6_fails
set_option maxRecDepth 20000 in
theorem ggX6_takesStretch_X6_takesNumber : GoodIn wsX6_takesStretch wsX6_takesNumber := goodIn_r _ [20, 1, 3, 21, 22, 23, 4, 5, 6, 7, 8, 9, 10, 24, 25, 26, 11, 12, 13, 14, 15, 16, 31, 32, 33, 34, 35, 36, 37, 38, 39, 40, 41, 42, 43, 44, 45, 46] (by decide +kernel) (by decide +kernel)
set_option maxRecDepth 20000 in
theorem gX6_takesStretch_X6_takesNumber : GoodIn wsX6_takesStretch (wsV RX6 93 RX6 yX6_takesNumber wsX6_takesNumber) := goodIn_app (goodIn_of _ (by decide +kernel)) ggX6_takesStretch_X6_takesNumber
set_option maxRecDepth 20000 in
theorem ggX6_takesStretch_X6_takes : GoodIn wsX6_takesStretch wsX6_takes := goodIn_r _ [30, 1, 4, 5, 6, 7, 8, 9, 10, 11, 12, 13, 14, 15, 16, 31, 32, 33, 34, 35, 36, 37, 38, 39, 40, 41, 42, 43, 44, 45, 46] (by decide +kernel) (by decide +kernel)
set_option maxRecDepth 20000 in
theorem gX6_takesStretch_X6_takes : GoodIn wsX6_takesStretch (wsV RX6 90 RX6 yX6_takes wsX6_takes) := goodIn_app (goodIn_of _ (by decide +kernel)) ggX6_takesStretch_X6_takes
theorem dX6_takesStretch_0 : decode cX6_takesStretch 0 = .ok (.aload_n 0, 1) := by decide +kernel
theorem dX6_takesStretch_1 : decode cX6_takesStretch 1 = .ok (.invokevirtual 75, 3) := by decide +kernel
theorem dX6_takesStretch_4 : decode cX6_takesStretch 4 = .ok (.bipush 114, 2) := by decide +kernel
theorem dX6_takesStretch_6 : decode cX6_takesStretch 6 = .ok (.if_icmp .eq 13, 3) := by decide +kernel
theorem dX6_takesStretch_9 : decode cX6_takesStretch 9 = .ok (.aload_n 0, 1) := by decide +kernel
theorem dX6_takesStretch_10 : decode cX6_takesStretch 10 = .ok (.iconst 1, 1) := by decide +kernel
theorem dX6_takesStretch_11 : decode cX6_takesStretch 11 = .ok (.aload_n 0, 1) := by decide +kernel
theorem dX6_takesStretch_12 : decode cX6_takesStretch 12 = .ok (.getfield 66, 3) := by decide +kernel
theorem dX6_takesStretch_15 : decode cX6_takesStretch 15 = .ok (.invokevirtual 79, 3) := by decide +kernel
theorem dX6_takesStretch_18 : decode cX6_takesStretch 18 = .ok (.ireturn, 1) := by decide +kernel
theorem dX6_takesStretch_19 : decode cX6_takesStretch 19 = .ok (.aload_n 0, 1) := by decide +kernel
theorem dX6_takesStretch_20 : decode cX6_takesStretch 20 = .ok (.getfield 7, 3) := by decide +kernel
theorem dX6_takesStretch_23 : decode cX6_takesStretch 23 = .ok (.sipush 152, 3) := by decide +kernel
theorem dX6_takesStretch_26 : decode cX6_takesStretch 26 = .ok (.iaload, 1) := by decide +kernel
theorem dX6_takesStretch_27 : decode cX6_takesStretch 27 = .ok (.bipush 9, 2) := by decide +kernel
theorem dX6_takesStretch_29 : decode cX6_takesStretch 29 = .ok (.if_icmp .ne 13, 3) := by decide +kernel
theorem dX6_takesStretch_32 : decode cX6_takesStretch 32 = .ok (.aload_n 0, 1) := by decide +kernel
theorem dX6_takesStretch_33 : decode cX6_takesStretch 33 = .ok (.iconst 3, 1) := by decide +kernel
theorem dX6_takesStretch_34 : decode cX6_takesStretch 34 = .ok (.aload_n 0, 1) := by decide +kernel
theorem dX6_takesStretch_35 : decode cX6_takesStretch 35 = .ok (.getfield 66, 3) := by decide +kernel
theorem dX6_takesStretch_38 : decode cX6_takesStretch 38 = .ok (.invokevirtual 79, 3) := by decide +kernel
theorem dX6_takesStretch_41 : decode cX6_takesStretch 41 = .ok (.ireturn, 1) := by decide +kernel
theorem dX6_takesStretch_42 : decode cX6_takesStretch 42 = .ok (.aload_n 0, 1) := by decide +kernel
theorem dX6_takesStretch_43 : decode cX6_takesStretch 43 = .ok (.dup, 1) := by decide +kernel
theorem dX6_takesStretch_44 : decode cX6_takesStretch 44 = .ok (.getfield 66, 3) := by decide +kernel
theorem dX6_takesStretch_47 : decode cX6_takesStretch 47 = .ok (.iconst 1, 1) := by decide +kernel
theorem dX6_takesStretch_48 : decode cX6_takesStretch 48 = .ok (.iadd, 1) := by decide +kernel
theorem dX6_takesStretch_49 : decode cX6_takesStretch 49 = .ok (.putfield 66, 3) := by decide +kernel
theorem dX6_takesStretch_52 : decode cX6_takesStretch 52 = .ok (.aload_n 0, 1) := by decide +kernel
theorem dX6_takesStretch_53 : decode cX6_takesStretch 53 = .ok (.iconst 0, 1) := by decide +kernel
theorem dX6_takesStretch_54 : decode cX6_takesStretch 54 = .ok (.iconst 2, 1) := by decide +kernel
theorem dX6_takesStretch_55 : decode cX6_takesStretch 55 = .ok (.invokevirtual 93, 3) := by decide +kernel
theorem dX6_takesStretch_58 : decode cX6_takesStretch 58 = .ok (.ifCond .ne 5, 3) := by decide +kernel
theorem dX6_takesStretch_61 : decode cX6_takesStretch 61 = .ok (.iconst 0, 1) := by decide +kernel
theorem dX6_takesStretch_62 : decode cX6_takesStretch 62 = .ok (.ireturn, 1) := by decide +kernel
theorem dX6_takesStretch_63 : decode cX6_takesStretch 63 = .ok (.aload_n 0, 1) := by decide +kernel
theorem dX6_takesStretch_64 : decode cX6_takesStretch 64 = .ok (.getfield 7, 3) := by decide +kernel
theorem dX6_takesStretch_67 : decode cX6_takesStretch 67 = .ok (.sipush 156, 3) := by decide +kernel
theorem dX6_takesStretch_70 : decode cX6_takesStretch 70 = .ok (.aload_n 0, 1) := by decide +kernel
theorem dX6_takesStretch_71 : decode cX6_takesStretch 71 = .ok (.getfield 7, 3) := by decide +kernel
theorem dX6_takesStretch_74 : decode cX6_takesStretch 74 = .ok (.sipush 152, 3) := by decide +kernel
theorem dX6_takesStretch_77 : decode cX6_takesStretch 77 = .ok (.iaload, 1) := by decide +kernel
theorem dX6_takesStretch_78 : decode cX6_takesStretch 78 = .ok (.iadd, 1) := by decide +kernel
theorem dX6_takesStretch_79 : decode cX6_takesStretch 79 = .ok (.aload_n 0, 1) := by decide +kernel
theorem dX6_takesStretch_80 : decode cX6_takesStretch 80 = .ok (.getfield 83, 3) := by decide +kernel
theorem dX6_takesStretch_83 : decode cX6_takesStretch 83 = .ok (.iastore, 1) := by decide +kernel
theorem dX6_takesStretch_84 : decode cX6_takesStretch 84 = .ok (.aload_n 0, 1) := by decide +kernel
theorem dX6_takesStretch_85 : decode cX6_takesStretch 85 = .ok (.getfield 7, 3) := by decide +kernel
theorem dX6_takesStretch_88 : decode cX6_takesStretch 88 = .ok (.sipush 152, 3) := by decide +kernel
theorem dX6_takesStretch_91 : decode cX6_takesStretch 91 = .ok (.dup2, 1) := by decide +kernel
theorem dX6_takesStretch_92 : decode cX6_takesStretch 92 = .ok (.iaload, 1) := by decide +kernel
theorem dX6_takesStretch_93 : decode cX6_takesStretch 93 = .ok (.iconst 1, 1) := by decide +kernel
theorem dX6_takesStretch_94 : decode cX6_takesStretch 94 = .ok (.iadd, 1) := by decide +kernel
theorem dX6_takesStretch_95 : decode cX6_takesStretch 95 = .ok (.iastore, 1) := by decide +kernel
theorem dX6_takesStretch_96 : decode cX6_takesStretch 96 = .ok (.aload_n 0, 1) := by decide +kernel
theorem dX6_takesStretch_97 : decode cX6_takesStretch 97 = .ok (.bipush 59, 2) := by decide +kernel
theorem dX6_takesStretch_99 : decode cX6_takesStretch 99 = .ok (.invokevirtual 90, 3) := by decide +kernel
theorem dX6_takesStretch_102 : decode cX6_takesStretch 102 = .ok (.ireturn, 1) := by decide +kernel
set_option maxRecDepth 20000 in
theorem ggX6_takesPulpit_X6_here : GoodIn wsX6_takesPulpit wsX6_here := goodIn_r _ [8, 2, 9, 10, 34, 35, 36, 37, 38, 39, 40, 41, 42, 43, 44, 45, 46, 47, 48, 49] (by decide +kernel) (by decide +kernel)
set_option maxRecDepth 20000 in
theorem gX6_takesPulpit_X6_here : GoodIn wsX6_takesPulpit (wsV RX6 75 RX6 yX6_here wsX6_here) := goodIn_app (goodIn_of _ (by decide +kernel)) ggX6_takesPulpit_X6_here
set_option maxRecDepth 20000 in
theorem ggX6_takesPulpit_X6_kindOf : GoodIn wsX6_takesPulpit wsX6_kindOf := goodIn_r _ [13] (by decide +kernel) (by decide +kernel)
set_option maxRecDepth 20000 in
theorem gX6_takesPulpit_X6_kindOf : GoodIn wsX6_takesPulpit (va_wsS RX6 96 yX6_kindOf wsX6_kindOf) := goodIn_app (goodIn_of _ (by decide +kernel)) ggX6_takesPulpit_X6_kindOf
set_option maxRecDepth 20000 in
theorem ggX6_takesPulpit_X6_fails : GoodIn wsX6_takesPulpit wsX6_fails := goodIn_r _ [17, 18, 19, 34, 35, 36, 37, 38, 39, 40, 41, 42, 43, 44, 45, 46, 47, 48, 49] (by decide +kernel) (by decide +kernel)
set_option maxRecDepth 20000 in
theorem gX6_takesPulpit_X6_fails : GoodIn wsX6_takesPulpit (wsV RX6 79 RX6 yX6_fails wsX6_fails) := goodIn_app (goodIn_of _ (by decide +kernel)) ggX6_takesPulpit_X6_fails
set_option maxRecDepth 20000 in
theorem ggX6_takesPulpit_X6_takesNumber : GoodIn wsX6_takesPulpit wsX6_takesNumber := goodIn_r _ [23, 2, 3, 24, 25, 26, 4, 5, 6, 7, 8, 9, 10, 27, 28, 29, 14, 15, 16, 17, 18, 19, 34, 35, 36, 37, 38, 39, 40, 41, 42, 43, 44, 45, 46, 47, 48, 49] (by decide +kernel) (by decide +kernel)
set_option maxRecDepth 20000 in
theorem gX6_takesPulpit_X6_takesNumber : GoodIn wsX6_takesPulpit (wsV RX6 93 RX6 yX6_takesNumber wsX6_takesNumber) := goodIn_app (goodIn_of _ (by decide +kernel)) ggX6_takesPulpit_X6_takesNumber
set_option maxRecDepth 20000 in
theorem ggX6_takesPulpit_X6_takes : GoodIn wsX6_takesPulpit wsX6_takes := goodIn_r _ [33, 2, 4, 5, 6, 7, 8, 9, 10, 14, 15, 16, 17, 18, 19, 34, 35, 36, 37, 38, 39, 40, 41, 42, 43, 44, 45, 46, 47, 48, 49] (by decide +kernel) (by decide +kernel)
set_option maxRecDepth 20000 in
theorem gX6_takesPulpit_X6_takes : GoodIn wsX6_takesPulpit (wsV RX6 90 RX6 yX6_takes wsX6_takes) := goodIn_app (goodIn_of _ (by decide +kernel)) ggX6_takesPulpit_X6_takes
theorem dX6_takesPulpit_0 : decode cX6_takesPulpit 0 = .ok (.aload_n 0, 1) := by decide +kernel
theorem dX6_takesPulpit_1 : decode cX6_takesPulpit 1 = .ok (.getfield 7, 3) := by decide +kernel
theorem dX6_takesPulpit_4 : decode cX6_takesPulpit 4 = .ok (.sipush 153, 3) := by decide +kernel
theorem dX6_takesPulpit_7 : decode cX6_takesPulpit 7 = .ok (.iaload, 1) := by decide +kernel
theorem dX6_takesPulpit_8 : decode cX6_takesPulpit 8 = .ok (.istore_n 1, 1) := by decide +kernel
theorem dX6_takesPulpit_9 : decode cX6_takesPulpit 9 = .ok (.aload_n 0, 1) := by decide +kernel
theorem dX6_takesPulpit_10 : decode cX6_takesPulpit 10 = .ok (.invokevirtual 75, 3) := by decide +kernel
theorem dX6_takesPulpit_13 : decode cX6_takesPulpit 13 = .ok (.invokestatic 96, 3) := by decide +kernel
theorem dX6_takesPulpit_16 : decode cX6_takesPulpit 16 = .ok (.istore_n 2, 1) := by decide +kernel
theorem dX6_takesPulpit_17 : decode cX6_takesPulpit 17 = .ok (.iload_n 2, 1) := by decide +kernel
theorem dX6_takesPulpit_18 : decode cX6_takesPulpit 18 = .ok (.ifCond .ne 13, 3) := by decide +kernel
theorem dX6_takesPulpit_21 : decode cX6_takesPulpit 21 = .ok (.aload_n 0, 1) := by decide +kernel
theorem dX6_takesPulpit_22 : decode cX6_takesPulpit 22 = .ok (.iconst 1, 1) := by decide +kernel
theorem dX6_takesPulpit_23 : decode cX6_takesPulpit 23 = .ok (.aload_n 0, 1) := by decide +kernel
theorem dX6_takesPulpit_24 : decode cX6_takesPulpit 24 = .ok (.getfield 66, 3) := by decide +kernel
theorem dX6_takesPulpit_27 : decode cX6_takesPulpit 27 = .ok (.invokevirtual 79, 3) := by decide +kernel
theorem dX6_takesPulpit_30 : decode cX6_takesPulpit 30 = .ok (.ireturn, 1) := by decide +kernel
theorem dX6_takesPulpit_31 : decode cX6_takesPulpit 31 = .ok (.iload_n 1, 1) := by decide +kernel
theorem dX6_takesPulpit_32 : decode cX6_takesPulpit 32 = .ok (.iconst 5, 1) := by decide +kernel
theorem dX6_takesPulpit_33 : decode cX6_takesPulpit 33 = .ok (.if_icmp .ne 13, 3) := by decide +kernel
theorem dX6_takesPulpit_36 : decode cX6_takesPulpit 36 = .ok (.aload_n 0, 1) := by decide +kernel
theorem dX6_takesPulpit_37 : decode cX6_takesPulpit 37 = .ok (.iconst 3, 1) := by decide +kernel
theorem dX6_takesPulpit_38 : decode cX6_takesPulpit 38 = .ok (.aload_n 0, 1) := by decide +kernel
theorem dX6_takesPulpit_39 : decode cX6_takesPulpit 39 = .ok (.getfield 66, 3) := by decide +kernel
theorem dX6_takesPulpit_42 : decode cX6_takesPulpit 42 = .ok (.invokevirtual 79, 3) := by decide +kernel
theorem dX6_takesPulpit_45 : decode cX6_takesPulpit 45 = .ok (.ireturn, 1) := by decide +kernel
theorem dX6_takesPulpit_46 : decode cX6_takesPulpit 46 = .ok (.aload_n 0, 1) := by decide +kernel
theorem dX6_takesPulpit_47 : decode cX6_takesPulpit 47 = .ok (.dup, 1) := by decide +kernel
theorem dX6_takesPulpit_48 : decode cX6_takesPulpit 48 = .ok (.getfield 66, 3) := by decide +kernel
theorem dX6_takesPulpit_51 : decode cX6_takesPulpit 51 = .ok (.iconst 1, 1) := by decide +kernel
theorem dX6_takesPulpit_52 : decode cX6_takesPulpit 52 = .ok (.iadd, 1) := by decide +kernel
theorem dX6_takesPulpit_53 : decode cX6_takesPulpit 53 = .ok (.putfield 66, 3) := by decide +kernel
theorem dX6_takesPulpit_56 : decode cX6_takesPulpit 56 = .ok (.aload_n 0, 1) := by decide +kernel
theorem dX6_takesPulpit_57 : decode cX6_takesPulpit 57 = .ok (.getfield 7, 3) := by decide +kernel
theorem dX6_takesPulpit_60 : decode cX6_takesPulpit 60 = .ok (.sipush 165, 3) := by decide +kernel
theorem dX6_takesPulpit_63 : decode cX6_takesPulpit 63 = .ok (.iload_n 1, 1) := by decide +kernel
theorem dX6_takesPulpit_64 : decode cX6_takesPulpit 64 = .ok (.iadd, 1) := by decide +kernel
theorem dX6_takesPulpit_65 : decode cX6_takesPulpit 65 = .ok (.iload_n 2, 1) := by decide +kernel
theorem dX6_takesPulpit_66 : decode cX6_takesPulpit 66 = .ok (.iastore, 1) := by decide +kernel
theorem dX6_takesPulpit_67 : decode cX6_takesPulpit 67 = .ok (.aload_n 0, 1) := by decide +kernel
theorem dX6_takesPulpit_68 : decode cX6_takesPulpit 68 = .ok (.iconst 0, 1) := by decide +kernel
theorem dX6_takesPulpit_69 : decode cX6_takesPulpit 69 = .ok (.aload_n 0, 1) := by decide +kernel
theorem dX6_takesPulpit_70 : decode cX6_takesPulpit 70 = .ok (.getfield 7, 3) := by decide +kernel
theorem dX6_takesPulpit_73 : decode cX6_takesPulpit 73 = .ok (.sipush 152, 3) := by decide +kernel
theorem dX6_takesPulpit_76 : decode cX6_takesPulpit 76 = .ok (.iaload, 1) := by decide +kernel
theorem dX6_takesPulpit_77 : decode cX6_takesPulpit 77 = .ok (.iconst 1, 1) := by decide +kernel
theorem dX6_takesPulpit_78 : decode cX6_takesPulpit 78 = .ok (.isub, 1) := by decide +kernel
theorem dX6_takesPulpit_79 : decode cX6_takesPulpit 79 = .ok (.invokevirtual 93, 3) := by decide +kernel
theorem dX6_takesPulpit_82 : decode cX6_takesPulpit 82 = .ok (.ifCond .ne 5, 3) := by decide +kernel
theorem dX6_takesPulpit_85 : decode cX6_takesPulpit 85 = .ok (.iconst 0, 1) := by decide +kernel
theorem dX6_takesPulpit_86 : decode cX6_takesPulpit 86 = .ok (.ireturn, 1) := by decide +kernel
theorem dX6_takesPulpit_87 : decode cX6_takesPulpit 87 = .ok (.aload_n 0, 1) := by decide +kernel
theorem dX6_takesPulpit_88 : decode cX6_takesPulpit 88 = .ok (.getfield 7, 3) := by decide +kernel
theorem dX6_takesPulpit_91 : decode cX6_takesPulpit 91 = .ok (.sipush 171, 3) := by decide +kernel
theorem dX6_takesPulpit_94 : decode cX6_takesPulpit 94 = .ok (.iload_n 1, 1) := by decide +kernel
theorem dX6_takesPulpit_95 : decode cX6_takesPulpit 95 = .ok (.iadd, 1) := by decide +kernel
theorem dX6_takesPulpit_96 : decode cX6_takesPulpit 96 = .ok (.aload_n 0, 1) := by decide +kernel
theorem dX6_takesPulpit_97 : decode cX6_takesPulpit 97 = .ok (.getfield 83, 3) := by decide +kernel
theorem dX6_takesPulpit_100 : decode cX6_takesPulpit 100 = .ok (.iastore, 1) := by decide +kernel
theorem dX6_takesPulpit_101 : decode cX6_takesPulpit 101 = .ok (.aload_n 0, 1) := by decide +kernel
theorem dX6_takesPulpit_102 : decode cX6_takesPulpit 102 = .ok (.bipush 44, 2) := by decide +kernel
theorem dX6_takesPulpit_104 : decode cX6_takesPulpit 104 = .ok (.invokevirtual 90, 3) := by decide +kernel
theorem dX6_takesPulpit_107 : decode cX6_takesPulpit 107 = .ok (.ifCond .eq 21, 3) := by decide +kernel
theorem dX6_takesPulpit_110 : decode cX6_takesPulpit 110 = .ok (.aload_n 0, 1) := by decide +kernel
theorem dX6_takesPulpit_111 : decode cX6_takesPulpit 111 = .ok (.iconst 0, 1) := by decide +kernel
theorem dX6_takesPulpit_112 : decode cX6_takesPulpit 112 = .ok (.aload_n 0, 1) := by decide +kernel
theorem dX6_takesPulpit_113 : decode cX6_takesPulpit 113 = .ok (.getfield 7, 3) := by decide +kernel
theorem dX6_takesPulpit_116 : decode cX6_takesPulpit 116 = .ok (.sipush 154, 3) := by decide +kernel
theorem dX6_takesPulpit_119 : decode cX6_takesPulpit 119 = .ok (.iaload, 1) := by decide +kernel
theorem dX6_takesPulpit_120 : decode cX6_takesPulpit 120 = .ok (.iconst 1, 1) := by decide +kernel
theorem dX6_takesPulpit_121 : decode cX6_takesPulpit 121 = .ok (.isub, 1) := by decide +kernel
theorem dX6_takesPulpit_122 : decode cX6_takesPulpit 122 = .ok (.invokevirtual 93, 3) := by decide +kernel
theorem dX6_takesPulpit_125 : decode cX6_takesPulpit 125 = .ok (.ifCond .ne 5, 3) := by decide +kernel
theorem dX6_takesPulpit_128 : decode cX6_takesPulpit 128 = .ok (.iconst 0, 1) := by decide +kernel
theorem dX6_takesPulpit_129 : decode cX6_takesPulpit 129 = .ok (.ireturn, 1) := by decide +kernel
theorem dX6_takesPulpit_130 : decode cX6_takesPulpit 130 = .ok (.aload_n 0, 1) := by decide +kernel
theorem dX6_takesPulpit_131 : decode cX6_takesPulpit 131 = .ok (.getfield 7, 3) := by decide +kernel
theorem dX6_takesPulpit_134 : decode cX6_takesPulpit 134 = .ok (.sipush 176, 3) := by decide +kernel
theorem dX6_takesPulpit_137 : decode cX6_takesPulpit 137 = .ok (.iload_n 1, 1) := by decide +kernel
theorem dX6_takesPulpit_138 : decode cX6_takesPulpit 138 = .ok (.iadd, 1) := by decide +kernel
theorem dX6_takesPulpit_139 : decode cX6_takesPulpit 139 = .ok (.aload_n 0, 1) := by decide +kernel
theorem dX6_takesPulpit_140 : decode cX6_takesPulpit 140 = .ok (.getfield 83, 3) := by decide +kernel
theorem dX6_takesPulpit_143 : decode cX6_takesPulpit 143 = .ok (.iastore, 1) := by decide +kernel
theorem dX6_takesPulpit_144 : decode cX6_takesPulpit 144 = .ok (.aload_n 0, 1) := by decide +kernel
theorem dX6_takesPulpit_145 : decode cX6_takesPulpit 145 = .ok (.getfield 7, 3) := by decide +kernel
theorem dX6_takesPulpit_148 : decode cX6_takesPulpit 148 = .ok (.sipush 153, 3) := by decide +kernel
theorem dX6_takesPulpit_151 : decode cX6_takesPulpit 151 = .ok (.dup2, 1) := by decide +kernel
theorem dX6_takesPulpit_152 : decode cX6_takesPulpit 152 = .ok (.iaload, 1) := by decide +kernel
theorem dX6_takesPulpit_153 : decode cX6_takesPulpit 153 = .ok (.iconst 1, 1) := by decide +kernel
theorem dX6_takesPulpit_154 : decode cX6_takesPulpit 154 = .ok (.iadd, 1) := by decide +kernel
theorem dX6_takesPulpit_155 : decode cX6_takesPulpit 155 = .ok (.iastore, 1) := by decide +kernel
theorem dX6_takesPulpit_156 : decode cX6_takesPulpit 156 = .ok (.aload_n 0, 1) := by decide +kernel
theorem dX6_takesPulpit_157 : decode cX6_takesPulpit 157 = .ok (.bipush 59, 2) := by decide +kernel
theorem dX6_takesPulpit_159 : decode cX6_takesPulpit 159 = .ok (.invokevirtual 90, 3) := by decide +kernel
theorem dX6_takesPulpit_162 : decode cX6_takesPulpit 162 = .ok (.ireturn, 1) := by decide +kernel
set_option maxRecDepth 20000 in
theorem ggX6_takesAll_X6_takesLaw : GoodIn wsX6_takesAll wsX6_takesLaw := goodIn_r _ [8, 1, 9, 10, 11, 12, 7, 13, 2, 14, 15, 16, 17, 3, 18, 19, 20, 21, 22, 23, 24, 25, 26, 27, 28, 29, 30, 31, 32, 33, 34, 46, 47, 48, 49, 50, 51, 52, 53, 54, 55, 56, 57, 58, 59, 60, 61] (by decide +kernel) (by decide +kernel)
set_option maxRecDepth 20000 in
theorem gX6_takesAll_X6_takesLaw : GoodIn wsX6_takesAll (wsV RX6 99 RX6 yX6_takesLaw wsX6_takesLaw) := goodIn_app (goodIn_of _ (by decide +kernel)) ggX6_takesAll_X6_takesLaw
set_option maxRecDepth 20000 in
theorem ggX6_takesAll_X6_here : GoodIn wsX6_takesAll wsX6_here := goodIn_r _ [17, 2, 3, 18, 46, 47, 48, 49, 50, 51, 52, 53, 54, 55, 56, 57, 58, 59, 60, 61] (by decide +kernel) (by decide +kernel)
set_option maxRecDepth 20000 in
theorem gX6_takesAll_X6_here : GoodIn wsX6_takesAll (wsV RX6 75 RX6 yX6_here wsX6_here) := goodIn_app (goodIn_of _ (by decide +kernel)) ggX6_takesAll_X6_here
set_option maxRecDepth 20000 in
theorem ggX6_takesAll_X6_takesStretch : GoodIn wsX6_takesAll wsX6_takesStretch := goodIn_r _ [38, 2, 1, 9, 14, 15, 16, 7, 17, 3, 18, 19, 20, 21, 22, 23, 24, 25, 26, 27, 28, 29, 30, 31, 32, 33, 34, 10, 11, 12, 13, 46, 47, 48, 49, 50, 51, 52, 53, 54, 55, 56, 57, 58, 59, 60, 61] (by decide +kernel) (by decide +kernel)
set_option maxRecDepth 20000 in
theorem gX6_takesAll_X6_takesStretch : GoodIn wsX6_takesAll (wsV RX6 103 RX6 yX6_takesStretch wsX6_takesStretch) := goodIn_app (goodIn_of _ (by decide +kernel)) ggX6_takesAll_X6_takesStretch
set_option maxRecDepth 20000 in
theorem ggX6_takesAll_X6_takesPulpit : GoodIn wsX6_takesAll wsX6_takesPulpit := goodIn_r _ [42, 1, 2, 9, 14, 15, 16, 7, 17, 3, 18, 43, 44, 45, 19, 20, 21, 22, 23, 24, 25, 26, 27, 28, 29, 30, 31, 32, 33, 34, 10, 11, 12, 13, 46, 47, 48, 49, 50, 51, 52, 53, 54, 55, 56, 57, 58, 59, 60, 61] (by decide +kernel) (by decide +kernel)
set_option maxRecDepth 20000 in
theorem gX6_takesAll_X6_takesPulpit : GoodIn wsX6_takesAll (wsV RX6 106 RX6 yX6_takesPulpit wsX6_takesPulpit) := goodIn_app (goodIn_of _ (by decide +kernel)) ggX6_takesAll_X6_takesPulpit
theorem dX6_takesAll_0 : decode cX6_takesAll 0 = .ok (.aload_n 0, 1) := by decide +kernel
theorem dX6_takesAll_1 : decode cX6_takesAll 1 = .ok (.invokevirtual 99, 3) := by decide +kernel
theorem dX6_takesAll_4 : decode cX6_takesAll 4 = .ok (.ifCond .ne 5, 3) := by decide +kernel
theorem dX6_takesAll_7 : decode cX6_takesAll 7 = .ok (.iconst 0, 1) := by decide +kernel
theorem dX6_takesAll_8 : decode cX6_takesAll 8 = .ok (.ireturn, 1) := by decide +kernel
theorem dX6_takesAll_9 : decode cX6_takesAll 9 = .ok (.aload_n 0, 1) := by decide +kernel
theorem dX6_takesAll_10 : decode cX6_takesAll 10 = .ok (.getfield 7, 3) := by decide +kernel
theorem dX6_takesAll_13 : decode cX6_takesAll 13 = .ok (.sipush 152, 3) := by decide +kernel
theorem dX6_takesAll_16 : decode cX6_takesAll 16 = .ok (.iaload, 1) := by decide +kernel
theorem dX6_takesAll_17 : decode cX6_takesAll 17 = .ok (.iconst 3, 1) := by decide +kernel
theorem dX6_takesAll_18 : decode cX6_takesAll 18 = .ok (.if_icmp .lt 12, 3) := by decide +kernel
theorem dX6_takesAll_21 : decode cX6_takesAll 21 = .ok (.aload_n 0, 1) := by decide +kernel
theorem dX6_takesAll_22 : decode cX6_takesAll 22 = .ok (.invokevirtual 75, 3) := by decide +kernel
theorem dX6_takesAll_25 : decode cX6_takesAll 25 = .ok (.bipush 114, 2) := by decide +kernel
theorem dX6_takesAll_27 : decode cX6_takesAll 27 = .ok (.if_icmp .ne 12, 3) := by decide +kernel
theorem dX6_takesAll_30 : decode cX6_takesAll 30 = .ok (.aload_n 0, 1) := by decide +kernel
theorem dX6_takesAll_31 : decode cX6_takesAll 31 = .ok (.invokevirtual 103, 3) := by decide +kernel
theorem dX6_takesAll_34 : decode cX6_takesAll 34 = .ok (.ifCond .ne (-25), 3) := by decide +kernel
theorem dX6_takesAll_37 : decode cX6_takesAll 37 = .ok (.iconst 0, 1) := by decide +kernel
theorem dX6_takesAll_38 : decode cX6_takesAll 38 = .ok (.ireturn, 1) := by decide +kernel
theorem dX6_takesAll_39 : decode cX6_takesAll 39 = .ok (.aload_n 0, 1) := by decide +kernel
theorem dX6_takesAll_40 : decode cX6_takesAll 40 = .ok (.getfield 66, 3) := by decide +kernel
theorem dX6_takesAll_43 : decode cX6_takesAll 43 = .ok (.aload_n 0, 1) := by decide +kernel
theorem dX6_takesAll_44 : decode cX6_takesAll 44 = .ok (.getfield 62, 3) := by decide +kernel
theorem dX6_takesAll_47 : decode cX6_takesAll 47 = .ok (.if_icmp .ge 12, 3) := by decide +kernel
theorem dX6_takesAll_50 : decode cX6_takesAll 50 = .ok (.aload_n 0, 1) := by decide +kernel
theorem dX6_takesAll_51 : decode cX6_takesAll 51 = .ok (.invokevirtual 106, 3) := by decide +kernel
theorem dX6_takesAll_54 : decode cX6_takesAll 54 = .ok (.ifCond .ne (-15), 3) := by decide +kernel
theorem dX6_takesAll_57 : decode cX6_takesAll 57 = .ok (.iconst 0, 1) := by decide +kernel
theorem dX6_takesAll_58 : decode cX6_takesAll 58 = .ok (.ireturn, 1) := by decide +kernel
theorem dX6_takesAll_59 : decode cX6_takesAll 59 = .ok (.iconst 1, 1) := by decide +kernel
theorem dX6_takesAll_60 : decode cX6_takesAll 60 = .ok (.ireturn, 1) := by decide +kernel
set_option maxRecDepth 20000 in
theorem ggX6_road_X6_takesAll : GoodIn wsX6_road wsX6_takesAll := goodIn_r _ [11, 1, 2, 3, 12, 13, 14, 10, 15, 16, 17, 18, 19, 20, 21, 22, 23, 24, 25, 26, 27, 28, 29, 30, 5, 31, 32, 33, 34, 35, 36, 37, 38, 39, 40, 41, 42, 43, 44, 45, 46, 47, 48, 49, 50, 51, 56, 57, 58, 59, 60, 61, 62, 63, 64, 65, 66, 67, 68, 69, 70, 71] (by decide +kernel) (by decide +kernel)
set_option maxRecDepth 20000 in
theorem gX6_road_X6_takesAll : GoodIn wsX6_road (wsV RX6 109 RX6 yX6_takesAll wsX6_takesAll) := goodIn_app (goodIn_of _ (by decide +kernel)) ggX6_road_X6_takesAll
set_option maxRecDepth 20000 in
theorem ggX6_road_X6_copyOf : GoodIn wsX6_road wsX6_copyOf := goodIn_r _ [55, 1, 56, 57, 58, 59, 60, 61, 62, 63, 64, 65, 66, 67, 68, 69, 70, 71] (by decide +kernel) (by decide +kernel)
set_option maxRecDepth 20000 in
theorem gX6_road_X6_copyOf : GoodIn wsX6_road (wsV RX6 113 RX6 yX6_copyOf wsX6_copyOf) := goodIn_app (goodIn_of _ (by decide +kernel)) ggX6_road_X6_copyOf
theorem dX6_road_0 : decode cX6_road 0 = .ok (.iconst 0, 1) := by decide +kernel
theorem dX6_road_1 : decode cX6_road 1 = .ok (.istore_n 1, 1) := by decide +kernel
theorem dX6_road_2 : decode cX6_road 2 = .ok (.iload_n 1, 1) := by decide +kernel
theorem dX6_road_3 : decode cX6_road 3 = .ok (.bipush 38, 2) := by decide +kernel
theorem dX6_road_5 : decode cX6_road 5 = .ok (.if_icmp .ge 20, 3) := by decide +kernel
theorem dX6_road_8 : decode cX6_road 8 = .ok (.aload_n 0, 1) := by decide +kernel
theorem dX6_road_9 : decode cX6_road 9 = .ok (.getfield 7, 3) := by decide +kernel
theorem dX6_road_12 : decode cX6_road 12 = .ok (.sipush 152, 3) := by decide +kernel
theorem dX6_road_15 : decode cX6_road 15 = .ok (.iload_n 1, 1) := by decide +kernel
theorem dX6_road_16 : decode cX6_road 16 = .ok (.iadd, 1) := by decide +kernel
theorem dX6_road_17 : decode cX6_road 17 = .ok (.iconst 0, 1) := by decide +kernel
theorem dX6_road_18 : decode cX6_road 18 = .ok (.iastore, 1) := by decide +kernel
theorem dX6_road_19 : decode cX6_road 19 = .ok (.iinc 1 1, 3) := by decide +kernel
theorem dX6_road_22 : decode cX6_road 22 = .ok (.goto (-20), 3) := by decide +kernel
theorem dX6_road_25 : decode cX6_road 25 = .ok (.aload_n 0, 1) := by decide +kernel
theorem dX6_road_26 : decode cX6_road 26 = .ok (.iconst 0, 1) := by decide +kernel
theorem dX6_road_27 : decode cX6_road 27 = .ok (.putfield 66, 3) := by decide +kernel
theorem dX6_road_30 : decode cX6_road 30 = .ok (.aload_n 0, 1) := by decide +kernel
theorem dX6_road_31 : decode cX6_road 31 = .ok (.invokevirtual 109, 3) := by decide +kernel
theorem dX6_road_34 : decode cX6_road 34 = .ok (.istore_n 1, 1) := by decide +kernel
theorem dX6_road_35 : decode cX6_road 35 = .ok (.aload_n 0, 1) := by decide +kernel
theorem dX6_road_36 : decode cX6_road 36 = .ok (.iconst 0, 1) := by decide +kernel
theorem dX6_road_37 : decode cX6_road 37 = .ok (.putfield 62, 3) := by decide +kernel
theorem dX6_road_40 : decode cX6_road 40 = .ok (.iload_n 1, 1) := by decide +kernel
theorem dX6_road_41 : decode cX6_road 41 = .ok (.ifCond .ne 11, 3) := by decide +kernel
theorem dX6_road_44 : decode cX6_road 44 = .ok (.ldc 112, 2) := by decide +kernel
theorem dX6_road_46 : decode cX6_road 46 = .ok (.aload_n 0, 1) := by decide +kernel
theorem dX6_road_47 : decode cX6_road 47 = .ok (.getfield 72, 3) := by decide +kernel
theorem dX6_road_50 : decode cX6_road 50 = .ok (.isub, 1) := by decide +kernel
theorem dX6_road_51 : decode cX6_road 51 = .ok (.ireturn, 1) := by decide +kernel
theorem dX6_road_52 : decode cX6_road 52 = .ok (.aload_n 0, 1) := by decide +kernel
theorem dX6_road_53 : decode cX6_road 53 = .ok (.sipush 152, 3) := by decide +kernel
theorem dX6_road_56 : decode cX6_road 56 = .ok (.iconst 0, 1) := by decide +kernel
theorem dX6_road_57 : decode cX6_road 57 = .ok (.bipush 38, 2) := by decide +kernel
theorem dX6_road_59 : decode cX6_road 59 = .ok (.invokevirtual 113, 3) := by decide +kernel
theorem dX6_road_62 : decode cX6_road 62 = .ok (.aload_n 0, 1) := by decide +kernel
theorem dX6_road_63 : decode cX6_road 63 = .ok (.iconst 0, 1) := by decide +kernel
theorem dX6_road_64 : decode cX6_road 64 = .ok (.putfield 117, 3) := by decide +kernel
theorem dX6_road_67 : decode cX6_road 67 = .ok (.aload_n 0, 1) := by decide +kernel
theorem dX6_road_68 : decode cX6_road 68 = .ok (.getfield 7, 3) := by decide +kernel
theorem dX6_road_71 : decode cX6_road 71 = .ok (.iconst 1, 1) := by decide +kernel
theorem dX6_road_72 : decode cX6_road 72 = .ok (.iaload, 1) := by decide +kernel
theorem dX6_road_73 : decode cX6_road 73 = .ok (.ireturn, 1) := by decide +kernel
theorem dX6_fault_0 : decode cX6_fault 0 = .ok (.aload_n 0, 1) := by decide +kernel
theorem dX6_fault_1 : decode cX6_fault 1 = .ok (.getfield 69, 3) := by decide +kernel
theorem dX6_fault_4 : decode cX6_fault 4 = .ok (.ireturn, 1) := by decide +kernel
theorem dX6_saysMany_0 : decode cX6_saysMany 0 = .ok (.aload_n 0, 1) := by decide +kernel
theorem dX6_saysMany_1 : decode cX6_saysMany 1 = .ok (.getfield 7, 3) := by decide +kernel
theorem dX6_saysMany_4 : decode cX6_saysMany 4 = .ok (.iload_n 1, 1) := by decide +kernel
theorem dX6_saysMany_5 : decode cX6_saysMany 5 = .ok (.iconst 4, 1) := by decide +kernel
theorem dX6_saysMany_6 : decode cX6_saysMany 6 = .ok (.iadd, 1) := by decide +kernel
theorem dX6_saysMany_7 : decode cX6_saysMany 7 = .ok (.aload_n 0, 1) := by decide +kernel
theorem dX6_saysMany_8 : decode cX6_saysMany 8 = .ok (.getfield 7, 3) := by decide +kernel
theorem dX6_saysMany_11 : decode cX6_saysMany 11 = .ok (.iload_n 1, 1) := by decide +kernel
theorem dX6_saysMany_12 : decode cX6_saysMany 12 = .ok (.bipush 19, 2) := by decide +kernel
theorem dX6_saysMany_14 : decode cX6_saysMany 14 = .ok (.iadd, 1) := by decide +kernel
theorem dX6_saysMany_15 : decode cX6_saysMany 15 = .ok (.iload_n 2, 1) := by decide +kernel
theorem dX6_saysMany_16 : decode cX6_saysMany 16 = .ok (.iadd, 1) := by decide +kernel
theorem dX6_saysMany_17 : decode cX6_saysMany 17 = .ok (.iaload, 1) := by decide +kernel
theorem dX6_saysMany_18 : decode cX6_saysMany 18 = .ok (.iadd, 1) := by decide +kernel
theorem dX6_saysMany_19 : decode cX6_saysMany 19 = .ok (.iaload, 1) := by decide +kernel
theorem dX6_saysMany_20 : decode cX6_saysMany 20 = .ok (.istore_n 3, 1) := by decide +kernel
theorem dX6_saysMany_21 : decode cX6_saysMany 21 = .ok (.aload_n 0, 1) := by decide +kernel
theorem dX6_saysMany_22 : decode cX6_saysMany 22 = .ok (.getfield 7, 3) := by decide +kernel
theorem dX6_saysMany_25 : decode cX6_saysMany 25 = .ok (.iload_n 1, 1) := by decide +kernel
theorem dX6_saysMany_26 : decode cX6_saysMany 26 = .ok (.bipush 13, 2) := by decide +kernel
theorem dX6_saysMany_28 : decode cX6_saysMany 28 = .ok (.iadd, 1) := by decide +kernel
theorem dX6_saysMany_29 : decode cX6_saysMany 29 = .ok (.iload_n 2, 1) := by decide +kernel
theorem dX6_saysMany_30 : decode cX6_saysMany 30 = .ok (.iadd, 1) := by decide +kernel
theorem dX6_saysMany_31 : decode cX6_saysMany 31 = .ok (.iaload, 1) := by decide +kernel
theorem dX6_saysMany_32 : decode cX6_saysMany 32 = .ok (.iconst 4, 1) := by decide +kernel
theorem dX6_saysMany_33 : decode cX6_saysMany 33 = .ok (.if_icmp .ne 7, 3) := by decide +kernel
theorem dX6_saysMany_36 : decode cX6_saysMany 36 = .ok (.iconst 0, 1) := by decide +kernel
theorem dX6_saysMany_37 : decode cX6_saysMany 37 = .ok (.goto 21, 3) := by decide +kernel
theorem dX6_saysMany_40 : decode cX6_saysMany 40 = .ok (.iload_n 3, 1) := by decide +kernel
theorem dX6_saysMany_41 : decode cX6_saysMany 41 = .ok (.ifCond .ne 7, 3) := by decide +kernel
theorem dX6_saysMany_44 : decode cX6_saysMany 44 = .ok (.iconst 3, 1) := by decide +kernel
theorem dX6_saysMany_45 : decode cX6_saysMany 45 = .ok (.goto 13, 3) := by decide +kernel
theorem dX6_saysMany_48 : decode cX6_saysMany 48 = .ok (.iload_n 3, 1) := by decide +kernel
theorem dX6_saysMany_49 : decode cX6_saysMany 49 = .ok (.iconst 1, 1) := by decide +kernel
theorem dX6_saysMany_50 : decode cX6_saysMany 50 = .ok (.if_icmp .ne 7, 3) := by decide +kernel
theorem dX6_saysMany_53 : decode cX6_saysMany 53 = .ok (.iconst 1, 1) := by decide +kernel
theorem dX6_saysMany_54 : decode cX6_saysMany 54 = .ok (.goto 4, 3) := by decide +kernel
theorem dX6_saysMany_57 : decode cX6_saysMany 57 = .ok (.iconst 4, 1) := by decide +kernel
theorem dX6_saysMany_58 : decode cX6_saysMany 58 = .ok (.ireturn, 1) := by decide +kernel
set_option maxRecDepth 20000 in
theorem ggX6_saysIn_X6_saysMany : GoodIn wsX6_saysIn wsX6_saysMany := goodIn_r _ [6, 1, 7, 8, 9, 10, 11, 12, 13, 14, 15, 16, 17, 18, 19, 20, 21, 22] (by decide +kernel) (by decide +kernel)
set_option maxRecDepth 20000 in
theorem gX6_saysIn_X6_saysMany : GoodIn wsX6_saysIn (wsV RX6 120 RX6 yX6_saysMany wsX6_saysMany) := goodIn_app (goodIn_of _ (by decide +kernel)) ggX6_saysIn_X6_saysMany
theorem dX6_saysIn_0 : decode cX6_saysIn 0 = .ok (.iconst 0, 1) := by decide +kernel
theorem dX6_saysIn_1 : decode cX6_saysIn 1 = .ok (.istore_n 3, 1) := by decide +kernel
theorem dX6_saysIn_2 : decode cX6_saysIn 2 = .ok (.aload_n 0, 1) := by decide +kernel
theorem dX6_saysIn_3 : decode cX6_saysIn 3 = .ok (.getfield 7, 3) := by decide +kernel
theorem dX6_saysIn_6 : decode cX6_saysIn 6 = .ok (.iload_n 1, 1) := by decide +kernel
theorem dX6_saysIn_7 : decode cX6_saysIn 7 = .ok (.iconst 2, 1) := by decide +kernel
theorem dX6_saysIn_8 : decode cX6_saysIn 8 = .ok (.iadd, 1) := by decide +kernel
theorem dX6_saysIn_9 : decode cX6_saysIn 9 = .ok (.iaload, 1) := by decide +kernel
theorem dX6_saysIn_10 : decode cX6_saysIn 10 = .ok (.istore 4, 2) := by decide +kernel
theorem dX6_saysIn_12 : decode cX6_saysIn 12 = .ok (.aload_n 0, 1) := by decide +kernel
theorem dX6_saysIn_13 : decode cX6_saysIn 13 = .ok (.getfield 7, 3) := by decide +kernel
theorem dX6_saysIn_16 : decode cX6_saysIn 16 = .ok (.iload_n 1, 1) := by decide +kernel
theorem dX6_saysIn_17 : decode cX6_saysIn 17 = .ok (.bipush 13, 2) := by decide +kernel
theorem dX6_saysIn_19 : decode cX6_saysIn 19 = .ok (.iadd, 1) := by decide +kernel
theorem dX6_saysIn_20 : decode cX6_saysIn 20 = .ok (.iload_n 2, 1) := by decide +kernel
theorem dX6_saysIn_21 : decode cX6_saysIn 21 = .ok (.iadd, 1) := by decide +kernel
theorem dX6_saysIn_22 : decode cX6_saysIn 22 = .ok (.iaload, 1) := by decide +kernel
theorem dX6_saysIn_23 : decode cX6_saysIn 23 = .ok (.iconst 5, 1) := by decide +kernel
theorem dX6_saysIn_24 : decode cX6_saysIn 24 = .ok (.if_icmp .ne 10, 3) := by decide +kernel
theorem dX6_saysIn_27 : decode cX6_saysIn 27 = .ok (.iload 4, 2) := by decide +kernel
theorem dX6_saysIn_29 : decode cX6_saysIn 29 = .ok (.iconst 1, 1) := by decide +kernel
theorem dX6_saysIn_30 : decode cX6_saysIn 30 = .ok (.isub, 1) := by decide +kernel
theorem dX6_saysIn_31 : decode cX6_saysIn 31 = .ok (.goto 4, 3) := by decide +kernel
theorem dX6_saysIn_34 : decode cX6_saysIn 34 = .ok (.iconst 1, 1) := by decide +kernel
theorem dX6_saysIn_35 : decode cX6_saysIn 35 = .ok (.istore 5, 2) := by decide +kernel
theorem dX6_saysIn_37 : decode cX6_saysIn 37 = .ok (.iconst 0, 1) := by decide +kernel
theorem dX6_saysIn_38 : decode cX6_saysIn 38 = .ok (.istore 6, 2) := by decide +kernel
theorem dX6_saysIn_40 : decode cX6_saysIn 40 = .ok (.iload 6, 2) := by decide +kernel
theorem dX6_saysIn_42 : decode cX6_saysIn 42 = .ok (.aload_n 0, 1) := by decide +kernel
theorem dX6_saysIn_43 : decode cX6_saysIn 43 = .ok (.iload_n 1, 1) := by decide +kernel
theorem dX6_saysIn_44 : decode cX6_saysIn 44 = .ok (.iload_n 2, 1) := by decide +kernel
theorem dX6_saysIn_45 : decode cX6_saysIn 45 = .ok (.invokevirtual 120, 3) := by decide +kernel
theorem dX6_saysIn_48 : decode cX6_saysIn 48 = .ok (.if_icmp .ge 34, 3) := by decide +kernel
theorem dX6_saysIn_51 : decode cX6_saysIn 51 = .ok (.iload_n 3, 1) := by decide +kernel
theorem dX6_saysIn_52 : decode cX6_saysIn 52 = .ok (.iconst 1, 1) := by decide +kernel
theorem dX6_saysIn_53 : decode cX6_saysIn 53 = .ok (.aload_n 0, 1) := by decide +kernel
theorem dX6_saysIn_54 : decode cX6_saysIn 54 = .ok (.getfield 7, 3) := by decide +kernel
theorem dX6_saysIn_57 : decode cX6_saysIn 57 = .ok (.iload_n 1, 1) := by decide +kernel
theorem dX6_saysIn_58 : decode cX6_saysIn 58 = .ok (.bipush 24, 2) := by decide +kernel
theorem dX6_saysIn_60 : decode cX6_saysIn 60 = .ok (.iadd, 1) := by decide +kernel
theorem dX6_saysIn_61 : decode cX6_saysIn 61 = .ok (.iload_n 2, 1) := by decide +kernel
theorem dX6_saysIn_62 : decode cX6_saysIn 62 = .ok (.iadd, 1) := by decide +kernel
theorem dX6_saysIn_63 : decode cX6_saysIn 63 = .ok (.iaload, 1) := by decide +kernel
theorem dX6_saysIn_64 : decode cX6_saysIn 64 = .ok (.iload 5, 2) := by decide +kernel
theorem dX6_saysIn_66 : decode cX6_saysIn 66 = .ok (.iload 6, 2) := by decide +kernel
theorem dX6_saysIn_68 : decode cX6_saysIn 68 = .ok (.imul, 1) := by decide +kernel
theorem dX6_saysIn_69 : decode cX6_saysIn 69 = .ok (.iadd, 1) := by decide +kernel
theorem dX6_saysIn_70 : decode cX6_saysIn 70 = .ok (.iload 4, 2) := by decide +kernel
theorem dX6_saysIn_72 : decode cX6_saysIn 72 = .ok (.irem, 1) := by decide +kernel
theorem dX6_saysIn_73 : decode cX6_saysIn 73 = .ok (.ishl, 1) := by decide +kernel
theorem dX6_saysIn_74 : decode cX6_saysIn 74 = .ok (.ior, 1) := by decide +kernel
theorem dX6_saysIn_75 : decode cX6_saysIn 75 = .ok (.istore_n 3, 1) := by decide +kernel
theorem dX6_saysIn_76 : decode cX6_saysIn 76 = .ok (.iinc 6 1, 3) := by decide +kernel
theorem dX6_saysIn_79 : decode cX6_saysIn 79 = .ok (.goto (-39), 3) := by decide +kernel
theorem dX6_saysIn_82 : decode cX6_saysIn 82 = .ok (.iload_n 3, 1) := by decide +kernel
theorem dX6_saysIn_83 : decode cX6_saysIn 83 = .ok (.ireturn, 1) := by decide +kernel
set_option maxRecDepth 20000 in
theorem ggX6_passes_X6_saysIn : GoodIn wsX6_passes wsX6_saysIn := goodIn_r _ [6, 1, 7, 8, 9, 5, 10, 14, 15, 16, 17, 18, 19, 20, 21, 22, 23, 24, 25, 26, 27, 28, 29] (by decide +kernel) (by decide +kernel)
set_option maxRecDepth 20000 in
theorem gX6_passes_X6_saysIn : GoodIn wsX6_passes (wsV RX6 124 RX6 yX6_saysIn wsX6_saysIn) := goodIn_app (goodIn_of _ (by decide +kernel)) ggX6_passes_X6_saysIn
set_option maxRecDepth 20000 in
theorem ggX6_passes_X6_saysMany : GoodIn wsX6_passes wsX6_saysMany := goodIn_r _ [10, 1, 14, 15, 16, 17, 18, 19, 20, 21, 22, 23, 24, 25, 26, 27, 28, 29] (by decide +kernel) (by decide +kernel)
set_option maxRecDepth 20000 in
theorem gX6_passes_X6_saysMany : GoodIn wsX6_passes (wsV RX6 120 RX6 yX6_saysMany wsX6_saysMany) := goodIn_app (goodIn_of _ (by decide +kernel)) ggX6_passes_X6_saysMany
set_option maxRecDepth 20000 in
theorem ggX6_passes_X6_has : GoodIn wsX6_passes wsX6_has := goodIn_r _ [13] (by decide +kernel) (by decide +kernel)
set_option maxRecDepth 20000 in
theorem gX6_passes_X6_has : GoodIn wsX6_passes (va_wsS RX6 127 yX6_has wsX6_has) := goodIn_app (goodIn_of _ (by decide +kernel)) ggX6_passes_X6_has
theorem dX6_passes_0 : decode cX6_passes 0 = .ok (.aload_n 0, 1) := by decide +kernel
theorem dX6_passes_1 : decode cX6_passes 1 = .ok (.getfield 7, 3) := by decide +kernel
theorem dX6_passes_4 : decode cX6_passes 4 = .ok (.iload_n 1, 1) := by decide +kernel
theorem dX6_passes_5 : decode cX6_passes 5 = .ok (.iconst 2, 1) := by decide +kernel
theorem dX6_passes_6 : decode cX6_passes 6 = .ok (.iadd, 1) := by decide +kernel
theorem dX6_passes_7 : decode cX6_passes 7 = .ok (.iaload, 1) := by decide +kernel
theorem dX6_passes_8 : decode cX6_passes 8 = .ok (.istore_n 3, 1) := by decide +kernel
theorem dX6_passes_9 : decode cX6_passes 9 = .ok (.aload_n 0, 1) := by decide +kernel
theorem dX6_passes_10 : decode cX6_passes 10 = .ok (.iload_n 1, 1) := by decide +kernel
theorem dX6_passes_11 : decode cX6_passes 11 = .ok (.iload_n 2, 1) := by decide +kernel
theorem dX6_passes_12 : decode cX6_passes 12 = .ok (.invokevirtual 124, 3) := by decide +kernel
theorem dX6_passes_15 : decode cX6_passes 15 = .ok (.istore 4, 2) := by decide +kernel
theorem dX6_passes_17 : decode cX6_passes 17 = .ok (.aload_n 0, 1) := by decide +kernel
theorem dX6_passes_18 : decode cX6_passes 18 = .ok (.iload_n 1, 1) := by decide +kernel
theorem dX6_passes_19 : decode cX6_passes 19 = .ok (.iload_n 2, 1) := by decide +kernel
theorem dX6_passes_20 : decode cX6_passes 20 = .ok (.invokevirtual 120, 3) := by decide +kernel
theorem dX6_passes_23 : decode cX6_passes 23 = .ok (.istore 5, 2) := by decide +kernel
theorem dX6_passes_25 : decode cX6_passes 25 = .ok (.aload_n 0, 1) := by decide +kernel
theorem dX6_passes_26 : decode cX6_passes 26 = .ok (.getfield 7, 3) := by decide +kernel
theorem dX6_passes_29 : decode cX6_passes 29 = .ok (.iload_n 1, 1) := by decide +kernel
theorem dX6_passes_30 : decode cX6_passes 30 = .ok (.bipush 19, 2) := by decide +kernel
theorem dX6_passes_32 : decode cX6_passes 32 = .ok (.iadd, 1) := by decide +kernel
theorem dX6_passes_33 : decode cX6_passes 33 = .ok (.iload_n 2, 1) := by decide +kernel
theorem dX6_passes_34 : decode cX6_passes 34 = .ok (.iadd, 1) := by decide +kernel
theorem dX6_passes_35 : decode cX6_passes 35 = .ok (.iaload, 1) := by decide +kernel
theorem dX6_passes_36 : decode cX6_passes 36 = .ok (.istore 6, 2) := by decide +kernel
theorem dX6_passes_38 : decode cX6_passes 38 = .ok (.aload_n 0, 1) := by decide +kernel
theorem dX6_passes_39 : decode cX6_passes 39 = .ok (.getfield 7, 3) := by decide +kernel
theorem dX6_passes_42 : decode cX6_passes 42 = .ok (.iload_n 1, 1) := by decide +kernel
theorem dX6_passes_43 : decode cX6_passes 43 = .ok (.bipush 13, 2) := by decide +kernel
theorem dX6_passes_45 : decode cX6_passes 45 = .ok (.iadd, 1) := by decide +kernel
theorem dX6_passes_46 : decode cX6_passes 46 = .ok (.iload_n 2, 1) := by decide +kernel
theorem dX6_passes_47 : decode cX6_passes 47 = .ok (.iadd, 1) := by decide +kernel
theorem dX6_passes_48 : decode cX6_passes 48 = .ok (.iaload, 1) := by decide +kernel
theorem dX6_passes_49 : decode cX6_passes 49 = .ok (.istore 7, 2) := by decide +kernel
theorem dX6_passes_51 : decode cX6_passes 51 = .ok (.aload_n 0, 1) := by decide +kernel
theorem dX6_passes_52 : decode cX6_passes 52 = .ok (.getfield 7, 3) := by decide +kernel
theorem dX6_passes_55 : decode cX6_passes 55 = .ok (.iload_n 1, 1) := by decide +kernel
theorem dX6_passes_56 : decode cX6_passes 56 = .ok (.bipush 29, 2) := by decide +kernel
theorem dX6_passes_58 : decode cX6_passes 58 = .ok (.iadd, 1) := by decide +kernel
theorem dX6_passes_59 : decode cX6_passes 59 = .ok (.iload 6, 2) := by decide +kernel
theorem dX6_passes_61 : decode cX6_passes 61 = .ok (.iadd, 1) := by decide +kernel
theorem dX6_passes_62 : decode cX6_passes 62 = .ok (.dup2, 1) := by decide +kernel
theorem dX6_passes_63 : decode cX6_passes 63 = .ok (.iaload, 1) := by decide +kernel
theorem dX6_passes_64 : decode cX6_passes 64 = .ok (.iload 4, 2) := by decide +kernel
theorem dX6_passes_66 : decode cX6_passes 66 = .ok (.ior, 1) := by decide +kernel
theorem dX6_passes_67 : decode cX6_passes 67 = .ok (.iastore, 1) := by decide +kernel
theorem dX6_passes_68 : decode cX6_passes 68 = .ok (.aload_n 0, 1) := by decide +kernel
theorem dX6_passes_69 : decode cX6_passes 69 = .ok (.getfield 7, 3) := by decide +kernel
theorem dX6_passes_72 : decode cX6_passes 72 = .ok (.iload_n 1, 1) := by decide +kernel
theorem dX6_passes_73 : decode cX6_passes 73 = .ok (.bipush 24, 2) := by decide +kernel
theorem dX6_passes_75 : decode cX6_passes 75 = .ok (.iadd, 1) := by decide +kernel
theorem dX6_passes_76 : decode cX6_passes 76 = .ok (.iload_n 2, 1) := by decide +kernel
theorem dX6_passes_77 : decode cX6_passes 77 = .ok (.iadd, 1) := by decide +kernel
theorem dX6_passes_78 : decode cX6_passes 78 = .ok (.iload 7, 2) := by decide +kernel
theorem dX6_passes_80 : decode cX6_passes 80 = .ok (.iconst 5, 1) := by decide +kernel
theorem dX6_passes_81 : decode cX6_passes 81 = .ok (.if_icmp .ne 26, 3) := by decide +kernel
theorem dX6_passes_84 : decode cX6_passes 84 = .ok (.aload_n 0, 1) := by decide +kernel
theorem dX6_passes_85 : decode cX6_passes 85 = .ok (.getfield 7, 3) := by decide +kernel
theorem dX6_passes_88 : decode cX6_passes 88 = .ok (.iload_n 1, 1) := by decide +kernel
theorem dX6_passes_89 : decode cX6_passes 89 = .ok (.bipush 24, 2) := by decide +kernel
theorem dX6_passes_91 : decode cX6_passes 91 = .ok (.iadd, 1) := by decide +kernel
theorem dX6_passes_92 : decode cX6_passes 92 = .ok (.iload_n 2, 1) := by decide +kernel
theorem dX6_passes_93 : decode cX6_passes 93 = .ok (.iadd, 1) := by decide +kernel
theorem dX6_passes_94 : decode cX6_passes 94 = .ok (.iaload, 1) := by decide +kernel
theorem dX6_passes_95 : decode cX6_passes 95 = .ok (.iload_n 3, 1) := by decide +kernel
theorem dX6_passes_96 : decode cX6_passes 96 = .ok (.iconst 4, 1) := by decide +kernel
theorem dX6_passes_97 : decode cX6_passes 97 = .ok (.imul, 1) := by decide +kernel
theorem dX6_passes_98 : decode cX6_passes 98 = .ok (.iadd, 1) := by decide +kernel
theorem dX6_passes_99 : decode cX6_passes 99 = .ok (.iload 5, 2) := by decide +kernel
theorem dX6_passes_101 : decode cX6_passes 101 = .ok (.isub, 1) := by decide +kernel
theorem dX6_passes_102 : decode cX6_passes 102 = .ok (.iload_n 3, 1) := by decide +kernel
theorem dX6_passes_103 : decode cX6_passes 103 = .ok (.irem, 1) := by decide +kernel
theorem dX6_passes_104 : decode cX6_passes 104 = .ok (.goto 19, 3) := by decide +kernel
theorem dX6_passes_107 : decode cX6_passes 107 = .ok (.aload_n 0, 1) := by decide +kernel
theorem dX6_passes_108 : decode cX6_passes 108 = .ok (.getfield 7, 3) := by decide +kernel
theorem dX6_passes_111 : decode cX6_passes 111 = .ok (.iload_n 1, 1) := by decide +kernel
theorem dX6_passes_112 : decode cX6_passes 112 = .ok (.bipush 24, 2) := by decide +kernel
theorem dX6_passes_114 : decode cX6_passes 114 = .ok (.iadd, 1) := by decide +kernel
theorem dX6_passes_115 : decode cX6_passes 115 = .ok (.iload_n 2, 1) := by decide +kernel
theorem dX6_passes_116 : decode cX6_passes 116 = .ok (.iadd, 1) := by decide +kernel
theorem dX6_passes_117 : decode cX6_passes 117 = .ok (.iaload, 1) := by decide +kernel
theorem dX6_passes_118 : decode cX6_passes 118 = .ok (.iload 5, 2) := by decide +kernel
theorem dX6_passes_120 : decode cX6_passes 120 = .ok (.iadd, 1) := by decide +kernel
theorem dX6_passes_121 : decode cX6_passes 121 = .ok (.iload_n 3, 1) := by decide +kernel
theorem dX6_passes_122 : decode cX6_passes 122 = .ok (.irem, 1) := by decide +kernel
theorem dX6_passes_123 : decode cX6_passes 123 = .ok (.iastore, 1) := by decide +kernel
theorem dX6_passes_124 : decode cX6_passes 124 = .ok (.iload 7, 2) := by decide +kernel
theorem dX6_passes_126 : decode cX6_passes 126 = .ok (.iconst 3, 1) := by decide +kernel
theorem dX6_passes_127 : decode cX6_passes 127 = .ok (.if_icmp .ne 23, 3) := by decide +kernel
theorem dX6_passes_130 : decode cX6_passes 130 = .ok (.iload 4, 2) := by decide +kernel
theorem dX6_passes_132 : decode cX6_passes 132 = .ok (.aload_n 0, 1) := by decide +kernel
theorem dX6_passes_133 : decode cX6_passes 133 = .ok (.getfield 7, 3) := by decide +kernel
theorem dX6_passes_136 : decode cX6_passes 136 = .ok (.iload_n 1, 1) := by decide +kernel
theorem dX6_passes_137 : decode cX6_passes 137 = .ok (.iconst 3, 1) := by decide +kernel
theorem dX6_passes_138 : decode cX6_passes 138 = .ok (.iadd, 1) := by decide +kernel
theorem dX6_passes_139 : decode cX6_passes 139 = .ok (.iaload, 1) := by decide +kernel
theorem dX6_passes_140 : decode cX6_passes 140 = .ok (.invokestatic 127, 3) := by decide +kernel
theorem dX6_passes_143 : decode cX6_passes 143 = .ok (.ifCond .eq 7, 3) := by decide +kernel
theorem dX6_passes_146 : decode cX6_passes 146 = .ok (.iconst 1, 1) := by decide +kernel
theorem dX6_passes_147 : decode cX6_passes 147 = .ok (.goto 4, 3) := by decide +kernel
theorem dX6_passes_150 : decode cX6_passes 150 = .ok (.iconst 0, 1) := by decide +kernel
theorem dX6_passes_151 : decode cX6_passes 151 = .ok (.istore 8, 2) := by decide +kernel
theorem dX6_passes_153 : decode cX6_passes 153 = .ok (.iload 8, 2) := by decide +kernel
theorem dX6_passes_155 : decode cX6_passes 155 = .ok (.ifCond .eq 7, 3) := by decide +kernel
theorem dX6_passes_158 : decode cX6_passes 158 = .ok (.iconst 0, 1) := by decide +kernel
theorem dX6_passes_159 : decode cX6_passes 159 = .ok (.goto 23, 3) := by decide +kernel
theorem dX6_passes_162 : decode cX6_passes 162 = .ok (.iload 7, 2) := by decide +kernel
theorem dX6_passes_164 : decode cX6_passes 164 = .ok (.iconst 2, 1) := by decide +kernel
theorem dX6_passes_165 : decode cX6_passes 165 = .ok (.if_icmp .ne 16, 3) := by decide +kernel
theorem dX6_passes_168 : decode cX6_passes 168 = .ok (.aload_n 0, 1) := by decide +kernel
theorem dX6_passes_169 : decode cX6_passes 169 = .ok (.getfield 7, 3) := by decide +kernel
theorem dX6_passes_172 : decode cX6_passes 172 = .ok (.iload_n 1, 1) := by decide +kernel
theorem dX6_passes_173 : decode cX6_passes 173 = .ok (.iconst 0, 1) := by decide +kernel
theorem dX6_passes_174 : decode cX6_passes 174 = .ok (.iadd, 1) := by decide +kernel
theorem dX6_passes_175 : decode cX6_passes 175 = .ok (.iaload, 1) := by decide +kernel
theorem dX6_passes_176 : decode cX6_passes 176 = .ok (.iconst 1, 1) := by decide +kernel
theorem dX6_passes_177 : decode cX6_passes 177 = .ok (.isub, 1) := by decide +kernel
theorem dX6_passes_178 : decode cX6_passes 178 = .ok (.goto 4, 3) := by decide +kernel
theorem dX6_passes_181 : decode cX6_passes 181 = .ok (.iconst 1, 1) := by decide +kernel
theorem dX6_passes_182 : decode cX6_passes 182 = .ok (.istore 9, 2) := by decide +kernel
theorem dX6_passes_184 : decode cX6_passes 184 = .ok (.aload_n 0, 1) := by decide +kernel
theorem dX6_passes_185 : decode cX6_passes 185 = .ok (.getfield 7, 3) := by decide +kernel
theorem dX6_passes_188 : decode cX6_passes 188 = .ok (.iload_n 1, 1) := by decide +kernel
theorem dX6_passes_189 : decode cX6_passes 189 = .ok (.bipush 19, 2) := by decide +kernel
theorem dX6_passes_191 : decode cX6_passes 191 = .ok (.iadd, 1) := by decide +kernel
theorem dX6_passes_192 : decode cX6_passes 192 = .ok (.iload_n 2, 1) := by decide +kernel
theorem dX6_passes_193 : decode cX6_passes 193 = .ok (.iadd, 1) := by decide +kernel
theorem dX6_passes_194 : decode cX6_passes 194 = .ok (.iload 6, 2) := by decide +kernel
theorem dX6_passes_196 : decode cX6_passes 196 = .ok (.iload 9, 2) := by decide +kernel
theorem dX6_passes_198 : decode cX6_passes 198 = .ok (.iadd, 1) := by decide +kernel
theorem dX6_passes_199 : decode cX6_passes 199 = .ok (.aload_n 0, 1) := by decide +kernel
theorem dX6_passes_200 : decode cX6_passes 200 = .ok (.getfield 7, 3) := by decide +kernel
theorem dX6_passes_203 : decode cX6_passes 203 = .ok (.iload_n 1, 1) := by decide +kernel
theorem dX6_passes_204 : decode cX6_passes 204 = .ok (.iconst 0, 1) := by decide +kernel
theorem dX6_passes_205 : decode cX6_passes 205 = .ok (.iadd, 1) := by decide +kernel
theorem dX6_passes_206 : decode cX6_passes 206 = .ok (.iaload, 1) := by decide +kernel
theorem dX6_passes_207 : decode cX6_passes 207 = .ok (.irem, 1) := by decide +kernel
theorem dX6_passes_208 : decode cX6_passes 208 = .ok (.iastore, 1) := by decide +kernel
theorem dX6_passes_209 : decode cX6_passes 209 = .ok (.return_, 1) := by decide +kernel
theorem dX6_councilsIn_0 : decode cX6_councilsIn 0 = .ok (.iconst 0, 1) := by decide +kernel
theorem dX6_councilsIn_1 : decode cX6_councilsIn 1 = .ok (.istore_n 2, 1) := by decide +kernel
theorem dX6_councilsIn_2 : decode cX6_councilsIn 2 = .ok (.iconst 0, 1) := by decide +kernel
theorem dX6_councilsIn_3 : decode cX6_councilsIn 3 = .ok (.istore_n 3, 1) := by decide +kernel
theorem dX6_councilsIn_4 : decode cX6_councilsIn 4 = .ok (.iload_n 3, 1) := by decide +kernel
theorem dX6_councilsIn_5 : decode cX6_councilsIn 5 = .ok (.aload_n 0, 1) := by decide +kernel
theorem dX6_councilsIn_6 : decode cX6_councilsIn 6 = .ok (.getfield 7, 3) := by decide +kernel
theorem dX6_councilsIn_9 : decode cX6_councilsIn 9 = .ok (.iload_n 1, 1) := by decide +kernel
theorem dX6_councilsIn_10 : decode cX6_councilsIn 10 = .ok (.iconst 1, 1) := by decide +kernel
theorem dX6_councilsIn_11 : decode cX6_councilsIn 11 = .ok (.iadd, 1) := by decide +kernel
theorem dX6_councilsIn_12 : decode cX6_councilsIn 12 = .ok (.iaload, 1) := by decide +kernel
theorem dX6_councilsIn_13 : decode cX6_councilsIn 13 = .ok (.if_icmp .ge 60, 3) := by decide +kernel
theorem dX6_councilsIn_16 : decode cX6_councilsIn 16 = .ok (.iconst 0, 1) := by decide +kernel
theorem dX6_councilsIn_17 : decode cX6_councilsIn 17 = .ok (.istore 4, 2) := by decide +kernel
theorem dX6_councilsIn_19 : decode cX6_councilsIn 19 = .ok (.iload 4, 2) := by decide +kernel
theorem dX6_councilsIn_21 : decode cX6_councilsIn 21 = .ok (.iload_n 3, 1) := by decide +kernel
theorem dX6_councilsIn_22 : decode cX6_councilsIn 22 = .ok (.if_icmp .ge 45, 3) := by decide +kernel
theorem dX6_councilsIn_25 : decode cX6_councilsIn 25 = .ok (.iload_n 2, 1) := by decide +kernel
theorem dX6_councilsIn_26 : decode cX6_councilsIn 26 = .ok (.aload_n 0, 1) := by decide +kernel
theorem dX6_councilsIn_27 : decode cX6_councilsIn 27 = .ok (.getfield 7, 3) := by decide +kernel
theorem dX6_councilsIn_30 : decode cX6_councilsIn 30 = .ok (.iload_n 1, 1) := by decide +kernel
theorem dX6_councilsIn_31 : decode cX6_councilsIn 31 = .ok (.bipush 19, 2) := by decide +kernel
theorem dX6_councilsIn_33 : decode cX6_councilsIn 33 = .ok (.iadd, 1) := by decide +kernel
theorem dX6_councilsIn_34 : decode cX6_councilsIn 34 = .ok (.iload_n 3, 1) := by decide +kernel
theorem dX6_councilsIn_35 : decode cX6_councilsIn 35 = .ok (.iadd, 1) := by decide +kernel
theorem dX6_councilsIn_36 : decode cX6_councilsIn 36 = .ok (.iaload, 1) := by decide +kernel
theorem dX6_councilsIn_37 : decode cX6_councilsIn 37 = .ok (.aload_n 0, 1) := by decide +kernel
theorem dX6_councilsIn_38 : decode cX6_councilsIn 38 = .ok (.getfield 7, 3) := by decide +kernel
theorem dX6_councilsIn_41 : decode cX6_councilsIn 41 = .ok (.iload_n 1, 1) := by decide +kernel
theorem dX6_councilsIn_42 : decode cX6_councilsIn 42 = .ok (.bipush 19, 2) := by decide +kernel
theorem dX6_councilsIn_44 : decode cX6_councilsIn 44 = .ok (.iadd, 1) := by decide +kernel
theorem dX6_councilsIn_45 : decode cX6_councilsIn 45 = .ok (.iload 4, 2) := by decide +kernel
theorem dX6_councilsIn_47 : decode cX6_councilsIn 47 = .ok (.iadd, 1) := by decide +kernel
theorem dX6_councilsIn_48 : decode cX6_councilsIn 48 = .ok (.iaload, 1) := by decide +kernel
theorem dX6_councilsIn_49 : decode cX6_councilsIn 49 = .ok (.if_icmp .ne 9, 3) := by decide +kernel
theorem dX6_councilsIn_52 : decode cX6_councilsIn 52 = .ok (.iconst 1, 1) := by decide +kernel
theorem dX6_councilsIn_53 : decode cX6_councilsIn 53 = .ok (.iload_n 3, 1) := by decide +kernel
theorem dX6_councilsIn_54 : decode cX6_councilsIn 54 = .ok (.ishl, 1) := by decide +kernel
theorem dX6_councilsIn_55 : decode cX6_councilsIn 55 = .ok (.goto 4, 3) := by decide +kernel
theorem dX6_councilsIn_58 : decode cX6_councilsIn 58 = .ok (.iconst 0, 1) := by decide +kernel
theorem dX6_councilsIn_59 : decode cX6_councilsIn 59 = .ok (.ior, 1) := by decide +kernel
theorem dX6_councilsIn_60 : decode cX6_councilsIn 60 = .ok (.istore_n 2, 1) := by decide +kernel
theorem dX6_councilsIn_61 : decode cX6_councilsIn 61 = .ok (.iinc 4 1, 3) := by decide +kernel
theorem dX6_councilsIn_64 : decode cX6_councilsIn 64 = .ok (.goto (-45), 3) := by decide +kernel
theorem dX6_councilsIn_67 : decode cX6_councilsIn 67 = .ok (.iinc 3 1, 3) := by decide +kernel
theorem dX6_councilsIn_70 : decode cX6_councilsIn 70 = .ok (.goto (-66), 3) := by decide +kernel
theorem dX6_councilsIn_73 : decode cX6_councilsIn 73 = .ok (.iload_n 2, 1) := by decide +kernel
theorem dX6_councilsIn_74 : decode cX6_councilsIn 74 = .ok (.ireturn, 1) := by decide +kernel
set_option maxRecDepth 20000 in
theorem ggX6_hourBy_X6_councilsIn : GoodIn wsX6_hourBy wsX6_councilsIn := goodIn_r _ [6, 1, 22, 23, 24, 25, 26, 27, 28, 29, 30, 31, 32, 33, 34, 35, 36, 37] (by decide +kernel) (by decide +kernel)
set_option maxRecDepth 20000 in
theorem gX6_hourBy_X6_councilsIn : GoodIn wsX6_hourBy (wsV RX6 130 RX6 yX6_councilsIn wsX6_councilsIn) := goodIn_app (goodIn_of _ (by decide +kernel)) ggX6_hourBy_X6_councilsIn
set_option maxRecDepth 20000 in
theorem ggX6_hourBy_X6_has : GoodIn wsX6_hourBy wsX6_has := goodIn_r _ [9] (by decide +kernel) (by decide +kernel)
set_option maxRecDepth 20000 in
theorem gX6_hourBy_X6_has : GoodIn wsX6_hourBy (va_wsS RX6 127 yX6_has wsX6_has) := goodIn_app (goodIn_of _ (by decide +kernel)) ggX6_hourBy_X6_has
set_option maxRecDepth 20000 in
theorem ggX6_hourBy_X6_passes : GoodIn wsX6_hourBy wsX6_passes := goodIn_r _ [13, 1, 14, 15, 16, 5, 17, 18, 19, 20, 21, 7, 8, 9, 22, 23, 24, 25, 26, 27, 28, 29, 30, 31, 32, 33, 34, 35, 36, 37] (by decide +kernel) (by decide +kernel)
set_option maxRecDepth 20000 in
theorem gX6_hourBy_X6_passes : GoodIn wsX6_hourBy (wsV RX6 133 RX6 yX6_passes wsX6_passes) := goodIn_app (goodIn_of _ (by decide +kernel)) ggX6_hourBy_X6_passes
theorem dX6_hourBy_0 : decode cX6_hourBy 0 = .ok (.aload_n 0, 1) := by decide +kernel
theorem dX6_hourBy_1 : decode cX6_hourBy 1 = .ok (.iload_n 1, 1) := by decide +kernel
theorem dX6_hourBy_2 : decode cX6_hourBy 2 = .ok (.invokevirtual 130, 3) := by decide +kernel
theorem dX6_hourBy_5 : decode cX6_hourBy 5 = .ok (.iload_n 2, 1) := by decide +kernel
theorem dX6_hourBy_6 : decode cX6_hourBy 6 = .ok (.ior, 1) := by decide +kernel
theorem dX6_hourBy_7 : decode cX6_hourBy 7 = .ok (.istore_n 3, 1) := by decide +kernel
theorem dX6_hourBy_8 : decode cX6_hourBy 8 = .ok (.iconst 0, 1) := by decide +kernel
theorem dX6_hourBy_9 : decode cX6_hourBy 9 = .ok (.istore 4, 2) := by decide +kernel
theorem dX6_hourBy_11 : decode cX6_hourBy 11 = .ok (.iload 4, 2) := by decide +kernel
theorem dX6_hourBy_13 : decode cX6_hourBy 13 = .ok (.aload_n 0, 1) := by decide +kernel
theorem dX6_hourBy_14 : decode cX6_hourBy 14 = .ok (.getfield 7, 3) := by decide +kernel
theorem dX6_hourBy_17 : decode cX6_hourBy 17 = .ok (.iload_n 1, 1) := by decide +kernel
theorem dX6_hourBy_18 : decode cX6_hourBy 18 = .ok (.iconst 1, 1) := by decide +kernel
theorem dX6_hourBy_19 : decode cX6_hourBy 19 = .ok (.iadd, 1) := by decide +kernel
theorem dX6_hourBy_20 : decode cX6_hourBy 20 = .ok (.iaload, 1) := by decide +kernel
theorem dX6_hourBy_21 : decode cX6_hourBy 21 = .ok (.if_icmp .ge 25, 3) := by decide +kernel
theorem dX6_hourBy_24 : decode cX6_hourBy 24 = .ok (.iload_n 3, 1) := by decide +kernel
theorem dX6_hourBy_25 : decode cX6_hourBy 25 = .ok (.iload 4, 2) := by decide +kernel
theorem dX6_hourBy_27 : decode cX6_hourBy 27 = .ok (.invokestatic 127, 3) := by decide +kernel
theorem dX6_hourBy_30 : decode cX6_hourBy 30 = .ok (.ifCond .ne 10, 3) := by decide +kernel
theorem dX6_hourBy_33 : decode cX6_hourBy 33 = .ok (.aload_n 0, 1) := by decide +kernel
theorem dX6_hourBy_34 : decode cX6_hourBy 34 = .ok (.iload_n 1, 1) := by decide +kernel
theorem dX6_hourBy_35 : decode cX6_hourBy 35 = .ok (.iload 4, 2) := by decide +kernel
theorem dX6_hourBy_37 : decode cX6_hourBy 37 = .ok (.invokevirtual 133, 3) := by decide +kernel
theorem dX6_hourBy_40 : decode cX6_hourBy 40 = .ok (.iinc 4 1, 3) := by decide +kernel
theorem dX6_hourBy_43 : decode cX6_hourBy 43 = .ok (.goto (-32), 3) := by decide +kernel
theorem dX6_hourBy_46 : decode cX6_hourBy 46 = .ok (.aload_n 0, 1) := by decide +kernel
theorem dX6_hourBy_47 : decode cX6_hourBy 47 = .ok (.getfield 7, 3) := by decide +kernel
theorem dX6_hourBy_50 : decode cX6_hourBy 50 = .ok (.iload_n 1, 1) := by decide +kernel
theorem dX6_hourBy_51 : decode cX6_hourBy 51 = .ok (.bipush 18, 2) := by decide +kernel
theorem dX6_hourBy_53 : decode cX6_hourBy 53 = .ok (.iadd, 1) := by decide +kernel
theorem dX6_hourBy_54 : decode cX6_hourBy 54 = .ok (.dup2, 1) := by decide +kernel
theorem dX6_hourBy_55 : decode cX6_hourBy 55 = .ok (.iaload, 1) := by decide +kernel
theorem dX6_hourBy_56 : decode cX6_hourBy 56 = .ok (.iconst 1, 1) := by decide +kernel
theorem dX6_hourBy_57 : decode cX6_hourBy 57 = .ok (.iadd, 1) := by decide +kernel
theorem dX6_hourBy_58 : decode cX6_hourBy 58 = .ok (.iastore, 1) := by decide +kernel
theorem dX6_hourBy_59 : decode cX6_hourBy 59 = .ok (.return_, 1) := by decide +kernel
theorem dX6_all_0 : decode cX6_all 0 = .ok (.iconst 1, 1) := by decide +kernel
theorem dX6_all_1 : decode cX6_all 1 = .ok (.aload_n 0, 1) := by decide +kernel
theorem dX6_all_2 : decode cX6_all 2 = .ok (.getfield 7, 3) := by decide +kernel
theorem dX6_all_5 : decode cX6_all 5 = .ok (.iload_n 1, 1) := by decide +kernel
theorem dX6_all_6 : decode cX6_all 6 = .ok (.iconst 2, 1) := by decide +kernel
theorem dX6_all_7 : decode cX6_all 7 = .ok (.iadd, 1) := by decide +kernel
theorem dX6_all_8 : decode cX6_all 8 = .ok (.iaload, 1) := by decide +kernel
theorem dX6_all_9 : decode cX6_all 9 = .ok (.ishl, 1) := by decide +kernel
theorem dX6_all_10 : decode cX6_all 10 = .ok (.iconst 1, 1) := by decide +kernel
theorem dX6_all_11 : decode cX6_all 11 = .ok (.isub, 1) := by decide +kernel
theorem dX6_all_12 : decode cX6_all 12 = .ok (.ireturn, 1) := by decide +kernel
set_option maxRecDepth 20000 in
theorem ggX6_wholeOnes_X6_all : GoodIn wsX6_wholeOnes wsX6_all := goodIn_r _ [6, 1, 7, 8, 9, 10, 11, 12, 13, 14, 15, 16, 17, 18, 19, 20, 21, 22] (by decide +kernel) (by decide +kernel)
set_option maxRecDepth 20000 in
theorem gX6_wholeOnes_X6_all : GoodIn wsX6_wholeOnes (wsV RX6 137 RX6 yX6_all wsX6_all) := goodIn_app (goodIn_of _ (by decide +kernel)) ggX6_wholeOnes_X6_all
theorem dX6_wholeOnes_0 : decode cX6_wholeOnes 0 = .ok (.iconst 0, 1) := by decide +kernel
theorem dX6_wholeOnes_1 : decode cX6_wholeOnes 1 = .ok (.istore_n 2, 1) := by decide +kernel
theorem dX6_wholeOnes_2 : decode cX6_wholeOnes 2 = .ok (.iconst 0, 1) := by decide +kernel
theorem dX6_wholeOnes_3 : decode cX6_wholeOnes 3 = .ok (.istore_n 3, 1) := by decide +kernel
theorem dX6_wholeOnes_4 : decode cX6_wholeOnes 4 = .ok (.iload_n 3, 1) := by decide +kernel
theorem dX6_wholeOnes_5 : decode cX6_wholeOnes 5 = .ok (.aload_n 0, 1) := by decide +kernel
theorem dX6_wholeOnes_6 : decode cX6_wholeOnes 6 = .ok (.getfield 7, 3) := by decide +kernel
theorem dX6_wholeOnes_9 : decode cX6_wholeOnes 9 = .ok (.iload_n 1, 1) := by decide +kernel
theorem dX6_wholeOnes_10 : decode cX6_wholeOnes 10 = .ok (.iconst 0, 1) := by decide +kernel
theorem dX6_wholeOnes_11 : decode cX6_wholeOnes 11 = .ok (.iadd, 1) := by decide +kernel
theorem dX6_wholeOnes_12 : decode cX6_wholeOnes 12 = .ok (.iaload, 1) := by decide +kernel
theorem dX6_wholeOnes_13 : decode cX6_wholeOnes 13 = .ok (.if_icmp .ge 38, 3) := by decide +kernel
theorem dX6_wholeOnes_16 : decode cX6_wholeOnes 16 = .ok (.iload_n 2, 1) := by decide +kernel
theorem dX6_wholeOnes_17 : decode cX6_wholeOnes 17 = .ok (.aload_n 0, 1) := by decide +kernel
theorem dX6_wholeOnes_18 : decode cX6_wholeOnes 18 = .ok (.getfield 7, 3) := by decide +kernel
theorem dX6_wholeOnes_21 : decode cX6_wholeOnes 21 = .ok (.iload_n 1, 1) := by decide +kernel
theorem dX6_wholeOnes_22 : decode cX6_wholeOnes 22 = .ok (.bipush 29, 2) := by decide +kernel
theorem dX6_wholeOnes_24 : decode cX6_wholeOnes 24 = .ok (.iadd, 1) := by decide +kernel
theorem dX6_wholeOnes_25 : decode cX6_wholeOnes 25 = .ok (.iload_n 3, 1) := by decide +kernel
theorem dX6_wholeOnes_26 : decode cX6_wholeOnes 26 = .ok (.iadd, 1) := by decide +kernel
theorem dX6_wholeOnes_27 : decode cX6_wholeOnes 27 = .ok (.iaload, 1) := by decide +kernel
theorem dX6_wholeOnes_28 : decode cX6_wholeOnes 28 = .ok (.aload_n 0, 1) := by decide +kernel
theorem dX6_wholeOnes_29 : decode cX6_wholeOnes 29 = .ok (.iload_n 1, 1) := by decide +kernel
theorem dX6_wholeOnes_30 : decode cX6_wholeOnes 30 = .ok (.invokevirtual 137, 3) := by decide +kernel
theorem dX6_wholeOnes_33 : decode cX6_wholeOnes 33 = .ok (.if_icmp .ne 9, 3) := by decide +kernel
theorem dX6_wholeOnes_36 : decode cX6_wholeOnes 36 = .ok (.iconst 1, 1) := by decide +kernel
theorem dX6_wholeOnes_37 : decode cX6_wholeOnes 37 = .ok (.iload_n 3, 1) := by decide +kernel
theorem dX6_wholeOnes_38 : decode cX6_wholeOnes 38 = .ok (.ishl, 1) := by decide +kernel
theorem dX6_wholeOnes_39 : decode cX6_wholeOnes 39 = .ok (.goto 4, 3) := by decide +kernel
theorem dX6_wholeOnes_42 : decode cX6_wholeOnes 42 = .ok (.iconst 0, 1) := by decide +kernel
theorem dX6_wholeOnes_43 : decode cX6_wholeOnes 43 = .ok (.ior, 1) := by decide +kernel
theorem dX6_wholeOnes_44 : decode cX6_wholeOnes 44 = .ok (.istore_n 2, 1) := by decide +kernel
theorem dX6_wholeOnes_45 : decode cX6_wholeOnes 45 = .ok (.iinc 3 1, 3) := by decide +kernel
theorem dX6_wholeOnes_48 : decode cX6_wholeOnes 48 = .ok (.goto (-44), 3) := by decide +kernel
theorem dX6_wholeOnes_51 : decode cX6_wholeOnes 51 = .ok (.iload_n 2, 1) := by decide +kernel
theorem dX6_wholeOnes_52 : decode cX6_wholeOnes 52 = .ok (.ireturn, 1) := by decide +kernel
set_option maxRecDepth 20000 in
theorem ggX6_heardWords_X6_ones : GoodIn wsX6_heardWords wsX6_ones := goodIn_r _ [5] (by decide +kernel) (by decide +kernel)
set_option maxRecDepth 20000 in
theorem gX6_heardWords_X6_ones : GoodIn wsX6_heardWords (va_wsS RX6 140 yX6_ones wsX6_ones) := goodIn_app (goodIn_of _ (by decide +kernel)) ggX6_heardWords_X6_ones
theorem dX6_heardWords_0 : decode cX6_heardWords 0 = .ok (.iconst 0, 1) := by decide +kernel
theorem dX6_heardWords_1 : decode cX6_heardWords 1 = .ok (.istore_n 2, 1) := by decide +kernel
theorem dX6_heardWords_2 : decode cX6_heardWords 2 = .ok (.iconst 0, 1) := by decide +kernel
theorem dX6_heardWords_3 : decode cX6_heardWords 3 = .ok (.istore_n 3, 1) := by decide +kernel
theorem dX6_heardWords_4 : decode cX6_heardWords 4 = .ok (.iload_n 3, 1) := by decide +kernel
theorem dX6_heardWords_5 : decode cX6_heardWords 5 = .ok (.aload_n 0, 1) := by decide +kernel
theorem dX6_heardWords_6 : decode cX6_heardWords 6 = .ok (.getfield 7, 3) := by decide +kernel
theorem dX6_heardWords_9 : decode cX6_heardWords 9 = .ok (.iload_n 1, 1) := by decide +kernel
theorem dX6_heardWords_10 : decode cX6_heardWords 10 = .ok (.iconst 0, 1) := by decide +kernel
theorem dX6_heardWords_11 : decode cX6_heardWords 11 = .ok (.iadd, 1) := by decide +kernel
theorem dX6_heardWords_12 : decode cX6_heardWords 12 = .ok (.iaload, 1) := by decide +kernel
theorem dX6_heardWords_13 : decode cX6_heardWords 13 = .ok (.if_icmp .ge 26, 3) := by decide +kernel
theorem dX6_heardWords_16 : decode cX6_heardWords 16 = .ok (.iload_n 2, 1) := by decide +kernel
theorem dX6_heardWords_17 : decode cX6_heardWords 17 = .ok (.aload_n 0, 1) := by decide +kernel
theorem dX6_heardWords_18 : decode cX6_heardWords 18 = .ok (.getfield 7, 3) := by decide +kernel
theorem dX6_heardWords_21 : decode cX6_heardWords 21 = .ok (.iload_n 1, 1) := by decide +kernel
theorem dX6_heardWords_22 : decode cX6_heardWords 22 = .ok (.bipush 29, 2) := by decide +kernel
theorem dX6_heardWords_24 : decode cX6_heardWords 24 = .ok (.iadd, 1) := by decide +kernel
theorem dX6_heardWords_25 : decode cX6_heardWords 25 = .ok (.iload_n 3, 1) := by decide +kernel
theorem dX6_heardWords_26 : decode cX6_heardWords 26 = .ok (.iadd, 1) := by decide +kernel
theorem dX6_heardWords_27 : decode cX6_heardWords 27 = .ok (.iaload, 1) := by decide +kernel
theorem dX6_heardWords_28 : decode cX6_heardWords 28 = .ok (.invokestatic 140, 3) := by decide +kernel
theorem dX6_heardWords_31 : decode cX6_heardWords 31 = .ok (.iadd, 1) := by decide +kernel
theorem dX6_heardWords_32 : decode cX6_heardWords 32 = .ok (.istore_n 2, 1) := by decide +kernel
theorem dX6_heardWords_33 : decode cX6_heardWords 33 = .ok (.iinc 3 1, 3) := by decide +kernel
theorem dX6_heardWords_36 : decode cX6_heardWords 36 = .ok (.goto (-32), 3) := by decide +kernel
theorem dX6_heardWords_39 : decode cX6_heardWords 39 = .ok (.iload_n 2, 1) := by decide +kernel
theorem dX6_heardWords_40 : decode cX6_heardWords 40 = .ok (.ireturn, 1) := by decide +kernel
set_option maxRecDepth 20000 in
theorem ggX6_minds_X6_copyOf : GoodIn wsX6_minds wsX6_copyOf := goodIn_r _ [7, 2, 8, 9, 10, 11, 12, 13, 14, 15, 16, 17, 18, 19, 20, 21, 22, 23] (by decide +kernel) (by decide +kernel)
set_option maxRecDepth 20000 in
theorem gX6_minds_X6_copyOf : GoodIn wsX6_minds (wsV RX6 113 RX6 yX6_copyOf wsX6_copyOf) := goodIn_app (goodIn_of _ (by decide +kernel)) ggX6_minds_X6_copyOf
theorem dX6_minds_0 : decode cX6_minds 0 = .ok (.aload_n 0, 1) := by decide +kernel
theorem dX6_minds_1 : decode cX6_minds 1 = .ok (.getfield 117, 3) := by decide +kernel
theorem dX6_minds_4 : decode cX6_minds 4 = .ok (.bipush 24, 2) := by decide +kernel
theorem dX6_minds_6 : decode cX6_minds 6 = .ok (.if_icmp .ne 51, 3) := by decide +kernel
theorem dX6_minds_9 : decode cX6_minds 9 = .ok (.iconst 0, 1) := by decide +kernel
theorem dX6_minds_10 : decode cX6_minds 10 = .ok (.istore_n 1, 1) := by decide +kernel
theorem dX6_minds_11 : decode cX6_minds 11 = .ok (.iload_n 1, 1) := by decide +kernel
theorem dX6_minds_12 : decode cX6_minds 12 = .ok (.sipush 460, 3) := by decide +kernel
theorem dX6_minds_15 : decode cX6_minds 15 = .ok (.if_icmp .ge 32, 3) := by decide +kernel
theorem dX6_minds_18 : decode cX6_minds 18 = .ok (.aload_n 0, 1) := by decide +kernel
theorem dX6_minds_19 : decode cX6_minds 19 = .ok (.getfield 7, 3) := by decide +kernel
theorem dX6_minds_22 : decode cX6_minds 22 = .ok (.sipush 190, 3) := by decide +kernel
theorem dX6_minds_25 : decode cX6_minds 25 = .ok (.iload_n 1, 1) := by decide +kernel
theorem dX6_minds_26 : decode cX6_minds 26 = .ok (.iadd, 1) := by decide +kernel
theorem dX6_minds_27 : decode cX6_minds 27 = .ok (.aload_n 0, 1) := by decide +kernel
theorem dX6_minds_28 : decode cX6_minds 28 = .ok (.getfield 7, 3) := by decide +kernel
theorem dX6_minds_31 : decode cX6_minds 31 = .ok (.sipush 190, 3) := by decide +kernel
theorem dX6_minds_34 : decode cX6_minds 34 = .ok (.iload_n 1, 1) := by decide +kernel
theorem dX6_minds_35 : decode cX6_minds 35 = .ok (.iadd, 1) := by decide +kernel
theorem dX6_minds_36 : decode cX6_minds 36 = .ok (.bipush 20, 2) := by decide +kernel
theorem dX6_minds_38 : decode cX6_minds 38 = .ok (.iadd, 1) := by decide +kernel
theorem dX6_minds_39 : decode cX6_minds 39 = .ok (.iaload, 1) := by decide +kernel
theorem dX6_minds_40 : decode cX6_minds 40 = .ok (.iastore, 1) := by decide +kernel
theorem dX6_minds_41 : decode cX6_minds 41 = .ok (.iinc 1 1, 3) := by decide +kernel
theorem dX6_minds_44 : decode cX6_minds 44 = .ok (.goto (-33), 3) := by decide +kernel
theorem dX6_minds_47 : decode cX6_minds 47 = .ok (.aload_n 0, 1) := by decide +kernel
theorem dX6_minds_48 : decode cX6_minds 48 = .ok (.dup, 1) := by decide +kernel
theorem dX6_minds_49 : decode cX6_minds 49 = .ok (.getfield 117, 3) := by decide +kernel
theorem dX6_minds_52 : decode cX6_minds 52 = .ok (.iconst 1, 1) := by decide +kernel
theorem dX6_minds_53 : decode cX6_minds 53 = .ok (.isub, 1) := by decide +kernel
theorem dX6_minds_54 : decode cX6_minds 54 = .ok (.putfield 117, 3) := by decide +kernel
theorem dX6_minds_57 : decode cX6_minds 57 = .ok (.aload_n 0, 1) := by decide +kernel
theorem dX6_minds_58 : decode cX6_minds 58 = .ok (.bipush 18, 2) := by decide +kernel
theorem dX6_minds_60 : decode cX6_minds 60 = .ok (.sipush 190, 3) := by decide +kernel
theorem dX6_minds_63 : decode cX6_minds 63 = .ok (.bipush 20, 2) := by decide +kernel
theorem dX6_minds_65 : decode cX6_minds 65 = .ok (.aload_n 0, 1) := by decide +kernel
theorem dX6_minds_66 : decode cX6_minds 66 = .ok (.getfield 117, 3) := by decide +kernel
theorem dX6_minds_69 : decode cX6_minds 69 = .ok (.imul, 1) := by decide +kernel
theorem dX6_minds_70 : decode cX6_minds 70 = .ok (.iadd, 1) := by decide +kernel
theorem dX6_minds_71 : decode cX6_minds 71 = .ok (.bipush 20, 2) := by decide +kernel
theorem dX6_minds_73 : decode cX6_minds 73 = .ok (.invokevirtual 113, 3) := by decide +kernel
theorem dX6_minds_76 : decode cX6_minds 76 = .ok (.aload_n 0, 1) := by decide +kernel
theorem dX6_minds_77 : decode cX6_minds 77 = .ok (.dup, 1) := by decide +kernel
theorem dX6_minds_78 : decode cX6_minds 78 = .ok (.getfield 117, 3) := by decide +kernel
theorem dX6_minds_81 : decode cX6_minds 81 = .ok (.iconst 1, 1) := by decide +kernel
theorem dX6_minds_82 : decode cX6_minds 82 = .ok (.iadd, 1) := by decide +kernel
theorem dX6_minds_83 : decode cX6_minds 83 = .ok (.putfield 117, 3) := by decide +kernel
theorem dX6_minds_86 : decode cX6_minds 86 = .ok (.return_, 1) := by decide +kernel
set_option maxRecDepth 20000 in
theorem ggX6_hours_X6_isRoad : GoodIn wsX6_hours wsX6_isRoad := goodIn_r _ [10, 4, 54, 55, 56, 57, 58, 59, 60, 61, 62, 63, 64, 65, 66, 67, 68, 69] (by decide +kernel) (by decide +kernel)
set_option maxRecDepth 20000 in
theorem gX6_hours_X6_isRoad : GoodIn wsX6_hours (wsV RX6 143 RX6 yX6_isRoad wsX6_isRoad) := goodIn_app (goodIn_of _ (by decide +kernel)) ggX6_hours_X6_isRoad
set_option maxRecDepth 20000 in
theorem ggX6_hours_X6_in : GoodIn wsX6_hours wsX6_in := goodIn_r _ [13] (by decide +kernel) (by decide +kernel)
set_option maxRecDepth 20000 in
theorem gX6_hours_X6_in : GoodIn wsX6_hours (va_wsS RX6 34 yX6_in wsX6_in) := goodIn_app (goodIn_of _ (by decide +kernel)) ggX6_hours_X6_in
set_option maxRecDepth 20000 in
theorem ggX6_hours_X6_minds : GoodIn wsX6_hours wsX6_minds := goodIn_r _ [17, 18, 4, 19, 20, 21, 9, 22, 54, 55, 56, 57, 58, 59, 60, 61, 62, 63, 64, 65, 66, 67, 68, 69] (by decide +kernel) (by decide +kernel)
set_option maxRecDepth 20000 in
theorem gX6_hours_X6_minds : GoodIn wsX6_hours (wsV RX6 149 RX6 yX6_minds wsX6_minds) := goodIn_app (goodIn_of _ (by decide +kernel)) ggX6_hours_X6_minds
set_option maxRecDepth 20000 in
theorem ggX6_hours_X6_hourBy : GoodIn wsX6_hours wsX6_hourBy := goodIn_r _ [26, 4, 27, 28, 29, 9, 30, 31, 32, 33, 34, 35, 36, 37, 38, 39, 40, 41, 42, 43, 44, 45, 54, 55, 56, 57, 58, 59, 60, 61, 62, 63, 64, 65, 66, 67, 68, 69] (by decide +kernel) (by decide +kernel)
set_option maxRecDepth 20000 in
theorem gX6_hours_X6_hourBy : GoodIn wsX6_hours (wsV RX6 152 RX6 yX6_hourBy wsX6_hourBy) := goodIn_app (goodIn_of _ (by decide +kernel)) ggX6_hours_X6_hourBy
set_option maxRecDepth 20000 in
theorem ggX6_hours_X6_wholeOnes : GoodIn wsX6_hours wsX6_wholeOnes := goodIn_r _ [49, 4, 50, 51, 52, 9, 53, 54, 55, 56, 57, 58, 59, 60, 61, 62, 63, 64, 65, 66, 67, 68, 69] (by decide +kernel) (by decide +kernel)
set_option maxRecDepth 20000 in
theorem gX6_hours_X6_wholeOnes : GoodIn wsX6_hours (wsV RX6 155 RX6 yX6_wholeOnes wsX6_wholeOnes) := goodIn_app (goodIn_of _ (by decide +kernel)) ggX6_hours_X6_wholeOnes
theorem dX6_hours_0 : decode cX6_hours 0 = .ok (.aload_n 0, 1) := by decide +kernel
theorem dX6_hours_1 : decode cX6_hours 1 = .ok (.invokevirtual 143, 3) := by decide +kernel
theorem dX6_hours_4 : decode cX6_hours 4 = .ok (.ifCond .ne 6, 3) := by decide +kernel
theorem dX6_hours_7 : decode cX6_hours 7 = .ok (.ldc 146, 2) := by decide +kernel
theorem dX6_hours_9 : decode cX6_hours 9 = .ok (.ireturn, 1) := by decide +kernel
theorem dX6_hours_10 : decode cX6_hours 10 = .ok (.iload_n 1, 1) := by decide +kernel
theorem dX6_hours_11 : decode cX6_hours 11 = .ok (.i2l, 1) := by decide +kernel
theorem dX6_hours_12 : decode cX6_hours 12 = .ok (.lconst 1, 1) := by decide +kernel
theorem dX6_hours_13 : decode cX6_hours 13 = .ok (.ldc2_w 147, 3) := by decide +kernel
theorem dX6_hours_16 : decode cX6_hours 16 = .ok (.invokestatic 34, 3) := by decide +kernel
theorem dX6_hours_19 : decode cX6_hours 19 = .ok (.ifCond .ne 6, 3) := by decide +kernel
theorem dX6_hours_22 : decode cX6_hours 22 = .ok (.ldc 51, 2) := by decide +kernel
theorem dX6_hours_24 : decode cX6_hours 24 = .ok (.ireturn, 1) := by decide +kernel
theorem dX6_hours_25 : decode cX6_hours 25 = .ok (.aload_n 0, 1) := by decide +kernel
theorem dX6_hours_26 : decode cX6_hours 26 = .ok (.getfield 7, 3) := by decide +kernel
theorem dX6_hours_29 : decode cX6_hours 29 = .ok (.bipush 18, 2) := by decide +kernel
theorem dX6_hours_31 : decode cX6_hours 31 = .ok (.iaload, 1) := by decide +kernel
theorem dX6_hours_32 : decode cX6_hours 32 = .ok (.iload_n 1, 1) := by decide +kernel
theorem dX6_hours_33 : decode cX6_hours 33 = .ok (.iadd, 1) := by decide +kernel
theorem dX6_hours_34 : decode cX6_hours 34 = .ok (.sipush 9999, 3) := by decide +kernel
theorem dX6_hours_37 : decode cX6_hours 37 = .ok (.if_icmp .le 6, 3) := by decide +kernel
theorem dX6_hours_40 : decode cX6_hours 40 = .ok (.ldc 65, 2) := by decide +kernel
theorem dX6_hours_42 : decode cX6_hours 42 = .ok (.ireturn, 1) := by decide +kernel
theorem dX6_hours_43 : decode cX6_hours 43 = .ok (.iconst 0, 1) := by decide +kernel
theorem dX6_hours_44 : decode cX6_hours 44 = .ok (.istore_n 2, 1) := by decide +kernel
theorem dX6_hours_45 : decode cX6_hours 45 = .ok (.iload_n 2, 1) := by decide +kernel
theorem dX6_hours_46 : decode cX6_hours 46 = .ok (.iload_n 1, 1) := by decide +kernel
theorem dX6_hours_47 : decode cX6_hours 47 = .ok (.if_icmp .ge 19, 3) := by decide +kernel
theorem dX6_hours_50 : decode cX6_hours 50 = .ok (.aload_n 0, 1) := by decide +kernel
theorem dX6_hours_51 : decode cX6_hours 51 = .ok (.invokevirtual 149, 3) := by decide +kernel
theorem dX6_hours_54 : decode cX6_hours 54 = .ok (.aload_n 0, 1) := by decide +kernel
theorem dX6_hours_55 : decode cX6_hours 55 = .ok (.iconst 0, 1) := by decide +kernel
theorem dX6_hours_56 : decode cX6_hours 56 = .ok (.iconst 0, 1) := by decide +kernel
theorem dX6_hours_57 : decode cX6_hours 57 = .ok (.invokevirtual 152, 3) := by decide +kernel
theorem dX6_hours_60 : decode cX6_hours 60 = .ok (.iinc 2 1, 3) := by decide +kernel
theorem dX6_hours_63 : decode cX6_hours 63 = .ok (.goto (-18), 3) := by decide +kernel
theorem dX6_hours_66 : decode cX6_hours 66 = .ok (.aload_n 0, 1) := by decide +kernel
theorem dX6_hours_67 : decode cX6_hours 67 = .ok (.iconst 0, 1) := by decide +kernel
theorem dX6_hours_68 : decode cX6_hours 68 = .ok (.invokevirtual 155, 3) := by decide +kernel
theorem dX6_hours_71 : decode cX6_hours 71 = .ok (.ireturn, 1) := by decide +kernel
set_option maxRecDepth 20000 in
theorem ggX6_put_X6_isPulpit : GoodIn wsX6_put wsX6_isPulpit := goodIn_r _ [8, 2, 9, 10, 7, 11, 25, 26, 27, 28, 29, 30, 31, 32, 33, 34, 35, 36, 37, 38, 39, 40] (by decide +kernel) (by decide +kernel)
set_option maxRecDepth 20000 in
theorem gX6_put_X6_isPulpit : GoodIn wsX6_put (wsV RX6 158 RX6 yX6_isPulpit wsX6_isPulpit) := goodIn_app (goodIn_of _ (by decide +kernel)) ggX6_put_X6_isPulpit
set_option maxRecDepth 20000 in
theorem ggX6_put_X6_isStretch : GoodIn wsX6_put wsX6_isStretch := goodIn_r _ [15, 2, 9, 10, 7, 11, 25, 26, 27, 28, 29, 30, 31, 32, 33, 34, 35, 36, 37, 38, 39, 40] (by decide +kernel) (by decide +kernel)
set_option maxRecDepth 20000 in
theorem gX6_put_X6_isStretch : GoodIn wsX6_put (wsV RX6 161 RX6 yX6_isStretch wsX6_isStretch) := goodIn_app (goodIn_of _ (by decide +kernel)) ggX6_put_X6_isStretch
set_option maxRecDepth 20000 in
theorem ggX6_put_X6_minds : GoodIn wsX6_put wsX6_minds := goodIn_r _ [19, 20, 2, 21, 22, 23, 7, 24, 25, 26, 27, 28, 29, 30, 31, 32, 33, 34, 35, 36, 37, 38, 39, 40] (by decide +kernel) (by decide +kernel)
set_option maxRecDepth 20000 in
theorem gX6_put_X6_minds : GoodIn wsX6_put (wsV RX6 149 RX6 yX6_minds wsX6_minds) := goodIn_app (goodIn_of _ (by decide +kernel)) ggX6_put_X6_minds
theorem dX6_put_0 : decode cX6_put 0 = .ok (.aload_n 0, 1) := by decide +kernel
theorem dX6_put_1 : decode cX6_put 1 = .ok (.iload_n 1, 1) := by decide +kernel
theorem dX6_put_2 : decode cX6_put 2 = .ok (.invokevirtual 158, 3) := by decide +kernel
theorem dX6_put_5 : decode cX6_put 5 = .ok (.ifCond .eq 11, 3) := by decide +kernel
theorem dX6_put_8 : decode cX6_put 8 = .ok (.aload_n 0, 1) := by decide +kernel
theorem dX6_put_9 : decode cX6_put 9 = .ok (.iload_n 2, 1) := by decide +kernel
theorem dX6_put_10 : decode cX6_put 10 = .ok (.invokevirtual 161, 3) := by decide +kernel
theorem dX6_put_13 : decode cX6_put 13 = .ok (.ifCond .ne 6, 3) := by decide +kernel
theorem dX6_put_16 : decode cX6_put 16 = .ok (.ldc 51, 2) := by decide +kernel
theorem dX6_put_18 : decode cX6_put 18 = .ok (.ireturn, 1) := by decide +kernel
theorem dX6_put_19 : decode cX6_put 19 = .ok (.aload_n 0, 1) := by decide +kernel
theorem dX6_put_20 : decode cX6_put 20 = .ok (.getfield 7, 3) := by decide +kernel
theorem dX6_put_23 : decode cX6_put 23 = .ok (.bipush 19, 2) := by decide +kernel
theorem dX6_put_25 : decode cX6_put 25 = .ok (.iload_n 1, 1) := by decide +kernel
theorem dX6_put_26 : decode cX6_put 26 = .ok (.iadd, 1) := by decide +kernel
theorem dX6_put_27 : decode cX6_put 27 = .ok (.iaload, 1) := by decide +kernel
theorem dX6_put_28 : decode cX6_put 28 = .ok (.istore_n 3, 1) := by decide +kernel
theorem dX6_put_29 : decode cX6_put 29 = .ok (.iload_n 3, 1) := by decide +kernel
theorem dX6_put_30 : decode cX6_put 30 = .ok (.iload_n 2, 1) := by decide +kernel
theorem dX6_put_31 : decode cX6_put 31 = .ok (.if_icmp .ne 6, 3) := by decide +kernel
theorem dX6_put_34 : decode cX6_put 34 = .ok (.ldc 146, 2) := by decide +kernel
theorem dX6_put_36 : decode cX6_put 36 = .ok (.ireturn, 1) := by decide +kernel
theorem dX6_put_37 : decode cX6_put 37 = .ok (.aload_n 0, 1) := by decide +kernel
theorem dX6_put_38 : decode cX6_put 38 = .ok (.invokevirtual 149, 3) := by decide +kernel
theorem dX6_put_41 : decode cX6_put 41 = .ok (.aload_n 0, 1) := by decide +kernel
theorem dX6_put_42 : decode cX6_put 42 = .ok (.getfield 7, 3) := by decide +kernel
theorem dX6_put_45 : decode cX6_put 45 = .ok (.bipush 19, 2) := by decide +kernel
theorem dX6_put_47 : decode cX6_put 47 = .ok (.iload_n 1, 1) := by decide +kernel
theorem dX6_put_48 : decode cX6_put 48 = .ok (.iadd, 1) := by decide +kernel
theorem dX6_put_49 : decode cX6_put 49 = .ok (.iload_n 2, 1) := by decide +kernel
theorem dX6_put_50 : decode cX6_put 50 = .ok (.iastore, 1) := by decide +kernel
theorem dX6_put_51 : decode cX6_put 51 = .ok (.iload_n 3, 1) := by decide +kernel
theorem dX6_put_52 : decode cX6_put 52 = .ok (.ireturn, 1) := by decide +kernel
set_option maxRecDepth 20000 in
theorem ggX6_skip_X6_isPulpit : GoodIn wsX6_skip wsX6_isPulpit := goodIn_r _ [7, 1, 8, 9, 6, 10, 20, 21, 22, 23, 24, 25, 26, 27, 28, 29, 30, 31, 32, 33, 34, 35] (by decide +kernel) (by decide +kernel)
set_option maxRecDepth 20000 in
theorem gX6_skip_X6_isPulpit : GoodIn wsX6_skip (wsV RX6 158 RX6 yX6_isPulpit wsX6_isPulpit) := goodIn_app (goodIn_of _ (by decide +kernel)) ggX6_skip_X6_isPulpit
set_option maxRecDepth 20000 in
theorem ggX6_skip_X6_in : GoodIn wsX6_skip wsX6_in := goodIn_r _ [10] (by decide +kernel) (by decide +kernel)
set_option maxRecDepth 20000 in
theorem gX6_skip_X6_in : GoodIn wsX6_skip (va_wsS RX6 34 yX6_in wsX6_in) := goodIn_app (goodIn_of _ (by decide +kernel)) ggX6_skip_X6_in
set_option maxRecDepth 20000 in
theorem ggX6_skip_X6_minds : GoodIn wsX6_skip wsX6_minds := goodIn_r _ [14, 15, 1, 16, 17, 18, 6, 19, 20, 21, 22, 23, 24, 25, 26, 27, 28, 29, 30, 31, 32, 33, 34, 35] (by decide +kernel) (by decide +kernel)
set_option maxRecDepth 20000 in
theorem gX6_skip_X6_minds : GoodIn wsX6_skip (wsV RX6 149 RX6 yX6_minds wsX6_minds) := goodIn_app (goodIn_of _ (by decide +kernel)) ggX6_skip_X6_minds
theorem dX6_skip_0 : decode cX6_skip 0 = .ok (.aload_n 0, 1) := by decide +kernel
theorem dX6_skip_1 : decode cX6_skip 1 = .ok (.iload_n 1, 1) := by decide +kernel
theorem dX6_skip_2 : decode cX6_skip 2 = .ok (.invokevirtual 158, 3) := by decide +kernel
theorem dX6_skip_5 : decode cX6_skip 5 = .ok (.ifCond .eq 21, 3) := by decide +kernel
theorem dX6_skip_8 : decode cX6_skip 8 = .ok (.iload_n 2, 1) := by decide +kernel
theorem dX6_skip_9 : decode cX6_skip 9 = .ok (.i2l, 1) := by decide +kernel
theorem dX6_skip_10 : decode cX6_skip 10 = .ok (.lconst 0, 1) := by decide +kernel
theorem dX6_skip_11 : decode cX6_skip 11 = .ok (.aload_n 0, 1) := by decide +kernel
theorem dX6_skip_12 : decode cX6_skip 12 = .ok (.getfield 7, 3) := by decide +kernel
theorem dX6_skip_15 : decode cX6_skip 15 = .ok (.iconst 2, 1) := by decide +kernel
theorem dX6_skip_16 : decode cX6_skip 16 = .ok (.iaload, 1) := by decide +kernel
theorem dX6_skip_17 : decode cX6_skip 17 = .ok (.iconst 1, 1) := by decide +kernel
theorem dX6_skip_18 : decode cX6_skip 18 = .ok (.isub, 1) := by decide +kernel
theorem dX6_skip_19 : decode cX6_skip 19 = .ok (.i2l, 1) := by decide +kernel
theorem dX6_skip_20 : decode cX6_skip 20 = .ok (.invokestatic 34, 3) := by decide +kernel
theorem dX6_skip_23 : decode cX6_skip 23 = .ok (.ifCond .ne 6, 3) := by decide +kernel
theorem dX6_skip_26 : decode cX6_skip 26 = .ok (.ldc 51, 2) := by decide +kernel
theorem dX6_skip_28 : decode cX6_skip 28 = .ok (.ireturn, 1) := by decide +kernel
theorem dX6_skip_29 : decode cX6_skip 29 = .ok (.aload_n 0, 1) := by decide +kernel
theorem dX6_skip_30 : decode cX6_skip 30 = .ok (.invokevirtual 149, 3) := by decide +kernel
theorem dX6_skip_33 : decode cX6_skip 33 = .ok (.aload_n 0, 1) := by decide +kernel
theorem dX6_skip_34 : decode cX6_skip 34 = .ok (.getfield 7, 3) := by decide +kernel
theorem dX6_skip_37 : decode cX6_skip 37 = .ok (.bipush 24, 2) := by decide +kernel
theorem dX6_skip_39 : decode cX6_skip 39 = .ok (.iload_n 1, 1) := by decide +kernel
theorem dX6_skip_40 : decode cX6_skip 40 = .ok (.iadd, 1) := by decide +kernel
theorem dX6_skip_41 : decode cX6_skip 41 = .ok (.iaload, 1) := by decide +kernel
theorem dX6_skip_42 : decode cX6_skip 42 = .ok (.istore_n 3, 1) := by decide +kernel
theorem dX6_skip_43 : decode cX6_skip 43 = .ok (.aload_n 0, 1) := by decide +kernel
theorem dX6_skip_44 : decode cX6_skip 44 = .ok (.getfield 7, 3) := by decide +kernel
theorem dX6_skip_47 : decode cX6_skip 47 = .ok (.bipush 24, 2) := by decide +kernel
theorem dX6_skip_49 : decode cX6_skip 49 = .ok (.iload_n 1, 1) := by decide +kernel
theorem dX6_skip_50 : decode cX6_skip 50 = .ok (.iadd, 1) := by decide +kernel
theorem dX6_skip_51 : decode cX6_skip 51 = .ok (.iload_n 2, 1) := by decide +kernel
theorem dX6_skip_52 : decode cX6_skip 52 = .ok (.iastore, 1) := by decide +kernel
theorem dX6_skip_53 : decode cX6_skip 53 = .ok (.iload_n 3, 1) := by decide +kernel
theorem dX6_skip_54 : decode cX6_skip 54 = .ok (.ireturn, 1) := by decide +kernel
set_option maxRecDepth 20000 in
theorem ggX6_forget_X6_isStretch : GoodIn wsX6_forget wsX6_isStretch := goodIn_r _ [8, 2, 9, 10, 7, 11, 24, 25, 26, 27, 28, 29, 30, 31, 32, 33, 34, 35, 36, 37, 38, 39] (by decide +kernel) (by decide +kernel)
set_option maxRecDepth 20000 in
theorem gX6_forget_X6_isStretch : GoodIn wsX6_forget (wsV RX6 161 RX6 yX6_isStretch wsX6_isStretch) := goodIn_app (goodIn_of _ (by decide +kernel)) ggX6_forget_X6_isStretch
set_option maxRecDepth 20000 in
theorem ggX6_forget_X6_minds : GoodIn wsX6_forget wsX6_minds := goodIn_r _ [15, 16, 2, 17, 18, 19, 7, 20, 24, 25, 26, 27, 28, 29, 30, 31, 32, 33, 34, 35, 36, 37, 38, 39] (by decide +kernel) (by decide +kernel)
set_option maxRecDepth 20000 in
theorem gX6_forget_X6_minds : GoodIn wsX6_forget (wsV RX6 149 RX6 yX6_minds wsX6_minds) := goodIn_app (goodIn_of _ (by decide +kernel)) ggX6_forget_X6_minds
set_option maxRecDepth 20000 in
theorem ggX6_forget_X6_ones : GoodIn wsX6_forget wsX6_ones := goodIn_r _ [23] (by decide +kernel) (by decide +kernel)
set_option maxRecDepth 20000 in
theorem gX6_forget_X6_ones : GoodIn wsX6_forget (va_wsS RX6 140 yX6_ones wsX6_ones) := goodIn_app (goodIn_of _ (by decide +kernel)) ggX6_forget_X6_ones
theorem dX6_forget_0 : decode cX6_forget 0 = .ok (.aload_n 0, 1) := by decide +kernel
theorem dX6_forget_1 : decode cX6_forget 1 = .ok (.iload_n 1, 1) := by decide +kernel
theorem dX6_forget_2 : decode cX6_forget 2 = .ok (.invokevirtual 161, 3) := by decide +kernel
theorem dX6_forget_5 : decode cX6_forget 5 = .ok (.ifCond .ne 6, 3) := by decide +kernel
theorem dX6_forget_8 : decode cX6_forget 8 = .ok (.ldc 51, 2) := by decide +kernel
theorem dX6_forget_10 : decode cX6_forget 10 = .ok (.ireturn, 1) := by decide +kernel
theorem dX6_forget_11 : decode cX6_forget 11 = .ok (.aload_n 0, 1) := by decide +kernel
theorem dX6_forget_12 : decode cX6_forget 12 = .ok (.getfield 7, 3) := by decide +kernel
theorem dX6_forget_15 : decode cX6_forget 15 = .ok (.bipush 29, 2) := by decide +kernel
theorem dX6_forget_17 : decode cX6_forget 17 = .ok (.iload_n 1, 1) := by decide +kernel
theorem dX6_forget_18 : decode cX6_forget 18 = .ok (.iadd, 1) := by decide +kernel
theorem dX6_forget_19 : decode cX6_forget 19 = .ok (.iaload, 1) := by decide +kernel
theorem dX6_forget_20 : decode cX6_forget 20 = .ok (.ifCond .ne 6, 3) := by decide +kernel
theorem dX6_forget_23 : decode cX6_forget 23 = .ok (.ldc 146, 2) := by decide +kernel
theorem dX6_forget_25 : decode cX6_forget 25 = .ok (.ireturn, 1) := by decide +kernel
theorem dX6_forget_26 : decode cX6_forget 26 = .ok (.aload_n 0, 1) := by decide +kernel
theorem dX6_forget_27 : decode cX6_forget 27 = .ok (.invokevirtual 149, 3) := by decide +kernel
theorem dX6_forget_30 : decode cX6_forget 30 = .ok (.aload_n 0, 1) := by decide +kernel
theorem dX6_forget_31 : decode cX6_forget 31 = .ok (.getfield 7, 3) := by decide +kernel
theorem dX6_forget_34 : decode cX6_forget 34 = .ok (.bipush 29, 2) := by decide +kernel
theorem dX6_forget_36 : decode cX6_forget 36 = .ok (.iload_n 1, 1) := by decide +kernel
theorem dX6_forget_37 : decode cX6_forget 37 = .ok (.iadd, 1) := by decide +kernel
theorem dX6_forget_38 : decode cX6_forget 38 = .ok (.iaload, 1) := by decide +kernel
theorem dX6_forget_39 : decode cX6_forget 39 = .ok (.invokestatic 140, 3) := by decide +kernel
theorem dX6_forget_42 : decode cX6_forget 42 = .ok (.istore_n 2, 1) := by decide +kernel
theorem dX6_forget_43 : decode cX6_forget 43 = .ok (.aload_n 0, 1) := by decide +kernel
theorem dX6_forget_44 : decode cX6_forget 44 = .ok (.getfield 7, 3) := by decide +kernel
theorem dX6_forget_47 : decode cX6_forget 47 = .ok (.bipush 29, 2) := by decide +kernel
theorem dX6_forget_49 : decode cX6_forget 49 = .ok (.iload_n 1, 1) := by decide +kernel
theorem dX6_forget_50 : decode cX6_forget 50 = .ok (.iadd, 1) := by decide +kernel
theorem dX6_forget_51 : decode cX6_forget 51 = .ok (.iconst 0, 1) := by decide +kernel
theorem dX6_forget_52 : decode cX6_forget 52 = .ok (.iastore, 1) := by decide +kernel
theorem dX6_forget_53 : decode cX6_forget 53 = .ok (.iload_n 2, 1) := by decide +kernel
theorem dX6_forget_54 : decode cX6_forget 54 = .ok (.ireturn, 1) := by decide +kernel
set_option maxRecDepth 20000 in
theorem ggX6_undo_X6_copyOf : GoodIn wsX6_undo wsX6_copyOf := goodIn_r _ [7, 8, 9, 10, 11, 12, 13, 14, 15, 16, 17, 18, 19, 20, 21, 22, 23, 24] (by decide +kernel) (by decide +kernel)
set_option maxRecDepth 20000 in
theorem gX6_undo_X6_copyOf : GoodIn wsX6_undo (wsV RX6 113 RX6 yX6_copyOf wsX6_copyOf) := goodIn_app (goodIn_of _ (by decide +kernel)) ggX6_undo_X6_copyOf
theorem dX6_undo_0 : decode cX6_undo 0 = .ok (.aload_n 0, 1) := by decide +kernel
theorem dX6_undo_1 : decode cX6_undo 1 = .ok (.getfield 117, 3) := by decide +kernel
theorem dX6_undo_4 : decode cX6_undo 4 = .ok (.ifCond .ne 6, 3) := by decide +kernel
theorem dX6_undo_7 : decode cX6_undo 7 = .ok (.ldc 146, 2) := by decide +kernel
theorem dX6_undo_9 : decode cX6_undo 9 = .ok (.ireturn, 1) := by decide +kernel
theorem dX6_undo_10 : decode cX6_undo 10 = .ok (.aload_n 0, 1) := by decide +kernel
theorem dX6_undo_11 : decode cX6_undo 11 = .ok (.dup, 1) := by decide +kernel
theorem dX6_undo_12 : decode cX6_undo 12 = .ok (.getfield 117, 3) := by decide +kernel
theorem dX6_undo_15 : decode cX6_undo 15 = .ok (.iconst 1, 1) := by decide +kernel
theorem dX6_undo_16 : decode cX6_undo 16 = .ok (.isub, 1) := by decide +kernel
theorem dX6_undo_17 : decode cX6_undo 17 = .ok (.putfield 117, 3) := by decide +kernel
theorem dX6_undo_20 : decode cX6_undo 20 = .ok (.aload_n 0, 1) := by decide +kernel
theorem dX6_undo_21 : decode cX6_undo 21 = .ok (.sipush 190, 3) := by decide +kernel
theorem dX6_undo_24 : decode cX6_undo 24 = .ok (.bipush 20, 2) := by decide +kernel
theorem dX6_undo_26 : decode cX6_undo 26 = .ok (.aload_n 0, 1) := by decide +kernel
theorem dX6_undo_27 : decode cX6_undo 27 = .ok (.getfield 117, 3) := by decide +kernel
theorem dX6_undo_30 : decode cX6_undo 30 = .ok (.imul, 1) := by decide +kernel
theorem dX6_undo_31 : decode cX6_undo 31 = .ok (.iadd, 1) := by decide +kernel
theorem dX6_undo_32 : decode cX6_undo 32 = .ok (.bipush 18, 2) := by decide +kernel
theorem dX6_undo_34 : decode cX6_undo 34 = .ok (.bipush 20, 2) := by decide +kernel
theorem dX6_undo_36 : decode cX6_undo 36 = .ok (.invokevirtual 113, 3) := by decide +kernel
theorem dX6_undo_39 : decode cX6_undo 39 = .ok (.aload_n 0, 1) := by decide +kernel
theorem dX6_undo_40 : decode cX6_undo 40 = .ok (.getfield 117, 3) := by decide +kernel
theorem dX6_undo_43 : decode cX6_undo 43 = .ok (.ireturn, 1) := by decide +kernel
set_option maxRecDepth 20000 in
theorem ggX6_pulpit_X6_isPulpit : GoodIn wsX6_pulpit wsX6_isPulpit := goodIn_r _ [7, 2, 8, 9, 6, 10, 23, 24, 25, 26, 27, 28, 29, 30, 31, 32, 33, 34, 35, 36, 37, 38] (by decide +kernel) (by decide +kernel)
set_option maxRecDepth 20000 in
theorem gX6_pulpit_X6_isPulpit : GoodIn wsX6_pulpit (wsV RX6 158 RX6 yX6_isPulpit wsX6_isPulpit) := goodIn_app (goodIn_of _ (by decide +kernel)) ggX6_pulpit_X6_isPulpit
set_option maxRecDepth 20000 in
theorem ggX6_pulpit_X6_councilsIn : GoodIn wsX6_pulpit wsX6_councilsIn := goodIn_r _ [14, 2, 23, 24, 25, 26, 27, 28, 29, 30, 31, 32, 33, 34, 35, 36, 37, 38] (by decide +kernel) (by decide +kernel)
set_option maxRecDepth 20000 in
theorem gX6_pulpit_X6_councilsIn : GoodIn wsX6_pulpit (wsV RX6 130 RX6 yX6_councilsIn wsX6_councilsIn) := goodIn_app (goodIn_of _ (by decide +kernel)) ggX6_pulpit_X6_councilsIn
set_option maxRecDepth 20000 in
theorem ggX6_pulpit_X6_saysIn : GoodIn wsX6_pulpit wsX6_saysIn := goodIn_r _ [18, 2, 19, 20, 21, 6, 22, 23, 24, 25, 26, 27, 28, 29, 30, 31, 32, 33, 34, 35, 36, 37, 38] (by decide +kernel) (by decide +kernel)
set_option maxRecDepth 20000 in
theorem gX6_pulpit_X6_saysIn : GoodIn wsX6_pulpit (wsV RX6 124 RX6 yX6_saysIn wsX6_saysIn) := goodIn_app (goodIn_of _ (by decide +kernel)) ggX6_pulpit_X6_saysIn
theorem dX6_pulpit_0 : decode cX6_pulpit 0 = .ok (.aload_n 0, 1) := by decide +kernel
theorem dX6_pulpit_1 : decode cX6_pulpit 1 = .ok (.iload_n 1, 1) := by decide +kernel
theorem dX6_pulpit_2 : decode cX6_pulpit 2 = .ok (.invokevirtual 158, 3) := by decide +kernel
theorem dX6_pulpit_5 : decode cX6_pulpit 5 = .ok (.ifCond .ne 6, 3) := by decide +kernel
theorem dX6_pulpit_8 : decode cX6_pulpit 8 = .ok (.ldc 51, 2) := by decide +kernel
theorem dX6_pulpit_10 : decode cX6_pulpit 10 = .ok (.ireturn, 1) := by decide +kernel
theorem dX6_pulpit_11 : decode cX6_pulpit 11 = .ok (.iload_n 2, 1) := by decide +kernel
theorem dX6_pulpit_12 : decode cX6_pulpit 12 = .ok (.tableswitch 69 0 3 #[32, 42, 52, 62], 32) := by decide +kernel
theorem dX6_pulpit_44 : decode cX6_pulpit 44 = .ok (.aload_n 0, 1) := by decide +kernel
theorem dX6_pulpit_45 : decode cX6_pulpit 45 = .ok (.getfield 7, 3) := by decide +kernel
theorem dX6_pulpit_48 : decode cX6_pulpit 48 = .ok (.bipush 19, 2) := by decide +kernel
theorem dX6_pulpit_50 : decode cX6_pulpit 50 = .ok (.iload_n 1, 1) := by decide +kernel
theorem dX6_pulpit_51 : decode cX6_pulpit 51 = .ok (.iadd, 1) := by decide +kernel
theorem dX6_pulpit_52 : decode cX6_pulpit 52 = .ok (.iaload, 1) := by decide +kernel
theorem dX6_pulpit_53 : decode cX6_pulpit 53 = .ok (.ireturn, 1) := by decide +kernel
theorem dX6_pulpit_54 : decode cX6_pulpit 54 = .ok (.aload_n 0, 1) := by decide +kernel
theorem dX6_pulpit_55 : decode cX6_pulpit 55 = .ok (.getfield 7, 3) := by decide +kernel
theorem dX6_pulpit_58 : decode cX6_pulpit 58 = .ok (.bipush 24, 2) := by decide +kernel
theorem dX6_pulpit_60 : decode cX6_pulpit 60 = .ok (.iload_n 1, 1) := by decide +kernel
theorem dX6_pulpit_61 : decode cX6_pulpit 61 = .ok (.iadd, 1) := by decide +kernel
theorem dX6_pulpit_62 : decode cX6_pulpit 62 = .ok (.iaload, 1) := by decide +kernel
theorem dX6_pulpit_63 : decode cX6_pulpit 63 = .ok (.ireturn, 1) := by decide +kernel
theorem dX6_pulpit_64 : decode cX6_pulpit 64 = .ok (.aload_n 0, 1) := by decide +kernel
theorem dX6_pulpit_65 : decode cX6_pulpit 65 = .ok (.iconst 0, 1) := by decide +kernel
theorem dX6_pulpit_66 : decode cX6_pulpit 66 = .ok (.invokevirtual 130, 3) := by decide +kernel
theorem dX6_pulpit_69 : decode cX6_pulpit 69 = .ok (.iload_n 1, 1) := by decide +kernel
theorem dX6_pulpit_70 : decode cX6_pulpit 70 = .ok (.ishr, 1) := by decide +kernel
theorem dX6_pulpit_71 : decode cX6_pulpit 71 = .ok (.iconst 1, 1) := by decide +kernel
theorem dX6_pulpit_72 : decode cX6_pulpit 72 = .ok (.iand, 1) := by decide +kernel
theorem dX6_pulpit_73 : decode cX6_pulpit 73 = .ok (.ireturn, 1) := by decide +kernel
theorem dX6_pulpit_74 : decode cX6_pulpit 74 = .ok (.aload_n 0, 1) := by decide +kernel
theorem dX6_pulpit_75 : decode cX6_pulpit 75 = .ok (.iconst 0, 1) := by decide +kernel
theorem dX6_pulpit_76 : decode cX6_pulpit 76 = .ok (.iload_n 1, 1) := by decide +kernel
theorem dX6_pulpit_77 : decode cX6_pulpit 77 = .ok (.invokevirtual 124, 3) := by decide +kernel
theorem dX6_pulpit_80 : decode cX6_pulpit 80 = .ok (.ireturn, 1) := by decide +kernel
theorem dX6_pulpit_81 : decode cX6_pulpit 81 = .ok (.ldc 51, 2) := by decide +kernel
theorem dX6_pulpit_83 : decode cX6_pulpit 83 = .ok (.ireturn, 1) := by decide +kernel
theorem dX6_pulpitsAt_0 : decode cX6_pulpitsAt 0 = .ok (.iconst 0, 1) := by decide +kernel
theorem dX6_pulpitsAt_1 : decode cX6_pulpitsAt 1 = .ok (.istore_n 2, 1) := by decide +kernel
theorem dX6_pulpitsAt_2 : decode cX6_pulpitsAt 2 = .ok (.iconst 0, 1) := by decide +kernel
theorem dX6_pulpitsAt_3 : decode cX6_pulpitsAt 3 = .ok (.istore_n 3, 1) := by decide +kernel
theorem dX6_pulpitsAt_4 : decode cX6_pulpitsAt 4 = .ok (.iload_n 3, 1) := by decide +kernel
theorem dX6_pulpitsAt_5 : decode cX6_pulpitsAt 5 = .ok (.aload_n 0, 1) := by decide +kernel
theorem dX6_pulpitsAt_6 : decode cX6_pulpitsAt 6 = .ok (.getfield 7, 3) := by decide +kernel
theorem dX6_pulpitsAt_9 : decode cX6_pulpitsAt 9 = .ok (.iconst 1, 1) := by decide +kernel
theorem dX6_pulpitsAt_10 : decode cX6_pulpitsAt 10 = .ok (.iaload, 1) := by decide +kernel
theorem dX6_pulpitsAt_11 : decode cX6_pulpitsAt 11 = .ok (.if_icmp .ge 32, 3) := by decide +kernel
theorem dX6_pulpitsAt_14 : decode cX6_pulpitsAt 14 = .ok (.iload_n 2, 1) := by decide +kernel
theorem dX6_pulpitsAt_15 : decode cX6_pulpitsAt 15 = .ok (.aload_n 0, 1) := by decide +kernel
theorem dX6_pulpitsAt_16 : decode cX6_pulpitsAt 16 = .ok (.getfield 7, 3) := by decide +kernel
theorem dX6_pulpitsAt_19 : decode cX6_pulpitsAt 19 = .ok (.bipush 19, 2) := by decide +kernel
theorem dX6_pulpitsAt_21 : decode cX6_pulpitsAt 21 = .ok (.iload_n 3, 1) := by decide +kernel
theorem dX6_pulpitsAt_22 : decode cX6_pulpitsAt 22 = .ok (.iadd, 1) := by decide +kernel
theorem dX6_pulpitsAt_23 : decode cX6_pulpitsAt 23 = .ok (.iaload, 1) := by decide +kernel
theorem dX6_pulpitsAt_24 : decode cX6_pulpitsAt 24 = .ok (.iload_n 1, 1) := by decide +kernel
theorem dX6_pulpitsAt_25 : decode cX6_pulpitsAt 25 = .ok (.if_icmp .ne 9, 3) := by decide +kernel
theorem dX6_pulpitsAt_28 : decode cX6_pulpitsAt 28 = .ok (.iconst 1, 1) := by decide +kernel
theorem dX6_pulpitsAt_29 : decode cX6_pulpitsAt 29 = .ok (.iload_n 3, 1) := by decide +kernel
theorem dX6_pulpitsAt_30 : decode cX6_pulpitsAt 30 = .ok (.ishl, 1) := by decide +kernel
theorem dX6_pulpitsAt_31 : decode cX6_pulpitsAt 31 = .ok (.goto 4, 3) := by decide +kernel
theorem dX6_pulpitsAt_34 : decode cX6_pulpitsAt 34 = .ok (.iconst 0, 1) := by decide +kernel
theorem dX6_pulpitsAt_35 : decode cX6_pulpitsAt 35 = .ok (.ior, 1) := by decide +kernel
theorem dX6_pulpitsAt_36 : decode cX6_pulpitsAt 36 = .ok (.istore_n 2, 1) := by decide +kernel
theorem dX6_pulpitsAt_37 : decode cX6_pulpitsAt 37 = .ok (.iinc 3 1, 3) := by decide +kernel
theorem dX6_pulpitsAt_40 : decode cX6_pulpitsAt 40 = .ok (.goto (-36), 3) := by decide +kernel
theorem dX6_pulpitsAt_43 : decode cX6_pulpitsAt 43 = .ok (.iload_n 2, 1) := by decide +kernel
theorem dX6_pulpitsAt_44 : decode cX6_pulpitsAt 44 = .ok (.ireturn, 1) := by decide +kernel
set_option maxRecDepth 20000 in
theorem ggX6_stretch_X6_isStretch : GoodIn wsX6_stretch wsX6_isStretch := goodIn_r _ [7, 2, 8, 9, 6, 10, 15, 16, 17, 18, 19, 20, 21, 22, 23, 24, 25, 26, 27, 28, 29, 30] (by decide +kernel) (by decide +kernel)
set_option maxRecDepth 20000 in
theorem gX6_stretch_X6_isStretch : GoodIn wsX6_stretch (wsV RX6 161 RX6 yX6_isStretch wsX6_isStretch) := goodIn_app (goodIn_of _ (by decide +kernel)) ggX6_stretch_X6_isStretch
set_option maxRecDepth 20000 in
theorem ggX6_stretch_X6_pulpitsAt : GoodIn wsX6_stretch wsX6_pulpitsAt := goodIn_r _ [14, 2, 15, 16, 17, 18, 19, 20, 21, 22, 23, 24, 25, 26, 27, 28, 29, 30] (by decide +kernel) (by decide +kernel)
set_option maxRecDepth 20000 in
theorem gX6_stretch_X6_pulpitsAt : GoodIn wsX6_stretch (wsV RX6 164 RX6 yX6_pulpitsAt wsX6_pulpitsAt) := goodIn_app (goodIn_of _ (by decide +kernel)) ggX6_stretch_X6_pulpitsAt
theorem dX6_stretch_0 : decode cX6_stretch 0 = .ok (.aload_n 0, 1) := by decide +kernel
theorem dX6_stretch_1 : decode cX6_stretch 1 = .ok (.iload_n 1, 1) := by decide +kernel
theorem dX6_stretch_2 : decode cX6_stretch 2 = .ok (.invokevirtual 161, 3) := by decide +kernel
theorem dX6_stretch_5 : decode cX6_stretch 5 = .ok (.ifCond .ne 6, 3) := by decide +kernel
theorem dX6_stretch_8 : decode cX6_stretch 8 = .ok (.ldc 51, 2) := by decide +kernel
theorem dX6_stretch_10 : decode cX6_stretch 10 = .ok (.ireturn, 1) := by decide +kernel
theorem dX6_stretch_11 : decode cX6_stretch 11 = .ok (.iload_n 2, 1) := by decide +kernel
theorem dX6_stretch_12 : decode cX6_stretch 12 = .ok (.ifCond .ne 14, 3) := by decide +kernel
theorem dX6_stretch_15 : decode cX6_stretch 15 = .ok (.aload_n 0, 1) := by decide +kernel
theorem dX6_stretch_16 : decode cX6_stretch 16 = .ok (.getfield 7, 3) := by decide +kernel
theorem dX6_stretch_19 : decode cX6_stretch 19 = .ok (.iconst 4, 1) := by decide +kernel
theorem dX6_stretch_20 : decode cX6_stretch 20 = .ok (.iload_n 1, 1) := by decide +kernel
theorem dX6_stretch_21 : decode cX6_stretch 21 = .ok (.iadd, 1) := by decide +kernel
theorem dX6_stretch_22 : decode cX6_stretch 22 = .ok (.iaload, 1) := by decide +kernel
theorem dX6_stretch_23 : decode cX6_stretch 23 = .ok (.goto 35, 3) := by decide +kernel
theorem dX6_stretch_26 : decode cX6_stretch 26 = .ok (.iload_n 2, 1) := by decide +kernel
theorem dX6_stretch_27 : decode cX6_stretch 27 = .ok (.iconst 1, 1) := by decide +kernel
theorem dX6_stretch_28 : decode cX6_stretch 28 = .ok (.if_icmp .ne 15, 3) := by decide +kernel
theorem dX6_stretch_31 : decode cX6_stretch 31 = .ok (.aload_n 0, 1) := by decide +kernel
theorem dX6_stretch_32 : decode cX6_stretch 32 = .ok (.getfield 7, 3) := by decide +kernel
theorem dX6_stretch_35 : decode cX6_stretch 35 = .ok (.bipush 29, 2) := by decide +kernel
theorem dX6_stretch_37 : decode cX6_stretch 37 = .ok (.iload_n 1, 1) := by decide +kernel
theorem dX6_stretch_38 : decode cX6_stretch 38 = .ok (.iadd, 1) := by decide +kernel
theorem dX6_stretch_39 : decode cX6_stretch 39 = .ok (.iaload, 1) := by decide +kernel
theorem dX6_stretch_40 : decode cX6_stretch 40 = .ok (.goto 18, 3) := by decide +kernel
theorem dX6_stretch_43 : decode cX6_stretch 43 = .ok (.iload_n 2, 1) := by decide +kernel
theorem dX6_stretch_44 : decode cX6_stretch 44 = .ok (.iconst 2, 1) := by decide +kernel
theorem dX6_stretch_45 : decode cX6_stretch 45 = .ok (.if_icmp .ne 11, 3) := by decide +kernel
theorem dX6_stretch_48 : decode cX6_stretch 48 = .ok (.aload_n 0, 1) := by decide +kernel
theorem dX6_stretch_49 : decode cX6_stretch 49 = .ok (.iload_n 1, 1) := by decide +kernel
theorem dX6_stretch_50 : decode cX6_stretch 50 = .ok (.invokevirtual 164, 3) := by decide +kernel
theorem dX6_stretch_53 : decode cX6_stretch 53 = .ok (.goto 5, 3) := by decide +kernel
theorem dX6_stretch_56 : decode cX6_stretch 56 = .ok (.ldc 51, 2) := by decide +kernel
theorem dX6_stretch_58 : decode cX6_stretch 58 = .ok (.ireturn, 1) := by decide +kernel
set_option maxRecDepth 20000 in
theorem ggX6_tries_X6_copyOf : GoodIn wsX6_tries wsX6_copyOf := goodIn_r _ [5, 6, 7, 8, 9, 10, 11, 12, 13, 14, 15, 16, 17, 18, 19, 20, 21, 22] (by decide +kernel) (by decide +kernel)
set_option maxRecDepth 20000 in
theorem gX6_tries_X6_copyOf : GoodIn wsX6_tries (wsV RX6 113 RX6 yX6_copyOf wsX6_copyOf) := goodIn_app (goodIn_of _ (by decide +kernel)) ggX6_tries_X6_copyOf
theorem dX6_tries_0 : decode cX6_tries 0 = .ok (.aload_n 0, 1) := by decide +kernel
theorem dX6_tries_1 : decode cX6_tries 1 = .ok (.iconst 0, 1) := by decide +kernel
theorem dX6_tries_2 : decode cX6_tries 2 = .ok (.bipush 38, 2) := by decide +kernel
theorem dX6_tries_4 : decode cX6_tries 4 = .ok (.bipush 38, 2) := by decide +kernel
theorem dX6_tries_6 : decode cX6_tries 6 = .ok (.invokevirtual 113, 3) := by decide +kernel
theorem dX6_tries_9 : decode cX6_tries 9 = .ok (.return_, 1) := by decide +kernel
set_option maxRecDepth 20000 in
theorem ggX6_goesOn_X6_hourBy : GoodIn wsX6_goesOn wsX6_hourBy := goodIn_r _ [5, 6, 7, 8, 9, 4, 10, 11, 12, 13, 14, 15, 16, 17, 18, 19, 20, 21, 22, 23, 24, 25, 26, 27, 28, 29, 30, 31, 32, 33, 34, 35, 36, 37, 38, 39, 40, 41] (by decide +kernel) (by decide +kernel)
set_option maxRecDepth 20000 in
theorem gX6_goesOn_X6_hourBy : GoodIn wsX6_goesOn (wsV RX6 152 RX6 yX6_hourBy wsX6_hourBy) := goodIn_app (goodIn_of _ (by decide +kernel)) ggX6_goesOn_X6_hourBy
theorem dX6_goesOn_0 : decode cX6_goesOn 0 = .ok (.iconst 0, 1) := by decide +kernel
theorem dX6_goesOn_1 : decode cX6_goesOn 1 = .ok (.istore_n 2, 1) := by decide +kernel
theorem dX6_goesOn_2 : decode cX6_goesOn 2 = .ok (.iload_n 2, 1) := by decide +kernel
theorem dX6_goesOn_3 : decode cX6_goesOn 3 = .ok (.iload_n 1, 1) := by decide +kernel
theorem dX6_goesOn_4 : decode cX6_goesOn 4 = .ok (.if_icmp .ge 16, 3) := by decide +kernel
theorem dX6_goesOn_7 : decode cX6_goesOn 7 = .ok (.aload_n 0, 1) := by decide +kernel
theorem dX6_goesOn_8 : decode cX6_goesOn 8 = .ok (.bipush 38, 2) := by decide +kernel
theorem dX6_goesOn_10 : decode cX6_goesOn 10 = .ok (.iconst 0, 1) := by decide +kernel
theorem dX6_goesOn_11 : decode cX6_goesOn 11 = .ok (.invokevirtual 152, 3) := by decide +kernel
theorem dX6_goesOn_14 : decode cX6_goesOn 14 = .ok (.iinc 2 1, 3) := by decide +kernel
theorem dX6_goesOn_17 : decode cX6_goesOn 17 = .ok (.goto (-15), 3) := by decide +kernel
theorem dX6_goesOn_20 : decode cX6_goesOn 20 = .ok (.return_, 1) := by decide +kernel
set_option maxRecDepth 20000 in
theorem ggX6_ahead_X6_isPulpit : GoodIn wsX6_ahead wsX6_isPulpit := goodIn_r _ [8, 3, 9, 10, 7, 11, 47, 48, 49, 50, 51, 52, 53, 54, 55, 56, 57, 58, 59, 60, 61, 62] (by decide +kernel) (by decide +kernel)
set_option maxRecDepth 20000 in
theorem gX6_ahead_X6_isPulpit : GoodIn wsX6_ahead (wsV RX6 158 RX6 yX6_isPulpit wsX6_isPulpit) := goodIn_app (goodIn_of _ (by decide +kernel)) ggX6_ahead_X6_isPulpit
set_option maxRecDepth 20000 in
theorem ggX6_ahead_X6_in : GoodIn wsX6_ahead wsX6_in := goodIn_r _ [11] (by decide +kernel) (by decide +kernel)
set_option maxRecDepth 20000 in
theorem gX6_ahead_X6_in : GoodIn wsX6_ahead (va_wsS RX6 34 yX6_in wsX6_in) := goodIn_app (goodIn_of _ (by decide +kernel)) ggX6_ahead_X6_in
set_option maxRecDepth 20000 in
theorem ggX6_ahead_X6_tries : GoodIn wsX6_ahead wsX6_tries := goodIn_r _ [15, 16, 17, 18, 7, 19, 3, 47, 48, 49, 50, 51, 52, 53, 54, 55, 56, 57, 58, 59, 60, 61, 62] (by decide +kernel) (by decide +kernel)
set_option maxRecDepth 20000 in
theorem gX6_ahead_X6_tries : GoodIn wsX6_ahead (wsV RX6 169 RX6 yX6_tries wsX6_tries) := goodIn_app (goodIn_of _ (by decide +kernel)) ggX6_ahead_X6_tries
set_option maxRecDepth 20000 in
theorem ggX6_ahead_X6_goesOn : GoodIn wsX6_ahead wsX6_goesOn := goodIn_r _ [23, 24, 25, 26, 7, 27, 3, 28, 29, 30, 31, 32, 33, 34, 35, 36, 37, 38, 39, 40, 41, 42, 43, 44, 45, 46, 47, 48, 49, 50, 51, 52, 53, 54, 55, 56, 57, 58, 59, 60, 61, 62] (by decide +kernel) (by decide +kernel)
set_option maxRecDepth 20000 in
theorem gX6_ahead_X6_goesOn : GoodIn wsX6_ahead (wsV RX6 172 RX6 yX6_goesOn wsX6_goesOn) := goodIn_app (goodIn_of _ (by decide +kernel)) ggX6_ahead_X6_goesOn
theorem dX6_ahead_0 : decode cX6_ahead 0 = .ok (.aload_n 0, 1) := by decide +kernel
theorem dX6_ahead_1 : decode cX6_ahead 1 = .ok (.iload_n 1, 1) := by decide +kernel
theorem dX6_ahead_2 : decode cX6_ahead 2 = .ok (.invokevirtual 158, 3) := by decide +kernel
theorem dX6_ahead_5 : decode cX6_ahead 5 = .ok (.ifCond .eq 25, 3) := by decide +kernel
theorem dX6_ahead_8 : decode cX6_ahead 8 = .ok (.iload_n 2, 1) := by decide +kernel
theorem dX6_ahead_9 : decode cX6_ahead 9 = .ok (.i2l, 1) := by decide +kernel
theorem dX6_ahead_10 : decode cX6_ahead 10 = .ok (.lconst 0, 1) := by decide +kernel
theorem dX6_ahead_11 : decode cX6_ahead 11 = .ok (.ldc2_w 167, 3) := by decide +kernel
theorem dX6_ahead_14 : decode cX6_ahead 14 = .ok (.invokestatic 34, 3) := by decide +kernel
theorem dX6_ahead_17 : decode cX6_ahead 17 = .ok (.ifCond .eq 13, 3) := by decide +kernel
theorem dX6_ahead_20 : decode cX6_ahead 20 = .ok (.iload_n 3, 1) := by decide +kernel
theorem dX6_ahead_21 : decode cX6_ahead 21 = .ok (.i2l, 1) := by decide +kernel
theorem dX6_ahead_22 : decode cX6_ahead 22 = .ok (.lconst 0, 1) := by decide +kernel
theorem dX6_ahead_23 : decode cX6_ahead 23 = .ok (.lconst 1, 1) := by decide +kernel
theorem dX6_ahead_24 : decode cX6_ahead 24 = .ok (.invokestatic 34, 3) := by decide +kernel
theorem dX6_ahead_27 : decode cX6_ahead 27 = .ok (.ifCond .ne 6, 3) := by decide +kernel
theorem dX6_ahead_30 : decode cX6_ahead 30 = .ok (.ldc 51, 2) := by decide +kernel
theorem dX6_ahead_32 : decode cX6_ahead 32 = .ok (.ireturn, 1) := by decide +kernel
theorem dX6_ahead_33 : decode cX6_ahead 33 = .ok (.aload_n 0, 1) := by decide +kernel
theorem dX6_ahead_34 : decode cX6_ahead 34 = .ok (.invokevirtual 169, 3) := by decide +kernel
theorem dX6_ahead_37 : decode cX6_ahead 37 = .ok (.aload_n 0, 1) := by decide +kernel
theorem dX6_ahead_38 : decode cX6_ahead 38 = .ok (.iload_n 2, 1) := by decide +kernel
theorem dX6_ahead_39 : decode cX6_ahead 39 = .ok (.invokevirtual 172, 3) := by decide +kernel
theorem dX6_ahead_42 : decode cX6_ahead 42 = .ok (.iload_n 3, 1) := by decide +kernel
theorem dX6_ahead_43 : decode cX6_ahead 43 = .ok (.ifCond .ne 15, 3) := by decide +kernel
theorem dX6_ahead_46 : decode cX6_ahead 46 = .ok (.aload_n 0, 1) := by decide +kernel
theorem dX6_ahead_47 : decode cX6_ahead 47 = .ok (.getfield 7, 3) := by decide +kernel
theorem dX6_ahead_50 : decode cX6_ahead 50 = .ok (.bipush 57, 2) := by decide +kernel
theorem dX6_ahead_52 : decode cX6_ahead 52 = .ok (.iload_n 1, 1) := by decide +kernel
theorem dX6_ahead_53 : decode cX6_ahead 53 = .ok (.iadd, 1) := by decide +kernel
theorem dX6_ahead_54 : decode cX6_ahead 54 = .ok (.iaload, 1) := by decide +kernel
theorem dX6_ahead_55 : decode cX6_ahead 55 = .ok (.goto 12, 3) := by decide +kernel
theorem dX6_ahead_58 : decode cX6_ahead 58 = .ok (.aload_n 0, 1) := by decide +kernel
theorem dX6_ahead_59 : decode cX6_ahead 59 = .ok (.getfield 7, 3) := by decide +kernel
theorem dX6_ahead_62 : decode cX6_ahead 62 = .ok (.bipush 62, 2) := by decide +kernel
theorem dX6_ahead_64 : decode cX6_ahead 64 = .ok (.iload_n 1, 1) := by decide +kernel
theorem dX6_ahead_65 : decode cX6_ahead 65 = .ok (.iadd, 1) := by decide +kernel
theorem dX6_ahead_66 : decode cX6_ahead 66 = .ok (.iaload, 1) := by decide +kernel
theorem dX6_ahead_67 : decode cX6_ahead 67 = .ok (.ireturn, 1) := by decide +kernel
set_option maxRecDepth 20000 in
theorem ggX6_heard_X6_isStretch : GoodIn wsX6_heard wsX6_isStretch := goodIn_r _ [8, 3, 9, 10, 7, 11, 47, 48, 49, 50, 51, 52, 53, 54, 55, 56, 57, 58, 59, 60, 61, 62] (by decide +kernel) (by decide +kernel)
set_option maxRecDepth 20000 in
theorem gX6_heard_X6_isStretch : GoodIn wsX6_heard (wsV RX6 161 RX6 yX6_isStretch wsX6_isStretch) := goodIn_app (goodIn_of _ (by decide +kernel)) ggX6_heard_X6_isStretch
set_option maxRecDepth 20000 in
theorem ggX6_heard_X6_in : GoodIn wsX6_heard wsX6_in := goodIn_r _ [11] (by decide +kernel) (by decide +kernel)
set_option maxRecDepth 20000 in
theorem gX6_heard_X6_in : GoodIn wsX6_heard (va_wsS RX6 34 yX6_in wsX6_in) := goodIn_app (goodIn_of _ (by decide +kernel)) ggX6_heard_X6_in
set_option maxRecDepth 20000 in
theorem ggX6_heard_X6_tries : GoodIn wsX6_heard wsX6_tries := goodIn_r _ [15, 16, 17, 18, 7, 19, 3, 47, 48, 49, 50, 51, 52, 53, 54, 55, 56, 57, 58, 59, 60, 61, 62] (by decide +kernel) (by decide +kernel)
set_option maxRecDepth 20000 in
theorem gX6_heard_X6_tries : GoodIn wsX6_heard (wsV RX6 169 RX6 yX6_tries wsX6_tries) := goodIn_app (goodIn_of _ (by decide +kernel)) ggX6_heard_X6_tries
set_option maxRecDepth 20000 in
theorem ggX6_heard_X6_goesOn : GoodIn wsX6_heard wsX6_goesOn := goodIn_r _ [23, 24, 25, 26, 7, 27, 3, 28, 29, 30, 31, 32, 33, 34, 35, 36, 37, 38, 39, 40, 41, 42, 43, 44, 45, 46, 47, 48, 49, 50, 51, 52, 53, 54, 55, 56, 57, 58, 59, 60, 61, 62] (by decide +kernel) (by decide +kernel)
set_option maxRecDepth 20000 in
theorem gX6_heard_X6_goesOn : GoodIn wsX6_heard (wsV RX6 172 RX6 yX6_goesOn wsX6_goesOn) := goodIn_app (goodIn_of _ (by decide +kernel)) ggX6_heard_X6_goesOn
theorem dX6_heard_0 : decode cX6_heard 0 = .ok (.aload_n 0, 1) := by decide +kernel
theorem dX6_heard_1 : decode cX6_heard 1 = .ok (.iload_n 1, 1) := by decide +kernel
theorem dX6_heard_2 : decode cX6_heard 2 = .ok (.invokevirtual 161, 3) := by decide +kernel
theorem dX6_heard_5 : decode cX6_heard 5 = .ok (.ifCond .eq 15, 3) := by decide +kernel
theorem dX6_heard_8 : decode cX6_heard 8 = .ok (.iload_n 2, 1) := by decide +kernel
theorem dX6_heard_9 : decode cX6_heard 9 = .ok (.i2l, 1) := by decide +kernel
theorem dX6_heard_10 : decode cX6_heard 10 = .ok (.lconst 0, 1) := by decide +kernel
theorem dX6_heard_11 : decode cX6_heard 11 = .ok (.ldc2_w 167, 3) := by decide +kernel
theorem dX6_heard_14 : decode cX6_heard 14 = .ok (.invokestatic 34, 3) := by decide +kernel
theorem dX6_heard_17 : decode cX6_heard 17 = .ok (.ifCond .ne 6, 3) := by decide +kernel
theorem dX6_heard_20 : decode cX6_heard 20 = .ok (.ldc 51, 2) := by decide +kernel
theorem dX6_heard_22 : decode cX6_heard 22 = .ok (.ireturn, 1) := by decide +kernel
theorem dX6_heard_23 : decode cX6_heard 23 = .ok (.aload_n 0, 1) := by decide +kernel
theorem dX6_heard_24 : decode cX6_heard 24 = .ok (.invokevirtual 169, 3) := by decide +kernel
theorem dX6_heard_27 : decode cX6_heard 27 = .ok (.aload_n 0, 1) := by decide +kernel
theorem dX6_heard_28 : decode cX6_heard 28 = .ok (.iload_n 2, 1) := by decide +kernel
theorem dX6_heard_29 : decode cX6_heard 29 = .ok (.invokevirtual 172, 3) := by decide +kernel
theorem dX6_heard_32 : decode cX6_heard 32 = .ok (.aload_n 0, 1) := by decide +kernel
theorem dX6_heard_33 : decode cX6_heard 33 = .ok (.getfield 7, 3) := by decide +kernel
theorem dX6_heard_36 : decode cX6_heard 36 = .ok (.bipush 67, 2) := by decide +kernel
theorem dX6_heard_38 : decode cX6_heard 38 = .ok (.iload_n 1, 1) := by decide +kernel
theorem dX6_heard_39 : decode cX6_heard 39 = .ok (.iadd, 1) := by decide +kernel
theorem dX6_heard_40 : decode cX6_heard 40 = .ok (.iaload, 1) := by decide +kernel
theorem dX6_heard_41 : decode cX6_heard 41 = .ok (.ireturn, 1) := by decide +kernel
set_option maxRecDepth 20000 in
theorem ggX6_whole_X6_isStretch : GoodIn wsX6_whole wsX6_isStretch := goodIn_r _ [7, 8, 9, 10, 6, 11, 51, 52, 53, 54, 55, 56, 57, 58, 59, 60, 61, 62, 63, 64, 65, 66] (by decide +kernel) (by decide +kernel)
set_option maxRecDepth 20000 in
theorem gX6_whole_X6_isStretch : GoodIn wsX6_whole (wsV RX6 161 RX6 yX6_isStretch wsX6_isStretch) := goodIn_app (goodIn_of _ (by decide +kernel)) ggX6_whole_X6_isStretch
set_option maxRecDepth 20000 in
theorem ggX6_whole_X6_tries : GoodIn wsX6_whole wsX6_tries := goodIn_r _ [15, 16, 17, 18, 6, 19, 8, 51, 52, 53, 54, 55, 56, 57, 58, 59, 60, 61, 62, 63, 64, 65, 66] (by decide +kernel) (by decide +kernel)
set_option maxRecDepth 20000 in
theorem gX6_whole_X6_tries : GoodIn wsX6_whole (wsV RX6 169 RX6 yX6_tries wsX6_tries) := goodIn_app (goodIn_of _ (by decide +kernel)) ggX6_whole_X6_tries
set_option maxRecDepth 20000 in
theorem ggX6_whole_X6_wholeOnes : GoodIn wsX6_whole wsX6_wholeOnes := goodIn_r _ [23, 8, 24, 25, 26, 6, 27, 51, 52, 53, 54, 55, 56, 57, 58, 59, 60, 61, 62, 63, 64, 65, 66] (by decide +kernel) (by decide +kernel)
set_option maxRecDepth 20000 in
theorem gX6_whole_X6_wholeOnes : GoodIn wsX6_whole (wsV RX6 155 RX6 yX6_wholeOnes wsX6_wholeOnes) := goodIn_app (goodIn_of _ (by decide +kernel)) ggX6_whole_X6_wholeOnes
set_option maxRecDepth 20000 in
theorem ggX6_whole_X6_has : GoodIn wsX6_whole wsX6_has := goodIn_r _ [30] (by decide +kernel) (by decide +kernel)
set_option maxRecDepth 20000 in
theorem gX6_whole_X6_has : GoodIn wsX6_whole (va_wsS RX6 127 yX6_has wsX6_has) := goodIn_app (goodIn_of _ (by decide +kernel)) ggX6_whole_X6_has
set_option maxRecDepth 20000 in
theorem ggX6_whole_X6_hourBy : GoodIn wsX6_whole wsX6_hourBy := goodIn_r _ [34, 8, 35, 36, 37, 6, 38, 28, 29, 30, 39, 40, 41, 42, 43, 44, 45, 46, 47, 48, 49, 50, 51, 52, 53, 54, 55, 56, 57, 58, 59, 60, 61, 62, 63, 64, 65, 66] (by decide +kernel) (by decide +kernel)
set_option maxRecDepth 20000 in
theorem gX6_whole_X6_hourBy : GoodIn wsX6_whole (wsV RX6 152 RX6 yX6_hourBy wsX6_hourBy) := goodIn_app (goodIn_of _ (by decide +kernel)) ggX6_whole_X6_hourBy
theorem dX6_whole_0 : decode cX6_whole 0 = .ok (.aload_n 0, 1) := by decide +kernel
theorem dX6_whole_1 : decode cX6_whole 1 = .ok (.iload_n 1, 1) := by decide +kernel
theorem dX6_whole_2 : decode cX6_whole 2 = .ok (.invokevirtual 161, 3) := by decide +kernel
theorem dX6_whole_5 : decode cX6_whole 5 = .ok (.ifCond .ne 6, 3) := by decide +kernel
theorem dX6_whole_8 : decode cX6_whole 8 = .ok (.ldc 51, 2) := by decide +kernel
theorem dX6_whole_10 : decode cX6_whole 10 = .ok (.ireturn, 1) := by decide +kernel
theorem dX6_whole_11 : decode cX6_whole 11 = .ok (.aload_n 0, 1) := by decide +kernel
theorem dX6_whole_12 : decode cX6_whole 12 = .ok (.invokevirtual 169, 3) := by decide +kernel
theorem dX6_whole_15 : decode cX6_whole 15 = .ok (.iconst 0, 1) := by decide +kernel
theorem dX6_whole_16 : decode cX6_whole 16 = .ok (.istore_n 2, 1) := by decide +kernel
theorem dX6_whole_17 : decode cX6_whole 17 = .ok (.iload_n 2, 1) := by decide +kernel
theorem dX6_whole_18 : decode cX6_whole 18 = .ok (.bipush 60, 2) := by decide +kernel
theorem dX6_whole_20 : decode cX6_whole 20 = .ok (.if_icmp .gt 31, 3) := by decide +kernel
theorem dX6_whole_23 : decode cX6_whole 23 = .ok (.aload_n 0, 1) := by decide +kernel
theorem dX6_whole_24 : decode cX6_whole 24 = .ok (.bipush 38, 2) := by decide +kernel
theorem dX6_whole_26 : decode cX6_whole 26 = .ok (.invokevirtual 155, 3) := by decide +kernel
theorem dX6_whole_29 : decode cX6_whole 29 = .ok (.iload_n 1, 1) := by decide +kernel
theorem dX6_whole_30 : decode cX6_whole 30 = .ok (.invokestatic 127, 3) := by decide +kernel
theorem dX6_whole_33 : decode cX6_whole 33 = .ok (.ifCond .eq 5, 3) := by decide +kernel
theorem dX6_whole_36 : decode cX6_whole 36 = .ok (.iload_n 2, 1) := by decide +kernel
theorem dX6_whole_37 : decode cX6_whole 37 = .ok (.ireturn, 1) := by decide +kernel
theorem dX6_whole_38 : decode cX6_whole 38 = .ok (.aload_n 0, 1) := by decide +kernel
theorem dX6_whole_39 : decode cX6_whole 39 = .ok (.bipush 38, 2) := by decide +kernel
theorem dX6_whole_41 : decode cX6_whole 41 = .ok (.iconst 0, 1) := by decide +kernel
theorem dX6_whole_42 : decode cX6_whole 42 = .ok (.invokevirtual 152, 3) := by decide +kernel
theorem dX6_whole_45 : decode cX6_whole 45 = .ok (.iinc 2 1, 3) := by decide +kernel
theorem dX6_whole_48 : decode cX6_whole 48 = .ok (.goto (-31), 3) := by decide +kernel
theorem dX6_whole_51 : decode cX6_whole 51 = .ok (.ldc 176, 2) := by decide +kernel
theorem dX6_whole_53 : decode cX6_whole 53 = .ok (.ireturn, 1) := by decide +kernel
set_option maxRecDepth 20000 in
theorem ggX6_leastOf_X6_has : GoodIn wsX6_leastOf wsX6_has := goodIn_r _ [4] (by decide +kernel) (by decide +kernel)
set_option maxRecDepth 20000 in
theorem gX6_leastOf_X6_has : GoodIn wsX6_leastOf (va_wsS RX6 127 yX6_has wsX6_has) := goodIn_app (goodIn_of _ (by decide +kernel)) ggX6_leastOf_X6_has
theorem dX6_leastOf_0 : decode cX6_leastOf 0 = .ok (.iconst 0, 1) := by decide +kernel
theorem dX6_leastOf_1 : decode cX6_leastOf 1 = .ok (.istore_n 2, 1) := by decide +kernel
theorem dX6_leastOf_2 : decode cX6_leastOf 2 = .ok (.iload_n 1, 1) := by decide +kernel
theorem dX6_leastOf_3 : decode cX6_leastOf 3 = .ok (.iload_n 2, 1) := by decide +kernel
theorem dX6_leastOf_4 : decode cX6_leastOf 4 = .ok (.invokestatic 127, 3) := by decide +kernel
theorem dX6_leastOf_7 : decode cX6_leastOf 7 = .ok (.ifCond .ne 9, 3) := by decide +kernel
theorem dX6_leastOf_10 : decode cX6_leastOf 10 = .ok (.iinc 2 1, 3) := by decide +kernel
theorem dX6_leastOf_13 : decode cX6_leastOf 13 = .ok (.goto (-11), 3) := by decide +kernel
theorem dX6_leastOf_16 : decode cX6_leastOf 16 = .ok (.iload_n 2, 1) := by decide +kernel
theorem dX6_leastOf_17 : decode cX6_leastOf 17 = .ok (.ireturn, 1) := by decide +kernel
set_option maxRecDepth 20000 in
theorem ggX6_first_X6_isRoad : GoodIn wsX6_first wsX6_isRoad := goodIn_r _ [8, 9, 56, 57, 58, 59, 60, 61, 62, 63, 64, 65, 66, 67, 68, 69, 70, 71] (by decide +kernel) (by decide +kernel)
set_option maxRecDepth 20000 in
theorem gX6_first_X6_isRoad : GoodIn wsX6_first (wsV RX6 143 RX6 yX6_isRoad wsX6_isRoad) := goodIn_app (goodIn_of _ (by decide +kernel)) ggX6_first_X6_isRoad
set_option maxRecDepth 20000 in
theorem ggX6_first_X6_in : GoodIn wsX6_first wsX6_in := goodIn_r _ [12] (by decide +kernel) (by decide +kernel)
set_option maxRecDepth 20000 in
theorem gX6_first_X6_in : GoodIn wsX6_first (va_wsS RX6 34 yX6_in wsX6_in) := goodIn_app (goodIn_of _ (by decide +kernel)) ggX6_first_X6_in
set_option maxRecDepth 20000 in
theorem ggX6_first_X6_tries : GoodIn wsX6_first wsX6_tries := goodIn_r _ [16, 17, 18, 19, 7, 20, 9, 56, 57, 58, 59, 60, 61, 62, 63, 64, 65, 66, 67, 68, 69, 70, 71] (by decide +kernel) (by decide +kernel)
set_option maxRecDepth 20000 in
theorem gX6_first_X6_tries : GoodIn wsX6_first (wsV RX6 169 RX6 yX6_tries wsX6_tries) := goodIn_app (goodIn_of _ (by decide +kernel)) ggX6_first_X6_tries
set_option maxRecDepth 20000 in
theorem ggX6_first_X6_wholeOnes : GoodIn wsX6_first wsX6_wholeOnes := goodIn_r _ [24, 9, 25, 26, 27, 7, 28, 56, 57, 58, 59, 60, 61, 62, 63, 64, 65, 66, 67, 68, 69, 70, 71] (by decide +kernel) (by decide +kernel)
set_option maxRecDepth 20000 in
theorem gX6_first_X6_wholeOnes : GoodIn wsX6_first (wsV RX6 155 RX6 yX6_wholeOnes wsX6_wholeOnes) := goodIn_app (goodIn_of _ (by decide +kernel)) ggX6_first_X6_wholeOnes
set_option maxRecDepth 20000 in
theorem ggX6_first_X6_leastOf : GoodIn wsX6_first wsX6_leastOf := goodIn_r _ [32, 33, 34, 7, 35] (by decide +kernel) (by decide +kernel)
set_option maxRecDepth 20000 in
theorem gX6_first_X6_leastOf : GoodIn wsX6_first (wsV RX6 177 RX6 yX6_leastOf wsX6_leastOf) := goodIn_app (goodIn_of _ (by decide +kernel)) ggX6_first_X6_leastOf
set_option maxRecDepth 20000 in
theorem ggX6_first_X6_hourBy : GoodIn wsX6_first wsX6_hourBy := goodIn_r _ [39, 9, 40, 41, 42, 7, 43, 33, 34, 35, 44, 45, 46, 47, 48, 49, 50, 51, 52, 53, 54, 55, 56, 57, 58, 59, 60, 61, 62, 63, 64, 65, 66, 67, 68, 69, 70, 71] (by decide +kernel) (by decide +kernel)
set_option maxRecDepth 20000 in
theorem gX6_first_X6_hourBy : GoodIn wsX6_first (wsV RX6 152 RX6 yX6_hourBy wsX6_hourBy) := goodIn_app (goodIn_of _ (by decide +kernel)) ggX6_first_X6_hourBy
theorem dX6_first_0 : decode cX6_first 0 = .ok (.aload_n 0, 1) := by decide +kernel
theorem dX6_first_1 : decode cX6_first 1 = .ok (.invokevirtual 143, 3) := by decide +kernel
theorem dX6_first_4 : decode cX6_first 4 = .ok (.ifCond .ne 6, 3) := by decide +kernel
theorem dX6_first_7 : decode cX6_first 7 = .ok (.ldc 146, 2) := by decide +kernel
theorem dX6_first_9 : decode cX6_first 9 = .ok (.ireturn, 1) := by decide +kernel
theorem dX6_first_10 : decode cX6_first 10 = .ok (.iload_n 1, 1) := by decide +kernel
theorem dX6_first_11 : decode cX6_first 11 = .ok (.i2l, 1) := by decide +kernel
theorem dX6_first_12 : decode cX6_first 12 = .ok (.lconst 0, 1) := by decide +kernel
theorem dX6_first_13 : decode cX6_first 13 = .ok (.lconst 1, 1) := by decide +kernel
theorem dX6_first_14 : decode cX6_first 14 = .ok (.invokestatic 34, 3) := by decide +kernel
theorem dX6_first_17 : decode cX6_first 17 = .ok (.ifCond .ne 6, 3) := by decide +kernel
theorem dX6_first_20 : decode cX6_first 20 = .ok (.ldc 51, 2) := by decide +kernel
theorem dX6_first_22 : decode cX6_first 22 = .ok (.ireturn, 1) := by decide +kernel
theorem dX6_first_23 : decode cX6_first 23 = .ok (.aload_n 0, 1) := by decide +kernel
theorem dX6_first_24 : decode cX6_first 24 = .ok (.invokevirtual 169, 3) := by decide +kernel
theorem dX6_first_27 : decode cX6_first 27 = .ok (.iconst 0, 1) := by decide +kernel
theorem dX6_first_28 : decode cX6_first 28 = .ok (.istore_n 2, 1) := by decide +kernel
theorem dX6_first_29 : decode cX6_first 29 = .ok (.iload_n 2, 1) := by decide +kernel
theorem dX6_first_30 : decode cX6_first 30 = .ok (.bipush 60, 2) := by decide +kernel
theorem dX6_first_32 : decode cX6_first 32 = .ok (.if_icmp .gt 41, 3) := by decide +kernel
theorem dX6_first_35 : decode cX6_first 35 = .ok (.aload_n 0, 1) := by decide +kernel
theorem dX6_first_36 : decode cX6_first 36 = .ok (.bipush 38, 2) := by decide +kernel
theorem dX6_first_38 : decode cX6_first 38 = .ok (.invokevirtual 155, 3) := by decide +kernel
theorem dX6_first_41 : decode cX6_first 41 = .ok (.istore_n 3, 1) := by decide +kernel
theorem dX6_first_42 : decode cX6_first 42 = .ok (.iload_n 3, 1) := by decide +kernel
theorem dX6_first_43 : decode cX6_first 43 = .ok (.ifCond .le 17, 3) := by decide +kernel
theorem dX6_first_46 : decode cX6_first 46 = .ok (.iload_n 1, 1) := by decide +kernel
theorem dX6_first_47 : decode cX6_first 47 = .ok (.ifCond .ne 11, 3) := by decide +kernel
theorem dX6_first_50 : decode cX6_first 50 = .ok (.aload_n 0, 1) := by decide +kernel
theorem dX6_first_51 : decode cX6_first 51 = .ok (.iload_n 3, 1) := by decide +kernel
theorem dX6_first_52 : decode cX6_first 52 = .ok (.invokevirtual 177, 3) := by decide +kernel
theorem dX6_first_55 : decode cX6_first 55 = .ok (.goto 4, 3) := by decide +kernel
theorem dX6_first_58 : decode cX6_first 58 = .ok (.iload_n 2, 1) := by decide +kernel
theorem dX6_first_59 : decode cX6_first 59 = .ok (.ireturn, 1) := by decide +kernel
theorem dX6_first_60 : decode cX6_first 60 = .ok (.aload_n 0, 1) := by decide +kernel
theorem dX6_first_61 : decode cX6_first 61 = .ok (.bipush 38, 2) := by decide +kernel
theorem dX6_first_63 : decode cX6_first 63 = .ok (.iconst 0, 1) := by decide +kernel
theorem dX6_first_64 : decode cX6_first 64 = .ok (.invokevirtual 152, 3) := by decide +kernel
theorem dX6_first_67 : decode cX6_first 67 = .ok (.iinc 2 1, 3) := by decide +kernel
theorem dX6_first_70 : decode cX6_first 70 = .ok (.goto (-41), 3) := by decide +kernel
theorem dX6_first_73 : decode cX6_first 73 = .ok (.ldc 176, 2) := by decide +kernel
theorem dX6_first_75 : decode cX6_first 75 = .ok (.ireturn, 1) := by decide +kernel
set_option maxRecDepth 20000 in
theorem ggX6_left_X6_isRoad : GoodIn wsX6_left wsX6_isRoad := goodIn_r _ [9, 4, 52, 53, 54, 55, 56, 57, 58, 59, 60, 61, 62, 63, 64, 65, 66, 67] (by decide +kernel) (by decide +kernel)
set_option maxRecDepth 20000 in
theorem gX6_left_X6_isRoad : GoodIn wsX6_left (wsV RX6 143 RX6 yX6_isRoad wsX6_isRoad) := goodIn_app (goodIn_of _ (by decide +kernel)) ggX6_left_X6_isRoad
set_option maxRecDepth 20000 in
theorem ggX6_left_X6_in : GoodIn wsX6_left wsX6_in := goodIn_r _ [12] (by decide +kernel) (by decide +kernel)
set_option maxRecDepth 20000 in
theorem gX6_left_X6_in : GoodIn wsX6_left (va_wsS RX6 34 yX6_in wsX6_in) := goodIn_app (goodIn_of _ (by decide +kernel)) ggX6_left_X6_in
set_option maxRecDepth 20000 in
theorem ggX6_left_X6_tries : GoodIn wsX6_left wsX6_tries := goodIn_r _ [16, 17, 18, 19, 8, 20, 4, 52, 53, 54, 55, 56, 57, 58, 59, 60, 61, 62, 63, 64, 65, 66, 67] (by decide +kernel) (by decide +kernel)
set_option maxRecDepth 20000 in
theorem gX6_left_X6_tries : GoodIn wsX6_left (wsV RX6 169 RX6 yX6_tries wsX6_tries) := goodIn_app (goodIn_of _ (by decide +kernel)) ggX6_left_X6_tries
set_option maxRecDepth 20000 in
theorem ggX6_left_X6_goesOn : GoodIn wsX6_left wsX6_goesOn := goodIn_r _ [24, 25, 26, 27, 8, 28, 4, 29, 30, 31, 32, 33, 34, 35, 36, 37, 38, 39, 40, 41, 42, 43, 44, 45, 46, 47, 52, 53, 54, 55, 56, 57, 58, 59, 60, 61, 62, 63, 64, 65, 66, 67] (by decide +kernel) (by decide +kernel)
set_option maxRecDepth 20000 in
theorem gX6_left_X6_goesOn : GoodIn wsX6_left (wsV RX6 172 RX6 yX6_goesOn wsX6_goesOn) := goodIn_app (goodIn_of _ (by decide +kernel)) ggX6_left_X6_goesOn
set_option maxRecDepth 20000 in
theorem ggX6_left_X6_all : GoodIn wsX6_left wsX6_all := goodIn_r _ [51, 4, 52, 53, 54, 55, 56, 57, 58, 59, 60, 61, 62, 63, 64, 65, 66, 67] (by decide +kernel) (by decide +kernel)
set_option maxRecDepth 20000 in
theorem gX6_left_X6_all : GoodIn wsX6_left (wsV RX6 137 RX6 yX6_all wsX6_all) := goodIn_app (goodIn_of _ (by decide +kernel)) ggX6_left_X6_all
theorem dX6_left_0 : decode cX6_left 0 = .ok (.aload_n 0, 1) := by decide +kernel
theorem dX6_left_1 : decode cX6_left 1 = .ok (.invokevirtual 143, 3) := by decide +kernel
theorem dX6_left_4 : decode cX6_left 4 = .ok (.ifCond .ne 6, 3) := by decide +kernel
theorem dX6_left_7 : decode cX6_left 7 = .ok (.ldc 146, 2) := by decide +kernel
theorem dX6_left_9 : decode cX6_left 9 = .ok (.ireturn, 1) := by decide +kernel
theorem dX6_left_10 : decode cX6_left 10 = .ok (.iload_n 1, 1) := by decide +kernel
theorem dX6_left_11 : decode cX6_left 11 = .ok (.i2l, 1) := by decide +kernel
theorem dX6_left_12 : decode cX6_left 12 = .ok (.lconst 0, 1) := by decide +kernel
theorem dX6_left_13 : decode cX6_left 13 = .ok (.ldc2_w 167, 3) := by decide +kernel
theorem dX6_left_16 : decode cX6_left 16 = .ok (.invokestatic 34, 3) := by decide +kernel
theorem dX6_left_19 : decode cX6_left 19 = .ok (.ifCond .ne 6, 3) := by decide +kernel
theorem dX6_left_22 : decode cX6_left 22 = .ok (.ldc 51, 2) := by decide +kernel
theorem dX6_left_24 : decode cX6_left 24 = .ok (.ireturn, 1) := by decide +kernel
theorem dX6_left_25 : decode cX6_left 25 = .ok (.aload_n 0, 1) := by decide +kernel
theorem dX6_left_26 : decode cX6_left 26 = .ok (.invokevirtual 169, 3) := by decide +kernel
theorem dX6_left_29 : decode cX6_left 29 = .ok (.aload_n 0, 1) := by decide +kernel
theorem dX6_left_30 : decode cX6_left 30 = .ok (.iload_n 1, 1) := by decide +kernel
theorem dX6_left_31 : decode cX6_left 31 = .ok (.invokevirtual 172, 3) := by decide +kernel
theorem dX6_left_34 : decode cX6_left 34 = .ok (.aload_n 0, 1) := by decide +kernel
theorem dX6_left_35 : decode cX6_left 35 = .ok (.iconst 0, 1) := by decide +kernel
theorem dX6_left_36 : decode cX6_left 36 = .ok (.invokevirtual 137, 3) := by decide +kernel
theorem dX6_left_39 : decode cX6_left 39 = .ok (.istore_n 2, 1) := by decide +kernel
theorem dX6_left_40 : decode cX6_left 40 = .ok (.iconst 0, 1) := by decide +kernel
theorem dX6_left_41 : decode cX6_left 41 = .ok (.istore_n 3, 1) := by decide +kernel
theorem dX6_left_42 : decode cX6_left 42 = .ok (.iload_n 3, 1) := by decide +kernel
theorem dX6_left_43 : decode cX6_left 43 = .ok (.aload_n 0, 1) := by decide +kernel
theorem dX6_left_44 : decode cX6_left 44 = .ok (.getfield 7, 3) := by decide +kernel
theorem dX6_left_47 : decode cX6_left 47 = .ok (.iconst 0, 1) := by decide +kernel
theorem dX6_left_48 : decode cX6_left 48 = .ok (.iaload, 1) := by decide +kernel
theorem dX6_left_49 : decode cX6_left 49 = .ok (.if_icmp .ge 23, 3) := by decide +kernel
theorem dX6_left_52 : decode cX6_left 52 = .ok (.iload_n 2, 1) := by decide +kernel
theorem dX6_left_53 : decode cX6_left 53 = .ok (.aload_n 0, 1) := by decide +kernel
theorem dX6_left_54 : decode cX6_left 54 = .ok (.getfield 7, 3) := by decide +kernel
theorem dX6_left_57 : decode cX6_left 57 = .ok (.bipush 67, 2) := by decide +kernel
theorem dX6_left_59 : decode cX6_left 59 = .ok (.iload_n 3, 1) := by decide +kernel
theorem dX6_left_60 : decode cX6_left 60 = .ok (.iadd, 1) := by decide +kernel
theorem dX6_left_61 : decode cX6_left 61 = .ok (.iaload, 1) := by decide +kernel
theorem dX6_left_62 : decode cX6_left 62 = .ok (.iconst (-1), 1) := by decide +kernel
theorem dX6_left_63 : decode cX6_left 63 = .ok (.ixor, 1) := by decide +kernel
theorem dX6_left_64 : decode cX6_left 64 = .ok (.iand, 1) := by decide +kernel
theorem dX6_left_65 : decode cX6_left 65 = .ok (.istore_n 2, 1) := by decide +kernel
theorem dX6_left_66 : decode cX6_left 66 = .ok (.iinc 3 1, 3) := by decide +kernel
theorem dX6_left_69 : decode cX6_left 69 = .ok (.goto (-27), 3) := by decide +kernel
theorem dX6_left_72 : decode cX6_left 72 = .ok (.iload_n 2, 1) := by decide +kernel
theorem dX6_left_73 : decode cX6_left 73 = .ok (.ireturn, 1) := by decide +kernel
set_option maxRecDepth 20000 in
theorem ggX6_meet_X6_isPulpit : GoodIn wsX6_meet wsX6_isPulpit := goodIn_r _ [8, 2, 9, 10, 7, 11, 43, 44, 45, 46, 47, 48, 49, 50, 51, 52, 53, 54, 55, 56, 57, 58] (by decide +kernel) (by decide +kernel)
set_option maxRecDepth 20000 in
theorem gX6_meet_X6_isPulpit : GoodIn wsX6_meet (wsV RX6 158 RX6 yX6_isPulpit wsX6_isPulpit) := goodIn_app (goodIn_of _ (by decide +kernel)) ggX6_meet_X6_isPulpit
set_option maxRecDepth 20000 in
theorem ggX6_meet_X6_tries : GoodIn wsX6_meet wsX6_tries := goodIn_r _ [15, 16, 17, 18, 7, 19, 2, 43, 44, 45, 46, 47, 48, 49, 50, 51, 52, 53, 54, 55, 56, 57, 58] (by decide +kernel) (by decide +kernel)
set_option maxRecDepth 20000 in
theorem gX6_meet_X6_tries : GoodIn wsX6_meet (wsV RX6 169 RX6 yX6_tries wsX6_tries) := goodIn_app (goodIn_of _ (by decide +kernel)) ggX6_meet_X6_tries
set_option maxRecDepth 20000 in
theorem ggX6_meet_X6_hourBy : GoodIn wsX6_meet wsX6_hourBy := goodIn_r _ [23, 2, 24, 25, 26, 7, 27, 28, 29, 30, 31, 32, 33, 34, 35, 36, 37, 38, 39, 40, 41, 42, 43, 44, 45, 46, 47, 48, 49, 50, 51, 52, 53, 54, 55, 56, 57, 58] (by decide +kernel) (by decide +kernel)
set_option maxRecDepth 20000 in
theorem gX6_meet_X6_hourBy : GoodIn wsX6_meet (wsV RX6 152 RX6 yX6_hourBy wsX6_hourBy) := goodIn_app (goodIn_of _ (by decide +kernel)) ggX6_meet_X6_hourBy
theorem dX6_meet_0 : decode cX6_meet 0 = .ok (.aload_n 0, 1) := by decide +kernel
theorem dX6_meet_1 : decode cX6_meet 1 = .ok (.iload_n 1, 1) := by decide +kernel
theorem dX6_meet_2 : decode cX6_meet 2 = .ok (.invokevirtual 158, 3) := by decide +kernel
theorem dX6_meet_5 : decode cX6_meet 5 = .ok (.ifCond .eq 16, 3) := by decide +kernel
theorem dX6_meet_8 : decode cX6_meet 8 = .ok (.aload_n 0, 1) := by decide +kernel
theorem dX6_meet_9 : decode cX6_meet 9 = .ok (.iload_n 2, 1) := by decide +kernel
theorem dX6_meet_10 : decode cX6_meet 10 = .ok (.invokevirtual 158, 3) := by decide +kernel
theorem dX6_meet_13 : decode cX6_meet 13 = .ok (.ifCond .eq 8, 3) := by decide +kernel
theorem dX6_meet_16 : decode cX6_meet 16 = .ok (.iload_n 1, 1) := by decide +kernel
theorem dX6_meet_17 : decode cX6_meet 17 = .ok (.iload_n 2, 1) := by decide +kernel
theorem dX6_meet_18 : decode cX6_meet 18 = .ok (.if_icmp .ne 6, 3) := by decide +kernel
theorem dX6_meet_21 : decode cX6_meet 21 = .ok (.ldc 51, 2) := by decide +kernel
theorem dX6_meet_23 : decode cX6_meet 23 = .ok (.ireturn, 1) := by decide +kernel
theorem dX6_meet_24 : decode cX6_meet 24 = .ok (.aload_n 0, 1) := by decide +kernel
theorem dX6_meet_25 : decode cX6_meet 25 = .ok (.invokevirtual 169, 3) := by decide +kernel
theorem dX6_meet_28 : decode cX6_meet 28 = .ok (.iconst 0, 1) := by decide +kernel
theorem dX6_meet_29 : decode cX6_meet 29 = .ok (.istore_n 3, 1) := by decide +kernel
theorem dX6_meet_30 : decode cX6_meet 30 = .ok (.iload_n 3, 1) := by decide +kernel
theorem dX6_meet_31 : decode cX6_meet 31 = .ok (.bipush 60, 2) := by decide +kernel
theorem dX6_meet_33 : decode cX6_meet 33 = .ok (.if_icmp .gt 39, 3) := by decide +kernel
theorem dX6_meet_36 : decode cX6_meet 36 = .ok (.aload_n 0, 1) := by decide +kernel
theorem dX6_meet_37 : decode cX6_meet 37 = .ok (.getfield 7, 3) := by decide +kernel
theorem dX6_meet_40 : decode cX6_meet 40 = .ok (.bipush 57, 2) := by decide +kernel
theorem dX6_meet_42 : decode cX6_meet 42 = .ok (.iload_n 1, 1) := by decide +kernel
theorem dX6_meet_43 : decode cX6_meet 43 = .ok (.iadd, 1) := by decide +kernel
theorem dX6_meet_44 : decode cX6_meet 44 = .ok (.iaload, 1) := by decide +kernel
theorem dX6_meet_45 : decode cX6_meet 45 = .ok (.aload_n 0, 1) := by decide +kernel
theorem dX6_meet_46 : decode cX6_meet 46 = .ok (.getfield 7, 3) := by decide +kernel
theorem dX6_meet_49 : decode cX6_meet 49 = .ok (.bipush 57, 2) := by decide +kernel
theorem dX6_meet_51 : decode cX6_meet 51 = .ok (.iload_n 2, 1) := by decide +kernel
theorem dX6_meet_52 : decode cX6_meet 52 = .ok (.iadd, 1) := by decide +kernel
theorem dX6_meet_53 : decode cX6_meet 53 = .ok (.iaload, 1) := by decide +kernel
theorem dX6_meet_54 : decode cX6_meet 54 = .ok (.if_icmp .ne 5, 3) := by decide +kernel
theorem dX6_meet_57 : decode cX6_meet 57 = .ok (.iload_n 3, 1) := by decide +kernel
theorem dX6_meet_58 : decode cX6_meet 58 = .ok (.ireturn, 1) := by decide +kernel
theorem dX6_meet_59 : decode cX6_meet 59 = .ok (.aload_n 0, 1) := by decide +kernel
theorem dX6_meet_60 : decode cX6_meet 60 = .ok (.bipush 38, 2) := by decide +kernel
theorem dX6_meet_62 : decode cX6_meet 62 = .ok (.iconst 0, 1) := by decide +kernel
theorem dX6_meet_63 : decode cX6_meet 63 = .ok (.invokevirtual 152, 3) := by decide +kernel
theorem dX6_meet_66 : decode cX6_meet 66 = .ok (.iinc 3 1, 3) := by decide +kernel
theorem dX6_meet_69 : decode cX6_meet 69 = .ok (.goto (-39), 3) := by decide +kernel
theorem dX6_meet_72 : decode cX6_meet 72 = .ok (.ldc 176, 2) := by decide +kernel
theorem dX6_meet_74 : decode cX6_meet 74 = .ok (.ireturn, 1) := by decide +kernel
set_option maxRecDepth 20000 in
theorem ggX6_round_X6_isRoad : GoodIn wsX6_round wsX6_isRoad := goodIn_r _ [8, 2, 40, 41, 42, 43, 44, 45, 46, 47, 48, 49, 50, 51, 52, 53, 54, 55] (by decide +kernel) (by decide +kernel)
set_option maxRecDepth 20000 in
theorem gX6_round_X6_isRoad : GoodIn wsX6_round (wsV RX6 143 RX6 yX6_isRoad wsX6_isRoad) := goodIn_app (goodIn_of _ (by decide +kernel)) ggX6_round_X6_isRoad
set_option maxRecDepth 20000 in
theorem ggX6_round_X6_tries : GoodIn wsX6_round wsX6_tries := goodIn_r _ [12, 13, 14, 15, 7, 16, 2, 40, 41, 42, 43, 44, 45, 46, 47, 48, 49, 50, 51, 52, 53, 54, 55] (by decide +kernel) (by decide +kernel)
set_option maxRecDepth 20000 in
theorem gX6_round_X6_tries : GoodIn wsX6_round (wsV RX6 169 RX6 yX6_tries wsX6_tries) := goodIn_app (goodIn_of _ (by decide +kernel)) ggX6_round_X6_tries
set_option maxRecDepth 20000 in
theorem ggX6_round_X6_hourBy : GoodIn wsX6_round wsX6_hourBy := goodIn_r _ [20, 2, 21, 22, 23, 7, 24, 25, 26, 27, 28, 29, 30, 31, 32, 33, 34, 35, 36, 37, 38, 39, 40, 41, 42, 43, 44, 45, 46, 47, 48, 49, 50, 51, 52, 53, 54, 55] (by decide +kernel) (by decide +kernel)
set_option maxRecDepth 20000 in
theorem gX6_round_X6_hourBy : GoodIn wsX6_round (wsV RX6 152 RX6 yX6_hourBy wsX6_hourBy) := goodIn_app (goodIn_of _ (by decide +kernel)) ggX6_round_X6_hourBy
theorem dX6_round_0 : decode cX6_round 0 = .ok (.aload_n 0, 1) := by decide +kernel
theorem dX6_round_1 : decode cX6_round 1 = .ok (.invokevirtual 143, 3) := by decide +kernel
theorem dX6_round_4 : decode cX6_round 4 = .ok (.ifCond .ne 6, 3) := by decide +kernel
theorem dX6_round_7 : decode cX6_round 7 = .ok (.ldc 146, 2) := by decide +kernel
theorem dX6_round_9 : decode cX6_round 9 = .ok (.ireturn, 1) := by decide +kernel
theorem dX6_round_10 : decode cX6_round 10 = .ok (.aload_n 0, 1) := by decide +kernel
theorem dX6_round_11 : decode cX6_round 11 = .ok (.invokevirtual 169, 3) := by decide +kernel
theorem dX6_round_14 : decode cX6_round 14 = .ok (.iconst 1, 1) := by decide +kernel
theorem dX6_round_15 : decode cX6_round 15 = .ok (.istore_n 1, 1) := by decide +kernel
theorem dX6_round_16 : decode cX6_round 16 = .ok (.iload_n 1, 1) := by decide +kernel
theorem dX6_round_17 : decode cX6_round 17 = .ok (.sipush 200, 3) := by decide +kernel
theorem dX6_round_20 : decode cX6_round 20 = .ok (.if_icmp .gt 69, 3) := by decide +kernel
theorem dX6_round_23 : decode cX6_round 23 = .ok (.aload_n 0, 1) := by decide +kernel
theorem dX6_round_24 : decode cX6_round 24 = .ok (.bipush 38, 2) := by decide +kernel
theorem dX6_round_26 : decode cX6_round 26 = .ok (.iconst 0, 1) := by decide +kernel
theorem dX6_round_27 : decode cX6_round 27 = .ok (.invokevirtual 152, 3) := by decide +kernel
theorem dX6_round_30 : decode cX6_round 30 = .ok (.iconst 1, 1) := by decide +kernel
theorem dX6_round_31 : decode cX6_round 31 = .ok (.istore_n 2, 1) := by decide +kernel
theorem dX6_round_32 : decode cX6_round 32 = .ok (.iconst 0, 1) := by decide +kernel
theorem dX6_round_33 : decode cX6_round 33 = .ok (.istore_n 3, 1) := by decide +kernel
theorem dX6_round_34 : decode cX6_round 34 = .ok (.iload_n 3, 1) := by decide +kernel
theorem dX6_round_35 : decode cX6_round 35 = .ok (.bipush 10, 2) := by decide +kernel
theorem dX6_round_37 : decode cX6_round 37 = .ok (.if_icmp .ge 40, 3) := by decide +kernel
theorem dX6_round_40 : decode cX6_round 40 = .ok (.iload_n 2, 1) := by decide +kernel
theorem dX6_round_41 : decode cX6_round 41 = .ok (.ifCond .eq 28, 3) := by decide +kernel
theorem dX6_round_44 : decode cX6_round 44 = .ok (.aload_n 0, 1) := by decide +kernel
theorem dX6_round_45 : decode cX6_round 45 = .ok (.getfield 7, 3) := by decide +kernel
theorem dX6_round_48 : decode cX6_round 48 = .ok (.bipush 57, 2) := by decide +kernel
theorem dX6_round_50 : decode cX6_round 50 = .ok (.iload_n 3, 1) := by decide +kernel
theorem dX6_round_51 : decode cX6_round 51 = .ok (.iadd, 1) := by decide +kernel
theorem dX6_round_52 : decode cX6_round 52 = .ok (.iaload, 1) := by decide +kernel
theorem dX6_round_53 : decode cX6_round 53 = .ok (.aload_n 0, 1) := by decide +kernel
theorem dX6_round_54 : decode cX6_round 54 = .ok (.getfield 7, 3) := by decide +kernel
theorem dX6_round_57 : decode cX6_round 57 = .ok (.bipush 19, 2) := by decide +kernel
theorem dX6_round_59 : decode cX6_round 59 = .ok (.iload_n 3, 1) := by decide +kernel
theorem dX6_round_60 : decode cX6_round 60 = .ok (.iadd, 1) := by decide +kernel
theorem dX6_round_61 : decode cX6_round 61 = .ok (.iaload, 1) := by decide +kernel
theorem dX6_round_62 : decode cX6_round 62 = .ok (.if_icmp .ne 7, 3) := by decide +kernel
theorem dX6_round_65 : decode cX6_round 65 = .ok (.iconst 1, 1) := by decide +kernel
theorem dX6_round_66 : decode cX6_round 66 = .ok (.goto 4, 3) := by decide +kernel
theorem dX6_round_69 : decode cX6_round 69 = .ok (.iconst 0, 1) := by decide +kernel
theorem dX6_round_70 : decode cX6_round 70 = .ok (.istore_n 2, 1) := by decide +kernel
theorem dX6_round_71 : decode cX6_round 71 = .ok (.iinc 3 1, 3) := by decide +kernel
theorem dX6_round_74 : decode cX6_round 74 = .ok (.goto (-40), 3) := by decide +kernel
theorem dX6_round_77 : decode cX6_round 77 = .ok (.iload_n 2, 1) := by decide +kernel
theorem dX6_round_78 : decode cX6_round 78 = .ok (.ifCond .eq 5, 3) := by decide +kernel
theorem dX6_round_81 : decode cX6_round 81 = .ok (.iload_n 1, 1) := by decide +kernel
theorem dX6_round_82 : decode cX6_round 82 = .ok (.ireturn, 1) := by decide +kernel
theorem dX6_round_83 : decode cX6_round 83 = .ok (.iinc 1 1, 3) := by decide +kernel
theorem dX6_round_86 : decode cX6_round 86 = .ok (.goto (-70), 3) := by decide +kernel
theorem dX6_round_89 : decode cX6_round 89 = .ok (.ldc 176, 2) := by decide +kernel
theorem dX6_round_91 : decode cX6_round 91 = .ok (.ireturn, 1) := by decide +kernel
set_option maxRecDepth 20000 in
theorem ggX6_best_X6_isPulpit : GoodIn wsX6_best wsX6_isPulpit := goodIn_r _ [8, 3, 9, 10, 7, 11, 54, 55, 56, 57, 58, 59, 60, 61, 62, 63, 64, 65, 66, 67, 68, 69] (by decide +kernel) (by decide +kernel)
set_option maxRecDepth 20000 in
theorem gX6_best_X6_isPulpit : GoodIn wsX6_best (wsV RX6 158 RX6 yX6_isPulpit wsX6_isPulpit) := goodIn_app (goodIn_of _ (by decide +kernel)) ggX6_best_X6_isPulpit
set_option maxRecDepth 20000 in
theorem ggX6_best_X6_isStretch : GoodIn wsX6_best wsX6_isStretch := goodIn_r _ [15, 3, 9, 10, 7, 11, 54, 55, 56, 57, 58, 59, 60, 61, 62, 63, 64, 65, 66, 67, 68, 69] (by decide +kernel) (by decide +kernel)
set_option maxRecDepth 20000 in
theorem gX6_best_X6_isStretch : GoodIn wsX6_best (wsV RX6 161 RX6 yX6_isStretch wsX6_isStretch) := goodIn_app (goodIn_of _ (by decide +kernel)) ggX6_best_X6_isStretch
set_option maxRecDepth 20000 in
theorem ggX6_best_X6_in : GoodIn wsX6_best wsX6_in := goodIn_r _ [11] (by decide +kernel) (by decide +kernel)
set_option maxRecDepth 20000 in
theorem gX6_best_X6_in : GoodIn wsX6_best (va_wsS RX6 34 yX6_in wsX6_in) := goodIn_app (goodIn_of _ (by decide +kernel)) ggX6_best_X6_in
set_option maxRecDepth 20000 in
theorem ggX6_best_X6_tries : GoodIn wsX6_best wsX6_tries := goodIn_r _ [19, 20, 21, 22, 7, 23, 3, 54, 55, 56, 57, 58, 59, 60, 61, 62, 63, 64, 65, 66, 67, 68, 69] (by decide +kernel) (by decide +kernel)
set_option maxRecDepth 20000 in
theorem gX6_best_X6_tries : GoodIn wsX6_best (wsV RX6 169 RX6 yX6_tries wsX6_tries) := goodIn_app (goodIn_of _ (by decide +kernel)) ggX6_best_X6_tries
set_option maxRecDepth 20000 in
theorem ggX6_best_X6_goesOn : GoodIn wsX6_best wsX6_goesOn := goodIn_r _ [27, 28, 29, 30, 7, 31, 3, 32, 33, 34, 35, 36, 37, 38, 39, 40, 41, 42, 43, 44, 45, 46, 47, 48, 49, 50, 54, 55, 56, 57, 58, 59, 60, 61, 62, 63, 64, 65, 66, 67, 68, 69] (by decide +kernel) (by decide +kernel)
set_option maxRecDepth 20000 in
theorem gX6_best_X6_goesOn : GoodIn wsX6_best (wsV RX6 172 RX6 yX6_goesOn wsX6_goesOn) := goodIn_app (goodIn_of _ (by decide +kernel)) ggX6_best_X6_goesOn
set_option maxRecDepth 20000 in
theorem ggX6_best_X6_ones : GoodIn wsX6_best wsX6_ones := goodIn_r _ [53] (by decide +kernel) (by decide +kernel)
set_option maxRecDepth 20000 in
theorem gX6_best_X6_ones : GoodIn wsX6_best (va_wsS RX6 140 yX6_ones wsX6_ones) := goodIn_app (goodIn_of _ (by decide +kernel)) ggX6_best_X6_ones
theorem dX6_best_0 : decode cX6_best 0 = .ok (.aload_n 0, 1) := by decide +kernel
theorem dX6_best_1 : decode cX6_best 1 = .ok (.iload_n 1, 1) := by decide +kernel
theorem dX6_best_2 : decode cX6_best 2 = .ok (.invokevirtual 158, 3) := by decide +kernel
theorem dX6_best_5 : decode cX6_best 5 = .ok (.ifCond .eq 34, 3) := by decide +kernel
theorem dX6_best_8 : decode cX6_best 8 = .ok (.aload_n 0, 1) := by decide +kernel
theorem dX6_best_9 : decode cX6_best 9 = .ok (.iload_n 2, 1) := by decide +kernel
theorem dX6_best_10 : decode cX6_best 10 = .ok (.invokevirtual 161, 3) := by decide +kernel
theorem dX6_best_13 : decode cX6_best 13 = .ok (.ifCond .eq 26, 3) := by decide +kernel
theorem dX6_best_16 : decode cX6_best 16 = .ok (.iload_n 3, 1) := by decide +kernel
theorem dX6_best_17 : decode cX6_best 17 = .ok (.i2l, 1) := by decide +kernel
theorem dX6_best_18 : decode cX6_best 18 = .ok (.lconst 1, 1) := by decide +kernel
theorem dX6_best_19 : decode cX6_best 19 = .ok (.ldc2_w 180, 3) := by decide +kernel
theorem dX6_best_22 : decode cX6_best 22 = .ok (.invokestatic 34, 3) := by decide +kernel
theorem dX6_best_25 : decode cX6_best 25 = .ok (.ifCond .eq 14, 3) := by decide +kernel
theorem dX6_best_28 : decode cX6_best 28 = .ok (.iload 4, 2) := by decide +kernel
theorem dX6_best_30 : decode cX6_best 30 = .ok (.i2l, 1) := by decide +kernel
theorem dX6_best_31 : decode cX6_best 31 = .ok (.lconst 0, 1) := by decide +kernel
theorem dX6_best_32 : decode cX6_best 32 = .ok (.lconst 1, 1) := by decide +kernel
theorem dX6_best_33 : decode cX6_best 33 = .ok (.invokestatic 34, 3) := by decide +kernel
theorem dX6_best_36 : decode cX6_best 36 = .ok (.ifCond .ne 6, 3) := by decide +kernel
theorem dX6_best_39 : decode cX6_best 39 = .ok (.ldc 51, 2) := by decide +kernel
theorem dX6_best_41 : decode cX6_best 41 = .ok (.ireturn, 1) := by decide +kernel
theorem dX6_best_42 : decode cX6_best 42 = .ok (.iconst 0, 1) := by decide +kernel
theorem dX6_best_43 : decode cX6_best 43 = .ok (.istore 5, 2) := by decide +kernel
theorem dX6_best_45 : decode cX6_best 45 = .ok (.iconst (-1), 1) := by decide +kernel
theorem dX6_best_46 : decode cX6_best 46 = .ok (.istore 6, 2) := by decide +kernel
theorem dX6_best_48 : decode cX6_best 48 = .ok (.iconst 0, 1) := by decide +kernel
theorem dX6_best_49 : decode cX6_best 49 = .ok (.istore 7, 2) := by decide +kernel
theorem dX6_best_51 : decode cX6_best 51 = .ok (.iload 7, 2) := by decide +kernel
theorem dX6_best_53 : decode cX6_best 53 = .ok (.aload_n 0, 1) := by decide +kernel
theorem dX6_best_54 : decode cX6_best 54 = .ok (.getfield 7, 3) := by decide +kernel
theorem dX6_best_57 : decode cX6_best 57 = .ok (.iconst 0, 1) := by decide +kernel
theorem dX6_best_58 : decode cX6_best 58 = .ok (.iaload, 1) := by decide +kernel
theorem dX6_best_59 : decode cX6_best 59 = .ok (.if_icmp .ge 75, 3) := by decide +kernel
theorem dX6_best_62 : decode cX6_best 62 = .ok (.aload_n 0, 1) := by decide +kernel
theorem dX6_best_63 : decode cX6_best 63 = .ok (.invokevirtual 169, 3) := by decide +kernel
theorem dX6_best_66 : decode cX6_best 66 = .ok (.aload_n 0, 1) := by decide +kernel
theorem dX6_best_67 : decode cX6_best 67 = .ok (.getfield 7, 3) := by decide +kernel
theorem dX6_best_70 : decode cX6_best 70 = .ok (.bipush 57, 2) := by decide +kernel
theorem dX6_best_72 : decode cX6_best 72 = .ok (.iload_n 1, 1) := by decide +kernel
theorem dX6_best_73 : decode cX6_best 73 = .ok (.iadd, 1) := by decide +kernel
theorem dX6_best_74 : decode cX6_best 74 = .ok (.iload 7, 2) := by decide +kernel
theorem dX6_best_76 : decode cX6_best 76 = .ok (.iastore, 1) := by decide +kernel
theorem dX6_best_77 : decode cX6_best 77 = .ok (.aload_n 0, 1) := by decide +kernel
theorem dX6_best_78 : decode cX6_best 78 = .ok (.iload_n 3, 1) := by decide +kernel
theorem dX6_best_79 : decode cX6_best 79 = .ok (.invokevirtual 172, 3) := by decide +kernel
theorem dX6_best_82 : decode cX6_best 82 = .ok (.aload_n 0, 1) := by decide +kernel
theorem dX6_best_83 : decode cX6_best 83 = .ok (.getfield 7, 3) := by decide +kernel
theorem dX6_best_86 : decode cX6_best 86 = .ok (.bipush 67, 2) := by decide +kernel
theorem dX6_best_88 : decode cX6_best 88 = .ok (.iload_n 2, 1) := by decide +kernel
theorem dX6_best_89 : decode cX6_best 89 = .ok (.iadd, 1) := by decide +kernel
theorem dX6_best_90 : decode cX6_best 90 = .ok (.iaload, 1) := by decide +kernel
theorem dX6_best_91 : decode cX6_best 91 = .ok (.invokestatic 140, 3) := by decide +kernel
theorem dX6_best_94 : decode cX6_best 94 = .ok (.istore 8, 2) := by decide +kernel
theorem dX6_best_96 : decode cX6_best 96 = .ok (.iload 8, 2) := by decide +kernel
theorem dX6_best_98 : decode cX6_best 98 = .ok (.iload 6, 2) := by decide +kernel
theorem dX6_best_100 : decode cX6_best 100 = .ok (.if_icmp .le 8, 3) := by decide +kernel
theorem dX6_best_103 : decode cX6_best 103 = .ok (.iload 7, 2) := by decide +kernel
theorem dX6_best_105 : decode cX6_best 105 = .ok (.goto 5, 3) := by decide +kernel
theorem dX6_best_108 : decode cX6_best 108 = .ok (.iload 5, 2) := by decide +kernel
theorem dX6_best_110 : decode cX6_best 110 = .ok (.istore 5, 2) := by decide +kernel
theorem dX6_best_112 : decode cX6_best 112 = .ok (.iload 8, 2) := by decide +kernel
theorem dX6_best_114 : decode cX6_best 114 = .ok (.iload 6, 2) := by decide +kernel
theorem dX6_best_116 : decode cX6_best 116 = .ok (.if_icmp .le 8, 3) := by decide +kernel
theorem dX6_best_119 : decode cX6_best 119 = .ok (.iload 8, 2) := by decide +kernel
theorem dX6_best_121 : decode cX6_best 121 = .ok (.goto 5, 3) := by decide +kernel
theorem dX6_best_124 : decode cX6_best 124 = .ok (.iload 6, 2) := by decide +kernel
theorem dX6_best_126 : decode cX6_best 126 = .ok (.istore 6, 2) := by decide +kernel
theorem dX6_best_128 : decode cX6_best 128 = .ok (.iinc 7 1, 3) := by decide +kernel
theorem dX6_best_131 : decode cX6_best 131 = .ok (.goto (-80), 3) := by decide +kernel
theorem dX6_best_134 : decode cX6_best 134 = .ok (.iload 4, 2) := by decide +kernel
theorem dX6_best_136 : decode cX6_best 136 = .ok (.ifCond .ne 8, 3) := by decide +kernel
theorem dX6_best_139 : decode cX6_best 139 = .ok (.iload 5, 2) := by decide +kernel
theorem dX6_best_141 : decode cX6_best 141 = .ok (.goto 5, 3) := by decide +kernel
theorem dX6_best_144 : decode cX6_best 144 = .ok (.iload 6, 2) := by decide +kernel
theorem dX6_best_146 : decode cX6_best 146 = .ok (.ireturn, 1) := by decide +kernel
set_option maxRecDepth 20000 in
theorem ggX6_piece_X6_isRoad : GoodIn wsX6_piece wsX6_isRoad := goodIn_r _ [9, 4, 23, 24, 25, 26, 27, 28, 29, 30, 31, 32, 33, 34, 35, 36, 37, 38] (by decide +kernel) (by decide +kernel)
set_option maxRecDepth 20000 in
theorem gX6_piece_X6_isRoad : GoodIn wsX6_piece (wsV RX6 143 RX6 yX6_isRoad wsX6_isRoad) := goodIn_app (goodIn_of _ (by decide +kernel)) ggX6_piece_X6_isRoad
set_option maxRecDepth 20000 in
theorem ggX6_piece_X6_in : GoodIn wsX6_piece wsX6_in := goodIn_r _ [12] (by decide +kernel) (by decide +kernel)
set_option maxRecDepth 20000 in
theorem gX6_piece_X6_in : GoodIn wsX6_piece (va_wsS RX6 34 yX6_in wsX6_in) := goodIn_app (goodIn_of _ (by decide +kernel)) ggX6_piece_X6_in
set_option maxRecDepth 20000 in
theorem ggX6_piece_X6_has : GoodIn wsX6_piece wsX6_has := goodIn_r _ [15] (by decide +kernel) (by decide +kernel)
set_option maxRecDepth 20000 in
theorem gX6_piece_X6_has : GoodIn wsX6_piece (va_wsS RX6 127 yX6_has wsX6_has) := goodIn_app (goodIn_of _ (by decide +kernel)) ggX6_piece_X6_has
set_option maxRecDepth 20000 in
theorem ggX6_piece_X6_all : GoodIn wsX6_piece wsX6_all := goodIn_r _ [19, 4, 23, 24, 25, 26, 27, 28, 29, 30, 31, 32, 33, 34, 35, 36, 37, 38] (by decide +kernel) (by decide +kernel)
set_option maxRecDepth 20000 in
theorem gX6_piece_X6_all : GoodIn wsX6_piece (wsV RX6 137 RX6 yX6_all wsX6_all) := goodIn_app (goodIn_of _ (by decide +kernel)) ggX6_piece_X6_all
set_option maxRecDepth 20000 in
theorem ggX6_piece_X6_ones : GoodIn wsX6_piece wsX6_ones := goodIn_r _ [22] (by decide +kernel) (by decide +kernel)
set_option maxRecDepth 20000 in
theorem gX6_piece_X6_ones : GoodIn wsX6_piece (va_wsS RX6 140 yX6_ones wsX6_ones) := goodIn_app (goodIn_of _ (by decide +kernel)) ggX6_piece_X6_ones
theorem dX6_piece_0 : decode cX6_piece 0 = .ok (.aload_n 0, 1) := by decide +kernel
theorem dX6_piece_1 : decode cX6_piece 1 = .ok (.invokevirtual 143, 3) := by decide +kernel
theorem dX6_piece_4 : decode cX6_piece 4 = .ok (.ifCond .ne 6, 3) := by decide +kernel
theorem dX6_piece_7 : decode cX6_piece 7 = .ok (.ldc 146, 2) := by decide +kernel
theorem dX6_piece_9 : decode cX6_piece 9 = .ok (.ireturn, 1) := by decide +kernel
theorem dX6_piece_10 : decode cX6_piece 10 = .ok (.iload_n 1, 1) := by decide +kernel
theorem dX6_piece_11 : decode cX6_piece 11 = .ok (.i2l, 1) := by decide +kernel
theorem dX6_piece_12 : decode cX6_piece 12 = .ok (.lconst 0, 1) := by decide +kernel
theorem dX6_piece_13 : decode cX6_piece 13 = .ok (.lconst 1, 1) := by decide +kernel
theorem dX6_piece_14 : decode cX6_piece 14 = .ok (.invokestatic 34, 3) := by decide +kernel
theorem dX6_piece_17 : decode cX6_piece 17 = .ok (.ifCond .ne 6, 3) := by decide +kernel
theorem dX6_piece_20 : decode cX6_piece 20 = .ok (.ldc 51, 2) := by decide +kernel
theorem dX6_piece_22 : decode cX6_piece 22 = .ok (.ireturn, 1) := by decide +kernel
theorem dX6_piece_23 : decode cX6_piece 23 = .ok (.ldc 176, 2) := by decide +kernel
theorem dX6_piece_25 : decode cX6_piece 25 = .ok (.istore_n 2, 1) := by decide +kernel
theorem dX6_piece_26 : decode cX6_piece 26 = .ok (.iconst 1, 1) := by decide +kernel
theorem dX6_piece_27 : decode cX6_piece 27 = .ok (.istore_n 3, 1) := by decide +kernel
theorem dX6_piece_28 : decode cX6_piece 28 = .ok (.iload_n 3, 1) := by decide +kernel
theorem dX6_piece_29 : decode cX6_piece 29 = .ok (.iconst 1, 1) := by decide +kernel
theorem dX6_piece_30 : decode cX6_piece 30 = .ok (.aload_n 0, 1) := by decide +kernel
theorem dX6_piece_31 : decode cX6_piece 31 = .ok (.getfield 7, 3) := by decide +kernel
theorem dX6_piece_34 : decode cX6_piece 34 = .ok (.iconst 0, 1) := by decide +kernel
theorem dX6_piece_35 : decode cX6_piece 35 = .ok (.iaload, 1) := by decide +kernel
theorem dX6_piece_36 : decode cX6_piece 36 = .ok (.ishl, 1) := by decide +kernel
theorem dX6_piece_37 : decode cX6_piece 37 = .ok (.if_icmp .ge 91, 3) := by decide +kernel
theorem dX6_piece_40 : decode cX6_piece 40 = .ok (.iconst 0, 1) := by decide +kernel
theorem dX6_piece_41 : decode cX6_piece 41 = .ok (.istore 4, 2) := by decide +kernel
theorem dX6_piece_43 : decode cX6_piece 43 = .ok (.iconst 0, 1) := by decide +kernel
theorem dX6_piece_44 : decode cX6_piece 44 = .ok (.istore 5, 2) := by decide +kernel
theorem dX6_piece_46 : decode cX6_piece 46 = .ok (.iload 5, 2) := by decide +kernel
theorem dX6_piece_48 : decode cX6_piece 48 = .ok (.aload_n 0, 1) := by decide +kernel
theorem dX6_piece_49 : decode cX6_piece 49 = .ok (.getfield 7, 3) := by decide +kernel
theorem dX6_piece_52 : decode cX6_piece 52 = .ok (.iconst 0, 1) := by decide +kernel
theorem dX6_piece_53 : decode cX6_piece 53 = .ok (.iaload, 1) := by decide +kernel
theorem dX6_piece_54 : decode cX6_piece 54 = .ok (.if_icmp .ge 37, 3) := by decide +kernel
theorem dX6_piece_57 : decode cX6_piece 57 = .ok (.iload 4, 2) := by decide +kernel
theorem dX6_piece_59 : decode cX6_piece 59 = .ok (.iload_n 3, 1) := by decide +kernel
theorem dX6_piece_60 : decode cX6_piece 60 = .ok (.iload 5, 2) := by decide +kernel
theorem dX6_piece_62 : decode cX6_piece 62 = .ok (.invokestatic 127, 3) := by decide +kernel
theorem dX6_piece_65 : decode cX6_piece 65 = .ok (.ifCond .eq 16, 3) := by decide +kernel
theorem dX6_piece_68 : decode cX6_piece 68 = .ok (.aload_n 0, 1) := by decide +kernel
theorem dX6_piece_69 : decode cX6_piece 69 = .ok (.getfield 7, 3) := by decide +kernel
theorem dX6_piece_72 : decode cX6_piece 72 = .ok (.bipush 29, 2) := by decide +kernel
theorem dX6_piece_74 : decode cX6_piece 74 = .ok (.iload 5, 2) := by decide +kernel
theorem dX6_piece_76 : decode cX6_piece 76 = .ok (.iadd, 1) := by decide +kernel
theorem dX6_piece_77 : decode cX6_piece 77 = .ok (.iaload, 1) := by decide +kernel
theorem dX6_piece_78 : decode cX6_piece 78 = .ok (.goto 4, 3) := by decide +kernel
theorem dX6_piece_81 : decode cX6_piece 81 = .ok (.iconst 0, 1) := by decide +kernel
theorem dX6_piece_82 : decode cX6_piece 82 = .ok (.ior, 1) := by decide +kernel
theorem dX6_piece_83 : decode cX6_piece 83 = .ok (.istore 4, 2) := by decide +kernel
theorem dX6_piece_85 : decode cX6_piece 85 = .ok (.iinc 5 1, 3) := by decide +kernel
theorem dX6_piece_88 : decode cX6_piece 88 = .ok (.goto (-42), 3) := by decide +kernel
theorem dX6_piece_91 : decode cX6_piece 91 = .ok (.iload 4, 2) := by decide +kernel
theorem dX6_piece_93 : decode cX6_piece 93 = .ok (.aload_n 0, 1) := by decide +kernel
theorem dX6_piece_94 : decode cX6_piece 94 = .ok (.iconst 0, 1) := by decide +kernel
theorem dX6_piece_95 : decode cX6_piece 95 = .ok (.invokevirtual 137, 3) := by decide +kernel
theorem dX6_piece_98 : decode cX6_piece 98 = .ok (.if_icmp .ne 22, 3) := by decide +kernel
theorem dX6_piece_101 : decode cX6_piece 101 = .ok (.iload_n 2, 1) := by decide +kernel
theorem dX6_piece_102 : decode cX6_piece 102 = .ok (.ifCond .lt 14, 3) := by decide +kernel
theorem dX6_piece_105 : decode cX6_piece 105 = .ok (.iload_n 3, 1) := by decide +kernel
theorem dX6_piece_106 : decode cX6_piece 106 = .ok (.invokestatic 140, 3) := by decide +kernel
theorem dX6_piece_109 : decode cX6_piece 109 = .ok (.iload_n 2, 1) := by decide +kernel
theorem dX6_piece_110 : decode cX6_piece 110 = .ok (.invokestatic 140, 3) := by decide +kernel
theorem dX6_piece_113 : decode cX6_piece 113 = .ok (.if_icmp .ge 7, 3) := by decide +kernel
theorem dX6_piece_116 : decode cX6_piece 116 = .ok (.iload_n 3, 1) := by decide +kernel
theorem dX6_piece_117 : decode cX6_piece 117 = .ok (.goto 4, 3) := by decide +kernel
theorem dX6_piece_120 : decode cX6_piece 120 = .ok (.iload_n 2, 1) := by decide +kernel
theorem dX6_piece_121 : decode cX6_piece 121 = .ok (.istore_n 2, 1) := by decide +kernel
theorem dX6_piece_122 : decode cX6_piece 122 = .ok (.iinc 3 1, 3) := by decide +kernel
theorem dX6_piece_125 : decode cX6_piece 125 = .ok (.goto (-97), 3) := by decide +kernel
theorem dX6_piece_128 : decode cX6_piece 128 = .ok (.iload_n 2, 1) := by decide +kernel
theorem dX6_piece_129 : decode cX6_piece 129 = .ok (.ifCond .ge 8, 3) := by decide +kernel
theorem dX6_piece_132 : decode cX6_piece 132 = .ok (.ldc 176, 2) := by decide +kernel
theorem dX6_piece_134 : decode cX6_piece 134 = .ok (.goto 15, 3) := by decide +kernel
theorem dX6_piece_137 : decode cX6_piece 137 = .ok (.iload_n 1, 1) := by decide +kernel
theorem dX6_piece_138 : decode cX6_piece 138 = .ok (.ifCond .ne 10, 3) := by decide +kernel
theorem dX6_piece_141 : decode cX6_piece 141 = .ok (.iload_n 2, 1) := by decide +kernel
theorem dX6_piece_142 : decode cX6_piece 142 = .ok (.invokestatic 140, 3) := by decide +kernel
theorem dX6_piece_145 : decode cX6_piece 145 = .ok (.goto 4, 3) := by decide +kernel
theorem dX6_piece_148 : decode cX6_piece 148 = .ok (.iload_n 2, 1) := by decide +kernel
theorem dX6_piece_149 : decode cX6_piece 149 = .ok (.ireturn, 1) := by decide +kernel
set_option maxRecDepth 20000 in
theorem ggX6_laysSaid_X6_tries : GoodIn wsX6_laysSaid wsX6_tries := goodIn_r _ [7, 8, 9, 10, 6, 11, 2, 35, 36, 37, 38, 39, 40, 41, 42, 43, 44, 45, 46, 47, 48, 49, 50] (by decide +kernel) (by decide +kernel)
set_option maxRecDepth 20000 in
theorem gX6_laysSaid_X6_tries : GoodIn wsX6_laysSaid (wsV RX6 169 RX6 yX6_tries wsX6_tries) := goodIn_app (goodIn_of _ (by decide +kernel)) ggX6_laysSaid_X6_tries
set_option maxRecDepth 20000 in
theorem ggX6_laysSaid_X6_councilsIn : GoodIn wsX6_laysSaid wsX6_councilsIn := goodIn_r _ [15, 2, 35, 36, 37, 38, 39, 40, 41, 42, 43, 44, 45, 46, 47, 48, 49, 50] (by decide +kernel) (by decide +kernel)
set_option maxRecDepth 20000 in
theorem gX6_laysSaid_X6_councilsIn : GoodIn wsX6_laysSaid (wsV RX6 130 RX6 yX6_councilsIn wsX6_councilsIn) := goodIn_app (goodIn_of _ (by decide +kernel)) ggX6_laysSaid_X6_councilsIn
set_option maxRecDepth 20000 in
theorem ggX6_laysSaid_X6_has : GoodIn wsX6_laysSaid wsX6_has := goodIn_r _ [18] (by decide +kernel) (by decide +kernel)
set_option maxRecDepth 20000 in
theorem gX6_laysSaid_X6_has : GoodIn wsX6_laysSaid (va_wsS RX6 127 yX6_has wsX6_has) := goodIn_app (goodIn_of _ (by decide +kernel)) ggX6_laysSaid_X6_has
set_option maxRecDepth 20000 in
theorem ggX6_laysSaid_X6_saysIn : GoodIn wsX6_laysSaid wsX6_saysIn := goodIn_r _ [22, 2, 23, 24, 25, 6, 26, 35, 36, 37, 38, 39, 40, 41, 42, 43, 44, 45, 46, 47, 48, 49, 50] (by decide +kernel) (by decide +kernel)
set_option maxRecDepth 20000 in
theorem gX6_laysSaid_X6_saysIn : GoodIn wsX6_laysSaid (wsV RX6 124 RX6 yX6_saysIn wsX6_saysIn) := goodIn_app (goodIn_of _ (by decide +kernel)) ggX6_laysSaid_X6_saysIn
set_option maxRecDepth 20000 in
theorem ggX6_laysSaid_X6_hourBy : GoodIn wsX6_laysSaid wsX6_hourBy := goodIn_r _ [30, 2, 12, 13, 14, 6, 15, 16, 17, 18, 31, 32, 33, 34, 19, 20, 21, 22, 23, 24, 25, 26, 35, 36, 37, 38, 39, 40, 41, 42, 43, 44, 45, 46, 47, 48, 49, 50] (by decide +kernel) (by decide +kernel)
set_option maxRecDepth 20000 in
theorem gX6_laysSaid_X6_hourBy : GoodIn wsX6_laysSaid (wsV RX6 152 RX6 yX6_hourBy wsX6_hourBy) := goodIn_app (goodIn_of _ (by decide +kernel)) ggX6_laysSaid_X6_hourBy
theorem dX6_laysSaid_0 : decode cX6_laysSaid 0 = .ok (.aload_n 0, 1) := by decide +kernel
theorem dX6_laysSaid_1 : decode cX6_laysSaid 1 = .ok (.invokevirtual 169, 3) := by decide +kernel
theorem dX6_laysSaid_4 : decode cX6_laysSaid 4 = .ok (.iconst 0, 1) := by decide +kernel
theorem dX6_laysSaid_5 : decode cX6_laysSaid 5 = .ok (.istore_n 2, 1) := by decide +kernel
theorem dX6_laysSaid_6 : decode cX6_laysSaid 6 = .ok (.iload_n 2, 1) := by decide +kernel
theorem dX6_laysSaid_7 : decode cX6_laysSaid 7 = .ok (.iload_n 1, 1) := by decide +kernel
theorem dX6_laysSaid_8 : decode cX6_laysSaid 8 = .ok (.if_icmp .ge 116, 3) := by decide +kernel
theorem dX6_laysSaid_11 : decode cX6_laysSaid 11 = .ok (.aload_n 0, 1) := by decide +kernel
theorem dX6_laysSaid_12 : decode cX6_laysSaid 12 = .ok (.bipush 38, 2) := by decide +kernel
theorem dX6_laysSaid_14 : decode cX6_laysSaid 14 = .ok (.invokevirtual 130, 3) := by decide +kernel
theorem dX6_laysSaid_17 : decode cX6_laysSaid 17 = .ok (.istore_n 3, 1) := by decide +kernel
theorem dX6_laysSaid_18 : decode cX6_laysSaid 18 = .ok (.iconst 0, 1) := by decide +kernel
theorem dX6_laysSaid_19 : decode cX6_laysSaid 19 = .ok (.istore 4, 2) := by decide +kernel
theorem dX6_laysSaid_21 : decode cX6_laysSaid 21 = .ok (.iload 4, 2) := by decide +kernel
theorem dX6_laysSaid_23 : decode cX6_laysSaid 23 = .ok (.bipush 9, 2) := by decide +kernel
theorem dX6_laysSaid_25 : decode cX6_laysSaid 25 = .ok (.if_icmp .ge 22, 3) := by decide +kernel
theorem dX6_laysSaid_28 : decode cX6_laysSaid 28 = .ok (.aload_n 0, 1) := by decide +kernel
theorem dX6_laysSaid_29 : decode cX6_laysSaid 29 = .ok (.getfield 28, 3) := by decide +kernel
theorem dX6_laysSaid_32 : decode cX6_laysSaid 32 = .ok (.bipush 9, 2) := by decide +kernel
theorem dX6_laysSaid_34 : decode cX6_laysSaid 34 = .ok (.iload_n 2, 1) := by decide +kernel
theorem dX6_laysSaid_35 : decode cX6_laysSaid 35 = .ok (.imul, 1) := by decide +kernel
theorem dX6_laysSaid_36 : decode cX6_laysSaid 36 = .ok (.iload 4, 2) := by decide +kernel
theorem dX6_laysSaid_38 : decode cX6_laysSaid 38 = .ok (.iadd, 1) := by decide +kernel
theorem dX6_laysSaid_39 : decode cX6_laysSaid 39 = .ok (.iconst 0, 1) := by decide +kernel
theorem dX6_laysSaid_40 : decode cX6_laysSaid 40 = .ok (.iastore, 1) := by decide +kernel
theorem dX6_laysSaid_41 : decode cX6_laysSaid 41 = .ok (.iinc 4 1, 3) := by decide +kernel
theorem dX6_laysSaid_44 : decode cX6_laysSaid 44 = .ok (.goto (-23), 3) := by decide +kernel
theorem dX6_laysSaid_47 : decode cX6_laysSaid 47 = .ok (.iconst 0, 1) := by decide +kernel
theorem dX6_laysSaid_48 : decode cX6_laysSaid 48 = .ok (.istore 4, 2) := by decide +kernel
theorem dX6_laysSaid_50 : decode cX6_laysSaid 50 = .ok (.iload 4, 2) := by decide +kernel
theorem dX6_laysSaid_52 : decode cX6_laysSaid 52 = .ok (.aload_n 0, 1) := by decide +kernel
theorem dX6_laysSaid_53 : decode cX6_laysSaid 53 = .ok (.getfield 7, 3) := by decide +kernel
theorem dX6_laysSaid_56 : decode cX6_laysSaid 56 = .ok (.iconst 1, 1) := by decide +kernel
theorem dX6_laysSaid_57 : decode cX6_laysSaid 57 = .ok (.iaload, 1) := by decide +kernel
theorem dX6_laysSaid_58 : decode cX6_laysSaid 58 = .ok (.if_icmp .ge 53, 3) := by decide +kernel
theorem dX6_laysSaid_61 : decode cX6_laysSaid 61 = .ok (.aload_n 0, 1) := by decide +kernel
theorem dX6_laysSaid_62 : decode cX6_laysSaid 62 = .ok (.getfield 28, 3) := by decide +kernel
theorem dX6_laysSaid_65 : decode cX6_laysSaid 65 = .ok (.bipush 9, 2) := by decide +kernel
theorem dX6_laysSaid_67 : decode cX6_laysSaid 67 = .ok (.iload_n 2, 1) := by decide +kernel
theorem dX6_laysSaid_68 : decode cX6_laysSaid 68 = .ok (.imul, 1) := by decide +kernel
theorem dX6_laysSaid_69 : decode cX6_laysSaid 69 = .ok (.aload_n 0, 1) := by decide +kernel
theorem dX6_laysSaid_70 : decode cX6_laysSaid 70 = .ok (.getfield 7, 3) := by decide +kernel
theorem dX6_laysSaid_73 : decode cX6_laysSaid 73 = .ok (.bipush 57, 2) := by decide +kernel
theorem dX6_laysSaid_75 : decode cX6_laysSaid 75 = .ok (.iload 4, 2) := by decide +kernel
theorem dX6_laysSaid_77 : decode cX6_laysSaid 77 = .ok (.iadd, 1) := by decide +kernel
theorem dX6_laysSaid_78 : decode cX6_laysSaid 78 = .ok (.iaload, 1) := by decide +kernel
theorem dX6_laysSaid_79 : decode cX6_laysSaid 79 = .ok (.iadd, 1) := by decide +kernel
theorem dX6_laysSaid_80 : decode cX6_laysSaid 80 = .ok (.dup2, 1) := by decide +kernel
theorem dX6_laysSaid_81 : decode cX6_laysSaid 81 = .ok (.iaload, 1) := by decide +kernel
theorem dX6_laysSaid_82 : decode cX6_laysSaid 82 = .ok (.iload_n 3, 1) := by decide +kernel
theorem dX6_laysSaid_83 : decode cX6_laysSaid 83 = .ok (.iload 4, 2) := by decide +kernel
theorem dX6_laysSaid_85 : decode cX6_laysSaid 85 = .ok (.invokestatic 127, 3) := by decide +kernel
theorem dX6_laysSaid_88 : decode cX6_laysSaid 88 = .ok (.ifCond .eq 7, 3) := by decide +kernel
theorem dX6_laysSaid_91 : decode cX6_laysSaid 91 = .ok (.iconst 0, 1) := by decide +kernel
theorem dX6_laysSaid_92 : decode cX6_laysSaid 92 = .ok (.goto 11, 3) := by decide +kernel
theorem dX6_laysSaid_95 : decode cX6_laysSaid 95 = .ok (.aload_n 0, 1) := by decide +kernel
theorem dX6_laysSaid_96 : decode cX6_laysSaid 96 = .ok (.bipush 38, 2) := by decide +kernel
theorem dX6_laysSaid_98 : decode cX6_laysSaid 98 = .ok (.iload 4, 2) := by decide +kernel
theorem dX6_laysSaid_100 : decode cX6_laysSaid 100 = .ok (.invokevirtual 124, 3) := by decide +kernel
theorem dX6_laysSaid_103 : decode cX6_laysSaid 103 = .ok (.ior, 1) := by decide +kernel
theorem dX6_laysSaid_104 : decode cX6_laysSaid 104 = .ok (.iastore, 1) := by decide +kernel
theorem dX6_laysSaid_105 : decode cX6_laysSaid 105 = .ok (.iinc 4 1, 3) := by decide +kernel
theorem dX6_laysSaid_108 : decode cX6_laysSaid 108 = .ok (.goto (-58), 3) := by decide +kernel
theorem dX6_laysSaid_111 : decode cX6_laysSaid 111 = .ok (.aload_n 0, 1) := by decide +kernel
theorem dX6_laysSaid_112 : decode cX6_laysSaid 112 = .ok (.bipush 38, 2) := by decide +kernel
theorem dX6_laysSaid_114 : decode cX6_laysSaid 114 = .ok (.iconst 0, 1) := by decide +kernel
theorem dX6_laysSaid_115 : decode cX6_laysSaid 115 = .ok (.invokevirtual 152, 3) := by decide +kernel
theorem dX6_laysSaid_118 : decode cX6_laysSaid 118 = .ok (.iinc 2 1, 3) := by decide +kernel
theorem dX6_laysSaid_121 : decode cX6_laysSaid 121 = .ok (.goto (-115), 3) := by decide +kernel
theorem dX6_laysSaid_124 : decode cX6_laysSaid 124 = .ok (.return_, 1) := by decide +kernel
set_option maxRecDepth 20000 in
theorem ggX6_walk_X6_isStretch : GoodIn wsX6_walk wsX6_isStretch := goodIn_r _ [9, 3, 10, 11, 8, 12, 51, 52, 53, 54, 55, 56, 57, 58, 59, 60, 61, 62, 63, 64, 65, 66] (by decide +kernel) (by decide +kernel)
set_option maxRecDepth 20000 in
theorem gX6_walk_X6_isStretch : GoodIn wsX6_walk (wsV RX6 161 RX6 yX6_isStretch wsX6_isStretch) := goodIn_app (goodIn_of _ (by decide +kernel)) ggX6_walk_X6_isStretch
set_option maxRecDepth 20000 in
theorem ggX6_walk_X6_in : GoodIn wsX6_walk wsX6_in := goodIn_r _ [12] (by decide +kernel) (by decide +kernel)
set_option maxRecDepth 20000 in
theorem gX6_walk_X6_in : GoodIn wsX6_walk (va_wsS RX6 34 yX6_in wsX6_in) := goodIn_app (goodIn_of _ (by decide +kernel)) ggX6_walk_X6_in
set_option maxRecDepth 20000 in
theorem ggX6_walk_X6_laysSaid : GoodIn wsX6_walk wsX6_laysSaid := goodIn_r _ [16, 4, 3, 17, 18, 19, 8, 20, 21, 22, 23, 24, 25, 26, 27, 28, 29, 30, 31, 32, 33, 34, 35, 36, 37, 38, 39, 40, 41, 42, 43, 44, 45, 46, 47, 51, 52, 53, 54, 55, 56, 57, 58, 59, 60, 61, 62, 63, 64, 65, 66] (by decide +kernel) (by decide +kernel)
set_option maxRecDepth 20000 in
theorem gX6_walk_X6_laysSaid : GoodIn wsX6_walk (wsV RX6 184 RX6 yX6_laysSaid wsX6_laysSaid) := goodIn_app (goodIn_of _ (by decide +kernel)) ggX6_walk_X6_laysSaid
set_option maxRecDepth 20000 in
theorem ggX6_walk_X6_has : GoodIn wsX6_walk wsX6_has := goodIn_r _ [31] (by decide +kernel) (by decide +kernel)
set_option maxRecDepth 20000 in
theorem gX6_walk_X6_has : GoodIn wsX6_walk (va_wsS RX6 127 yX6_has wsX6_has) := goodIn_app (goodIn_of _ (by decide +kernel)) ggX6_walk_X6_has
set_option maxRecDepth 20000 in
theorem ggX6_walk_X6_ones : GoodIn wsX6_walk wsX6_ones := goodIn_r _ [50] (by decide +kernel) (by decide +kernel)
set_option maxRecDepth 20000 in
theorem gX6_walk_X6_ones : GoodIn wsX6_walk (va_wsS RX6 140 yX6_ones wsX6_ones) := goodIn_app (goodIn_of _ (by decide +kernel)) ggX6_walk_X6_ones
theorem dX6_walk_0 : decode cX6_walk 0 = .ok (.aload_n 0, 1) := by decide +kernel
theorem dX6_walk_1 : decode cX6_walk 1 = .ok (.iload_n 1, 1) := by decide +kernel
theorem dX6_walk_2 : decode cX6_walk 2 = .ok (.invokevirtual 161, 3) := by decide +kernel
theorem dX6_walk_5 : decode cX6_walk 5 = .ok (.ifCond .eq 25, 3) := by decide +kernel
theorem dX6_walk_8 : decode cX6_walk 8 = .ok (.iload_n 2, 1) := by decide +kernel
theorem dX6_walk_9 : decode cX6_walk 9 = .ok (.i2l, 1) := by decide +kernel
theorem dX6_walk_10 : decode cX6_walk 10 = .ok (.lconst 1, 1) := by decide +kernel
theorem dX6_walk_11 : decode cX6_walk 11 = .ok (.ldc2_w 182, 3) := by decide +kernel
theorem dX6_walk_14 : decode cX6_walk 14 = .ok (.invokestatic 34, 3) := by decide +kernel
theorem dX6_walk_17 : decode cX6_walk 17 = .ok (.ifCond .eq 13, 3) := by decide +kernel
theorem dX6_walk_20 : decode cX6_walk 20 = .ok (.iload_n 3, 1) := by decide +kernel
theorem dX6_walk_21 : decode cX6_walk 21 = .ok (.i2l, 1) := by decide +kernel
theorem dX6_walk_22 : decode cX6_walk 22 = .ok (.lconst 0, 1) := by decide +kernel
theorem dX6_walk_23 : decode cX6_walk 23 = .ok (.lconst 1, 1) := by decide +kernel
theorem dX6_walk_24 : decode cX6_walk 24 = .ok (.invokestatic 34, 3) := by decide +kernel
theorem dX6_walk_27 : decode cX6_walk 27 = .ok (.ifCond .ne 6, 3) := by decide +kernel
theorem dX6_walk_30 : decode cX6_walk 30 = .ok (.ldc 51, 2) := by decide +kernel
theorem dX6_walk_32 : decode cX6_walk 32 = .ok (.ireturn, 1) := by decide +kernel
theorem dX6_walk_33 : decode cX6_walk 33 = .ok (.aload_n 0, 1) := by decide +kernel
theorem dX6_walk_34 : decode cX6_walk 34 = .ok (.iload_n 2, 1) := by decide +kernel
theorem dX6_walk_35 : decode cX6_walk 35 = .ok (.invokevirtual 184, 3) := by decide +kernel
theorem dX6_walk_38 : decode cX6_walk 38 = .ok (.iconst 0, 1) := by decide +kernel
theorem dX6_walk_39 : decode cX6_walk 39 = .ok (.istore 4, 2) := by decide +kernel
theorem dX6_walk_41 : decode cX6_walk 41 = .ok (.iconst (-1), 1) := by decide +kernel
theorem dX6_walk_42 : decode cX6_walk 42 = .ok (.istore 5, 2) := by decide +kernel
theorem dX6_walk_44 : decode cX6_walk 44 = .ok (.iconst 0, 1) := by decide +kernel
theorem dX6_walk_45 : decode cX6_walk 45 = .ok (.istore 6, 2) := by decide +kernel
theorem dX6_walk_47 : decode cX6_walk 47 = .ok (.iload 6, 2) := by decide +kernel
theorem dX6_walk_49 : decode cX6_walk 49 = .ok (.iconst 1, 1) := by decide +kernel
theorem dX6_walk_50 : decode cX6_walk 50 = .ok (.iload_n 2, 1) := by decide +kernel
theorem dX6_walk_51 : decode cX6_walk 51 = .ok (.ishl, 1) := by decide +kernel
theorem dX6_walk_52 : decode cX6_walk 52 = .ok (.if_icmp .ge 117, 3) := by decide +kernel
theorem dX6_walk_55 : decode cX6_walk 55 = .ok (.iload_n 1, 1) := by decide +kernel
theorem dX6_walk_56 : decode cX6_walk 56 = .ok (.istore 7, 2) := by decide +kernel
theorem dX6_walk_58 : decode cX6_walk 58 = .ok (.iconst 0, 1) := by decide +kernel
theorem dX6_walk_59 : decode cX6_walk 59 = .ok (.istore 8, 2) := by decide +kernel
theorem dX6_walk_61 : decode cX6_walk 61 = .ok (.iconst 0, 1) := by decide +kernel
theorem dX6_walk_62 : decode cX6_walk 62 = .ok (.istore 9, 2) := by decide +kernel
theorem dX6_walk_64 : decode cX6_walk 64 = .ok (.iload 9, 2) := by decide +kernel
theorem dX6_walk_66 : decode cX6_walk 66 = .ok (.iload_n 2, 1) := by decide +kernel
theorem dX6_walk_67 : decode cX6_walk 67 = .ok (.if_icmp .ge 55, 3) := by decide +kernel
theorem dX6_walk_70 : decode cX6_walk 70 = .ok (.iload 6, 2) := by decide +kernel
theorem dX6_walk_72 : decode cX6_walk 72 = .ok (.iload 9, 2) := by decide +kernel
theorem dX6_walk_74 : decode cX6_walk 74 = .ok (.invokestatic 127, 3) := by decide +kernel
theorem dX6_walk_77 : decode cX6_walk 77 = .ok (.ifCond .eq 17, 3) := by decide +kernel
theorem dX6_walk_80 : decode cX6_walk 80 = .ok (.iload 7, 2) := by decide +kernel
theorem dX6_walk_82 : decode cX6_walk 82 = .ok (.iconst 1, 1) := by decide +kernel
theorem dX6_walk_83 : decode cX6_walk 83 = .ok (.iadd, 1) := by decide +kernel
theorem dX6_walk_84 : decode cX6_walk 84 = .ok (.aload_n 0, 1) := by decide +kernel
theorem dX6_walk_85 : decode cX6_walk 85 = .ok (.getfield 7, 3) := by decide +kernel
theorem dX6_walk_88 : decode cX6_walk 88 = .ok (.iconst 0, 1) := by decide +kernel
theorem dX6_walk_89 : decode cX6_walk 89 = .ok (.iaload, 1) := by decide +kernel
theorem dX6_walk_90 : decode cX6_walk 90 = .ok (.irem, 1) := by decide +kernel
theorem dX6_walk_91 : decode cX6_walk 91 = .ok (.goto 5, 3) := by decide +kernel
theorem dX6_walk_94 : decode cX6_walk 94 = .ok (.iload 7, 2) := by decide +kernel
theorem dX6_walk_96 : decode cX6_walk 96 = .ok (.istore 7, 2) := by decide +kernel
theorem dX6_walk_98 : decode cX6_walk 98 = .ok (.iload 8, 2) := by decide +kernel
theorem dX6_walk_100 : decode cX6_walk 100 = .ok (.aload_n 0, 1) := by decide +kernel
theorem dX6_walk_101 : decode cX6_walk 101 = .ok (.getfield 28, 3) := by decide +kernel
theorem dX6_walk_104 : decode cX6_walk 104 = .ok (.bipush 9, 2) := by decide +kernel
theorem dX6_walk_106 : decode cX6_walk 106 = .ok (.iload 9, 2) := by decide +kernel
theorem dX6_walk_108 : decode cX6_walk 108 = .ok (.imul, 1) := by decide +kernel
theorem dX6_walk_109 : decode cX6_walk 109 = .ok (.iload 7, 2) := by decide +kernel
theorem dX6_walk_111 : decode cX6_walk 111 = .ok (.iadd, 1) := by decide +kernel
theorem dX6_walk_112 : decode cX6_walk 112 = .ok (.iaload, 1) := by decide +kernel
theorem dX6_walk_113 : decode cX6_walk 113 = .ok (.ior, 1) := by decide +kernel
theorem dX6_walk_114 : decode cX6_walk 114 = .ok (.istore 8, 2) := by decide +kernel
theorem dX6_walk_116 : decode cX6_walk 116 = .ok (.iinc 9 1, 3) := by decide +kernel
theorem dX6_walk_119 : decode cX6_walk 119 = .ok (.goto (-55), 3) := by decide +kernel
theorem dX6_walk_122 : decode cX6_walk 122 = .ok (.iload 8, 2) := by decide +kernel
theorem dX6_walk_124 : decode cX6_walk 124 = .ok (.invokestatic 140, 3) := by decide +kernel
theorem dX6_walk_127 : decode cX6_walk 127 = .ok (.iload 5, 2) := by decide +kernel
theorem dX6_walk_129 : decode cX6_walk 129 = .ok (.if_icmp .le 8, 3) := by decide +kernel
theorem dX6_walk_132 : decode cX6_walk 132 = .ok (.iload 6, 2) := by decide +kernel
theorem dX6_walk_134 : decode cX6_walk 134 = .ok (.goto 5, 3) := by decide +kernel
theorem dX6_walk_137 : decode cX6_walk 137 = .ok (.iload 4, 2) := by decide +kernel
theorem dX6_walk_139 : decode cX6_walk 139 = .ok (.istore 4, 2) := by decide +kernel
theorem dX6_walk_141 : decode cX6_walk 141 = .ok (.iload 8, 2) := by decide +kernel
theorem dX6_walk_143 : decode cX6_walk 143 = .ok (.invokestatic 140, 3) := by decide +kernel
theorem dX6_walk_146 : decode cX6_walk 146 = .ok (.iload 5, 2) := by decide +kernel
theorem dX6_walk_148 : decode cX6_walk 148 = .ok (.if_icmp .le 11, 3) := by decide +kernel
theorem dX6_walk_151 : decode cX6_walk 151 = .ok (.iload 8, 2) := by decide +kernel
theorem dX6_walk_153 : decode cX6_walk 153 = .ok (.invokestatic 140, 3) := by decide +kernel
theorem dX6_walk_156 : decode cX6_walk 156 = .ok (.goto 5, 3) := by decide +kernel
theorem dX6_walk_159 : decode cX6_walk 159 = .ok (.iload 5, 2) := by decide +kernel
theorem dX6_walk_161 : decode cX6_walk 161 = .ok (.istore 5, 2) := by decide +kernel
theorem dX6_walk_163 : decode cX6_walk 163 = .ok (.iinc 6 1, 3) := by decide +kernel
theorem dX6_walk_166 : decode cX6_walk 166 = .ok (.goto (-119), 3) := by decide +kernel
theorem dX6_walk_169 : decode cX6_walk 169 = .ok (.iload_n 3, 1) := by decide +kernel
theorem dX6_walk_170 : decode cX6_walk 170 = .ok (.ifCond .ne 8, 3) := by decide +kernel
theorem dX6_walk_173 : decode cX6_walk 173 = .ok (.iload 5, 2) := by decide +kernel
theorem dX6_walk_175 : decode cX6_walk 175 = .ok (.goto 5, 3) := by decide +kernel
theorem dX6_walk_178 : decode cX6_walk 178 = .ok (.iload 4, 2) := by decide +kernel
theorem dX6_walk_180 : decode cX6_walk 180 = .ok (.ireturn, 1) := by decide +kernel
set_option maxRecDepth 20000 in
theorem ggX6_isSo_X6_hourBy : GoodIn wsX6_isSo wsX6_hourBy := goodIn_r _ [7, 1, 8, 9, 10, 6, 11, 12, 13, 14, 15, 16, 17, 18, 19, 20, 21, 22, 23, 24, 25, 26, 27, 28, 29, 30, 31, 32, 33, 34, 35, 36, 37, 38, 39, 40, 41, 42] (by decide +kernel) (by decide +kernel)
set_option maxRecDepth 20000 in
theorem gX6_isSo_X6_hourBy : GoodIn wsX6_isSo (wsV RX6 152 RX6 yX6_hourBy wsX6_hourBy) := goodIn_app (goodIn_of _ (by decide +kernel)) ggX6_isSo_X6_hourBy
theorem dX6_isSo_0 : decode cX6_isSo 0 = .ok (.iconst 1, 1) := by decide +kernel
theorem dX6_isSo_1 : decode cX6_isSo 1 = .ok (.istore 4, 2) := by decide +kernel
theorem dX6_isSo_3 : decode cX6_isSo 3 = .ok (.iconst 0, 1) := by decide +kernel
theorem dX6_isSo_4 : decode cX6_isSo 4 = .ok (.istore 5, 2) := by decide +kernel
theorem dX6_isSo_6 : decode cX6_isSo 6 = .ok (.iload 5, 2) := by decide +kernel
theorem dX6_isSo_8 : decode cX6_isSo 8 = .ok (.iload_n 3, 1) := by decide +kernel
theorem dX6_isSo_9 : decode cX6_isSo 9 = .ok (.if_icmp .ge 49, 3) := by decide +kernel
theorem dX6_isSo_12 : decode cX6_isSo 12 = .ok (.iload 4, 2) := by decide +kernel
theorem dX6_isSo_14 : decode cX6_isSo 14 = .ok (.ifCond .eq 44, 3) := by decide +kernel
theorem dX6_isSo_17 : decode cX6_isSo 17 = .ok (.aload_n 0, 1) := by decide +kernel
theorem dX6_isSo_18 : decode cX6_isSo 18 = .ok (.bipush 38, 2) := by decide +kernel
theorem dX6_isSo_20 : decode cX6_isSo 20 = .ok (.iconst 0, 1) := by decide +kernel
theorem dX6_isSo_21 : decode cX6_isSo 21 = .ok (.invokevirtual 152, 3) := by decide +kernel
theorem dX6_isSo_24 : decode cX6_isSo 24 = .ok (.aload_n 0, 1) := by decide +kernel
theorem dX6_isSo_25 : decode cX6_isSo 25 = .ok (.getfield 7, 3) := by decide +kernel
theorem dX6_isSo_28 : decode cX6_isSo 28 = .ok (.bipush 57, 2) := by decide +kernel
theorem dX6_isSo_30 : decode cX6_isSo 30 = .ok (.iload_n 1, 1) := by decide +kernel
theorem dX6_isSo_31 : decode cX6_isSo 31 = .ok (.iadd, 1) := by decide +kernel
theorem dX6_isSo_32 : decode cX6_isSo 32 = .ok (.iaload, 1) := by decide +kernel
theorem dX6_isSo_33 : decode cX6_isSo 33 = .ok (.aload_n 0, 1) := by decide +kernel
theorem dX6_isSo_34 : decode cX6_isSo 34 = .ok (.getfield 22, 3) := by decide +kernel
theorem dX6_isSo_37 : decode cX6_isSo 37 = .ok (.iload_n 2, 1) := by decide +kernel
theorem dX6_isSo_38 : decode cX6_isSo 38 = .ok (.iload 5, 2) := by decide +kernel
theorem dX6_isSo_40 : decode cX6_isSo 40 = .ok (.iadd, 1) := by decide +kernel
theorem dX6_isSo_41 : decode cX6_isSo 41 = .ok (.iaload, 1) := by decide +kernel
theorem dX6_isSo_42 : decode cX6_isSo 42 = .ok (.if_icmp .ne 7, 3) := by decide +kernel
theorem dX6_isSo_45 : decode cX6_isSo 45 = .ok (.iconst 1, 1) := by decide +kernel
theorem dX6_isSo_46 : decode cX6_isSo 46 = .ok (.goto 4, 3) := by decide +kernel
theorem dX6_isSo_49 : decode cX6_isSo 49 = .ok (.iconst 0, 1) := by decide +kernel
theorem dX6_isSo_50 : decode cX6_isSo 50 = .ok (.istore 4, 2) := by decide +kernel
theorem dX6_isSo_52 : decode cX6_isSo 52 = .ok (.iinc 5 1, 3) := by decide +kernel
theorem dX6_isSo_55 : decode cX6_isSo 55 = .ok (.goto (-49), 3) := by decide +kernel
theorem dX6_isSo_58 : decode cX6_isSo 58 = .ok (.iload 4, 2) := by decide +kernel
theorem dX6_isSo_60 : decode cX6_isSo 60 = .ok (.ireturn, 1) := by decide +kernel
set_option maxRecDepth 20000 in
theorem ggX6_fits_X6_isPulpit : GoodIn wsX6_fits wsX6_isPulpit := goodIn_r _ [10, 5, 11, 12, 9, 13, 64, 65, 66, 67, 68, 69, 70, 71, 72, 73, 74, 75, 76, 77, 78, 79] (by decide +kernel) (by decide +kernel)
set_option maxRecDepth 20000 in
theorem gX6_fits_X6_isPulpit : GoodIn wsX6_fits (wsV RX6 158 RX6 yX6_isPulpit wsX6_isPulpit) := goodIn_app (goodIn_of _ (by decide +kernel)) ggX6_fits_X6_isPulpit
set_option maxRecDepth 20000 in
theorem ggX6_fits_X6_isRow : GoodIn wsX6_fits wsX6_isRow := goodIn_r _ [16, 17, 11, 12, 9, 13] (by decide +kernel) (by decide +kernel)
set_option maxRecDepth 20000 in
theorem gX6_fits_X6_isRow : GoodIn wsX6_fits (va_wsS RX6 45 yX6_isRow wsX6_isRow) := goodIn_app (goodIn_of _ (by decide +kernel)) ggX6_fits_X6_isRow
set_option maxRecDepth 20000 in
theorem ggX6_fits_X6_in : GoodIn wsX6_fits wsX6_in := goodIn_r _ [13] (by decide +kernel) (by decide +kernel)
set_option maxRecDepth 20000 in
theorem gX6_fits_X6_in : GoodIn wsX6_fits (va_wsS RX6 34 yX6_in wsX6_in) := goodIn_app (goodIn_of _ (by decide +kernel)) ggX6_fits_X6_in
set_option maxRecDepth 20000 in
theorem ggX6_fits_X6_against : GoodIn wsX6_fits wsX6_against := goodIn_r _ [21, 22, 64, 65, 66, 67, 68, 69, 70, 71, 72, 73, 74, 75, 76, 77, 78, 79] (by decide +kernel) (by decide +kernel)
set_option maxRecDepth 20000 in
theorem gX6_fits_X6_against : GoodIn wsX6_fits (wsV RX6 56 RX6 yX6_against wsX6_against) := goodIn_app (goodIn_of _ (by decide +kernel)) ggX6_fits_X6_against
set_option maxRecDepth 20000 in
theorem ggX6_fits_X6_finds : GoodIn wsX6_fits wsX6_finds := goodIn_r _ [26, 4, 27, 64, 65, 66, 67, 68, 69, 70, 71, 72, 73, 74, 75, 76, 77, 78, 79] (by decide +kernel) (by decide +kernel)
set_option maxRecDepth 20000 in
theorem gX6_fits_X6_finds : GoodIn wsX6_fits (wsV RX6 52 RX6 yX6_finds wsX6_finds) := goodIn_app (goodIn_of _ (by decide +kernel)) ggX6_fits_X6_finds
set_option maxRecDepth 20000 in
theorem ggX6_fits_X6_tries : GoodIn wsX6_fits wsX6_tries := goodIn_r _ [31, 32, 33, 34, 9, 35, 5, 64, 65, 66, 67, 68, 69, 70, 71, 72, 73, 74, 75, 76, 77, 78, 79] (by decide +kernel) (by decide +kernel)
set_option maxRecDepth 20000 in
theorem gX6_fits_X6_tries : GoodIn wsX6_fits (wsV RX6 169 RX6 yX6_tries wsX6_tries) := goodIn_app (goodIn_of _ (by decide +kernel)) ggX6_fits_X6_tries
set_option maxRecDepth 20000 in
theorem ggX6_fits_X6_isSo : GoodIn wsX6_fits wsX6_isSo := goodIn_r _ [39, 5, 40, 41, 42, 43, 9, 44, 45, 46, 47, 48, 49, 50, 51, 52, 53, 54, 55, 56, 57, 58, 59, 60, 61, 62, 63, 64, 65, 66, 67, 68, 69, 70, 71, 72, 73, 74, 75, 76, 77, 78, 79] (by decide +kernel) (by decide +kernel)
set_option maxRecDepth 20000 in
theorem gX6_fits_X6_isSo : GoodIn wsX6_fits (wsV RX6 191 RX6 yX6_isSo wsX6_isSo) := goodIn_app (goodIn_of _ (by decide +kernel)) ggX6_fits_X6_isSo
theorem dX6_fits_0 : decode cX6_fits 0 = .ok (.aload_n 0, 1) := by decide +kernel
theorem dX6_fits_1 : decode cX6_fits 1 = .ok (.iload_n 1, 1) := by decide +kernel
theorem dX6_fits_2 : decode cX6_fits 2 = .ok (.invokevirtual 158, 3) := by decide +kernel
theorem dX6_fits_5 : decode cX6_fits 5 = .ok (.ifCond .eq 36, 3) := by decide +kernel
theorem dX6_fits_8 : decode cX6_fits 8 = .ok (.iload_n 2, 1) := by decide +kernel
theorem dX6_fits_9 : decode cX6_fits 9 = .ok (.invokestatic 45, 3) := by decide +kernel
theorem dX6_fits_12 : decode cX6_fits 12 = .ok (.ifCond .eq 29, 3) := by decide +kernel
theorem dX6_fits_15 : decode cX6_fits 15 = .ok (.iload 4, 2) := by decide +kernel
theorem dX6_fits_17 : decode cX6_fits 17 = .ok (.i2l, 1) := by decide +kernel
theorem dX6_fits_18 : decode cX6_fits 18 = .ok (.lconst 1, 1) := by decide +kernel
theorem dX6_fits_19 : decode cX6_fits 19 = .ok (.ldc2_w 187, 3) := by decide +kernel
theorem dX6_fits_22 : decode cX6_fits 22 = .ok (.invokestatic 34, 3) := by decide +kernel
theorem dX6_fits_25 : decode cX6_fits 25 = .ok (.ifCond .eq 16, 3) := by decide +kernel
theorem dX6_fits_28 : decode cX6_fits 28 = .ok (.iload 5, 2) := by decide +kernel
theorem dX6_fits_30 : decode cX6_fits 30 = .ok (.i2l, 1) := by decide +kernel
theorem dX6_fits_31 : decode cX6_fits 31 = .ok (.lconst 0, 1) := by decide +kernel
theorem dX6_fits_32 : decode cX6_fits 32 = .ok (.ldc2_w 189, 3) := by decide +kernel
theorem dX6_fits_35 : decode cX6_fits 35 = .ok (.invokestatic 34, 3) := by decide +kernel
theorem dX6_fits_38 : decode cX6_fits 38 = .ok (.ifCond .ne 6, 3) := by decide +kernel
theorem dX6_fits_41 : decode cX6_fits 41 = .ok (.ldc 51, 2) := by decide +kernel
theorem dX6_fits_43 : decode cX6_fits 43 = .ok (.ireturn, 1) := by decide +kernel
theorem dX6_fits_44 : decode cX6_fits 44 = .ok (.aload_n 0, 1) := by decide +kernel
theorem dX6_fits_45 : decode cX6_fits 45 = .ok (.iload_n 2, 1) := by decide +kernel
theorem dX6_fits_46 : decode cX6_fits 46 = .ok (.iload_n 3, 1) := by decide +kernel
theorem dX6_fits_47 : decode cX6_fits 47 = .ok (.iload 4, 2) := by decide +kernel
theorem dX6_fits_49 : decode cX6_fits 49 = .ok (.invokevirtual 56, 3) := by decide +kernel
theorem dX6_fits_52 : decode cX6_fits 52 = .ok (.istore 6, 2) := by decide +kernel
theorem dX6_fits_54 : decode cX6_fits 54 = .ok (.iload 6, 2) := by decide +kernel
theorem dX6_fits_56 : decode cX6_fits 56 = .ok (.ifCond .le 10, 3) := by decide +kernel
theorem dX6_fits_59 : decode cX6_fits 59 = .ok (.aload_n 0, 1) := by decide +kernel
theorem dX6_fits_60 : decode cX6_fits 60 = .ok (.iload 6, 2) := by decide +kernel
theorem dX6_fits_62 : decode cX6_fits 62 = .ok (.invokevirtual 52, 3) := by decide +kernel
theorem dX6_fits_65 : decode cX6_fits 65 = .ok (.ireturn, 1) := by decide +kernel
theorem dX6_fits_66 : decode cX6_fits 66 = .ok (.aload_n 0, 1) := by decide +kernel
theorem dX6_fits_67 : decode cX6_fits 67 = .ok (.iconst 0, 1) := by decide +kernel
theorem dX6_fits_68 : decode cX6_fits 68 = .ok (.putfield 40, 3) := by decide +kernel
theorem dX6_fits_71 : decode cX6_fits 71 = .ok (.iconst 0, 1) := by decide +kernel
theorem dX6_fits_72 : decode cX6_fits 72 = .ok (.istore 7, 2) := by decide +kernel
theorem dX6_fits_74 : decode cX6_fits 74 = .ok (.iload 5, 2) := by decide +kernel
theorem dX6_fits_76 : decode cX6_fits 76 = .ok (.ifCond .ne 10, 3) := by decide +kernel
theorem dX6_fits_79 : decode cX6_fits 79 = .ok (.bipush 13, 2) := by decide +kernel
theorem dX6_fits_81 : decode cX6_fits 81 = .ok (.iload_n 1, 1) := by decide +kernel
theorem dX6_fits_82 : decode cX6_fits 82 = .ok (.iadd, 1) := by decide +kernel
theorem dX6_fits_83 : decode cX6_fits 83 = .ok (.goto 30, 3) := by decide +kernel
theorem dX6_fits_86 : decode cX6_fits 86 = .ok (.iload 5, 2) := by decide +kernel
theorem dX6_fits_88 : decode cX6_fits 88 = .ok (.iconst 1, 1) := by decide +kernel
theorem dX6_fits_89 : decode cX6_fits 89 = .ok (.if_icmp .ne 10, 3) := by decide +kernel
theorem dX6_fits_92 : decode cX6_fits 92 = .ok (.bipush 19, 2) := by decide +kernel
theorem dX6_fits_94 : decode cX6_fits 94 = .ok (.iload_n 1, 1) := by decide +kernel
theorem dX6_fits_95 : decode cX6_fits 95 = .ok (.iadd, 1) := by decide +kernel
theorem dX6_fits_96 : decode cX6_fits 96 = .ok (.goto 17, 3) := by decide +kernel
theorem dX6_fits_99 : decode cX6_fits 99 = .ok (.iload 5, 2) := by decide +kernel
theorem dX6_fits_101 : decode cX6_fits 101 = .ok (.iconst 2, 1) := by decide +kernel
theorem dX6_fits_102 : decode cX6_fits 102 = .ok (.if_icmp .ne 7, 3) := by decide +kernel
theorem dX6_fits_105 : decode cX6_fits 105 = .ok (.iconst 3, 1) := by decide +kernel
theorem dX6_fits_106 : decode cX6_fits 106 = .ok (.goto 7, 3) := by decide +kernel
theorem dX6_fits_109 : decode cX6_fits 109 = .ok (.bipush 24, 2) := by decide +kernel
theorem dX6_fits_111 : decode cX6_fits 111 = .ok (.iload_n 1, 1) := by decide +kernel
theorem dX6_fits_112 : decode cX6_fits 112 = .ok (.iadd, 1) := by decide +kernel
theorem dX6_fits_113 : decode cX6_fits 113 = .ok (.istore 8, 2) := by decide +kernel
theorem dX6_fits_115 : decode cX6_fits 115 = .ok (.iload 5, 2) := by decide +kernel
theorem dX6_fits_117 : decode cX6_fits 117 = .ok (.ifCond .ne 7, 3) := by decide +kernel
theorem dX6_fits_120 : decode cX6_fits 120 = .ok (.iconst 5, 1) := by decide +kernel
theorem dX6_fits_121 : decode cX6_fits 121 = .ok (.goto 28, 3) := by decide +kernel
theorem dX6_fits_124 : decode cX6_fits 124 = .ok (.iload 5, 2) := by decide +kernel
theorem dX6_fits_126 : decode cX6_fits 126 = .ok (.iconst 1, 1) := by decide +kernel
theorem dX6_fits_127 : decode cX6_fits 127 = .ok (.if_icmp .ne 14, 3) := by decide +kernel
theorem dX6_fits_130 : decode cX6_fits 130 = .ok (.aload_n 0, 1) := by decide +kernel
theorem dX6_fits_131 : decode cX6_fits 131 = .ok (.getfield 7, 3) := by decide +kernel
theorem dX6_fits_134 : decode cX6_fits 134 = .ok (.iconst 0, 1) := by decide +kernel
theorem dX6_fits_135 : decode cX6_fits 135 = .ok (.iaload, 1) := by decide +kernel
theorem dX6_fits_136 : decode cX6_fits 136 = .ok (.iconst 1, 1) := by decide +kernel
theorem dX6_fits_137 : decode cX6_fits 137 = .ok (.isub, 1) := by decide +kernel
theorem dX6_fits_138 : decode cX6_fits 138 = .ok (.goto 11, 3) := by decide +kernel
theorem dX6_fits_141 : decode cX6_fits 141 = .ok (.aload_n 0, 1) := by decide +kernel
theorem dX6_fits_142 : decode cX6_fits 142 = .ok (.getfield 7, 3) := by decide +kernel
theorem dX6_fits_145 : decode cX6_fits 145 = .ok (.iconst 2, 1) := by decide +kernel
theorem dX6_fits_146 : decode cX6_fits 146 = .ok (.iaload, 1) := by decide +kernel
theorem dX6_fits_147 : decode cX6_fits 147 = .ok (.iconst 1, 1) := by decide +kernel
theorem dX6_fits_148 : decode cX6_fits 148 = .ok (.isub, 1) := by decide +kernel
theorem dX6_fits_149 : decode cX6_fits 149 = .ok (.istore 9, 2) := by decide +kernel
theorem dX6_fits_151 : decode cX6_fits 151 = .ok (.iload 5, 2) := by decide +kernel
theorem dX6_fits_153 : decode cX6_fits 153 = .ok (.ifCond .ne 7, 3) := by decide +kernel
theorem dX6_fits_156 : decode cX6_fits 156 = .ok (.iconst 1, 1) := by decide +kernel
theorem dX6_fits_157 : decode cX6_fits 157 = .ok (.goto 4, 3) := by decide +kernel
theorem dX6_fits_160 : decode cX6_fits 160 = .ok (.iconst 0, 1) := by decide +kernel
theorem dX6_fits_161 : decode cX6_fits 161 = .ok (.istore 10, 2) := by decide +kernel
theorem dX6_fits_163 : decode cX6_fits 163 = .ok (.iload 10, 2) := by decide +kernel
theorem dX6_fits_165 : decode cX6_fits 165 = .ok (.iload 9, 2) := by decide +kernel
theorem dX6_fits_167 : decode cX6_fits 167 = .ok (.if_icmp .gt 54, 3) := by decide +kernel
theorem dX6_fits_170 : decode cX6_fits 170 = .ok (.aload_n 0, 1) := by decide +kernel
theorem dX6_fits_171 : decode cX6_fits 171 = .ok (.invokevirtual 169, 3) := by decide +kernel
theorem dX6_fits_174 : decode cX6_fits 174 = .ok (.aload_n 0, 1) := by decide +kernel
theorem dX6_fits_175 : decode cX6_fits 175 = .ok (.getfield 7, 3) := by decide +kernel
theorem dX6_fits_178 : decode cX6_fits 178 = .ok (.bipush 38, 2) := by decide +kernel
theorem dX6_fits_180 : decode cX6_fits 180 = .ok (.iload 8, 2) := by decide +kernel
theorem dX6_fits_182 : decode cX6_fits 182 = .ok (.iadd, 1) := by decide +kernel
theorem dX6_fits_183 : decode cX6_fits 183 = .ok (.iload 10, 2) := by decide +kernel
theorem dX6_fits_185 : decode cX6_fits 185 = .ok (.iastore, 1) := by decide +kernel
theorem dX6_fits_186 : decode cX6_fits 186 = .ok (.iload 7, 2) := by decide +kernel
theorem dX6_fits_188 : decode cX6_fits 188 = .ok (.aload_n 0, 1) := by decide +kernel
theorem dX6_fits_189 : decode cX6_fits 189 = .ok (.iload_n 1, 1) := by decide +kernel
theorem dX6_fits_190 : decode cX6_fits 190 = .ok (.bipush 40, 2) := by decide +kernel
theorem dX6_fits_192 : decode cX6_fits 192 = .ok (.iload_n 2, 1) := by decide +kernel
theorem dX6_fits_193 : decode cX6_fits 193 = .ok (.imul, 1) := by decide +kernel
theorem dX6_fits_194 : decode cX6_fits 194 = .ok (.iload_n 3, 1) := by decide +kernel
theorem dX6_fits_195 : decode cX6_fits 195 = .ok (.iadd, 1) := by decide +kernel
theorem dX6_fits_196 : decode cX6_fits 196 = .ok (.iload 4, 2) := by decide +kernel
theorem dX6_fits_198 : decode cX6_fits 198 = .ok (.invokevirtual 191, 3) := by decide +kernel
theorem dX6_fits_201 : decode cX6_fits 201 = .ok (.ifCond .eq 10, 3) := by decide +kernel
theorem dX6_fits_204 : decode cX6_fits 204 = .ok (.iconst 1, 1) := by decide +kernel
theorem dX6_fits_205 : decode cX6_fits 205 = .ok (.iload 10, 2) := by decide +kernel
theorem dX6_fits_207 : decode cX6_fits 207 = .ok (.ishl, 1) := by decide +kernel
theorem dX6_fits_208 : decode cX6_fits 208 = .ok (.goto 4, 3) := by decide +kernel
theorem dX6_fits_211 : decode cX6_fits 211 = .ok (.iconst 0, 1) := by decide +kernel
theorem dX6_fits_212 : decode cX6_fits 212 = .ok (.ior, 1) := by decide +kernel
theorem dX6_fits_213 : decode cX6_fits 213 = .ok (.istore 7, 2) := by decide +kernel
theorem dX6_fits_215 : decode cX6_fits 215 = .ok (.iinc 10 1, 3) := by decide +kernel
theorem dX6_fits_218 : decode cX6_fits 218 = .ok (.goto (-55), 3) := by decide +kernel
theorem dX6_fits_221 : decode cX6_fits 221 = .ok (.iload 7, 2) := by decide +kernel
theorem dX6_fits_223 : decode cX6_fits 223 = .ok (.ireturn, 1) := by decide +kernel
set_option maxRecDepth 20000 in
theorem ggX6_axles_X6_isStretch : GoodIn wsX6_axles wsX6_isStretch := goodIn_r _ [8, 1, 9, 10, 7, 11, 43, 44, 45, 46, 47, 48, 49, 50, 51, 52, 53, 54, 55, 56, 57, 58] (by decide +kernel) (by decide +kernel)
set_option maxRecDepth 20000 in
theorem gX6_axles_X6_isStretch : GoodIn wsX6_axles (wsV RX6 161 RX6 yX6_isStretch wsX6_isStretch) := goodIn_app (goodIn_of _ (by decide +kernel)) ggX6_axles_X6_isStretch
set_option maxRecDepth 20000 in
theorem ggX6_axles_X6_in : GoodIn wsX6_axles wsX6_in := goodIn_r _ [11] (by decide +kernel) (by decide +kernel)
set_option maxRecDepth 20000 in
theorem gX6_axles_X6_in : GoodIn wsX6_axles (va_wsS RX6 34 yX6_in wsX6_in) := goodIn_app (goodIn_of _ (by decide +kernel)) ggX6_axles_X6_in
set_option maxRecDepth 20000 in
theorem ggX6_axles_X6_has : GoodIn wsX6_axles wsX6_has := goodIn_r _ [14] (by decide +kernel) (by decide +kernel)
set_option maxRecDepth 20000 in
theorem gX6_axles_X6_has : GoodIn wsX6_axles (va_wsS RX6 127 yX6_has wsX6_has) := goodIn_app (goodIn_of _ (by decide +kernel)) ggX6_axles_X6_has
set_option maxRecDepth 20000 in
theorem ggX6_axles_X6_tries : GoodIn wsX6_axles wsX6_tries := goodIn_r _ [18, 19, 20, 21, 7, 22, 1, 43, 44, 45, 46, 47, 48, 49, 50, 51, 52, 53, 54, 55, 56, 57, 58] (by decide +kernel) (by decide +kernel)
set_option maxRecDepth 20000 in
theorem gX6_axles_X6_tries : GoodIn wsX6_axles (wsV RX6 169 RX6 yX6_tries wsX6_tries) := goodIn_app (goodIn_of _ (by decide +kernel)) ggX6_axles_X6_tries
set_option maxRecDepth 20000 in
theorem ggX6_axles_X6_hourBy : GoodIn wsX6_axles wsX6_hourBy := goodIn_r _ [26, 1, 27, 28, 29, 7, 30, 12, 13, 14, 31, 32, 33, 34, 35, 36, 37, 38, 39, 40, 41, 42, 43, 44, 45, 46, 47, 48, 49, 50, 51, 52, 53, 54, 55, 56, 57, 58] (by decide +kernel) (by decide +kernel)
set_option maxRecDepth 20000 in
theorem gX6_axles_X6_hourBy : GoodIn wsX6_axles (wsV RX6 152 RX6 yX6_hourBy wsX6_hourBy) := goodIn_app (goodIn_of _ (by decide +kernel)) ggX6_axles_X6_hourBy
theorem dX6_axles_0 : decode cX6_axles 0 = .ok (.aload_n 0, 1) := by decide +kernel
theorem dX6_axles_1 : decode cX6_axles 1 = .ok (.iload_n 1, 1) := by decide +kernel
theorem dX6_axles_2 : decode cX6_axles 2 = .ok (.invokevirtual 161, 3) := by decide +kernel
theorem dX6_axles_5 : decode cX6_axles 5 = .ok (.ifCond .eq 44, 3) := by decide +kernel
theorem dX6_axles_8 : decode cX6_axles 8 = .ok (.iload_n 2, 1) := by decide +kernel
theorem dX6_axles_9 : decode cX6_axles 9 = .ok (.i2l, 1) := by decide +kernel
theorem dX6_axles_10 : decode cX6_axles 10 = .ok (.lconst 0, 1) := by decide +kernel
theorem dX6_axles_11 : decode cX6_axles 11 = .ok (.aload_n 0, 1) := by decide +kernel
theorem dX6_axles_12 : decode cX6_axles 12 = .ok (.getfield 7, 3) := by decide +kernel
theorem dX6_axles_15 : decode cX6_axles 15 = .ok (.iconst 2, 1) := by decide +kernel
theorem dX6_axles_16 : decode cX6_axles 16 = .ok (.iaload, 1) := by decide +kernel
theorem dX6_axles_17 : decode cX6_axles 17 = .ok (.iconst 1, 1) := by decide +kernel
theorem dX6_axles_18 : decode cX6_axles 18 = .ok (.isub, 1) := by decide +kernel
theorem dX6_axles_19 : decode cX6_axles 19 = .ok (.i2l, 1) := by decide +kernel
theorem dX6_axles_20 : decode cX6_axles 20 = .ok (.invokestatic 34, 3) := by decide +kernel
theorem dX6_axles_23 : decode cX6_axles 23 = .ok (.ifCond .eq 26, 3) := by decide +kernel
theorem dX6_axles_26 : decode cX6_axles 26 = .ok (.iload_n 3, 1) := by decide +kernel
theorem dX6_axles_27 : decode cX6_axles 27 = .ok (.i2l, 1) := by decide +kernel
theorem dX6_axles_28 : decode cX6_axles 28 = .ok (.lconst 0, 1) := by decide +kernel
theorem dX6_axles_29 : decode cX6_axles 29 = .ok (.ldc2_w 195, 3) := by decide +kernel
theorem dX6_axles_32 : decode cX6_axles 32 = .ok (.invokestatic 34, 3) := by decide +kernel
theorem dX6_axles_35 : decode cX6_axles 35 = .ok (.ifCond .eq 14, 3) := by decide +kernel
theorem dX6_axles_38 : decode cX6_axles 38 = .ok (.iload 4, 2) := by decide +kernel
theorem dX6_axles_40 : decode cX6_axles 40 = .ok (.i2l, 1) := by decide +kernel
theorem dX6_axles_41 : decode cX6_axles 41 = .ok (.lconst 0, 1) := by decide +kernel
theorem dX6_axles_42 : decode cX6_axles 42 = .ok (.lconst 1, 1) := by decide +kernel
theorem dX6_axles_43 : decode cX6_axles 43 = .ok (.invokestatic 34, 3) := by decide +kernel
theorem dX6_axles_46 : decode cX6_axles 46 = .ok (.ifCond .ne 6, 3) := by decide +kernel
theorem dX6_axles_49 : decode cX6_axles 49 = .ok (.ldc 51, 2) := by decide +kernel
theorem dX6_axles_51 : decode cX6_axles 51 = .ok (.ireturn, 1) := by decide +kernel
theorem dX6_axles_52 : decode cX6_axles 52 = .ok (.iconst 0, 1) := by decide +kernel
theorem dX6_axles_53 : decode cX6_axles 53 = .ok (.istore 5, 2) := by decide +kernel
theorem dX6_axles_55 : decode cX6_axles 55 = .ok (.iconst 1, 1) := by decide +kernel
theorem dX6_axles_56 : decode cX6_axles 56 = .ok (.istore 6, 2) := by decide +kernel
theorem dX6_axles_58 : decode cX6_axles 58 = .ok (.iconst 0, 1) := by decide +kernel
theorem dX6_axles_59 : decode cX6_axles 59 = .ok (.istore 7, 2) := by decide +kernel
theorem dX6_axles_61 : decode cX6_axles 61 = .ok (.iload 7, 2) := by decide +kernel
theorem dX6_axles_63 : decode cX6_axles 63 = .ok (.aload_n 0, 1) := by decide +kernel
theorem dX6_axles_64 : decode cX6_axles 64 = .ok (.getfield 7, 3) := by decide +kernel
theorem dX6_axles_67 : decode cX6_axles 67 = .ok (.iconst 1, 1) := by decide +kernel
theorem dX6_axles_68 : decode cX6_axles 68 = .ok (.iaload, 1) := by decide +kernel
theorem dX6_axles_69 : decode cX6_axles 69 = .ok (.if_icmp .ge 16, 3) := by decide +kernel
theorem dX6_axles_72 : decode cX6_axles 72 = .ok (.iload 6, 2) := by decide +kernel
theorem dX6_axles_74 : decode cX6_axles 74 = .ok (.bipush 10, 2) := by decide +kernel
theorem dX6_axles_76 : decode cX6_axles 76 = .ok (.imul, 1) := by decide +kernel
theorem dX6_axles_77 : decode cX6_axles 77 = .ok (.istore 6, 2) := by decide +kernel
theorem dX6_axles_79 : decode cX6_axles 79 = .ok (.iinc 7 1, 3) := by decide +kernel
theorem dX6_axles_82 : decode cX6_axles 82 = .ok (.goto (-21), 3) := by decide +kernel
theorem dX6_axles_85 : decode cX6_axles 85 = .ok (.iconst 0, 1) := by decide +kernel
theorem dX6_axles_86 : decode cX6_axles 86 = .ok (.istore 7, 2) := by decide +kernel
theorem dX6_axles_88 : decode cX6_axles 88 = .ok (.iload 7, 2) := by decide +kernel
theorem dX6_axles_90 : decode cX6_axles 90 = .ok (.iconst 1, 1) := by decide +kernel
theorem dX6_axles_91 : decode cX6_axles 91 = .ok (.aload_n 0, 1) := by decide +kernel
theorem dX6_axles_92 : decode cX6_axles 92 = .ok (.getfield 7, 3) := by decide +kernel
theorem dX6_axles_95 : decode cX6_axles 95 = .ok (.iconst 1, 1) := by decide +kernel
theorem dX6_axles_96 : decode cX6_axles 96 = .ok (.iaload, 1) := by decide +kernel
theorem dX6_axles_97 : decode cX6_axles 97 = .ok (.ishl, 1) := by decide +kernel
theorem dX6_axles_98 : decode cX6_axles 98 = .ok (.if_icmp .ge 94, 3) := by decide +kernel
theorem dX6_axles_101 : decode cX6_axles 101 = .ok (.iconst 1, 1) := by decide +kernel
theorem dX6_axles_102 : decode cX6_axles 102 = .ok (.istore 8, 2) := by decide +kernel
theorem dX6_axles_104 : decode cX6_axles 104 = .ok (.iconst 0, 1) := by decide +kernel
theorem dX6_axles_105 : decode cX6_axles 105 = .ok (.istore 9, 2) := by decide +kernel
theorem dX6_axles_107 : decode cX6_axles 107 = .ok (.iload 9, 2) := by decide +kernel
theorem dX6_axles_109 : decode cX6_axles 109 = .ok (.aload_n 0, 1) := by decide +kernel
theorem dX6_axles_110 : decode cX6_axles 110 = .ok (.getfield 7, 3) := by decide +kernel
theorem dX6_axles_113 : decode cX6_axles 113 = .ok (.iconst 1, 1) := by decide +kernel
theorem dX6_axles_114 : decode cX6_axles 114 = .ok (.iaload, 1) := by decide +kernel
theorem dX6_axles_115 : decode cX6_axles 115 = .ok (.if_icmp .ge 32, 3) := by decide +kernel
theorem dX6_axles_118 : decode cX6_axles 118 = .ok (.iload 8, 2) := by decide +kernel
theorem dX6_axles_120 : decode cX6_axles 120 = .ok (.iload 7, 2) := by decide +kernel
theorem dX6_axles_122 : decode cX6_axles 122 = .ok (.iload 9, 2) := by decide +kernel
theorem dX6_axles_124 : decode cX6_axles 124 = .ok (.invokestatic 127, 3) := by decide +kernel
theorem dX6_axles_127 : decode cX6_axles 127 = .ok (.ifCond .eq 7, 3) := by decide +kernel
theorem dX6_axles_130 : decode cX6_axles 130 = .ok (.iload_n 3, 1) := by decide +kernel
theorem dX6_axles_131 : decode cX6_axles 131 = .ok (.goto 7, 3) := by decide +kernel
theorem dX6_axles_134 : decode cX6_axles 134 = .ok (.bipush 10, 2) := by decide +kernel
theorem dX6_axles_136 : decode cX6_axles 136 = .ok (.iload_n 3, 1) := by decide +kernel
theorem dX6_axles_137 : decode cX6_axles 137 = .ok (.isub, 1) := by decide +kernel
theorem dX6_axles_138 : decode cX6_axles 138 = .ok (.imul, 1) := by decide +kernel
theorem dX6_axles_139 : decode cX6_axles 139 = .ok (.istore 8, 2) := by decide +kernel
theorem dX6_axles_141 : decode cX6_axles 141 = .ok (.iinc 9 1, 3) := by decide +kernel
theorem dX6_axles_144 : decode cX6_axles 144 = .ok (.goto (-37), 3) := by decide +kernel
theorem dX6_axles_147 : decode cX6_axles 147 = .ok (.aload_n 0, 1) := by decide +kernel
theorem dX6_axles_148 : decode cX6_axles 148 = .ok (.invokevirtual 169, 3) := by decide +kernel
theorem dX6_axles_151 : decode cX6_axles 151 = .ok (.aload_n 0, 1) := by decide +kernel
theorem dX6_axles_152 : decode cX6_axles 152 = .ok (.bipush 38, 2) := by decide +kernel
theorem dX6_axles_154 : decode cX6_axles 154 = .ok (.iload 7, 2) := by decide +kernel
theorem dX6_axles_156 : decode cX6_axles 156 = .ok (.invokevirtual 152, 3) := by decide +kernel
theorem dX6_axles_159 : decode cX6_axles 159 = .ok (.iload 5, 2) := by decide +kernel
theorem dX6_axles_161 : decode cX6_axles 161 = .ok (.aload_n 0, 1) := by decide +kernel
theorem dX6_axles_162 : decode cX6_axles 162 = .ok (.getfield 7, 3) := by decide +kernel
theorem dX6_axles_165 : decode cX6_axles 165 = .ok (.bipush 67, 2) := by decide +kernel
theorem dX6_axles_167 : decode cX6_axles 167 = .ok (.iload_n 1, 1) := by decide +kernel
theorem dX6_axles_168 : decode cX6_axles 168 = .ok (.iadd, 1) := by decide +kernel
theorem dX6_axles_169 : decode cX6_axles 169 = .ok (.iaload, 1) := by decide +kernel
theorem dX6_axles_170 : decode cX6_axles 170 = .ok (.iload_n 2, 1) := by decide +kernel
theorem dX6_axles_171 : decode cX6_axles 171 = .ok (.invokestatic 127, 3) := by decide +kernel
theorem dX6_axles_174 : decode cX6_axles 174 = .ok (.ifCond .eq 8, 3) := by decide +kernel
theorem dX6_axles_177 : decode cX6_axles 177 = .ok (.iload 8, 2) := by decide +kernel
theorem dX6_axles_179 : decode cX6_axles 179 = .ok (.goto 4, 3) := by decide +kernel
theorem dX6_axles_182 : decode cX6_axles 182 = .ok (.iconst 0, 1) := by decide +kernel
theorem dX6_axles_183 : decode cX6_axles 183 = .ok (.iadd, 1) := by decide +kernel
theorem dX6_axles_184 : decode cX6_axles 184 = .ok (.istore 5, 2) := by decide +kernel
theorem dX6_axles_186 : decode cX6_axles 186 = .ok (.iinc 7 1, 3) := by decide +kernel
theorem dX6_axles_189 : decode cX6_axles 189 = .ok (.goto (-101), 3) := by decide +kernel
theorem dX6_axles_192 : decode cX6_axles 192 = .ok (.iload 5, 2) := by decide +kernel
theorem dX6_axles_194 : decode cX6_axles 194 = .ok (.istore 7, 2) := by decide +kernel
theorem dX6_axles_196 : decode cX6_axles 196 = .ok (.iload 6, 2) := by decide +kernel
theorem dX6_axles_198 : decode cX6_axles 198 = .ok (.istore 8, 2) := by decide +kernel
theorem dX6_axles_200 : decode cX6_axles 200 = .ok (.iload 8, 2) := by decide +kernel
theorem dX6_axles_202 : decode cX6_axles 202 = .ok (.ifCond .eq 21, 3) := by decide +kernel
theorem dX6_axles_205 : decode cX6_axles 205 = .ok (.iload 7, 2) := by decide +kernel
theorem dX6_axles_207 : decode cX6_axles 207 = .ok (.iload 8, 2) := by decide +kernel
theorem dX6_axles_209 : decode cX6_axles 209 = .ok (.irem, 1) := by decide +kernel
theorem dX6_axles_210 : decode cX6_axles 210 = .ok (.istore 9, 2) := by decide +kernel
theorem dX6_axles_212 : decode cX6_axles 212 = .ok (.iload 8, 2) := by decide +kernel
theorem dX6_axles_214 : decode cX6_axles 214 = .ok (.istore 7, 2) := by decide +kernel
theorem dX6_axles_216 : decode cX6_axles 216 = .ok (.iload 9, 2) := by decide +kernel
theorem dX6_axles_218 : decode cX6_axles 218 = .ok (.istore 8, 2) := by decide +kernel
theorem dX6_axles_220 : decode cX6_axles 220 = .ok (.goto (-20), 3) := by decide +kernel
theorem dX6_axles_223 : decode cX6_axles 223 = .ok (.iload 4, 2) := by decide +kernel
theorem dX6_axles_225 : decode cX6_axles 225 = .ok (.ifCond .ne 11, 3) := by decide +kernel
theorem dX6_axles_228 : decode cX6_axles 228 = .ok (.iload 5, 2) := by decide +kernel
theorem dX6_axles_230 : decode cX6_axles 230 = .ok (.iload 7, 2) := by decide +kernel
theorem dX6_axles_232 : decode cX6_axles 232 = .ok (.idiv, 1) := by decide +kernel
theorem dX6_axles_233 : decode cX6_axles 233 = .ok (.goto 8, 3) := by decide +kernel
theorem dX6_axles_236 : decode cX6_axles 236 = .ok (.iload 6, 2) := by decide +kernel
theorem dX6_axles_238 : decode cX6_axles 238 = .ok (.iload 7, 2) := by decide +kernel
theorem dX6_axles_240 : decode cX6_axles 240 = .ok (.idiv, 1) := by decide +kernel
theorem dX6_axles_241 : decode cX6_axles 241 = .ok (.ireturn, 1) := by decide +kernel
set_option maxRecDepth 20000 in
theorem ggX6_drawn_X6_isRoad : GoodIn wsX6_drawn wsX6_isRoad := goodIn_r _ [13, 7, 63, 64, 65, 66, 67, 68, 69, 70, 71, 72, 73, 74, 75, 76, 77, 78] (by decide +kernel) (by decide +kernel)
set_option maxRecDepth 20000 in
theorem gX6_drawn_X6_isRoad : GoodIn wsX6_drawn (wsV RX6 143 RX6 yX6_isRoad wsX6_isRoad) := goodIn_app (goodIn_of _ (by decide +kernel)) ggX6_drawn_X6_isRoad
set_option maxRecDepth 20000 in
theorem ggX6_drawn_X6_in : GoodIn wsX6_drawn wsX6_in := goodIn_r _ [16] (by decide +kernel) (by decide +kernel)
set_option maxRecDepth 20000 in
theorem gX6_drawn_X6_in : GoodIn wsX6_drawn (va_wsS RX6 34 yX6_in wsX6_in) := goodIn_app (goodIn_of _ (by decide +kernel)) ggX6_drawn_X6_in
set_option maxRecDepth 20000 in
theorem ggX6_drawn_X6_tries : GoodIn wsX6_drawn wsX6_tries := goodIn_r _ [20, 21, 22, 23, 12, 24, 7, 63, 64, 65, 66, 67, 68, 69, 70, 71, 72, 73, 74, 75, 76, 77, 78] (by decide +kernel) (by decide +kernel)
set_option maxRecDepth 20000 in
theorem gX6_drawn_X6_tries : GoodIn wsX6_drawn (wsV RX6 169 RX6 yX6_tries wsX6_tries) := goodIn_app (goodIn_of _ (by decide +kernel)) ggX6_drawn_X6_tries
set_option maxRecDepth 20000 in
theorem ggX6_drawn_X6_hourBy : GoodIn wsX6_drawn wsX6_hourBy := goodIn_r _ [28, 7, 29, 30, 31, 12, 32, 33, 34, 35, 36, 37, 38, 39, 40, 41, 42, 43, 44, 45, 46, 47, 63, 64, 65, 66, 67, 68, 69, 70, 71, 72, 73, 74, 75, 76, 77, 78] (by decide +kernel) (by decide +kernel)
set_option maxRecDepth 20000 in
theorem gX6_drawn_X6_hourBy : GoodIn wsX6_drawn (wsV RX6 152 RX6 yX6_hourBy wsX6_hourBy) := goodIn_app (goodIn_of _ (by decide +kernel)) ggX6_drawn_X6_hourBy
set_option maxRecDepth 20000 in
theorem ggX6_drawn_X6_heardWords : GoodIn wsX6_drawn wsX6_heardWords := goodIn_r _ [51, 7, 52, 53, 12, 54, 63, 64, 65, 66, 67, 68, 69, 70, 71, 72, 73, 74, 75, 76, 77, 78] (by decide +kernel) (by decide +kernel)
set_option maxRecDepth 20000 in
theorem gX6_drawn_X6_heardWords : GoodIn wsX6_drawn (wsV RX6 203 RX6 yX6_heardWords wsX6_heardWords) := goodIn_app (goodIn_of _ (by decide +kernel)) ggX6_drawn_X6_heardWords
set_option maxRecDepth 20000 in
theorem ggX6_drawn_X6_wholeOnes : GoodIn wsX6_drawn wsX6_wholeOnes := goodIn_r _ [58, 7, 59, 60, 61, 12, 62, 63, 64, 65, 66, 67, 68, 69, 70, 71, 72, 73, 74, 75, 76, 77, 78] (by decide +kernel) (by decide +kernel)
set_option maxRecDepth 20000 in
theorem gX6_drawn_X6_wholeOnes : GoodIn wsX6_drawn (wsV RX6 155 RX6 yX6_wholeOnes wsX6_wholeOnes) := goodIn_app (goodIn_of _ (by decide +kernel)) ggX6_drawn_X6_wholeOnes
set_option maxRecDepth 20000 in
theorem ggX6_drawn_X6_ones : GoodIn wsX6_drawn wsX6_ones := goodIn_r _ [54] (by decide +kernel) (by decide +kernel)
set_option maxRecDepth 20000 in
theorem gX6_drawn_X6_ones : GoodIn wsX6_drawn (va_wsS RX6 140 yX6_ones wsX6_ones) := goodIn_app (goodIn_of _ (by decide +kernel)) ggX6_drawn_X6_ones
theorem dX6_drawn_0 : decode cX6_drawn 0 = .ok (.aload_n 0, 1) := by decide +kernel
theorem dX6_drawn_1 : decode cX6_drawn 1 = .ok (.invokevirtual 143, 3) := by decide +kernel
theorem dX6_drawn_4 : decode cX6_drawn 4 = .ok (.ifCond .ne 6, 3) := by decide +kernel
theorem dX6_drawn_7 : decode cX6_drawn 7 = .ok (.ldc 146, 2) := by decide +kernel
theorem dX6_drawn_9 : decode cX6_drawn 9 = .ok (.ireturn, 1) := by decide +kernel
theorem dX6_drawn_10 : decode cX6_drawn 10 = .ok (.iload_n 1, 1) := by decide +kernel
theorem dX6_drawn_11 : decode cX6_drawn 11 = .ok (.i2l, 1) := by decide +kernel
theorem dX6_drawn_12 : decode cX6_drawn 12 = .ok (.lconst 0, 1) := by decide +kernel
theorem dX6_drawn_13 : decode cX6_drawn 13 = .ok (.ldc2_w 167, 3) := by decide +kernel
theorem dX6_drawn_16 : decode cX6_drawn 16 = .ok (.invokestatic 34, 3) := by decide +kernel
theorem dX6_drawn_19 : decode cX6_drawn 19 = .ok (.ifCond .eq 25, 3) := by decide +kernel
theorem dX6_drawn_22 : decode cX6_drawn 22 = .ok (.iload_n 2, 1) := by decide +kernel
theorem dX6_drawn_23 : decode cX6_drawn 23 = .ok (.i2l, 1) := by decide +kernel
theorem dX6_drawn_24 : decode cX6_drawn 24 = .ok (.lconst 1, 1) := by decide +kernel
theorem dX6_drawn_25 : decode cX6_drawn 25 = .ok (.ldc2_w 197, 3) := by decide +kernel
theorem dX6_drawn_28 : decode cX6_drawn 28 = .ok (.invokestatic 34, 3) := by decide +kernel
theorem dX6_drawn_31 : decode cX6_drawn 31 = .ok (.ifCond .eq 13, 3) := by decide +kernel
theorem dX6_drawn_34 : decode cX6_drawn 34 = .ok (.iload_n 3, 1) := by decide +kernel
theorem dX6_drawn_35 : decode cX6_drawn 35 = .ok (.i2l, 1) := by decide +kernel
theorem dX6_drawn_36 : decode cX6_drawn 36 = .ok (.lconst 0, 1) := by decide +kernel
theorem dX6_drawn_37 : decode cX6_drawn 37 = .ok (.lconst 1, 1) := by decide +kernel
theorem dX6_drawn_38 : decode cX6_drawn 38 = .ok (.invokestatic 34, 3) := by decide +kernel
theorem dX6_drawn_41 : decode cX6_drawn 41 = .ok (.ifCond .ne 6, 3) := by decide +kernel
theorem dX6_drawn_44 : decode cX6_drawn 44 = .ok (.ldc 51, 2) := by decide +kernel
theorem dX6_drawn_46 : decode cX6_drawn 46 = .ok (.ireturn, 1) := by decide +kernel
theorem dX6_drawn_47 : decode cX6_drawn 47 = .ok (.aload_n 0, 1) := by decide +kernel
theorem dX6_drawn_48 : decode cX6_drawn 48 = .ok (.invokevirtual 169, 3) := by decide +kernel
theorem dX6_drawn_51 : decode cX6_drawn 51 = .ok (.iload_n 2, 1) := by decide +kernel
theorem dX6_drawn_52 : decode cX6_drawn 52 = .ok (.i2l, 1) := by decide +kernel
theorem dX6_drawn_53 : decode cX6_drawn 53 = .ok (.lstore 4, 2) := by decide +kernel
theorem dX6_drawn_55 : decode cX6_drawn 55 = .ok (.iconst 0, 1) := by decide +kernel
theorem dX6_drawn_56 : decode cX6_drawn 56 = .ok (.istore 6, 2) := by decide +kernel
theorem dX6_drawn_58 : decode cX6_drawn 58 = .ok (.iload 6, 2) := by decide +kernel
theorem dX6_drawn_60 : decode cX6_drawn 60 = .ok (.iload_n 1, 1) := by decide +kernel
theorem dX6_drawn_61 : decode cX6_drawn 61 = .ok (.if_icmp .ge 78, 3) := by decide +kernel
theorem dX6_drawn_64 : decode cX6_drawn 64 = .ok (.lload 4, 2) := by decide +kernel
theorem dX6_drawn_66 : decode cX6_drawn 66 = .ok (.ldc2_w 199, 3) := by decide +kernel
theorem dX6_drawn_69 : decode cX6_drawn 69 = .ok (.lmul, 1) := by decide +kernel
theorem dX6_drawn_70 : decode cX6_drawn 70 = .ok (.ldc2_w 201, 3) := by decide +kernel
theorem dX6_drawn_73 : decode cX6_drawn 73 = .ok (.lrem, 1) := by decide +kernel
theorem dX6_drawn_74 : decode cX6_drawn 74 = .ok (.lstore 4, 2) := by decide +kernel
theorem dX6_drawn_76 : decode cX6_drawn 76 = .ok (.aload_n 0, 1) := by decide +kernel
theorem dX6_drawn_77 : decode cX6_drawn 77 = .ok (.getfield 7, 3) := by decide +kernel
theorem dX6_drawn_80 : decode cX6_drawn 80 = .ok (.iconst 1, 1) := by decide +kernel
theorem dX6_drawn_81 : decode cX6_drawn 81 = .ok (.iaload, 1) := by decide +kernel
theorem dX6_drawn_82 : decode cX6_drawn 82 = .ok (.ifCond .le 44, 3) := by decide +kernel
theorem dX6_drawn_85 : decode cX6_drawn 85 = .ok (.lload 4, 2) := by decide +kernel
theorem dX6_drawn_87 : decode cX6_drawn 87 = .ok (.ldc2_w 189, 3) := by decide +kernel
theorem dX6_drawn_90 : decode cX6_drawn 90 = .ok (.lrem, 1) := by decide +kernel
theorem dX6_drawn_91 : decode cX6_drawn 91 = .ok (.lconst 0, 1) := by decide +kernel
theorem dX6_drawn_92 : decode cX6_drawn 92 = .ok (.lcmp, 1) := by decide +kernel
theorem dX6_drawn_93 : decode cX6_drawn 93 = .ok (.ifCond .ne 33, 3) := by decide +kernel
theorem dX6_drawn_96 : decode cX6_drawn 96 = .ok (.aload_n 0, 1) := by decide +kernel
theorem dX6_drawn_97 : decode cX6_drawn 97 = .ok (.getfield 7, 3) := by decide +kernel
theorem dX6_drawn_100 : decode cX6_drawn 100 = .ok (.bipush 57, 2) := by decide +kernel
theorem dX6_drawn_102 : decode cX6_drawn 102 = .ok (.lload 4, 2) := by decide +kernel
theorem dX6_drawn_104 : decode cX6_drawn 104 = .ok (.aload_n 0, 1) := by decide +kernel
theorem dX6_drawn_105 : decode cX6_drawn 105 = .ok (.getfield 7, 3) := by decide +kernel
theorem dX6_drawn_108 : decode cX6_drawn 108 = .ok (.iconst 1, 1) := by decide +kernel
theorem dX6_drawn_109 : decode cX6_drawn 109 = .ok (.iaload, 1) := by decide +kernel
theorem dX6_drawn_110 : decode cX6_drawn 110 = .ok (.i2l, 1) := by decide +kernel
theorem dX6_drawn_111 : decode cX6_drawn 111 = .ok (.lrem, 1) := by decide +kernel
theorem dX6_drawn_112 : decode cX6_drawn 112 = .ok (.l2i, 1) := by decide +kernel
theorem dX6_drawn_113 : decode cX6_drawn 113 = .ok (.iadd, 1) := by decide +kernel
theorem dX6_drawn_114 : decode cX6_drawn 114 = .ok (.lload 4, 2) := by decide +kernel
theorem dX6_drawn_116 : decode cX6_drawn 116 = .ok (.aload_n 0, 1) := by decide +kernel
theorem dX6_drawn_117 : decode cX6_drawn 117 = .ok (.getfield 7, 3) := by decide +kernel
theorem dX6_drawn_120 : decode cX6_drawn 120 = .ok (.iconst 0, 1) := by decide +kernel
theorem dX6_drawn_121 : decode cX6_drawn 121 = .ok (.iaload, 1) := by decide +kernel
theorem dX6_drawn_122 : decode cX6_drawn 122 = .ok (.i2l, 1) := by decide +kernel
theorem dX6_drawn_123 : decode cX6_drawn 123 = .ok (.lrem, 1) := by decide +kernel
theorem dX6_drawn_124 : decode cX6_drawn 124 = .ok (.l2i, 1) := by decide +kernel
theorem dX6_drawn_125 : decode cX6_drawn 125 = .ok (.iastore, 1) := by decide +kernel
theorem dX6_drawn_126 : decode cX6_drawn 126 = .ok (.aload_n 0, 1) := by decide +kernel
theorem dX6_drawn_127 : decode cX6_drawn 127 = .ok (.bipush 38, 2) := by decide +kernel
theorem dX6_drawn_129 : decode cX6_drawn 129 = .ok (.iconst 0, 1) := by decide +kernel
theorem dX6_drawn_130 : decode cX6_drawn 130 = .ok (.invokevirtual 152, 3) := by decide +kernel
theorem dX6_drawn_133 : decode cX6_drawn 133 = .ok (.iinc 6 1, 3) := by decide +kernel
theorem dX6_drawn_136 : decode cX6_drawn 136 = .ok (.goto (-78), 3) := by decide +kernel
theorem dX6_drawn_139 : decode cX6_drawn 139 = .ok (.iload_n 3, 1) := by decide +kernel
theorem dX6_drawn_140 : decode cX6_drawn 140 = .ok (.ifCond .ne 12, 3) := by decide +kernel
theorem dX6_drawn_143 : decode cX6_drawn 143 = .ok (.aload_n 0, 1) := by decide +kernel
theorem dX6_drawn_144 : decode cX6_drawn 144 = .ok (.bipush 38, 2) := by decide +kernel
theorem dX6_drawn_146 : decode cX6_drawn 146 = .ok (.invokevirtual 203, 3) := by decide +kernel
theorem dX6_drawn_149 : decode cX6_drawn 149 = .ok (.goto 12, 3) := by decide +kernel
theorem dX6_drawn_152 : decode cX6_drawn 152 = .ok (.aload_n 0, 1) := by decide +kernel
theorem dX6_drawn_153 : decode cX6_drawn 153 = .ok (.bipush 38, 2) := by decide +kernel
theorem dX6_drawn_155 : decode cX6_drawn 155 = .ok (.invokevirtual 155, 3) := by decide +kernel
theorem dX6_drawn_158 : decode cX6_drawn 158 = .ok (.invokestatic 140, 3) := by decide +kernel
theorem dX6_drawn_161 : decode cX6_drawn 161 = .ok (.ireturn, 1) := by decide +kernel
set_option maxRecDepth 20000 in
theorem ggX6_image_X6_in : GoodIn wsX6_image wsX6_in := goodIn_r _ [6] (by decide +kernel) (by decide +kernel)
set_option maxRecDepth 20000 in
theorem gX6_image_X6_in : GoodIn wsX6_image (va_wsS RX6 34 yX6_in wsX6_in) := goodIn_app (goodIn_of _ (by decide +kernel)) ggX6_image_X6_in
set_option maxRecDepth 20000 in
theorem ggX6_image_X6_isRoad : GoodIn wsX6_image wsX6_isRoad := goodIn_r _ [10, 11, 16, 17, 18, 19, 20, 21, 22, 23, 24, 25, 26, 27, 28, 29, 30, 31] (by decide +kernel) (by decide +kernel)
set_option maxRecDepth 20000 in
theorem gX6_image_X6_isRoad : GoodIn wsX6_image (wsV RX6 143 RX6 yX6_isRoad wsX6_isRoad) := goodIn_app (goodIn_of _ (by decide +kernel)) ggX6_image_X6_isRoad
set_option maxRecDepth 20000 in
theorem ggX6_image_X6_copyOf : GoodIn wsX6_image wsX6_copyOf := goodIn_r _ [15, 11, 16, 17, 18, 19, 20, 21, 22, 23, 24, 25, 26, 27, 28, 29, 30, 31] (by decide +kernel) (by decide +kernel)
set_option maxRecDepth 20000 in
theorem gX6_image_X6_copyOf : GoodIn wsX6_image (wsV RX6 113 RX6 yX6_copyOf wsX6_copyOf) := goodIn_app (goodIn_of _ (by decide +kernel)) ggX6_image_X6_copyOf
theorem dX6_image_0 : decode cX6_image 0 = .ok (.iload_n 1, 1) := by decide +kernel
theorem dX6_image_1 : decode cX6_image 1 = .ok (.i2l, 1) := by decide +kernel
theorem dX6_image_2 : decode cX6_image 2 = .ok (.lconst 0, 1) := by decide +kernel
theorem dX6_image_3 : decode cX6_image 3 = .ok (.lconst 1, 1) := by decide +kernel
theorem dX6_image_4 : decode cX6_image 4 = .ok (.invokestatic 34, 3) := by decide +kernel
theorem dX6_image_7 : decode cX6_image 7 = .ok (.ifCond .ne 6, 3) := by decide +kernel
theorem dX6_image_10 : decode cX6_image 10 = .ok (.ldc 51, 2) := by decide +kernel
theorem dX6_image_12 : decode cX6_image 12 = .ok (.ireturn, 1) := by decide +kernel
theorem dX6_image_13 : decode cX6_image 13 = .ok (.aload_n 0, 1) := by decide +kernel
theorem dX6_image_14 : decode cX6_image 14 = .ok (.invokevirtual 143, 3) := by decide +kernel
theorem dX6_image_17 : decode cX6_image 17 = .ok (.ifCond .ne 6, 3) := by decide +kernel
theorem dX6_image_20 : decode cX6_image 20 = .ok (.ldc 146, 2) := by decide +kernel
theorem dX6_image_22 : decode cX6_image 22 = .ok (.ireturn, 1) := by decide +kernel
theorem dX6_image_23 : decode cX6_image 23 = .ok (.aload_n 0, 1) := by decide +kernel
theorem dX6_image_24 : decode cX6_image 24 = .ok (.iconst 0, 1) := by decide +kernel
theorem dX6_image_25 : decode cX6_image 25 = .ok (.bipush 76, 2) := by decide +kernel
theorem dX6_image_27 : decode cX6_image 27 = .ok (.bipush 38, 2) := by decide +kernel
theorem dX6_image_29 : decode cX6_image 29 = .ok (.iload_n 1, 1) := by decide +kernel
theorem dX6_image_30 : decode cX6_image 30 = .ok (.imul, 1) := by decide +kernel
theorem dX6_image_31 : decode cX6_image 31 = .ok (.iadd, 1) := by decide +kernel
theorem dX6_image_32 : decode cX6_image 32 = .ok (.bipush 38, 2) := by decide +kernel
theorem dX6_image_34 : decode cX6_image 34 = .ok (.invokevirtual 113, 3) := by decide +kernel
theorem dX6_image_37 : decode cX6_image 37 = .ok (.iconst 1, 1) := by decide +kernel
theorem dX6_image_38 : decode cX6_image 38 = .ok (.ireturn, 1) := by decide +kernel
set_option maxRecDepth 20000 in
theorem ggX6_restore_X6_in : GoodIn wsX6_restore wsX6_in := goodIn_r _ [8] (by decide +kernel) (by decide +kernel)
set_option maxRecDepth 20000 in
theorem gX6_restore_X6_in : GoodIn wsX6_restore (va_wsS RX6 34 yX6_in wsX6_in) := goodIn_app (goodIn_of _ (by decide +kernel)) ggX6_restore_X6_in
set_option maxRecDepth 20000 in
theorem ggX6_restore_X6_copyOf : GoodIn wsX6_restore wsX6_copyOf := goodIn_r _ [12, 2, 13, 14, 15, 16, 17, 18, 19, 20, 21, 22, 23, 24, 25, 26, 27, 28] (by decide +kernel) (by decide +kernel)
set_option maxRecDepth 20000 in
theorem gX6_restore_X6_copyOf : GoodIn wsX6_restore (wsV RX6 113 RX6 yX6_copyOf wsX6_copyOf) := goodIn_app (goodIn_of _ (by decide +kernel)) ggX6_restore_X6_copyOf
theorem dX6_restore_0 : decode cX6_restore 0 = .ok (.iload_n 1, 1) := by decide +kernel
theorem dX6_restore_1 : decode cX6_restore 1 = .ok (.i2l, 1) := by decide +kernel
theorem dX6_restore_2 : decode cX6_restore 2 = .ok (.lconst 0, 1) := by decide +kernel
theorem dX6_restore_3 : decode cX6_restore 3 = .ok (.lconst 1, 1) := by decide +kernel
theorem dX6_restore_4 : decode cX6_restore 4 = .ok (.invokestatic 34, 3) := by decide +kernel
theorem dX6_restore_7 : decode cX6_restore 7 = .ok (.ifCond .ne 6, 3) := by decide +kernel
theorem dX6_restore_10 : decode cX6_restore 10 = .ok (.ldc 51, 2) := by decide +kernel
theorem dX6_restore_12 : decode cX6_restore 12 = .ok (.ireturn, 1) := by decide +kernel
theorem dX6_restore_13 : decode cX6_restore 13 = .ok (.aload_n 0, 1) := by decide +kernel
theorem dX6_restore_14 : decode cX6_restore 14 = .ok (.getfield 7, 3) := by decide +kernel
theorem dX6_restore_17 : decode cX6_restore 17 = .ok (.bipush 76, 2) := by decide +kernel
theorem dX6_restore_19 : decode cX6_restore 19 = .ok (.bipush 38, 2) := by decide +kernel
theorem dX6_restore_21 : decode cX6_restore 21 = .ok (.iload_n 1, 1) := by decide +kernel
theorem dX6_restore_22 : decode cX6_restore 22 = .ok (.imul, 1) := by decide +kernel
theorem dX6_restore_23 : decode cX6_restore 23 = .ok (.iadd, 1) := by decide +kernel
theorem dX6_restore_24 : decode cX6_restore 24 = .ok (.iconst 0, 1) := by decide +kernel
theorem dX6_restore_25 : decode cX6_restore 25 = .ok (.iadd, 1) := by decide +kernel
theorem dX6_restore_26 : decode cX6_restore 26 = .ok (.iaload, 1) := by decide +kernel
theorem dX6_restore_27 : decode cX6_restore 27 = .ok (.ifCond .ne 6, 3) := by decide +kernel
theorem dX6_restore_30 : decode cX6_restore 30 = .ok (.ldc 146, 2) := by decide +kernel
theorem dX6_restore_32 : decode cX6_restore 32 = .ok (.ireturn, 1) := by decide +kernel
theorem dX6_restore_33 : decode cX6_restore 33 = .ok (.aload_n 0, 1) := by decide +kernel
theorem dX6_restore_34 : decode cX6_restore 34 = .ok (.bipush 76, 2) := by decide +kernel
theorem dX6_restore_36 : decode cX6_restore 36 = .ok (.bipush 38, 2) := by decide +kernel
theorem dX6_restore_38 : decode cX6_restore 38 = .ok (.iload_n 1, 1) := by decide +kernel
theorem dX6_restore_39 : decode cX6_restore 39 = .ok (.imul, 1) := by decide +kernel
theorem dX6_restore_40 : decode cX6_restore 40 = .ok (.iadd, 1) := by decide +kernel
theorem dX6_restore_41 : decode cX6_restore 41 = .ok (.iconst 0, 1) := by decide +kernel
theorem dX6_restore_42 : decode cX6_restore 42 = .ok (.bipush 38, 2) := by decide +kernel
theorem dX6_restore_44 : decode cX6_restore 44 = .ok (.invokevirtual 113, 3) := by decide +kernel
theorem dX6_restore_47 : decode cX6_restore 47 = .ok (.aload_n 0, 1) := by decide +kernel
theorem dX6_restore_48 : decode cX6_restore 48 = .ok (.iconst 0, 1) := by decide +kernel
theorem dX6_restore_49 : decode cX6_restore 49 = .ok (.putfield 117, 3) := by decide +kernel
theorem dX6_restore_52 : decode cX6_restore 52 = .ok (.iconst 1, 1) := by decide +kernel
theorem dX6_restore_53 : decode cX6_restore 53 = .ok (.ireturn, 1) := by decide +kernel
set_option maxRecDepth 20000 in
theorem ggX6_kind_X6_isPulpit : GoodIn wsX6_kind wsX6_isPulpit := goodIn_r _ [7, 1, 8, 9, 6, 10, 11, 12, 13, 14, 15, 16, 17, 18, 19, 20, 21, 22, 23, 24, 25, 26] (by decide +kernel) (by decide +kernel)
set_option maxRecDepth 20000 in
theorem gX6_kind_X6_isPulpit : GoodIn wsX6_kind (wsV RX6 158 RX6 yX6_isPulpit wsX6_isPulpit) := goodIn_app (goodIn_of _ (by decide +kernel)) ggX6_kind_X6_isPulpit
theorem dX6_kind_0 : decode cX6_kind 0 = .ok (.aload_n 0, 1) := by decide +kernel
theorem dX6_kind_1 : decode cX6_kind 1 = .ok (.iload_n 1, 1) := by decide +kernel
theorem dX6_kind_2 : decode cX6_kind 2 = .ok (.invokevirtual 158, 3) := by decide +kernel
theorem dX6_kind_5 : decode cX6_kind 5 = .ok (.ifCond .eq 15, 3) := by decide +kernel
theorem dX6_kind_8 : decode cX6_kind 8 = .ok (.aload_n 0, 1) := by decide +kernel
theorem dX6_kind_9 : decode cX6_kind 9 = .ok (.getfield 7, 3) := by decide +kernel
theorem dX6_kind_12 : decode cX6_kind 12 = .ok (.bipush 13, 2) := by decide +kernel
theorem dX6_kind_14 : decode cX6_kind 14 = .ok (.iload_n 1, 1) := by decide +kernel
theorem dX6_kind_15 : decode cX6_kind 15 = .ok (.iadd, 1) := by decide +kernel
theorem dX6_kind_16 : decode cX6_kind 16 = .ok (.iaload, 1) := by decide +kernel
theorem dX6_kind_17 : decode cX6_kind 17 = .ok (.goto 5, 3) := by decide +kernel
theorem dX6_kind_20 : decode cX6_kind 20 = .ok (.ldc 51, 2) := by decide +kernel
theorem dX6_kind_22 : decode cX6_kind 22 = .ok (.ireturn, 1) := by decide +kernel
theorem dX6_isA_0 : decode cX6_isA 0 = .ok (.iload_n 1, 1) := by decide +kernel
theorem dX6_isA_1 : decode cX6_isA 1 = .ok (.ifCond .eq 33, 3) := by decide +kernel
theorem dX6_isA_4 : decode cX6_isA 4 = .ok (.iload_n 1, 1) := by decide +kernel
theorem dX6_isA_5 : decode cX6_isA 5 = .ok (.iload_n 0, 1) := by decide +kernel
theorem dX6_isA_6 : decode cX6_isA 6 = .ok (.if_icmp .eq 28, 3) := by decide +kernel
theorem dX6_isA_9 : decode cX6_isA 9 = .ok (.iload_n 1, 1) := by decide +kernel
theorem dX6_isA_10 : decode cX6_isA 10 = .ok (.iconst 1, 1) := by decide +kernel
theorem dX6_isA_11 : decode cX6_isA 11 = .ok (.if_icmp .ne 13, 3) := by decide +kernel
theorem dX6_isA_14 : decode cX6_isA 14 = .ok (.iload_n 0, 1) := by decide +kernel
theorem dX6_isA_15 : decode cX6_isA 15 = .ok (.iconst 2, 1) := by decide +kernel
theorem dX6_isA_16 : decode cX6_isA 16 = .ok (.if_icmp .eq 18, 3) := by decide +kernel
theorem dX6_isA_19 : decode cX6_isA 19 = .ok (.iload_n 0, 1) := by decide +kernel
theorem dX6_isA_20 : decode cX6_isA 20 = .ok (.iconst 3, 1) := by decide +kernel
theorem dX6_isA_21 : decode cX6_isA 21 = .ok (.if_icmp .eq 13, 3) := by decide +kernel
theorem dX6_isA_24 : decode cX6_isA 24 = .ok (.iload_n 1, 1) := by decide +kernel
theorem dX6_isA_25 : decode cX6_isA 25 = .ok (.iconst 4, 1) := by decide +kernel
theorem dX6_isA_26 : decode cX6_isA 26 = .ok (.if_icmp .ne 12, 3) := by decide +kernel
theorem dX6_isA_29 : decode cX6_isA 29 = .ok (.iload_n 0, 1) := by decide +kernel
theorem dX6_isA_30 : decode cX6_isA 30 = .ok (.iconst 5, 1) := by decide +kernel
theorem dX6_isA_31 : decode cX6_isA 31 = .ok (.if_icmp .ne 7, 3) := by decide +kernel
theorem dX6_isA_34 : decode cX6_isA 34 = .ok (.iconst 1, 1) := by decide +kernel
theorem dX6_isA_35 : decode cX6_isA 35 = .ok (.goto 4, 3) := by decide +kernel
theorem dX6_isA_38 : decode cX6_isA 38 = .ok (.iconst 0, 1) := by decide +kernel
theorem dX6_isA_39 : decode cX6_isA 39 = .ok (.ireturn, 1) := by decide +kernel
set_option maxRecDepth 20000 in
theorem ggX6_as_X6_isPulpit : GoodIn wsX6_as wsX6_isPulpit := goodIn_r _ [9, 3, 10, 11, 8, 12, 21, 22, 23, 24, 25, 26, 27, 28, 29, 30, 31, 32, 33, 34, 35, 36] (by decide +kernel) (by decide +kernel)
set_option maxRecDepth 20000 in
theorem gX6_as_X6_isPulpit : GoodIn wsX6_as (wsV RX6 158 RX6 yX6_isPulpit wsX6_isPulpit) := goodIn_app (goodIn_of _ (by decide +kernel)) ggX6_as_X6_isPulpit
set_option maxRecDepth 20000 in
theorem ggX6_as_X6_in : GoodIn wsX6_as wsX6_in := goodIn_r _ [12] (by decide +kernel) (by decide +kernel)
set_option maxRecDepth 20000 in
theorem gX6_as_X6_in : GoodIn wsX6_as (va_wsS RX6 34 yX6_in wsX6_in) := goodIn_app (goodIn_of _ (by decide +kernel)) ggX6_as_X6_in
set_option maxRecDepth 20000 in
theorem ggX6_as_X6_isA : GoodIn wsX6_as wsX6_isA := goodIn_r _ [15] (by decide +kernel) (by decide +kernel)
set_option maxRecDepth 20000 in
theorem gX6_as_X6_isA : GoodIn wsX6_as (va_wsS RX6 208 yX6_isA wsX6_isA) := goodIn_app (goodIn_of _ (by decide +kernel)) ggX6_as_X6_isA
set_option maxRecDepth 20000 in
theorem ggX6_as_X6_finds : GoodIn wsX6_as wsX6_finds := goodIn_r _ [19, 4, 20, 21, 22, 23, 24, 25, 26, 27, 28, 29, 30, 31, 32, 33, 34, 35, 36] (by decide +kernel) (by decide +kernel)
set_option maxRecDepth 20000 in
theorem gX6_as_X6_finds : GoodIn wsX6_as (wsV RX6 52 RX6 yX6_finds wsX6_finds) := goodIn_app (goodIn_of _ (by decide +kernel)) ggX6_as_X6_finds
theorem dX6_as_0 : decode cX6_as 0 = .ok (.aload_n 0, 1) := by decide +kernel
theorem dX6_as_1 : decode cX6_as 1 = .ok (.iload_n 1, 1) := by decide +kernel
theorem dX6_as_2 : decode cX6_as 2 = .ok (.invokevirtual 158, 3) := by decide +kernel
theorem dX6_as_5 : decode cX6_as 5 = .ok (.ifCond .eq 15, 3) := by decide +kernel
theorem dX6_as_8 : decode cX6_as 8 = .ok (.iload_n 2, 1) := by decide +kernel
theorem dX6_as_9 : decode cX6_as 9 = .ok (.i2l, 1) := by decide +kernel
theorem dX6_as_10 : decode cX6_as 10 = .ok (.lconst 0, 1) := by decide +kernel
theorem dX6_as_11 : decode cX6_as 11 = .ok (.ldc2_w 206, 3) := by decide +kernel
theorem dX6_as_14 : decode cX6_as 14 = .ok (.invokestatic 34, 3) := by decide +kernel
theorem dX6_as_17 : decode cX6_as 17 = .ok (.ifCond .ne 6, 3) := by decide +kernel
theorem dX6_as_20 : decode cX6_as 20 = .ok (.ldc 51, 2) := by decide +kernel
theorem dX6_as_22 : decode cX6_as 22 = .ok (.ireturn, 1) := by decide +kernel
theorem dX6_as_23 : decode cX6_as 23 = .ok (.aload_n 0, 1) := by decide +kernel
theorem dX6_as_24 : decode cX6_as 24 = .ok (.getfield 7, 3) := by decide +kernel
theorem dX6_as_27 : decode cX6_as 27 = .ok (.bipush 13, 2) := by decide +kernel
theorem dX6_as_29 : decode cX6_as 29 = .ok (.iload_n 1, 1) := by decide +kernel
theorem dX6_as_30 : decode cX6_as 30 = .ok (.iadd, 1) := by decide +kernel
theorem dX6_as_31 : decode cX6_as 31 = .ok (.iaload, 1) := by decide +kernel
theorem dX6_as_32 : decode cX6_as 32 = .ok (.iload_n 2, 1) := by decide +kernel
theorem dX6_as_33 : decode cX6_as 33 = .ok (.invokestatic 208, 3) := by decide +kernel
theorem dX6_as_36 : decode cX6_as 36 = .ok (.ifCond .ne 9, 3) := by decide +kernel
theorem dX6_as_39 : decode cX6_as 39 = .ok (.aload_n 0, 1) := by decide +kernel
theorem dX6_as_40 : decode cX6_as 40 = .ok (.iconst 3, 1) := by decide +kernel
theorem dX6_as_41 : decode cX6_as 41 = .ok (.invokevirtual 52, 3) := by decide +kernel
theorem dX6_as_44 : decode cX6_as 44 = .ok (.ireturn, 1) := by decide +kernel
theorem dX6_as_45 : decode cX6_as 45 = .ok (.aload_n 0, 1) := by decide +kernel
theorem dX6_as_46 : decode cX6_as 46 = .ok (.iconst 0, 1) := by decide +kernel
theorem dX6_as_47 : decode cX6_as 47 = .ok (.putfield 40, 3) := by decide +kernel
theorem dX6_as_50 : decode cX6_as 50 = .ok (.iload_n 1, 1) := by decide +kernel
theorem dX6_as_51 : decode cX6_as 51 = .ok (.ireturn, 1) := by decide +kernel
theorem dX6_traces_0 : decode cX6_traces 0 = .ok (.aload_n 0, 1) := by decide +kernel
theorem dX6_traces_1 : decode cX6_traces 1 = .ok (.getfield 211, 3) := by decide +kernel
theorem dX6_traces_4 : decode cX6_traces 4 = .ok (.bipush 16, 2) := by decide +kernel
theorem dX6_traces_6 : decode cX6_traces 6 = .ok (.if_icmp .ge 23, 3) := by decide +kernel
theorem dX6_traces_9 : decode cX6_traces 9 = .ok (.aload_n 0, 1) := by decide +kernel
theorem dX6_traces_10 : decode cX6_traces 10 = .ok (.getfield 31, 3) := by decide +kernel
theorem dX6_traces_13 : decode cX6_traces 13 = .ok (.aload_n 0, 1) := by decide +kernel
theorem dX6_traces_14 : decode cX6_traces 14 = .ok (.getfield 211, 3) := by decide +kernel
theorem dX6_traces_17 : decode cX6_traces 17 = .ok (.iload_n 1, 1) := by decide +kernel
theorem dX6_traces_18 : decode cX6_traces 18 = .ok (.iastore, 1) := by decide +kernel
theorem dX6_traces_19 : decode cX6_traces 19 = .ok (.aload_n 0, 1) := by decide +kernel
theorem dX6_traces_20 : decode cX6_traces 20 = .ok (.dup, 1) := by decide +kernel
theorem dX6_traces_21 : decode cX6_traces 21 = .ok (.getfield 211, 3) := by decide +kernel
theorem dX6_traces_24 : decode cX6_traces 24 = .ok (.iconst 1, 1) := by decide +kernel
theorem dX6_traces_25 : decode cX6_traces 25 = .ok (.iadd, 1) := by decide +kernel
theorem dX6_traces_26 : decode cX6_traces 26 = .ok (.putfield 211, 3) := by decide +kernel
theorem dX6_traces_29 : decode cX6_traces 29 = .ok (.return_, 1) := by decide +kernel
set_option maxRecDepth 20000 in
theorem ggX6_size10_X6_traces : GoodIn wsX6_size10 wsX6_traces := goodIn_r _ [6, 7, 8, 9, 10, 11, 12, 13, 14, 15, 16, 17, 18, 19, 20, 21, 22, 23, 24] (by decide +kernel) (by decide +kernel)
set_option maxRecDepth 20000 in
theorem gX6_size10_X6_traces : GoodIn wsX6_size10 (wsV RX6 214 RX6 yX6_traces wsX6_traces) := goodIn_app (goodIn_of _ (by decide +kernel)) ggX6_size10_X6_traces
theorem dX6_size10_0 : decode cX6_size10 0 = .ok (.aload_n 0, 1) := by decide +kernel
theorem dX6_size10_1 : decode cX6_size10 1 = .ok (.bipush 10, 2) := by decide +kernel
theorem dX6_size10_3 : decode cX6_size10 3 = .ok (.invokevirtual 214, 3) := by decide +kernel
theorem dX6_size10_6 : decode cX6_size10 6 = .ok (.aload_n 0, 1) := by decide +kernel
theorem dX6_size10_7 : decode cX6_size10 7 = .ok (.getfield 7, 3) := by decide +kernel
theorem dX6_size10_10 : decode cX6_size10 10 = .ok (.bipush 24, 2) := by decide +kernel
theorem dX6_size10_12 : decode cX6_size10 12 = .ok (.iload_n 1, 1) := by decide +kernel
theorem dX6_size10_13 : decode cX6_size10 13 = .ok (.iadd, 1) := by decide +kernel
theorem dX6_size10_14 : decode cX6_size10 14 = .ok (.iaload, 1) := by decide +kernel
theorem dX6_size10_15 : decode cX6_size10 15 = .ok (.ireturn, 1) := by decide +kernel
set_option maxRecDepth 20000 in
theorem ggX6_size11_X6_traces : GoodIn wsX6_size11 wsX6_traces := goodIn_r _ [5, 6, 7, 25, 26, 27, 28, 29, 30, 31, 32, 33, 34, 35, 36, 37, 38, 39, 40] (by decide +kernel) (by decide +kernel)
set_option maxRecDepth 20000 in
theorem gX6_size11_X6_traces : GoodIn wsX6_size11 (wsV RX6 214 RX6 yX6_traces wsX6_traces) := goodIn_app (goodIn_of _ (by decide +kernel)) ggX6_size11_X6_traces
set_option maxRecDepth 20000 in
theorem ggX6_size11_X6_size10 : GoodIn wsX6_size11 wsX6_size10 := goodIn_r _ [11, 12, 1, 2, 3, 4, 5, 6, 7, 25, 26, 27, 28, 29, 30, 31, 32, 33, 34, 35, 36, 37, 38, 39, 40] (by decide +kernel) (by decide +kernel)
set_option maxRecDepth 20000 in
theorem gX6_size11_X6_size10 : GoodIn wsX6_size11 (wsV RX6 217 RX6 yX6_size10 wsX6_size10) := goodIn_app (goodIn_of _ (by decide +kernel)) ggX6_size11_X6_size10
set_option maxRecDepth 20000 in
theorem ggX6_size11_X6_markOf : GoodIn wsX6_size11 wsX6_markOf := goodIn_r _ [16, 12, 1, 2, 3, 4, 5, 6, 7, 17, 18, 19, 20, 21, 22, 23, 24, 25, 26, 27, 28, 29, 30, 31, 32, 33, 34, 35, 36, 37, 38, 39, 40] (by decide +kernel) (by decide +kernel)
set_option maxRecDepth 20000 in
theorem gX6_size11_X6_markOf : GoodIn wsX6_size11 (wsV RX6 220 RX6 yX6_markOf wsX6_markOf) := goodIn_app (goodIn_of _ (by decide +kernel)) ggX6_size11_X6_markOf
theorem dX6_size11_0 : decode cX6_size11 0 = .ok (.aload_n 0, 1) := by decide +kernel
theorem dX6_size11_1 : decode cX6_size11 1 = .ok (.bipush 11, 2) := by decide +kernel
theorem dX6_size11_3 : decode cX6_size11 3 = .ok (.invokevirtual 214, 3) := by decide +kernel
theorem dX6_size11_6 : decode cX6_size11 6 = .ok (.aload_n 0, 1) := by decide +kernel
theorem dX6_size11_7 : decode cX6_size11 7 = .ok (.iload_n 1, 1) := by decide +kernel
theorem dX6_size11_8 : decode cX6_size11 8 = .ok (.invokevirtual 217, 3) := by decide +kernel
theorem dX6_size11_11 : decode cX6_size11 11 = .ok (.istore_n 2, 1) := by decide +kernel
theorem dX6_size11_12 : decode cX6_size11 12 = .ok (.iload_n 2, 1) := by decide +kernel
theorem dX6_size11_13 : decode cX6_size11 13 = .ok (.aload_n 0, 1) := by decide +kernel
theorem dX6_size11_14 : decode cX6_size11 14 = .ok (.iload_n 1, 1) := by decide +kernel
theorem dX6_size11_15 : decode cX6_size11 15 = .ok (.invokevirtual 220, 3) := by decide +kernel
theorem dX6_size11_18 : decode cX6_size11 18 = .ok (.iadd, 1) := by decide +kernel
theorem dX6_size11_19 : decode cX6_size11 19 = .ok (.ireturn, 1) := by decide +kernel
set_option maxRecDepth 20000 in
theorem ggX6_size13_X6_traces : GoodIn wsX6_size13 wsX6_traces := goodIn_r _ [5, 6, 7, 13, 14, 15, 16, 17, 18, 19, 20, 21, 22, 23, 24, 25, 26, 27, 28] (by decide +kernel) (by decide +kernel)
set_option maxRecDepth 20000 in
theorem gX6_size13_X6_traces : GoodIn wsX6_size13 (wsV RX6 214 RX6 yX6_traces wsX6_traces) := goodIn_app (goodIn_of _ (by decide +kernel)) ggX6_size13_X6_traces
set_option maxRecDepth 20000 in
theorem ggX6_size13_X6_size10 : GoodIn wsX6_size13 wsX6_size10 := goodIn_r _ [11, 12, 1, 2, 3, 4, 5, 6, 7, 13, 14, 15, 16, 17, 18, 19, 20, 21, 22, 23, 24, 25, 26, 27, 28] (by decide +kernel) (by decide +kernel)
set_option maxRecDepth 20000 in
theorem gX6_size13_X6_size10 : GoodIn wsX6_size13 (wsV RX6 217 RX6 yX6_size10 wsX6_size10) := goodIn_app (goodIn_of _ (by decide +kernel)) ggX6_size13_X6_size10
theorem dX6_size13_0 : decode cX6_size13 0 = .ok (.aload_n 0, 1) := by decide +kernel
theorem dX6_size13_1 : decode cX6_size13 1 = .ok (.bipush 13, 2) := by decide +kernel
theorem dX6_size13_3 : decode cX6_size13 3 = .ok (.invokevirtual 214, 3) := by decide +kernel
theorem dX6_size13_6 : decode cX6_size13 6 = .ok (.aload_n 0, 1) := by decide +kernel
theorem dX6_size13_7 : decode cX6_size13 7 = .ok (.iload_n 1, 1) := by decide +kernel
theorem dX6_size13_8 : decode cX6_size13 8 = .ok (.invokevirtual 217, 3) := by decide +kernel
theorem dX6_size13_11 : decode cX6_size13 11 = .ok (.bipush 100, 2) := by decide +kernel
theorem dX6_size13_13 : decode cX6_size13 13 = .ok (.isub, 1) := by decide +kernel
theorem dX6_size13_14 : decode cX6_size13 14 = .ok (.ireturn, 1) := by decide +kernel
set_option maxRecDepth 20000 in
theorem ggX6_sizeOf_X6_traces : GoodIn wsX6_sizeOf wsX6_traces := goodIn_r _ [6, 7, 8, 33, 34, 35, 36, 37, 38, 39, 40, 41, 42, 43, 44, 45, 46, 47, 48] (by decide +kernel) (by decide +kernel)
set_option maxRecDepth 20000 in
theorem gX6_sizeOf_X6_traces : GoodIn wsX6_sizeOf (wsV RX6 214 RX6 yX6_traces wsX6_traces) := goodIn_app (goodIn_of _ (by decide +kernel)) ggX6_sizeOf_X6_traces
set_option maxRecDepth 20000 in
theorem ggX6_sizeOf_X6_size11 : GoodIn wsX6_sizeOf wsX6_size11 := goodIn_r _ [12, 2, 3, 4, 5, 6, 7, 8, 13, 14, 15, 16, 1, 17, 18, 19, 20, 21, 22, 23, 24, 25, 26, 27, 28, 33, 34, 35, 36, 37, 38, 39, 40, 41, 42, 43, 44, 45, 46, 47, 48] (by decide +kernel) (by decide +kernel)
set_option maxRecDepth 20000 in
theorem gX6_sizeOf_X6_size11 : GoodIn wsX6_sizeOf (wsV RX6 223 RX6 yX6_size11 wsX6_size11) := goodIn_app (goodIn_of _ (by decide +kernel)) ggX6_sizeOf_X6_size11
set_option maxRecDepth 20000 in
theorem ggX6_sizeOf_X6_size13 : GoodIn wsX6_sizeOf wsX6_size13 := goodIn_r _ [32, 2, 3, 4, 5, 6, 7, 8, 13, 14, 15, 16, 1, 33, 34, 35, 36, 37, 38, 39, 40, 41, 42, 43, 44, 45, 46, 47, 48] (by decide +kernel) (by decide +kernel)
set_option maxRecDepth 20000 in
theorem gX6_sizeOf_X6_size13 : GoodIn wsX6_sizeOf (wsV RX6 226 RX6 yX6_size13 wsX6_size13) := goodIn_app (goodIn_of _ (by decide +kernel)) ggX6_sizeOf_X6_size13
theorem dX6_sizeOf_0 : decode cX6_sizeOf 0 = .ok (.aload_n 0, 1) := by decide +kernel
theorem dX6_sizeOf_1 : decode cX6_sizeOf 1 = .ok (.getfield 7, 3) := by decide +kernel
theorem dX6_sizeOf_4 : decode cX6_sizeOf 4 = .ok (.bipush 13, 2) := by decide +kernel
theorem dX6_sizeOf_6 : decode cX6_sizeOf 6 = .ok (.iload_n 1, 1) := by decide +kernel
theorem dX6_sizeOf_7 : decode cX6_sizeOf 7 = .ok (.iadd, 1) := by decide +kernel
theorem dX6_sizeOf_8 : decode cX6_sizeOf 8 = .ok (.iaload, 1) := by decide +kernel
theorem dX6_sizeOf_9 : decode cX6_sizeOf 9 = .ok (.tableswitch 64 2 5 #[31, 64, 44, 50], 31) := by decide +kernel
theorem dX6_sizeOf_40 : decode cX6_sizeOf 40 = .ok (.aload_n 0, 1) := by decide +kernel
theorem dX6_sizeOf_41 : decode cX6_sizeOf 41 = .ok (.bipush 12, 2) := by decide +kernel
theorem dX6_sizeOf_43 : decode cX6_sizeOf 43 = .ok (.invokevirtual 214, 3) := by decide +kernel
theorem dX6_sizeOf_46 : decode cX6_sizeOf 46 = .ok (.aload_n 0, 1) := by decide +kernel
theorem dX6_sizeOf_47 : decode cX6_sizeOf 47 = .ok (.iload_n 1, 1) := by decide +kernel
theorem dX6_sizeOf_48 : decode cX6_sizeOf 48 = .ok (.invokevirtual 223, 3) := by decide +kernel
theorem dX6_sizeOf_51 : decode cX6_sizeOf 51 = .ok (.ineg, 1) := by decide +kernel
theorem dX6_sizeOf_52 : decode cX6_sizeOf 52 = .ok (.ireturn, 1) := by decide +kernel
theorem dX6_sizeOf_53 : decode cX6_sizeOf 53 = .ok (.aload_n 0, 1) := by decide +kernel
theorem dX6_sizeOf_54 : decode cX6_sizeOf 54 = .ok (.iload_n 1, 1) := by decide +kernel
theorem dX6_sizeOf_55 : decode cX6_sizeOf 55 = .ok (.invokevirtual 226, 3) := by decide +kernel
theorem dX6_sizeOf_58 : decode cX6_sizeOf 58 = .ok (.ireturn, 1) := by decide +kernel
theorem dX6_sizeOf_59 : decode cX6_sizeOf 59 = .ok (.aload_n 0, 1) := by decide +kernel
theorem dX6_sizeOf_60 : decode cX6_sizeOf 60 = .ok (.bipush 14, 2) := by decide +kernel
theorem dX6_sizeOf_62 : decode cX6_sizeOf 62 = .ok (.invokevirtual 214, 3) := by decide +kernel
theorem dX6_sizeOf_65 : decode cX6_sizeOf 65 = .ok (.iconst 2, 1) := by decide +kernel
theorem dX6_sizeOf_66 : decode cX6_sizeOf 66 = .ok (.aload_n 0, 1) := by decide +kernel
theorem dX6_sizeOf_67 : decode cX6_sizeOf 67 = .ok (.iload_n 1, 1) := by decide +kernel
theorem dX6_sizeOf_68 : decode cX6_sizeOf 68 = .ok (.invokevirtual 226, 3) := by decide +kernel
theorem dX6_sizeOf_71 : decode cX6_sizeOf 71 = .ok (.imul, 1) := by decide +kernel
theorem dX6_sizeOf_72 : decode cX6_sizeOf 72 = .ok (.ireturn, 1) := by decide +kernel
theorem dX6_sizeOf_73 : decode cX6_sizeOf 73 = .ok (.aload_n 0, 1) := by decide +kernel
theorem dX6_sizeOf_74 : decode cX6_sizeOf 74 = .ok (.iload_n 1, 1) := by decide +kernel
theorem dX6_sizeOf_75 : decode cX6_sizeOf 75 = .ok (.invokevirtual 223, 3) := by decide +kernel
theorem dX6_sizeOf_78 : decode cX6_sizeOf 78 = .ok (.ireturn, 1) := by decide +kernel
set_option maxRecDepth 20000 in
theorem ggX6_mark20_X6_traces : GoodIn wsX6_mark20 wsX6_traces := goodIn_r _ [5, 6, 7, 8, 9, 10, 11, 12, 13, 14, 15, 16, 17, 18, 19, 20, 21, 22, 23] (by decide +kernel) (by decide +kernel)
set_option maxRecDepth 20000 in
theorem gX6_mark20_X6_traces : GoodIn wsX6_mark20 (wsV RX6 214 RX6 yX6_traces wsX6_traces) := goodIn_app (goodIn_of _ (by decide +kernel)) ggX6_mark20_X6_traces
theorem dX6_mark20_0 : decode cX6_mark20 0 = .ok (.aload_n 0, 1) := by decide +kernel
theorem dX6_mark20_1 : decode cX6_mark20 1 = .ok (.bipush 20, 2) := by decide +kernel
theorem dX6_mark20_3 : decode cX6_mark20 3 = .ok (.invokevirtual 214, 3) := by decide +kernel
theorem dX6_mark20_6 : decode cX6_mark20 6 = .ok (.iload_n 1, 1) := by decide +kernel
theorem dX6_mark20_7 : decode cX6_mark20 7 = .ok (.ireturn, 1) := by decide +kernel
set_option maxRecDepth 20000 in
theorem ggX6_mark21_X6_traces : GoodIn wsX6_mark21 wsX6_traces := goodIn_r _ [6, 7, 8, 13, 14, 15, 16, 17, 18, 19, 20, 21, 22, 23, 24, 25, 26, 27, 28] (by decide +kernel) (by decide +kernel)
set_option maxRecDepth 20000 in
theorem gX6_mark21_X6_traces : GoodIn wsX6_mark21 (wsV RX6 214 RX6 yX6_traces wsX6_traces) := goodIn_app (goodIn_of _ (by decide +kernel)) ggX6_mark21_X6_traces
set_option maxRecDepth 20000 in
theorem ggX6_mark21_X6_mark20 : GoodIn wsX6_mark21 wsX6_mark20 := goodIn_r _ [12, 2, 3, 4, 5, 6, 7, 8, 13, 14, 15, 16, 17, 18, 19, 20, 21, 22, 23, 24, 25, 26, 27, 28] (by decide +kernel) (by decide +kernel)
set_option maxRecDepth 20000 in
theorem gX6_mark21_X6_mark20 : GoodIn wsX6_mark21 (wsV RX6 229 RX6 yX6_mark20 wsX6_mark20) := goodIn_app (goodIn_of _ (by decide +kernel)) ggX6_mark21_X6_mark20
theorem dX6_mark21_0 : decode cX6_mark21 0 = .ok (.aload_n 0, 1) := by decide +kernel
theorem dX6_mark21_1 : decode cX6_mark21 1 = .ok (.bipush 21, 2) := by decide +kernel
theorem dX6_mark21_3 : decode cX6_mark21 3 = .ok (.invokevirtual 214, 3) := by decide +kernel
theorem dX6_mark21_6 : decode cX6_mark21 6 = .ok (.aload_n 0, 1) := by decide +kernel
theorem dX6_mark21_7 : decode cX6_mark21 7 = .ok (.iload_n 1, 1) := by decide +kernel
theorem dX6_mark21_8 : decode cX6_mark21 8 = .ok (.invokevirtual 229, 3) := by decide +kernel
theorem dX6_mark21_11 : decode cX6_mark21 11 = .ok (.aload_n 0, 1) := by decide +kernel
theorem dX6_mark21_12 : decode cX6_mark21 12 = .ok (.getfield 7, 3) := by decide +kernel
theorem dX6_mark21_15 : decode cX6_mark21 15 = .ok (.bipush 19, 2) := by decide +kernel
theorem dX6_mark21_17 : decode cX6_mark21 17 = .ok (.iload_n 1, 1) := by decide +kernel
theorem dX6_mark21_18 : decode cX6_mark21 18 = .ok (.iadd, 1) := by decide +kernel
theorem dX6_mark21_19 : decode cX6_mark21 19 = .ok (.iaload, 1) := by decide +kernel
theorem dX6_mark21_20 : decode cX6_mark21 20 = .ok (.iadd, 1) := by decide +kernel
theorem dX6_mark21_21 : decode cX6_mark21 21 = .ok (.ireturn, 1) := by decide +kernel
set_option maxRecDepth 20000 in
theorem ggX6_markOf_X6_traces : GoodIn wsX6_markOf wsX6_traces := goodIn_r _ [6, 7, 8, 17, 18, 19, 20, 21, 22, 23, 24, 25, 26, 27, 28, 29, 30, 31, 32] (by decide +kernel) (by decide +kernel)
set_option maxRecDepth 20000 in
theorem gX6_markOf_X6_traces : GoodIn wsX6_markOf (wsV RX6 214 RX6 yX6_traces wsX6_traces) := goodIn_app (goodIn_of _ (by decide +kernel)) ggX6_markOf_X6_traces
set_option maxRecDepth 20000 in
theorem ggX6_markOf_X6_mark21 : GoodIn wsX6_markOf wsX6_mark21 := goodIn_r _ [12, 1, 2, 3, 4, 5, 6, 7, 8, 13, 14, 15, 16, 17, 18, 19, 20, 21, 22, 23, 24, 25, 26, 27, 28, 29, 30, 31, 32] (by decide +kernel) (by decide +kernel)
set_option maxRecDepth 20000 in
theorem gX6_markOf_X6_mark21 : GoodIn wsX6_markOf (wsV RX6 232 RX6 yX6_mark21 wsX6_mark21) := goodIn_app (goodIn_of _ (by decide +kernel)) ggX6_markOf_X6_mark21
theorem dX6_markOf_0 : decode cX6_markOf 0 = .ok (.aload_n 0, 1) := by decide +kernel
theorem dX6_markOf_1 : decode cX6_markOf 1 = .ok (.getfield 7, 3) := by decide +kernel
theorem dX6_markOf_4 : decode cX6_markOf 4 = .ok (.bipush 13, 2) := by decide +kernel
theorem dX6_markOf_6 : decode cX6_markOf 6 = .ok (.iload_n 1, 1) := by decide +kernel
theorem dX6_markOf_7 : decode cX6_markOf 7 = .ok (.iadd, 1) := by decide +kernel
theorem dX6_markOf_8 : decode cX6_markOf 8 = .ok (.iaload, 1) := by decide +kernel
theorem dX6_markOf_9 : decode cX6_markOf 9 = .ok (.lookupswitch 57 #[(2, 27), (3, 41)], 27) := by decide +kernel
theorem dX6_markOf_36 : decode cX6_markOf 36 = .ok (.aload_n 0, 1) := by decide +kernel
theorem dX6_markOf_37 : decode cX6_markOf 37 = .ok (.bipush 24, 2) := by decide +kernel
theorem dX6_markOf_39 : decode cX6_markOf 39 = .ok (.invokevirtual 214, 3) := by decide +kernel
theorem dX6_markOf_42 : decode cX6_markOf 42 = .ok (.iconst 2, 1) := by decide +kernel
theorem dX6_markOf_43 : decode cX6_markOf 43 = .ok (.aload_n 0, 1) := by decide +kernel
theorem dX6_markOf_44 : decode cX6_markOf 44 = .ok (.iload_n 1, 1) := by decide +kernel
theorem dX6_markOf_45 : decode cX6_markOf 45 = .ok (.invokevirtual 232, 3) := by decide +kernel
theorem dX6_markOf_48 : decode cX6_markOf 48 = .ok (.imul, 1) := by decide +kernel
theorem dX6_markOf_49 : decode cX6_markOf 49 = .ok (.ireturn, 1) := by decide +kernel
theorem dX6_markOf_50 : decode cX6_markOf 50 = .ok (.aload_n 0, 1) := by decide +kernel
theorem dX6_markOf_51 : decode cX6_markOf 51 = .ok (.bipush 22, 2) := by decide +kernel
theorem dX6_markOf_53 : decode cX6_markOf 53 = .ok (.invokevirtual 214, 3) := by decide +kernel
theorem dX6_markOf_56 : decode cX6_markOf 56 = .ok (.aload_n 0, 1) := by decide +kernel
theorem dX6_markOf_57 : decode cX6_markOf 57 = .ok (.iload_n 1, 1) := by decide +kernel
theorem dX6_markOf_58 : decode cX6_markOf 58 = .ok (.invokevirtual 232, 3) := by decide +kernel
theorem dX6_markOf_61 : decode cX6_markOf 61 = .ok (.sipush 1000, 3) := by decide +kernel
theorem dX6_markOf_64 : decode cX6_markOf 64 = .ok (.isub, 1) := by decide +kernel
theorem dX6_markOf_65 : decode cX6_markOf 65 = .ok (.ireturn, 1) := by decide +kernel
theorem dX6_markOf_66 : decode cX6_markOf 66 = .ok (.aload_n 0, 1) := by decide +kernel
theorem dX6_markOf_67 : decode cX6_markOf 67 = .ok (.iload_n 1, 1) := by decide +kernel
theorem dX6_markOf_68 : decode cX6_markOf 68 = .ok (.invokevirtual 232, 3) := by decide +kernel
theorem dX6_markOf_71 : decode cX6_markOf 71 = .ok (.ireturn, 1) := by decide +kernel
set_option maxRecDepth 20000 in
theorem ggX6_mark23_X6_traces : GoodIn wsX6_mark23 wsX6_traces := goodIn_r _ [5, 6, 7, 37, 38, 39, 40, 41, 42, 43, 44, 45, 46, 47, 48, 49, 50, 51, 52] (by decide +kernel) (by decide +kernel)
set_option maxRecDepth 20000 in
theorem gX6_mark23_X6_traces : GoodIn wsX6_mark23 (wsV RX6 214 RX6 yX6_traces wsX6_traces) := goodIn_app (goodIn_of _ (by decide +kernel)) ggX6_mark23_X6_traces
set_option maxRecDepth 20000 in
theorem ggX6_mark23_X6_mark20 : GoodIn wsX6_mark23 wsX6_mark20 := goodIn_r _ [11, 1, 2, 3, 4, 5, 6, 7, 37, 38, 39, 40, 41, 42, 43, 44, 45, 46, 47, 48, 49, 50, 51, 52] (by decide +kernel) (by decide +kernel)
set_option maxRecDepth 20000 in
theorem gX6_mark23_X6_mark20 : GoodIn wsX6_mark23 (wsV RX6 229 RX6 yX6_mark20 wsX6_mark20) := goodIn_app (goodIn_of _ (by decide +kernel)) ggX6_mark23_X6_mark20
set_option maxRecDepth 20000 in
theorem ggX6_mark23_X6_sizeOf : GoodIn wsX6_mark23 wsX6_sizeOf := goodIn_r _ [15, 16, 1, 2, 3, 4, 5, 6, 7, 17, 18, 19, 20, 21, 22, 23, 24, 25, 26, 27, 28, 29, 30, 31, 32, 8, 9, 10, 11, 33, 34, 35, 36, 37, 38, 39, 40, 41, 42, 43, 44, 45, 46, 47, 48, 49, 50, 51, 52] (by decide +kernel) (by decide +kernel)
set_option maxRecDepth 20000 in
theorem gX6_mark23_X6_sizeOf : GoodIn wsX6_mark23 (wsV RX6 235 RX6 yX6_sizeOf wsX6_sizeOf) := goodIn_app (goodIn_of _ (by decide +kernel)) ggX6_mark23_X6_sizeOf
theorem dX6_mark23_0 : decode cX6_mark23 0 = .ok (.aload_n 0, 1) := by decide +kernel
theorem dX6_mark23_1 : decode cX6_mark23 1 = .ok (.bipush 23, 2) := by decide +kernel
theorem dX6_mark23_3 : decode cX6_mark23 3 = .ok (.invokevirtual 214, 3) := by decide +kernel
theorem dX6_mark23_6 : decode cX6_mark23 6 = .ok (.aload_n 0, 1) := by decide +kernel
theorem dX6_mark23_7 : decode cX6_mark23 7 = .ok (.iload_n 1, 1) := by decide +kernel
theorem dX6_mark23_8 : decode cX6_mark23 8 = .ok (.invokevirtual 229, 3) := by decide +kernel
theorem dX6_mark23_11 : decode cX6_mark23 11 = .ok (.istore_n 2, 1) := by decide +kernel
theorem dX6_mark23_12 : decode cX6_mark23 12 = .ok (.iload_n 2, 1) := by decide +kernel
theorem dX6_mark23_13 : decode cX6_mark23 13 = .ok (.aload_n 0, 1) := by decide +kernel
theorem dX6_mark23_14 : decode cX6_mark23 14 = .ok (.iload_n 1, 1) := by decide +kernel
theorem dX6_mark23_15 : decode cX6_mark23 15 = .ok (.invokevirtual 235, 3) := by decide +kernel
theorem dX6_mark23_18 : decode cX6_mark23 18 = .ok (.isub, 1) := by decide +kernel
theorem dX6_mark23_19 : decode cX6_mark23 19 = .ok (.ireturn, 1) := by decide +kernel
set_option maxRecDepth 20000 in
theorem ggX6_ask_X6_isPulpit : GoodIn wsX6_ask wsX6_isPulpit := goodIn_r _ [8, 3, 9, 10, 7, 11, 49, 50, 51, 52, 53, 54, 55, 56, 57, 58, 59, 60, 61, 62, 63, 64] (by decide +kernel) (by decide +kernel)
set_option maxRecDepth 20000 in
theorem gX6_ask_X6_isPulpit : GoodIn wsX6_ask (wsV RX6 158 RX6 yX6_isPulpit wsX6_isPulpit) := goodIn_app (goodIn_of _ (by decide +kernel)) ggX6_ask_X6_isPulpit
set_option maxRecDepth 20000 in
theorem ggX6_ask_X6_in : GoodIn wsX6_ask wsX6_in := goodIn_r _ [11] (by decide +kernel) (by decide +kernel)
set_option maxRecDepth 20000 in
theorem gX6_ask_X6_in : GoodIn wsX6_ask (va_wsS RX6 34 yX6_in wsX6_in) := goodIn_app (goodIn_of _ (by decide +kernel)) ggX6_ask_X6_in
set_option maxRecDepth 20000 in
theorem ggX6_ask_X6_sizeOf : GoodIn wsX6_ask wsX6_sizeOf := goodIn_r _ [15, 3, 16, 17, 18, 7, 19, 2, 20, 21, 22, 23, 24, 25, 26, 27, 28, 29, 30, 31, 32, 33, 34, 35, 36, 37, 38, 39, 40, 41, 42, 43, 44, 49, 50, 51, 52, 53, 54, 55, 56, 57, 58, 59, 60, 61, 62, 63, 64] (by decide +kernel) (by decide +kernel)
set_option maxRecDepth 20000 in
theorem gX6_ask_X6_sizeOf : GoodIn wsX6_ask (wsV RX6 235 RX6 yX6_sizeOf wsX6_sizeOf) := goodIn_app (goodIn_of _ (by decide +kernel)) ggX6_ask_X6_sizeOf
set_option maxRecDepth 20000 in
theorem ggX6_ask_X6_mark23 : GoodIn wsX6_ask wsX6_mark23 := goodIn_r _ [48, 16, 17, 18, 7, 19, 2, 20, 37, 38, 39, 40, 12, 13, 14, 15, 3, 21, 22, 23, 24, 25, 26, 27, 28, 29, 30, 31, 32, 33, 34, 35, 36, 41, 42, 43, 44, 49, 50, 51, 52, 53, 54, 55, 56, 57, 58, 59, 60, 61, 62, 63, 64] (by decide +kernel) (by decide +kernel)
set_option maxRecDepth 20000 in
theorem gX6_ask_X6_mark23 : GoodIn wsX6_ask (wsV RX6 238 RX6 yX6_mark23 wsX6_mark23) := goodIn_app (goodIn_of _ (by decide +kernel)) ggX6_ask_X6_mark23
set_option maxRecDepth 20000 in
theorem ggX6_ask_X6_markOf : GoodIn wsX6_ask wsX6_markOf := goodIn_r _ [32, 3, 16, 17, 18, 7, 19, 2, 20, 33, 34, 35, 36, 37, 38, 39, 40, 49, 50, 51, 52, 53, 54, 55, 56, 57, 58, 59, 60, 61, 62, 63, 64] (by decide +kernel) (by decide +kernel)
set_option maxRecDepth 20000 in
theorem gX6_ask_X6_markOf : GoodIn wsX6_ask (wsV RX6 220 RX6 yX6_markOf wsX6_markOf) := goodIn_app (goodIn_of _ (by decide +kernel)) ggX6_ask_X6_markOf
theorem dX6_ask_0 : decode cX6_ask 0 = .ok (.aload_n 0, 1) := by decide +kernel
theorem dX6_ask_1 : decode cX6_ask 1 = .ok (.iload_n 1, 1) := by decide +kernel
theorem dX6_ask_2 : decode cX6_ask 2 = .ok (.invokevirtual 158, 3) := by decide +kernel
theorem dX6_ask_5 : decode cX6_ask 5 = .ok (.ifCond .eq 13, 3) := by decide +kernel
theorem dX6_ask_8 : decode cX6_ask 8 = .ok (.iload_n 2, 1) := by decide +kernel
theorem dX6_ask_9 : decode cX6_ask 9 = .ok (.i2l, 1) := by decide +kernel
theorem dX6_ask_10 : decode cX6_ask 10 = .ok (.lconst 0, 1) := by decide +kernel
theorem dX6_ask_11 : decode cX6_ask 11 = .ok (.lconst 1, 1) := by decide +kernel
theorem dX6_ask_12 : decode cX6_ask 12 = .ok (.invokestatic 34, 3) := by decide +kernel
theorem dX6_ask_15 : decode cX6_ask 15 = .ok (.ifCond .ne 6, 3) := by decide +kernel
theorem dX6_ask_18 : decode cX6_ask 18 = .ok (.ldc 51, 2) := by decide +kernel
theorem dX6_ask_20 : decode cX6_ask 20 = .ok (.ireturn, 1) := by decide +kernel
theorem dX6_ask_21 : decode cX6_ask 21 = .ok (.aload_n 0, 1) := by decide +kernel
theorem dX6_ask_22 : decode cX6_ask 22 = .ok (.iconst 0, 1) := by decide +kernel
theorem dX6_ask_23 : decode cX6_ask 23 = .ok (.putfield 211, 3) := by decide +kernel
theorem dX6_ask_26 : decode cX6_ask 26 = .ok (.iload_n 2, 1) := by decide +kernel
theorem dX6_ask_27 : decode cX6_ask 27 = .ok (.ifCond .ne 11, 3) := by decide +kernel
theorem dX6_ask_30 : decode cX6_ask 30 = .ok (.aload_n 0, 1) := by decide +kernel
theorem dX6_ask_31 : decode cX6_ask 31 = .ok (.iload_n 1, 1) := by decide +kernel
theorem dX6_ask_32 : decode cX6_ask 32 = .ok (.invokevirtual 235, 3) := by decide +kernel
theorem dX6_ask_35 : decode cX6_ask 35 = .ok (.goto 29, 3) := by decide +kernel
theorem dX6_ask_38 : decode cX6_ask 38 = .ok (.aload_n 0, 1) := by decide +kernel
theorem dX6_ask_39 : decode cX6_ask 39 = .ok (.getfield 7, 3) := by decide +kernel
theorem dX6_ask_42 : decode cX6_ask 42 = .ok (.bipush 13, 2) := by decide +kernel
theorem dX6_ask_44 : decode cX6_ask 44 = .ok (.iload_n 1, 1) := by decide +kernel
theorem dX6_ask_45 : decode cX6_ask 45 = .ok (.iadd, 1) := by decide +kernel
theorem dX6_ask_46 : decode cX6_ask 46 = .ok (.iaload, 1) := by decide +kernel
theorem dX6_ask_47 : decode cX6_ask 47 = .ok (.iconst 4, 1) := by decide +kernel
theorem dX6_ask_48 : decode cX6_ask 48 = .ok (.if_icmp .lt 11, 3) := by decide +kernel
theorem dX6_ask_51 : decode cX6_ask 51 = .ok (.aload_n 0, 1) := by decide +kernel
theorem dX6_ask_52 : decode cX6_ask 52 = .ok (.iload_n 1, 1) := by decide +kernel
theorem dX6_ask_53 : decode cX6_ask 53 = .ok (.invokevirtual 238, 3) := by decide +kernel
theorem dX6_ask_56 : decode cX6_ask 56 = .ok (.goto 8, 3) := by decide +kernel
theorem dX6_ask_59 : decode cX6_ask 59 = .ok (.aload_n 0, 1) := by decide +kernel
theorem dX6_ask_60 : decode cX6_ask 60 = .ok (.iload_n 1, 1) := by decide +kernel
theorem dX6_ask_61 : decode cX6_ask 61 = .ok (.invokevirtual 220, 3) := by decide +kernel
theorem dX6_ask_64 : decode cX6_ask 64 = .ok (.ireturn, 1) := by decide +kernel
set_option maxRecDepth 20000 in
theorem ggX6_trace_X6_in : GoodIn wsX6_trace wsX6_in := goodIn_r _ [7] (by decide +kernel) (by decide +kernel)
set_option maxRecDepth 20000 in
theorem gX6_trace_X6_in : GoodIn wsX6_trace (va_wsS RX6 34 yX6_in wsX6_in) := goodIn_app (goodIn_of _ (by decide +kernel)) ggX6_trace_X6_in
theorem dX6_trace_0 : decode cX6_trace 0 = .ok (.iload_n 1, 1) := by decide +kernel
theorem dX6_trace_1 : decode cX6_trace 1 = .ok (.i2l, 1) := by decide +kernel
theorem dX6_trace_2 : decode cX6_trace 2 = .ok (.lconst 0, 1) := by decide +kernel
theorem dX6_trace_3 : decode cX6_trace 3 = .ok (.aload_n 0, 1) := by decide +kernel
theorem dX6_trace_4 : decode cX6_trace 4 = .ok (.getfield 211, 3) := by decide +kernel
theorem dX6_trace_7 : decode cX6_trace 7 = .ok (.iconst 1, 1) := by decide +kernel
theorem dX6_trace_8 : decode cX6_trace 8 = .ok (.isub, 1) := by decide +kernel
theorem dX6_trace_9 : decode cX6_trace 9 = .ok (.i2l, 1) := by decide +kernel
theorem dX6_trace_10 : decode cX6_trace 10 = .ok (.invokestatic 34, 3) := by decide +kernel
theorem dX6_trace_13 : decode cX6_trace 13 = .ok (.ifCond .eq 12, 3) := by decide +kernel
theorem dX6_trace_16 : decode cX6_trace 16 = .ok (.aload_n 0, 1) := by decide +kernel
theorem dX6_trace_17 : decode cX6_trace 17 = .ok (.getfield 31, 3) := by decide +kernel
theorem dX6_trace_20 : decode cX6_trace 20 = .ok (.iload_n 1, 1) := by decide +kernel
theorem dX6_trace_21 : decode cX6_trace 21 = .ok (.iaload, 1) := by decide +kernel
theorem dX6_trace_22 : decode cX6_trace 22 = .ok (.goto 5, 3) := by decide +kernel
theorem dX6_trace_25 : decode cX6_trace 25 = .ok (.ldc 176, 2) := by decide +kernel
theorem dX6_trace_27 : decode cX6_trace 27 = .ok (.ireturn, 1) := by decide +kernel
theorem dX6_rowsThere_0 : decode cX6_rowsThere 0 = .ok (.iconst 0, 1) := by decide +kernel
theorem dX6_rowsThere_1 : decode cX6_rowsThere 1 = .ok (.istore_n 1, 1) := by decide +kernel
theorem dX6_rowsThere_2 : decode cX6_rowsThere 2 = .ok (.iconst 0, 1) := by decide +kernel
theorem dX6_rowsThere_3 : decode cX6_rowsThere 3 = .ok (.istore_n 2, 1) := by decide +kernel
theorem dX6_rowsThere_4 : decode cX6_rowsThere 4 = .ok (.iload_n 2, 1) := by decide +kernel
theorem dX6_rowsThere_5 : decode cX6_rowsThere 5 = .ok (.bipush 8, 2) := by decide +kernel
theorem dX6_rowsThere_7 : decode cX6_rowsThere 7 = .ok (.if_icmp .ge 26, 3) := by decide +kernel
theorem dX6_rowsThere_10 : decode cX6_rowsThere 10 = .ok (.iload_n 1, 1) := by decide +kernel
theorem dX6_rowsThere_11 : decode cX6_rowsThere 11 = .ok (.aload_n 0, 1) := by decide +kernel
theorem dX6_rowsThere_12 : decode cX6_rowsThere 12 = .ok (.getfield 16, 3) := by decide +kernel
theorem dX6_rowsThere_15 : decode cX6_rowsThere 15 = .ok (.iload_n 2, 1) := by decide +kernel
theorem dX6_rowsThere_16 : decode cX6_rowsThere 16 = .ok (.iaload, 1) := by decide +kernel
theorem dX6_rowsThere_17 : decode cX6_rowsThere 17 = .ok (.ifCond .lt 7, 3) := by decide +kernel
theorem dX6_rowsThere_20 : decode cX6_rowsThere 20 = .ok (.iconst 1, 1) := by decide +kernel
theorem dX6_rowsThere_21 : decode cX6_rowsThere 21 = .ok (.goto 4, 3) := by decide +kernel
theorem dX6_rowsThere_24 : decode cX6_rowsThere 24 = .ok (.iconst 0, 1) := by decide +kernel
theorem dX6_rowsThere_25 : decode cX6_rowsThere 25 = .ok (.iadd, 1) := by decide +kernel
theorem dX6_rowsThere_26 : decode cX6_rowsThere 26 = .ok (.istore_n 1, 1) := by decide +kernel
theorem dX6_rowsThere_27 : decode cX6_rowsThere 27 = .ok (.iinc 2 1, 3) := by decide +kernel
theorem dX6_rowsThere_30 : decode cX6_rowsThere 30 = .ok (.goto (-26), 3) := by decide +kernel
theorem dX6_rowsThere_33 : decode cX6_rowsThere 33 = .ok (.iload_n 1, 1) := by decide +kernel
theorem dX6_rowsThere_34 : decode cX6_rowsThere 34 = .ok (.ireturn, 1) := by decide +kernel
set_option maxRecDepth 20000 in
theorem ggX6_count_X6_rowsThere : GoodIn wsX6_count wsX6_rowsThere := goodIn_r _ [9, 10, 26, 27, 28, 29, 30, 31, 32, 33, 34, 35, 36, 37, 38, 39, 40, 41] (by decide +kernel) (by decide +kernel)
set_option maxRecDepth 20000 in
theorem gX6_count_X6_rowsThere : GoodIn wsX6_count (wsV RX6 241 RX6 yX6_rowsThere wsX6_rowsThere) := goodIn_app (goodIn_of _ (by decide +kernel)) ggX6_count_X6_rowsThere
set_option maxRecDepth 20000 in
theorem ggX6_count_X6_wholeOnes : GoodIn wsX6_count wsX6_wholeOnes := goodIn_r _ [14, 1, 15, 16, 17, 8, 18, 26, 27, 28, 29, 30, 31, 32, 33, 34, 35, 36, 37, 38, 39, 40, 41] (by decide +kernel) (by decide +kernel)
set_option maxRecDepth 20000 in
theorem gX6_count_X6_wholeOnes : GoodIn wsX6_count (wsV RX6 155 RX6 yX6_wholeOnes wsX6_wholeOnes) := goodIn_app (goodIn_of _ (by decide +kernel)) ggX6_count_X6_wholeOnes
set_option maxRecDepth 20000 in
theorem ggX6_count_X6_heardWords : GoodIn wsX6_count wsX6_heardWords := goodIn_r _ [22, 1, 23, 24, 8, 25, 26, 27, 28, 29, 30, 31, 32, 33, 34, 35, 36, 37, 38, 39, 40, 41] (by decide +kernel) (by decide +kernel)
set_option maxRecDepth 20000 in
theorem gX6_count_X6_heardWords : GoodIn wsX6_count (wsV RX6 203 RX6 yX6_heardWords wsX6_heardWords) := goodIn_app (goodIn_of _ (by decide +kernel)) ggX6_count_X6_heardWords
theorem dX6_count_0 : decode cX6_count 0 = .ok (.iload_n 1, 1) := by decide +kernel
theorem dX6_count_1 : decode cX6_count 1 = .ok (.tableswitch 118 0 9 #[55, 60, 67, 74, 82, 89, 96, 101, 106, 112], 55) := by decide +kernel
theorem dX6_count_56 : decode cX6_count 56 = .ok (.aload_n 0, 1) := by decide +kernel
theorem dX6_count_57 : decode cX6_count 57 = .ok (.invokevirtual 241, 3) := by decide +kernel
theorem dX6_count_60 : decode cX6_count 60 = .ok (.ireturn, 1) := by decide +kernel
theorem dX6_count_61 : decode cX6_count 61 = .ok (.aload_n 0, 1) := by decide +kernel
theorem dX6_count_62 : decode cX6_count 62 = .ok (.getfield 7, 3) := by decide +kernel
theorem dX6_count_65 : decode cX6_count 65 = .ok (.iconst 0, 1) := by decide +kernel
theorem dX6_count_66 : decode cX6_count 66 = .ok (.iaload, 1) := by decide +kernel
theorem dX6_count_67 : decode cX6_count 67 = .ok (.ireturn, 1) := by decide +kernel
theorem dX6_count_68 : decode cX6_count 68 = .ok (.aload_n 0, 1) := by decide +kernel
theorem dX6_count_69 : decode cX6_count 69 = .ok (.getfield 7, 3) := by decide +kernel
theorem dX6_count_72 : decode cX6_count 72 = .ok (.iconst 1, 1) := by decide +kernel
theorem dX6_count_73 : decode cX6_count 73 = .ok (.iaload, 1) := by decide +kernel
theorem dX6_count_74 : decode cX6_count 74 = .ok (.ireturn, 1) := by decide +kernel
theorem dX6_count_75 : decode cX6_count 75 = .ok (.aload_n 0, 1) := by decide +kernel
theorem dX6_count_76 : decode cX6_count 76 = .ok (.getfield 7, 3) := by decide +kernel
theorem dX6_count_79 : decode cX6_count 79 = .ok (.bipush 18, 2) := by decide +kernel
theorem dX6_count_81 : decode cX6_count 81 = .ok (.iaload, 1) := by decide +kernel
theorem dX6_count_82 : decode cX6_count 82 = .ok (.ireturn, 1) := by decide +kernel
theorem dX6_count_83 : decode cX6_count 83 = .ok (.aload_n 0, 1) := by decide +kernel
theorem dX6_count_84 : decode cX6_count 84 = .ok (.getfield 7, 3) := by decide +kernel
theorem dX6_count_87 : decode cX6_count 87 = .ok (.iconst 2, 1) := by decide +kernel
theorem dX6_count_88 : decode cX6_count 88 = .ok (.iaload, 1) := by decide +kernel
theorem dX6_count_89 : decode cX6_count 89 = .ok (.ireturn, 1) := by decide +kernel
theorem dX6_count_90 : decode cX6_count 90 = .ok (.aload_n 0, 1) := by decide +kernel
theorem dX6_count_91 : decode cX6_count 91 = .ok (.getfield 7, 3) := by decide +kernel
theorem dX6_count_94 : decode cX6_count 94 = .ok (.iconst 3, 1) := by decide +kernel
theorem dX6_count_95 : decode cX6_count 95 = .ok (.iaload, 1) := by decide +kernel
theorem dX6_count_96 : decode cX6_count 96 = .ok (.ireturn, 1) := by decide +kernel
theorem dX6_count_97 : decode cX6_count 97 = .ok (.aload_n 0, 1) := by decide +kernel
theorem dX6_count_98 : decode cX6_count 98 = .ok (.getfield 117, 3) := by decide +kernel
theorem dX6_count_101 : decode cX6_count 101 = .ok (.ireturn, 1) := by decide +kernel
theorem dX6_count_102 : decode cX6_count 102 = .ok (.aload_n 0, 1) := by decide +kernel
theorem dX6_count_103 : decode cX6_count 103 = .ok (.getfield 62, 3) := by decide +kernel
theorem dX6_count_106 : decode cX6_count 106 = .ok (.ireturn, 1) := by decide +kernel
theorem dX6_count_107 : decode cX6_count 107 = .ok (.aload_n 0, 1) := by decide +kernel
theorem dX6_count_108 : decode cX6_count 108 = .ok (.iconst 0, 1) := by decide +kernel
theorem dX6_count_109 : decode cX6_count 109 = .ok (.invokevirtual 155, 3) := by decide +kernel
theorem dX6_count_112 : decode cX6_count 112 = .ok (.ireturn, 1) := by decide +kernel
theorem dX6_count_113 : decode cX6_count 113 = .ok (.aload_n 0, 1) := by decide +kernel
theorem dX6_count_114 : decode cX6_count 114 = .ok (.iconst 0, 1) := by decide +kernel
theorem dX6_count_115 : decode cX6_count 115 = .ok (.invokevirtual 203, 3) := by decide +kernel
theorem dX6_count_118 : decode cX6_count 118 = .ok (.ireturn, 1) := by decide +kernel
theorem dX6_count_119 : decode cX6_count 119 = .ok (.ldc 51, 2) := by decide +kernel
theorem dX6_count_121 : decode cX6_count 121 = .ok (.ireturn, 1) := by decide +kernel
theorem dX6_status_0 : decode cX6_status 0 = .ok (.aload_n 0, 1) := by decide +kernel
theorem dX6_status_1 : decode cX6_status 1 = .ok (.getfield 40, 3) := by decide +kernel
theorem dX6_status_4 : decode cX6_status 4 = .ok (.ireturn, 1) := by decide +kernel

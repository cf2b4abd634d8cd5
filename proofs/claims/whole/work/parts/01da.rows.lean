theorem dX0_init_0 : decode cX0_init 0 = .ok (.aload_n 0, 1) := by decide +kernel
theorem dX0_init_1 : decode cX0_init 1 = .ok (.invokespecial 3, 3) := by decide +kernel
theorem dX0_init_4 : decode cX0_init 4 = .ok (.aload_n 0, 1) := by decide +kernel
theorem dX0_init_5 : decode cX0_init 5 = .ok (.bipush 40, 2) := by decide +kernel
theorem dX0_init_7 : decode cX0_init 7 = .ok (.newarray .int, 2) := by decide +kernel
theorem dX0_init_9 : decode cX0_init 9 = .ok (.putfield 9, 3) := by decide +kernel
theorem dX0_init_12 : decode cX0_init 12 = .ok (.aload_n 0, 1) := by decide +kernel
theorem dX0_init_13 : decode cX0_init 13 = .ok (.bipush 8, 2) := by decide +kernel
theorem dX0_init_15 : decode cX0_init 15 = .ok (.newarray .int, 2) := by decide +kernel
theorem dX0_init_17 : decode cX0_init 17 = .ok (.putfield 15, 3) := by decide +kernel
theorem dX0_init_20 : decode cX0_init 20 = .ok (.aload_n 0, 1) := by decide +kernel
theorem dX0_init_21 : decode cX0_init 21 = .ok (.iconst 5, 1) := by decide +kernel
theorem dX0_init_22 : decode cX0_init 22 = .ok (.newarray .int, 2) := by decide +kernel
theorem dX0_init_24 : decode cX0_init 24 = .ok (.putfield 18, 3) := by decide +kernel
theorem dX0_init_27 : decode cX0_init 27 = .ok (.aload_n 0, 1) := by decide +kernel
theorem dX0_init_28 : decode cX0_init 28 = .ok (.bipush 30, 2) := by decide +kernel
theorem dX0_init_30 : decode cX0_init 30 = .ok (.newarray .long, 2) := by decide +kernel
theorem dX0_init_32 : decode cX0_init 32 = .ok (.putfield 21, 3) := by decide +kernel
theorem dX0_init_35 : decode cX0_init 35 = .ok (.aload_n 0, 1) := by decide +kernel
theorem dX0_init_36 : decode cX0_init 36 = .ok (.bipush 64, 2) := by decide +kernel
theorem dX0_init_38 : decode cX0_init 38 = .ok (.newarray .long, 2) := by decide +kernel
theorem dX0_init_40 : decode cX0_init 40 = .ok (.putfield 25, 3) := by decide +kernel
theorem dX0_init_43 : decode cX0_init 43 = .ok (.aload_n 0, 1) := by decide +kernel
theorem dX0_init_44 : decode cX0_init 44 = .ok (.iconst 5, 1) := by decide +kernel
theorem dX0_init_45 : decode cX0_init 45 = .ok (.newarray .long, 2) := by decide +kernel
theorem dX0_init_47 : decode cX0_init 47 = .ok (.putfield 28, 3) := by decide +kernel
theorem dX0_init_50 : decode cX0_init 50 = .ok (.aload_n 0, 1) := by decide +kernel
theorem dX0_init_51 : decode cX0_init 51 = .ok (.iconst 5, 1) := by decide +kernel
theorem dX0_init_52 : decode cX0_init 52 = .ok (.newarray .long, 2) := by decide +kernel
theorem dX0_init_54 : decode cX0_init 54 = .ok (.putfield 31, 3) := by decide +kernel
theorem dX0_init_57 : decode cX0_init 57 = .ok (.aload_n 0, 1) := by decide +kernel
theorem dX0_init_58 : decode cX0_init 58 = .ok (.iconst 5, 1) := by decide +kernel
theorem dX0_init_59 : decode cX0_init 59 = .ok (.newarray .int, 2) := by decide +kernel
theorem dX0_init_61 : decode cX0_init 61 = .ok (.putfield 34, 3) := by decide +kernel
theorem dX0_init_64 : decode cX0_init 64 = .ok (.aload_n 0, 1) := by decide +kernel
theorem dX0_init_65 : decode cX0_init 65 = .ok (.iconst 0, 1) := by decide +kernel
theorem dX0_init_66 : decode cX0_init 66 = .ok (.putfield 37, 3) := by decide +kernel
theorem dX0_init_69 : decode cX0_init 69 = .ok (.return_, 1) := by decide +kernel
theorem dX0_seenBits_0 : decode cX0_seenBits 0 = .ok (.iconst 0, 1) := by decide +kernel
theorem dX0_seenBits_1 : decode cX0_seenBits 1 = .ok (.istore_n 1, 1) := by decide +kernel
theorem dX0_seenBits_2 : decode cX0_seenBits 2 = .ok (.iconst 0, 1) := by decide +kernel
theorem dX0_seenBits_3 : decode cX0_seenBits 3 = .ok (.istore_n 2, 1) := by decide +kernel
theorem dX0_seenBits_4 : decode cX0_seenBits 4 = .ok (.iload_n 2, 1) := by decide +kernel
theorem dX0_seenBits_5 : decode cX0_seenBits 5 = .ok (.aload_n 0, 1) := by decide +kernel
theorem dX0_seenBits_6 : decode cX0_seenBits 6 = .ok (.getfield 37, 3) := by decide +kernel
theorem dX0_seenBits_9 : decode cX0_seenBits 9 = .ok (.if_icmp .ge 20, 3) := by decide +kernel
theorem dX0_seenBits_12 : decode cX0_seenBits 12 = .ok (.iload_n 1, 1) := by decide +kernel
theorem dX0_seenBits_13 : decode cX0_seenBits 13 = .ok (.iconst 1, 1) := by decide +kernel
theorem dX0_seenBits_14 : decode cX0_seenBits 14 = .ok (.aload_n 0, 1) := by decide +kernel
theorem dX0_seenBits_15 : decode cX0_seenBits 15 = .ok (.getfield 18, 3) := by decide +kernel
theorem dX0_seenBits_18 : decode cX0_seenBits 18 = .ok (.iload_n 2, 1) := by decide +kernel
theorem dX0_seenBits_19 : decode cX0_seenBits 19 = .ok (.iaload, 1) := by decide +kernel
theorem dX0_seenBits_20 : decode cX0_seenBits 20 = .ok (.ishl, 1) := by decide +kernel
theorem dX0_seenBits_21 : decode cX0_seenBits 21 = .ok (.ior, 1) := by decide +kernel
theorem dX0_seenBits_22 : decode cX0_seenBits 22 = .ok (.istore_n 1, 1) := by decide +kernel
theorem dX0_seenBits_23 : decode cX0_seenBits 23 = .ok (.iinc 2 1, 3) := by decide +kernel
theorem dX0_seenBits_26 : decode cX0_seenBits 26 = .ok (.goto (-22), 3) := by decide +kernel
theorem dX0_seenBits_29 : decode cX0_seenBits 29 = .ok (.iload_n 1, 1) := by decide +kernel
theorem dX0_seenBits_30 : decode cX0_seenBits 30 = .ok (.ireturn, 1) := by decide +kernel
theorem dX0_above_0 : decode cX0_above 0 = .ok (.aload_n 0, 1) := by decide +kernel
theorem dX0_above_1 : decode cX0_above 1 = .ok (.getfield 28, 3) := by decide +kernel
theorem dX0_above_4 : decode cX0_above 4 = .ok (.iload_n 1, 1) := by decide +kernel
theorem dX0_above_5 : decode cX0_above 5 = .ok (.laload, 1) := by decide +kernel
theorem dX0_above_6 : decode cX0_above 6 = .ok (.lreturn, 1) := by decide +kernel
theorem dX0_below_0 : decode cX0_below 0 = .ok (.aload_n 0, 1) := by decide +kernel
theorem dX0_below_1 : decode cX0_below 1 = .ok (.getfield 31, 3) := by decide +kernel
theorem dX0_below_4 : decode cX0_below 4 = .ok (.iload_n 1, 1) := by decide +kernel
theorem dX0_below_5 : decode cX0_below 5 = .ok (.laload, 1) := by decide +kernel
theorem dX0_below_6 : decode cX0_below 6 = .ok (.lreturn, 1) := by decide +kernel
theorem dX0_rounded_0 : decode cX0_rounded 0 = .ok (.aload_n 0, 1) := by decide +kernel
theorem dX0_rounded_1 : decode cX0_rounded 1 = .ok (.getfield 34, 3) := by decide +kernel
theorem dX0_rounded_4 : decode cX0_rounded 4 = .ok (.iload_n 1, 1) := by decide +kernel
theorem dX0_rounded_5 : decode cX0_rounded 5 = .ok (.iaload, 1) := by decide +kernel
theorem dX0_rounded_6 : decode cX0_rounded 6 = .ok (.ireturn, 1) := by decide +kernel
set_option maxRecDepth 20000 in
theorem ggX0_find_X0_takeColumns : GoodIn wsX0_find wsX0_takeColumns := goodIn_r _ [8, 9, 10, 11, 12, 13, 14, 15, 16, 17, 18, 19, 20, 21, 22, 23, 24, 25, 26, 27, 28, 29, 30, 31, 32, 33, 34, 35, 36, 37, 38, 39, 40, 41, 106, 107, 108, 109, 110, 111, 112, 113, 114, 115, 116, 117, 118, 119, 120, 121, 122, 123, 124, 125, 126, 127, 128, 129, 130, 131] (by decide +kernel) (by decide +kernel)
set_option maxRecDepth 20000 in
theorem gX0_find_X0_takeColumns : GoodIn wsX0_find (wsV RX0 41 RX0 yX0_takeColumns wsX0_takeColumns) := goodIn_app (goodIn_of _ (by decide +kernel)) ggX0_find_X0_takeColumns
set_option maxRecDepth 20000 in
theorem ggX0_find_X0_takeSlopes : GoodIn wsX0_find wsX0_takeSlopes := goodIn_r _ [45, 46, 10, 11, 12, 13, 25, 26, 27, 28, 29, 30, 31, 32, 33, 34, 35, 47, 48, 49, 50, 51, 52, 106, 107, 108, 109, 110, 111, 112, 113, 114, 119, 120, 121, 122, 123, 124, 125] (by decide +kernel) (by decide +kernel)
set_option maxRecDepth 20000 in
theorem gX0_find_X0_takeSlopes : GoodIn wsX0_find (wsV RX0 45 RX0 yX0_takeSlopes wsX0_takeSlopes) := goodIn_app (goodIn_of _ (by decide +kernel)) ggX0_find_X0_takeSlopes
set_option maxRecDepth 20000 in
theorem ggX0_find_X6_count : GoodIn wsX0_find wsX6_count := goodIn_r _ [18, 19, 115, 116, 117, 118] (by decide +kernel) (by decide +kernel)
set_option maxRecDepth 20000 in
theorem gX0_find_X6_count : GoodIn wsX0_find (wsV RX0 49 RX6 yX6_count wsX6_count) := goodIn_app (goodIn_of _ (by decide +kernel)) ggX0_find_X6_count
set_option maxRecDepth 20000 in
theorem ggX0_find_X0_setBend : GoodIn wsX0_find wsX0_setBend := goodIn_r _ [56, 57, 58, 59, 60, 2, 3, 61, 62, 63, 7, 64, 65, 66, 67, 68, 69, 70, 71, 106, 107, 108, 109, 110, 111, 112, 113, 114] (by decide +kernel) (by decide +kernel)
set_option maxRecDepth 20000 in
theorem gX0_find_X0_setBend : GoodIn wsX0_find (wsV RX0 55 RX0 yX0_setBend wsX0_setBend) := goodIn_app (goodIn_of _ (by decide +kernel)) ggX0_find_X0_setBend
set_option maxRecDepth 20000 in
theorem ggX0_find_X6_isDead : GoodIn wsX0_find wsX6_isDead := goodIn_r _ [23, 24, 115, 116, 117, 118] (by decide +kernel) (by decide +kernel)
set_option maxRecDepth 20000 in
theorem gX0_find_X6_isDead : GoodIn wsX0_find (wsV RX0 59 RX6 yX6_isDead wsX6_isDead) := goodIn_app (goodIn_of _ (by decide +kernel)) ggX0_find_X6_isDead
set_option maxRecDepth 20000 in
theorem ggX0_find_X0_considerPart : GoodIn wsX0_find wsX0_considerPart := goodIn_r _ [75, 76, 1, 77, 78, 79, 80, 81, 7, 82, 9, 83, 84, 85, 86, 87, 88, 89, 90, 91, 92, 93, 94, 95, 96, 97, 106, 107, 108, 109, 110, 111, 112, 113, 114] (by decide +kernel) (by decide +kernel)
set_option maxRecDepth 20000 in
theorem gX0_find_X0_considerPart : GoodIn wsX0_find (wsV RX0 63 RX0 yX0_considerPart wsX0_considerPart) := goodIn_app (goodIn_of _ (by decide +kernel)) ggX0_find_X0_considerPart
set_option maxRecDepth 20000 in
theorem ggX0_find_X0_solve : GoodIn wsX0_find wsX0_solve := goodIn_r _ [101, 1, 77, 76, 78, 102, 103, 104, 7, 105, 9, 46, 83, 84, 85, 86, 87, 88, 89, 90, 91, 92, 93, 94, 95, 96, 97, 53, 54, 55, 56, 57, 58, 59, 60, 2, 3, 61, 62, 63, 64, 65, 66, 67, 68, 69, 70, 71, 106, 107, 108, 109, 110, 111, 112, 113, 114] (by decide +kernel) (by decide +kernel)
set_option maxRecDepth 20000 in
theorem gX0_find_X0_solve : GoodIn wsX0_find (wsV RX0 67 RX0 yX0_solve wsX0_solve) := goodIn_app (goodIn_of _ (by decide +kernel)) ggX0_find_X0_solve
theorem dX0_find_0 : decode cX0_find 0 = .ok (.aload_n 0, 1) := by decide +kernel
theorem dX0_find_1 : decode cX0_find 1 = .ok (.aload_n 1, 1) := by decide +kernel
theorem dX0_find_2 : decode cX0_find 2 = .ok (.aload_n 2, 1) := by decide +kernel
theorem dX0_find_3 : decode cX0_find 3 = .ok (.aload_n 3, 1) := by decide +kernel
theorem dX0_find_4 : decode cX0_find 4 = .ok (.invokevirtual 41, 3) := by decide +kernel
theorem dX0_find_7 : decode cX0_find 7 = .ok (.aload_n 0, 1) := by decide +kernel
theorem dX0_find_8 : decode cX0_find 8 = .ok (.aload_n 1, 1) := by decide +kernel
theorem dX0_find_9 : decode cX0_find 9 = .ok (.invokevirtual 45, 3) := by decide +kernel
theorem dX0_find_12 : decode cX0_find 12 = .ok (.aload_n 0, 1) := by decide +kernel
theorem dX0_find_13 : decode cX0_find 13 = .ok (.iconst 0, 1) := by decide +kernel
theorem dX0_find_14 : decode cX0_find 14 = .ok (.putfield 37, 3) := by decide +kernel
theorem dX0_find_17 : decode cX0_find 17 = .ok (.iconst 0, 1) := by decide +kernel
theorem dX0_find_18 : decode cX0_find 18 = .ok (.istore 4, 2) := by decide +kernel
theorem dX0_find_20 : decode cX0_find 20 = .ok (.iload 4, 2) := by decide +kernel
theorem dX0_find_22 : decode cX0_find 22 = .ok (.aload_n 3, 1) := by decide +kernel
theorem dX0_find_23 : decode cX0_find 23 = .ok (.invokevirtual 49, 3) := by decide +kernel
theorem dX0_find_26 : decode cX0_find 26 = .ok (.if_icmp .ge 32, 3) := by decide +kernel
theorem dX0_find_29 : decode cX0_find 29 = .ok (.aload_n 0, 1) := by decide +kernel
theorem dX0_find_30 : decode cX0_find 30 = .ok (.iload 4, 2) := by decide +kernel
theorem dX0_find_32 : decode cX0_find 32 = .ok (.lconst 0, 1) := by decide +kernel
theorem dX0_find_33 : decode cX0_find 33 = .ok (.lconst 1, 1) := by decide +kernel
theorem dX0_find_34 : decode cX0_find 34 = .ok (.invokevirtual 55, 3) := by decide +kernel
theorem dX0_find_37 : decode cX0_find 37 = .ok (.aload_n 3, 1) := by decide +kernel
theorem dX0_find_38 : decode cX0_find 38 = .ok (.iload 4, 2) := by decide +kernel
theorem dX0_find_40 : decode cX0_find 40 = .ok (.invokevirtual 59, 3) := by decide +kernel
theorem dX0_find_43 : decode cX0_find 43 = .ok (.ifCond .ne 9, 3) := by decide +kernel
theorem dX0_find_46 : decode cX0_find 46 = .ok (.aload_n 0, 1) := by decide +kernel
theorem dX0_find_47 : decode cX0_find 47 = .ok (.iload 4, 2) := by decide +kernel
theorem dX0_find_49 : decode cX0_find 49 = .ok (.invokevirtual 63, 3) := by decide +kernel
theorem dX0_find_52 : decode cX0_find 52 = .ok (.iinc 4 1, 3) := by decide +kernel
theorem dX0_find_55 : decode cX0_find 55 = .ok (.goto (-35), 3) := by decide +kernel
theorem dX0_find_58 : decode cX0_find 58 = .ok (.aload_n 0, 1) := by decide +kernel
theorem dX0_find_59 : decode cX0_find 59 = .ok (.invokevirtual 67, 3) := by decide +kernel
theorem dX0_find_62 : decode cX0_find 62 = .ok (.iconst 1, 1) := by decide +kernel
theorem dX0_find_63 : decode cX0_find 63 = .ok (.istore 4, 2) := by decide +kernel
theorem dX0_find_65 : decode cX0_find 65 = .ok (.iload 4, 2) := by decide +kernel
theorem dX0_find_67 : decode cX0_find 67 = .ok (.aload_n 3, 1) := by decide +kernel
theorem dX0_find_68 : decode cX0_find 68 = .ok (.invokevirtual 49, 3) := by decide +kernel
theorem dX0_find_71 : decode cX0_find 71 = .ok (.if_icmp .ge 42, 3) := by decide +kernel
theorem dX0_find_74 : decode cX0_find 74 = .ok (.aload_n 3, 1) := by decide +kernel
theorem dX0_find_75 : decode cX0_find 75 = .ok (.iload 4, 2) := by decide +kernel
theorem dX0_find_77 : decode cX0_find 77 = .ok (.invokevirtual 59, 3) := by decide +kernel
theorem dX0_find_80 : decode cX0_find 80 = .ok (.ifCond .eq 27, 3) := by decide +kernel
theorem dX0_find_83 : decode cX0_find 83 = .ok (.aload_n 0, 1) := by decide +kernel
theorem dX0_find_84 : decode cX0_find 84 = .ok (.iload 4, 2) := by decide +kernel
theorem dX0_find_86 : decode cX0_find 86 = .ok (.aload_n 0, 1) := by decide +kernel
theorem dX0_find_87 : decode cX0_find 87 = .ok (.getfield 28, 3) := by decide +kernel
theorem dX0_find_90 : decode cX0_find 90 = .ok (.iload 4, 2) := by decide +kernel
theorem dX0_find_92 : decode cX0_find 92 = .ok (.iconst 1, 1) := by decide +kernel
theorem dX0_find_93 : decode cX0_find 93 = .ok (.isub, 1) := by decide +kernel
theorem dX0_find_94 : decode cX0_find 94 = .ok (.laload, 1) := by decide +kernel
theorem dX0_find_95 : decode cX0_find 95 = .ok (.aload_n 0, 1) := by decide +kernel
theorem dX0_find_96 : decode cX0_find 96 = .ok (.getfield 31, 3) := by decide +kernel
theorem dX0_find_99 : decode cX0_find 99 = .ok (.iload 4, 2) := by decide +kernel
theorem dX0_find_101 : decode cX0_find 101 = .ok (.iconst 1, 1) := by decide +kernel
theorem dX0_find_102 : decode cX0_find 102 = .ok (.isub, 1) := by decide +kernel
theorem dX0_find_103 : decode cX0_find 103 = .ok (.laload, 1) := by decide +kernel
theorem dX0_find_104 : decode cX0_find 104 = .ok (.invokevirtual 55, 3) := by decide +kernel
theorem dX0_find_107 : decode cX0_find 107 = .ok (.iinc 4 1, 3) := by decide +kernel
theorem dX0_find_110 : decode cX0_find 110 = .ok (.goto (-45), 3) := by decide +kernel
theorem dX0_find_113 : decode cX0_find 113 = .ok (.return_, 1) := by decide +kernel
set_option maxRecDepth 20000 in
theorem ggX0_takeColumns_J7_fill_53178 : GoodIn wsX0_takeColumns wsJ7_fill_53178 := goodIn_r _ [5] (by decide +kernel) (by decide +kernel)
set_option maxRecDepth 20000 in
theorem gX0_takeColumns_J7_fill_53178 : GoodIn wsX0_takeColumns (va_wsS RX0 70 yJ7_fill_53178 wsJ7_fill_53178) := goodIn_app (goodIn_of _ (by decide +kernel)) ggX0_takeColumns_J7_fill_53178
set_option maxRecDepth 20000 in
theorem ggX0_takeColumns_X6_count : GoodIn wsX0_takeColumns wsX6_count := goodIn_r _ [10, 11, 43, 44, 45, 46] (by decide +kernel) (by decide +kernel)
set_option maxRecDepth 20000 in
theorem gX0_takeColumns_X6_count : GoodIn wsX0_takeColumns (wsV RX0 49 RX6 yX6_count wsX6_count) := goodIn_app (goodIn_of _ (by decide +kernel)) ggX0_takeColumns_X6_count
set_option maxRecDepth 20000 in
theorem ggX0_takeColumns_X6_isDead : GoodIn wsX0_takeColumns wsX6_isDead := goodIn_r _ [15, 16, 43, 44, 45, 46] (by decide +kernel) (by decide +kernel)
set_option maxRecDepth 20000 in
theorem gX0_takeColumns_X6_isDead : GoodIn wsX0_takeColumns (wsV RX0 59 RX6 yX6_isDead wsX6_isDead) := goodIn_app (goodIn_of _ (by decide +kernel)) ggX0_takeColumns_X6_isDead
set_option maxRecDepth 20000 in
theorem ggX0_takeColumns_X9_count : GoodIn wsX0_takeColumns wsX9_count := goodIn_r _ [21, 22, 47, 48, 49, 50, 51, 52, 53] (by decide +kernel) (by decide +kernel)
set_option maxRecDepth 20000 in
theorem gX0_takeColumns_X9_count : GoodIn wsX0_takeColumns (wsV RX0 76 RX9 yX9_count wsX9_count) := goodIn_app (goodIn_of _ (by decide +kernel)) ggX0_takeColumns_X9_count
set_option maxRecDepth 20000 in
theorem ggX0_takeColumns_X9_isLost : GoodIn wsX0_takeColumns wsX9_isLost := goodIn_r _ [26, 27, 47, 48, 49, 50, 51, 52, 53] (by decide +kernel) (by decide +kernel)
set_option maxRecDepth 20000 in
theorem gX0_takeColumns_X9_isLost : GoodIn wsX0_takeColumns (wsV RX0 79 RX9 yX9_isLost wsX9_isLost) := goodIn_app (goodIn_of _ (by decide +kernel)) ggX0_takeColumns_X9_isLost
set_option maxRecDepth 20000 in
theorem ggX0_takeColumns_X10_number : GoodIn wsX0_takeColumns wsX10_number := goodIn_r _ [32, 33, 54, 55, 56, 57, 58, 59] (by decide +kernel) (by decide +kernel)
set_option maxRecDepth 20000 in
theorem gX0_takeColumns_X10_number : GoodIn wsX0_takeColumns (wsV RX0 82 RX10 yX10_number wsX10_number) := goodIn_app (goodIn_of _ (by decide +kernel)) ggX0_takeColumns_X10_number
theorem dX0_takeColumns_0 : decode cX0_takeColumns 0 = .ok (.aload_n 0, 1) := by decide +kernel
theorem dX0_takeColumns_1 : decode cX0_takeColumns 1 = .ok (.getfield 9, 3) := by decide +kernel
theorem dX0_takeColumns_4 : decode cX0_takeColumns 4 = .ok (.iconst 0, 1) := by decide +kernel
theorem dX0_takeColumns_5 : decode cX0_takeColumns 5 = .ok (.invokestatic 70, 3) := by decide +kernel
theorem dX0_takeColumns_8 : decode cX0_takeColumns 8 = .ok (.iconst 0, 1) := by decide +kernel
theorem dX0_takeColumns_9 : decode cX0_takeColumns 9 = .ok (.istore 4, 2) := by decide +kernel
theorem dX0_takeColumns_11 : decode cX0_takeColumns 11 = .ok (.iconst 0, 1) := by decide +kernel
theorem dX0_takeColumns_12 : decode cX0_takeColumns 12 = .ok (.istore 5, 2) := by decide +kernel
theorem dX0_takeColumns_14 : decode cX0_takeColumns 14 = .ok (.iload 5, 2) := by decide +kernel
theorem dX0_takeColumns_16 : decode cX0_takeColumns 16 = .ok (.aload_n 3, 1) := by decide +kernel
theorem dX0_takeColumns_17 : decode cX0_takeColumns 17 = .ok (.invokevirtual 49, 3) := by decide +kernel
theorem dX0_takeColumns_20 : decode cX0_takeColumns 20 = .ok (.if_icmp .ge 82, 3) := by decide +kernel
theorem dX0_takeColumns_23 : decode cX0_takeColumns 23 = .ok (.aload_n 3, 1) := by decide +kernel
theorem dX0_takeColumns_24 : decode cX0_takeColumns 24 = .ok (.iload 5, 2) := by decide +kernel
theorem dX0_takeColumns_26 : decode cX0_takeColumns 26 = .ok (.invokevirtual 59, 3) := by decide +kernel
theorem dX0_takeColumns_29 : decode cX0_takeColumns 29 = .ok (.ifCond .eq 8, 3) := by decide +kernel
theorem dX0_takeColumns_32 : decode cX0_takeColumns 32 = .ok (.iload 4, 2) := by decide +kernel
theorem dX0_takeColumns_34 : decode cX0_takeColumns 34 = .ok (.goto 5, 3) := by decide +kernel
theorem dX0_takeColumns_37 : decode cX0_takeColumns 37 = .ok (.iload 5, 2) := by decide +kernel
theorem dX0_takeColumns_39 : decode cX0_takeColumns 39 = .ok (.istore 4, 2) := by decide +kernel
theorem dX0_takeColumns_41 : decode cX0_takeColumns 41 = .ok (.iconst 0, 1) := by decide +kernel
theorem dX0_takeColumns_42 : decode cX0_takeColumns 42 = .ok (.istore 6, 2) := by decide +kernel
theorem dX0_takeColumns_44 : decode cX0_takeColumns 44 = .ok (.iload 6, 2) := by decide +kernel
theorem dX0_takeColumns_46 : decode cX0_takeColumns 46 = .ok (.aload_n 1, 1) := by decide +kernel
theorem dX0_takeColumns_47 : decode cX0_takeColumns 47 = .ok (.invokevirtual 76, 3) := by decide +kernel
theorem dX0_takeColumns_50 : decode cX0_takeColumns 50 = .ok (.if_icmp .ge 46, 3) := by decide +kernel
theorem dX0_takeColumns_53 : decode cX0_takeColumns 53 = .ok (.aload_n 0, 1) := by decide +kernel
theorem dX0_takeColumns_54 : decode cX0_takeColumns 54 = .ok (.getfield 9, 3) := by decide +kernel
theorem dX0_takeColumns_57 : decode cX0_takeColumns 57 = .ok (.iload 4, 2) := by decide +kernel
theorem dX0_takeColumns_59 : decode cX0_takeColumns 59 = .ok (.bipush 8, 2) := by decide +kernel
theorem dX0_takeColumns_61 : decode cX0_takeColumns 61 = .ok (.imul, 1) := by decide +kernel
theorem dX0_takeColumns_62 : decode cX0_takeColumns 62 = .ok (.iload 6, 2) := by decide +kernel
theorem dX0_takeColumns_64 : decode cX0_takeColumns 64 = .ok (.iadd, 1) := by decide +kernel
theorem dX0_takeColumns_65 : decode cX0_takeColumns 65 = .ok (.dup2, 1) := by decide +kernel
theorem dX0_takeColumns_66 : decode cX0_takeColumns 66 = .ok (.iaload, 1) := by decide +kernel
theorem dX0_takeColumns_67 : decode cX0_takeColumns 67 = .ok (.aload_n 1, 1) := by decide +kernel
theorem dX0_takeColumns_68 : decode cX0_takeColumns 68 = .ok (.iload 6, 2) := by decide +kernel
theorem dX0_takeColumns_70 : decode cX0_takeColumns 70 = .ok (.invokevirtual 79, 3) := by decide +kernel
theorem dX0_takeColumns_73 : decode cX0_takeColumns 73 = .ok (.ifCond .eq 7, 3) := by decide +kernel
theorem dX0_takeColumns_76 : decode cX0_takeColumns 76 = .ok (.iconst 0, 1) := by decide +kernel
theorem dX0_takeColumns_77 : decode cX0_takeColumns 77 = .ok (.goto 11, 3) := by decide +kernel
theorem dX0_takeColumns_80 : decode cX0_takeColumns 80 = .ok (.aload_n 2, 1) := by decide +kernel
theorem dX0_takeColumns_81 : decode cX0_takeColumns 81 = .ok (.iload 6, 2) := by decide +kernel
theorem dX0_takeColumns_83 : decode cX0_takeColumns 83 = .ok (.iload 5, 2) := by decide +kernel
theorem dX0_takeColumns_85 : decode cX0_takeColumns 85 = .ok (.invokevirtual 82, 3) := by decide +kernel
theorem dX0_takeColumns_88 : decode cX0_takeColumns 88 = .ok (.iadd, 1) := by decide +kernel
theorem dX0_takeColumns_89 : decode cX0_takeColumns 89 = .ok (.iastore, 1) := by decide +kernel
theorem dX0_takeColumns_90 : decode cX0_takeColumns 90 = .ok (.iinc 6 1, 3) := by decide +kernel
theorem dX0_takeColumns_93 : decode cX0_takeColumns 93 = .ok (.goto (-49), 3) := by decide +kernel
theorem dX0_takeColumns_96 : decode cX0_takeColumns 96 = .ok (.iinc 5 1, 3) := by decide +kernel
theorem dX0_takeColumns_99 : decode cX0_takeColumns 99 = .ok (.goto (-85), 3) := by decide +kernel
theorem dX0_takeColumns_102 : decode cX0_takeColumns 102 = .ok (.return_, 1) := by decide +kernel
set_option maxRecDepth 20000 in
theorem ggX0_takeSlopes_J7_fill_53178 : GoodIn wsX0_takeSlopes wsJ7_fill_53178 := goodIn_r _ [5] (by decide +kernel) (by decide +kernel)
set_option maxRecDepth 20000 in
theorem gX0_takeSlopes_J7_fill_53178 : GoodIn wsX0_takeSlopes (va_wsS RX0 70 yJ7_fill_53178 wsJ7_fill_53178) := goodIn_app (goodIn_of _ (by decide +kernel)) ggX0_takeSlopes_J7_fill_53178
set_option maxRecDepth 20000 in
theorem ggX0_takeSlopes_X9_count : GoodIn wsX0_takeSlopes wsX9_count := goodIn_r _ [10, 11, 32, 33, 34, 35, 36, 37, 38] (by decide +kernel) (by decide +kernel)
set_option maxRecDepth 20000 in
theorem gX0_takeSlopes_X9_count : GoodIn wsX0_takeSlopes (wsV RX0 76 RX9 yX9_count wsX9_count) := goodIn_app (goodIn_of _ (by decide +kernel)) ggX0_takeSlopes_X9_count
set_option maxRecDepth 20000 in
theorem ggX0_takeSlopes_X9_isLost : GoodIn wsX0_takeSlopes wsX9_isLost := goodIn_r _ [15, 16, 32, 33, 34, 35, 36, 37, 38] (by decide +kernel) (by decide +kernel)
set_option maxRecDepth 20000 in
theorem gX0_takeSlopes_X9_isLost : GoodIn wsX0_takeSlopes (wsV RX0 79 RX9 yX9_isLost wsX9_isLost) := goodIn_app (goodIn_of _ (by decide +kernel)) ggX0_takeSlopes_X9_isLost
set_option maxRecDepth 20000 in
theorem ggX0_takeSlopes_X9_slopeOf : GoodIn wsX0_takeSlopes wsX9_slopeOf := goodIn_r _ [20, 21, 22, 32, 33, 34, 35, 36, 37, 38] (by decide +kernel) (by decide +kernel)
set_option maxRecDepth 20000 in
theorem gX0_takeSlopes_X9_slopeOf : GoodIn wsX0_takeSlopes (wsV RX0 88 RX9 yX9_slopeOf wsX9_slopeOf) := goodIn_app (goodIn_of _ (by decide +kernel)) ggX0_takeSlopes_X9_slopeOf
theorem dX0_takeSlopes_0 : decode cX0_takeSlopes 0 = .ok (.aload_n 0, 1) := by decide +kernel
theorem dX0_takeSlopes_1 : decode cX0_takeSlopes 1 = .ok (.getfield 15, 3) := by decide +kernel
theorem dX0_takeSlopes_4 : decode cX0_takeSlopes 4 = .ok (.iconst 0, 1) := by decide +kernel
theorem dX0_takeSlopes_5 : decode cX0_takeSlopes 5 = .ok (.invokestatic 70, 3) := by decide +kernel
theorem dX0_takeSlopes_8 : decode cX0_takeSlopes 8 = .ok (.iconst 0, 1) := by decide +kernel
theorem dX0_takeSlopes_9 : decode cX0_takeSlopes 9 = .ok (.istore_n 2, 1) := by decide +kernel
theorem dX0_takeSlopes_10 : decode cX0_takeSlopes 10 = .ok (.iload_n 2, 1) := by decide +kernel
theorem dX0_takeSlopes_11 : decode cX0_takeSlopes 11 = .ok (.aload_n 1, 1) := by decide +kernel
theorem dX0_takeSlopes_12 : decode cX0_takeSlopes 12 = .ok (.invokevirtual 76, 3) := by decide +kernel
theorem dX0_takeSlopes_15 : decode cX0_takeSlopes 15 = .ok (.if_icmp .ge 32, 3) := by decide +kernel
theorem dX0_takeSlopes_18 : decode cX0_takeSlopes 18 = .ok (.aload_n 0, 1) := by decide +kernel
theorem dX0_takeSlopes_19 : decode cX0_takeSlopes 19 = .ok (.getfield 15, 3) := by decide +kernel
theorem dX0_takeSlopes_22 : decode cX0_takeSlopes 22 = .ok (.iload_n 2, 1) := by decide +kernel
theorem dX0_takeSlopes_23 : decode cX0_takeSlopes 23 = .ok (.aload_n 1, 1) := by decide +kernel
theorem dX0_takeSlopes_24 : decode cX0_takeSlopes 24 = .ok (.iload_n 2, 1) := by decide +kernel
theorem dX0_takeSlopes_25 : decode cX0_takeSlopes 25 = .ok (.invokevirtual 79, 3) := by decide +kernel
theorem dX0_takeSlopes_28 : decode cX0_takeSlopes 28 = .ok (.ifCond .eq 7, 3) := by decide +kernel
theorem dX0_takeSlopes_31 : decode cX0_takeSlopes 31 = .ok (.iconst 0, 1) := by decide +kernel
theorem dX0_takeSlopes_32 : decode cX0_takeSlopes 32 = .ok (.goto 8, 3) := by decide +kernel
theorem dX0_takeSlopes_35 : decode cX0_takeSlopes 35 = .ok (.aload_n 1, 1) := by decide +kernel
theorem dX0_takeSlopes_36 : decode cX0_takeSlopes 36 = .ok (.iload_n 2, 1) := by decide +kernel
theorem dX0_takeSlopes_37 : decode cX0_takeSlopes 37 = .ok (.invokevirtual 88, 3) := by decide +kernel
theorem dX0_takeSlopes_40 : decode cX0_takeSlopes 40 = .ok (.iastore, 1) := by decide +kernel
theorem dX0_takeSlopes_41 : decode cX0_takeSlopes 41 = .ok (.iinc 2 1, 3) := by decide +kernel
theorem dX0_takeSlopes_44 : decode cX0_takeSlopes 44 = .ok (.goto (-34), 3) := by decide +kernel
theorem dX0_takeSlopes_47 : decode cX0_takeSlopes 47 = .ok (.return_, 1) := by decide +kernel
set_option maxRecDepth 20000 in
theorem ggX0_considerPart_X0_productOf : GoodIn wsX0_considerPart wsX0_productOf := goodIn_r _ [9, 10, 26, 27, 28, 29, 30, 31, 32, 33, 34] (by decide +kernel) (by decide +kernel)
set_option maxRecDepth 20000 in
theorem gX0_considerPart_X0_productOf : GoodIn wsX0_considerPart (wsV RX0 92 RX0 yX0_productOf wsX0_productOf) := goodIn_app (goodIn_of _ (by decide +kernel)) ggX0_considerPart_X0_productOf
set_option maxRecDepth 20000 in
theorem ggX0_considerPart_X0_takeMinors : GoodIn wsX0_considerPart wsX0_takeMinors := goodIn_r _ [14, 4, 15, 16, 17, 18, 19, 20, 21, 22, 23, 24, 8, 25, 3, 26, 27, 28, 29, 30, 31, 32, 33, 34] (by decide +kernel) (by decide +kernel)
set_option maxRecDepth 20000 in
theorem gX0_considerPart_X0_takeMinors : GoodIn wsX0_considerPart (wsV RX0 96 RX0 yX0_takeMinors wsX0_takeMinors) := goodIn_app (goodIn_of _ (by decide +kernel)) ggX0_considerPart_X0_takeMinors
theorem dX0_considerPart_0 : decode cX0_considerPart 0 = .ok (.aload_n 0, 1) := by decide +kernel
theorem dX0_considerPart_1 : decode cX0_considerPart 1 = .ok (.getfield 18, 3) := by decide +kernel
theorem dX0_considerPart_4 : decode cX0_considerPart 4 = .ok (.aload_n 0, 1) := by decide +kernel
theorem dX0_considerPart_5 : decode cX0_considerPart 5 = .ok (.getfield 37, 3) := by decide +kernel
theorem dX0_considerPart_8 : decode cX0_considerPart 8 = .ok (.iload_n 1, 1) := by decide +kernel
theorem dX0_considerPart_9 : decode cX0_considerPart 9 = .ok (.iastore, 1) := by decide +kernel
theorem dX0_considerPart_10 : decode cX0_considerPart 10 = .ok (.iconst 0, 1) := by decide +kernel
theorem dX0_considerPart_11 : decode cX0_considerPart 11 = .ok (.istore_n 2, 1) := by decide +kernel
theorem dX0_considerPart_12 : decode cX0_considerPart 12 = .ok (.iload_n 2, 1) := by decide +kernel
theorem dX0_considerPart_13 : decode cX0_considerPart 13 = .ok (.aload_n 0, 1) := by decide +kernel
theorem dX0_considerPart_14 : decode cX0_considerPart 14 = .ok (.getfield 37, 3) := by decide +kernel
theorem dX0_considerPart_17 : decode cX0_considerPart 17 = .ok (.if_icmp .gt 51, 3) := by decide +kernel
theorem dX0_considerPart_20 : decode cX0_considerPart 20 = .ok (.aload_n 0, 1) := by decide +kernel
theorem dX0_considerPart_21 : decode cX0_considerPart 21 = .ok (.iload_n 1, 1) := by decide +kernel
theorem dX0_considerPart_22 : decode cX0_considerPart 22 = .ok (.aload_n 0, 1) := by decide +kernel
theorem dX0_considerPart_23 : decode cX0_considerPart 23 = .ok (.getfield 18, 3) := by decide +kernel
theorem dX0_considerPart_26 : decode cX0_considerPart 26 = .ok (.iload_n 2, 1) := by decide +kernel
theorem dX0_considerPart_27 : decode cX0_considerPart 27 = .ok (.iaload, 1) := by decide +kernel
theorem dX0_considerPart_28 : decode cX0_considerPart 28 = .ok (.invokevirtual 92, 3) := by decide +kernel
theorem dX0_considerPart_31 : decode cX0_considerPart 31 = .ok (.lstore_n 3, 1) := by decide +kernel
theorem dX0_considerPart_32 : decode cX0_considerPart 32 = .ok (.aload_n 0, 1) := by decide +kernel
theorem dX0_considerPart_33 : decode cX0_considerPart 33 = .ok (.getfield 21, 3) := by decide +kernel
theorem dX0_considerPart_36 : decode cX0_considerPart 36 = .ok (.iload_n 2, 1) := by decide +kernel
theorem dX0_considerPart_37 : decode cX0_considerPart 37 = .ok (.bipush 6, 2) := by decide +kernel
theorem dX0_considerPart_39 : decode cX0_considerPart 39 = .ok (.imul, 1) := by decide +kernel
theorem dX0_considerPart_40 : decode cX0_considerPart 40 = .ok (.aload_n 0, 1) := by decide +kernel
theorem dX0_considerPart_41 : decode cX0_considerPart 41 = .ok (.getfield 37, 3) := by decide +kernel
theorem dX0_considerPart_44 : decode cX0_considerPart 44 = .ok (.iadd, 1) := by decide +kernel
theorem dX0_considerPart_45 : decode cX0_considerPart 45 = .ok (.lload_n 3, 1) := by decide +kernel
theorem dX0_considerPart_46 : decode cX0_considerPart 46 = .ok (.lastore, 1) := by decide +kernel
theorem dX0_considerPart_47 : decode cX0_considerPart 47 = .ok (.aload_n 0, 1) := by decide +kernel
theorem dX0_considerPart_48 : decode cX0_considerPart 48 = .ok (.getfield 21, 3) := by decide +kernel
theorem dX0_considerPart_51 : decode cX0_considerPart 51 = .ok (.aload_n 0, 1) := by decide +kernel
theorem dX0_considerPart_52 : decode cX0_considerPart 52 = .ok (.getfield 37, 3) := by decide +kernel
theorem dX0_considerPart_55 : decode cX0_considerPart 55 = .ok (.bipush 6, 2) := by decide +kernel
theorem dX0_considerPart_57 : decode cX0_considerPart 57 = .ok (.imul, 1) := by decide +kernel
theorem dX0_considerPart_58 : decode cX0_considerPart 58 = .ok (.iload_n 2, 1) := by decide +kernel
theorem dX0_considerPart_59 : decode cX0_considerPart 59 = .ok (.iadd, 1) := by decide +kernel
theorem dX0_considerPart_60 : decode cX0_considerPart 60 = .ok (.lload_n 3, 1) := by decide +kernel
theorem dX0_considerPart_61 : decode cX0_considerPart 61 = .ok (.lastore, 1) := by decide +kernel
theorem dX0_considerPart_62 : decode cX0_considerPart 62 = .ok (.iinc 2 1, 3) := by decide +kernel
theorem dX0_considerPart_65 : decode cX0_considerPart 65 = .ok (.goto (-53), 3) := by decide +kernel
theorem dX0_considerPart_68 : decode cX0_considerPart 68 = .ok (.aload_n 0, 1) := by decide +kernel
theorem dX0_considerPart_69 : decode cX0_considerPart 69 = .ok (.aload_n 0, 1) := by decide +kernel
theorem dX0_considerPart_70 : decode cX0_considerPart 70 = .ok (.getfield 37, 3) := by decide +kernel
theorem dX0_considerPart_73 : decode cX0_considerPart 73 = .ok (.iconst 1, 1) := by decide +kernel
theorem dX0_considerPart_74 : decode cX0_considerPart 74 = .ok (.iadd, 1) := by decide +kernel
theorem dX0_considerPart_75 : decode cX0_considerPart 75 = .ok (.invokevirtual 96, 3) := by decide +kernel
theorem dX0_considerPart_78 : decode cX0_considerPart 78 = .ok (.aload_n 0, 1) := by decide +kernel
theorem dX0_considerPart_79 : decode cX0_considerPart 79 = .ok (.getfield 25, 3) := by decide +kernel
theorem dX0_considerPart_82 : decode cX0_considerPart 82 = .ok (.iconst 1, 1) := by decide +kernel
theorem dX0_considerPart_83 : decode cX0_considerPart 83 = .ok (.aload_n 0, 1) := by decide +kernel
theorem dX0_considerPart_84 : decode cX0_considerPart 84 = .ok (.getfield 37, 3) := by decide +kernel
theorem dX0_considerPart_87 : decode cX0_considerPart 87 = .ok (.iconst 1, 1) := by decide +kernel
theorem dX0_considerPart_88 : decode cX0_considerPart 88 = .ok (.iadd, 1) := by decide +kernel
theorem dX0_considerPart_89 : decode cX0_considerPart 89 = .ok (.ishl, 1) := by decide +kernel
theorem dX0_considerPart_90 : decode cX0_considerPart 90 = .ok (.iconst 1, 1) := by decide +kernel
theorem dX0_considerPart_91 : decode cX0_considerPart 91 = .ok (.isub, 1) := by decide +kernel
theorem dX0_considerPart_92 : decode cX0_considerPart 92 = .ok (.laload, 1) := by decide +kernel
theorem dX0_considerPart_93 : decode cX0_considerPart 93 = .ok (.lconst 0, 1) := by decide +kernel
theorem dX0_considerPart_94 : decode cX0_considerPart 94 = .ok (.lcmp, 1) := by decide +kernel
theorem dX0_considerPart_95 : decode cX0_considerPart 95 = .ok (.ifCond .eq 13, 3) := by decide +kernel
theorem dX0_considerPart_98 : decode cX0_considerPart 98 = .ok (.aload_n 0, 1) := by decide +kernel
theorem dX0_considerPart_99 : decode cX0_considerPart 99 = .ok (.dup, 1) := by decide +kernel
theorem dX0_considerPart_100 : decode cX0_considerPart 100 = .ok (.getfield 37, 3) := by decide +kernel
theorem dX0_considerPart_103 : decode cX0_considerPart 103 = .ok (.iconst 1, 1) := by decide +kernel
theorem dX0_considerPart_104 : decode cX0_considerPart 104 = .ok (.iadd, 1) := by decide +kernel
theorem dX0_considerPart_105 : decode cX0_considerPart 105 = .ok (.putfield 37, 3) := by decide +kernel
theorem dX0_considerPart_108 : decode cX0_considerPart 108 = .ok (.return_, 1) := by decide +kernel
theorem dX0_productOf_0 : decode cX0_productOf 0 = .ok (.lconst 0, 1) := by decide +kernel
theorem dX0_productOf_1 : decode cX0_productOf 1 = .ok (.lstore_n 3, 1) := by decide +kernel
theorem dX0_productOf_2 : decode cX0_productOf 2 = .ok (.iconst 0, 1) := by decide +kernel
theorem dX0_productOf_3 : decode cX0_productOf 3 = .ok (.istore 5, 2) := by decide +kernel
theorem dX0_productOf_5 : decode cX0_productOf 5 = .ok (.iload 5, 2) := by decide +kernel
theorem dX0_productOf_7 : decode cX0_productOf 7 = .ok (.bipush 8, 2) := by decide +kernel
theorem dX0_productOf_9 : decode cX0_productOf 9 = .ok (.if_icmp .ge 38, 3) := by decide +kernel
theorem dX0_productOf_12 : decode cX0_productOf 12 = .ok (.lload_n 3, 1) := by decide +kernel
theorem dX0_productOf_13 : decode cX0_productOf 13 = .ok (.aload_n 0, 1) := by decide +kernel
theorem dX0_productOf_14 : decode cX0_productOf 14 = .ok (.getfield 9, 3) := by decide +kernel
theorem dX0_productOf_17 : decode cX0_productOf 17 = .ok (.iload_n 1, 1) := by decide +kernel
theorem dX0_productOf_18 : decode cX0_productOf 18 = .ok (.bipush 8, 2) := by decide +kernel
theorem dX0_productOf_20 : decode cX0_productOf 20 = .ok (.imul, 1) := by decide +kernel
theorem dX0_productOf_21 : decode cX0_productOf 21 = .ok (.iload 5, 2) := by decide +kernel
theorem dX0_productOf_23 : decode cX0_productOf 23 = .ok (.iadd, 1) := by decide +kernel
theorem dX0_productOf_24 : decode cX0_productOf 24 = .ok (.iaload, 1) := by decide +kernel
theorem dX0_productOf_25 : decode cX0_productOf 25 = .ok (.aload_n 0, 1) := by decide +kernel
theorem dX0_productOf_26 : decode cX0_productOf 26 = .ok (.getfield 9, 3) := by decide +kernel
theorem dX0_productOf_29 : decode cX0_productOf 29 = .ok (.iload_n 2, 1) := by decide +kernel
theorem dX0_productOf_30 : decode cX0_productOf 30 = .ok (.bipush 8, 2) := by decide +kernel
theorem dX0_productOf_32 : decode cX0_productOf 32 = .ok (.imul, 1) := by decide +kernel
theorem dX0_productOf_33 : decode cX0_productOf 33 = .ok (.iload 5, 2) := by decide +kernel
theorem dX0_productOf_35 : decode cX0_productOf 35 = .ok (.iadd, 1) := by decide +kernel
theorem dX0_productOf_36 : decode cX0_productOf 36 = .ok (.iaload, 1) := by decide +kernel
theorem dX0_productOf_37 : decode cX0_productOf 37 = .ok (.imul, 1) := by decide +kernel
theorem dX0_productOf_38 : decode cX0_productOf 38 = .ok (.i2l, 1) := by decide +kernel
theorem dX0_productOf_39 : decode cX0_productOf 39 = .ok (.ladd, 1) := by decide +kernel
theorem dX0_productOf_40 : decode cX0_productOf 40 = .ok (.lstore_n 3, 1) := by decide +kernel
theorem dX0_productOf_41 : decode cX0_productOf 41 = .ok (.iinc 5 1, 3) := by decide +kernel
theorem dX0_productOf_44 : decode cX0_productOf 44 = .ok (.goto (-39), 3) := by decide +kernel
theorem dX0_productOf_47 : decode cX0_productOf 47 = .ok (.lload_n 3, 1) := by decide +kernel
theorem dX0_productOf_48 : decode cX0_productOf 48 = .ok (.lreturn, 1) := by decide +kernel
theorem dX0_productWithSlopes_0 : decode cX0_productWithSlopes 0 = .ok (.lconst 0, 1) := by decide +kernel
theorem dX0_productWithSlopes_1 : decode cX0_productWithSlopes 1 = .ok (.lstore_n 2, 1) := by decide +kernel
theorem dX0_productWithSlopes_2 : decode cX0_productWithSlopes 2 = .ok (.iconst 0, 1) := by decide +kernel
theorem dX0_productWithSlopes_3 : decode cX0_productWithSlopes 3 = .ok (.istore 4, 2) := by decide +kernel
theorem dX0_productWithSlopes_5 : decode cX0_productWithSlopes 5 = .ok (.iload 4, 2) := by decide +kernel
theorem dX0_productWithSlopes_7 : decode cX0_productWithSlopes 7 = .ok (.bipush 8, 2) := by decide +kernel
theorem dX0_productWithSlopes_9 : decode cX0_productWithSlopes 9 = .ok (.if_icmp .ge 33, 3) := by decide +kernel
theorem dX0_productWithSlopes_12 : decode cX0_productWithSlopes 12 = .ok (.lload_n 2, 1) := by decide +kernel
theorem dX0_productWithSlopes_13 : decode cX0_productWithSlopes 13 = .ok (.aload_n 0, 1) := by decide +kernel
theorem dX0_productWithSlopes_14 : decode cX0_productWithSlopes 14 = .ok (.getfield 9, 3) := by decide +kernel
theorem dX0_productWithSlopes_17 : decode cX0_productWithSlopes 17 = .ok (.iload_n 1, 1) := by decide +kernel
theorem dX0_productWithSlopes_18 : decode cX0_productWithSlopes 18 = .ok (.bipush 8, 2) := by decide +kernel
theorem dX0_productWithSlopes_20 : decode cX0_productWithSlopes 20 = .ok (.imul, 1) := by decide +kernel
theorem dX0_productWithSlopes_21 : decode cX0_productWithSlopes 21 = .ok (.iload 4, 2) := by decide +kernel
theorem dX0_productWithSlopes_23 : decode cX0_productWithSlopes 23 = .ok (.iadd, 1) := by decide +kernel
theorem dX0_productWithSlopes_24 : decode cX0_productWithSlopes 24 = .ok (.iaload, 1) := by decide +kernel
theorem dX0_productWithSlopes_25 : decode cX0_productWithSlopes 25 = .ok (.aload_n 0, 1) := by decide +kernel
theorem dX0_productWithSlopes_26 : decode cX0_productWithSlopes 26 = .ok (.getfield 15, 3) := by decide +kernel
theorem dX0_productWithSlopes_29 : decode cX0_productWithSlopes 29 = .ok (.iload 4, 2) := by decide +kernel
theorem dX0_productWithSlopes_31 : decode cX0_productWithSlopes 31 = .ok (.iaload, 1) := by decide +kernel
theorem dX0_productWithSlopes_32 : decode cX0_productWithSlopes 32 = .ok (.imul, 1) := by decide +kernel
theorem dX0_productWithSlopes_33 : decode cX0_productWithSlopes 33 = .ok (.i2l, 1) := by decide +kernel
theorem dX0_productWithSlopes_34 : decode cX0_productWithSlopes 34 = .ok (.ladd, 1) := by decide +kernel
theorem dX0_productWithSlopes_35 : decode cX0_productWithSlopes 35 = .ok (.lstore_n 2, 1) := by decide +kernel
theorem dX0_productWithSlopes_36 : decode cX0_productWithSlopes 36 = .ok (.iinc 4 1, 3) := by decide +kernel
theorem dX0_productWithSlopes_39 : decode cX0_productWithSlopes 39 = .ok (.goto (-34), 3) := by decide +kernel
theorem dX0_productWithSlopes_42 : decode cX0_productWithSlopes 42 = .ok (.lload_n 2, 1) := by decide +kernel
theorem dX0_productWithSlopes_43 : decode cX0_productWithSlopes 43 = .ok (.lreturn, 1) := by decide +kernel
set_option maxRecDepth 20000 in
theorem ggX0_solve_X0_productWithSlopes : GoodIn wsX0_solve wsX0_productWithSlopes := goodIn_r _ [9, 10, 11, 48, 49, 50, 51, 52, 53, 54, 55, 56] (by decide +kernel) (by decide +kernel)
set_option maxRecDepth 20000 in
theorem gX0_solve_X0_productWithSlopes : GoodIn wsX0_solve (wsV RX0 99 RX0 yX0_productWithSlopes wsX0_productWithSlopes) := goodIn_app (goodIn_of _ (by decide +kernel)) ggX0_solve_X0_productWithSlopes
set_option maxRecDepth 20000 in
theorem ggX0_solve_X0_takeMinors : GoodIn wsX0_solve wsX0_takeMinors := goodIn_r _ [15, 4, 16, 17, 18, 19, 20, 21, 22, 23, 24, 25, 8, 26, 2, 48, 49, 50, 51, 52, 53, 54, 55, 56] (by decide +kernel) (by decide +kernel)
set_option maxRecDepth 20000 in
theorem gX0_solve_X0_takeMinors : GoodIn wsX0_solve (wsV RX0 96 RX0 yX0_takeMinors wsX0_takeMinors) := goodIn_app (goodIn_of _ (by decide +kernel)) ggX0_solve_X0_takeMinors
set_option maxRecDepth 20000 in
theorem ggX0_solve_X0_setBend : GoodIn wsX0_solve wsX0_setBend := goodIn_r _ [30, 31, 32, 33, 34, 35, 36, 37, 38, 39, 8, 40, 41, 42, 43, 44, 45, 46, 47, 48, 49, 50, 51, 52, 53, 54, 55, 56] (by decide +kernel) (by decide +kernel)
set_option maxRecDepth 20000 in
theorem gX0_solve_X0_setBend : GoodIn wsX0_solve (wsV RX0 55 RX0 yX0_setBend wsX0_setBend) := goodIn_app (goodIn_of _ (by decide +kernel)) ggX0_solve_X0_setBend
theorem dX0_solve_0 : decode cX0_solve 0 = .ok (.iconst 0, 1) := by decide +kernel
theorem dX0_solve_1 : decode cX0_solve 1 = .ok (.istore_n 1, 1) := by decide +kernel
theorem dX0_solve_2 : decode cX0_solve 2 = .ok (.iload_n 1, 1) := by decide +kernel
theorem dX0_solve_3 : decode cX0_solve 3 = .ok (.aload_n 0, 1) := by decide +kernel
theorem dX0_solve_4 : decode cX0_solve 4 = .ok (.getfield 37, 3) := by decide +kernel
theorem dX0_solve_7 : decode cX0_solve 7 = .ok (.if_icmp .ge 33, 3) := by decide +kernel
theorem dX0_solve_10 : decode cX0_solve 10 = .ok (.aload_n 0, 1) := by decide +kernel
theorem dX0_solve_11 : decode cX0_solve 11 = .ok (.getfield 21, 3) := by decide +kernel
theorem dX0_solve_14 : decode cX0_solve 14 = .ok (.iload_n 1, 1) := by decide +kernel
theorem dX0_solve_15 : decode cX0_solve 15 = .ok (.bipush 6, 2) := by decide +kernel
theorem dX0_solve_17 : decode cX0_solve 17 = .ok (.imul, 1) := by decide +kernel
theorem dX0_solve_18 : decode cX0_solve 18 = .ok (.aload_n 0, 1) := by decide +kernel
theorem dX0_solve_19 : decode cX0_solve 19 = .ok (.getfield 37, 3) := by decide +kernel
theorem dX0_solve_22 : decode cX0_solve 22 = .ok (.iadd, 1) := by decide +kernel
theorem dX0_solve_23 : decode cX0_solve 23 = .ok (.aload_n 0, 1) := by decide +kernel
theorem dX0_solve_24 : decode cX0_solve 24 = .ok (.aload_n 0, 1) := by decide +kernel
theorem dX0_solve_25 : decode cX0_solve 25 = .ok (.getfield 18, 3) := by decide +kernel
theorem dX0_solve_28 : decode cX0_solve 28 = .ok (.iload_n 1, 1) := by decide +kernel
theorem dX0_solve_29 : decode cX0_solve 29 = .ok (.iaload, 1) := by decide +kernel
theorem dX0_solve_30 : decode cX0_solve 30 = .ok (.invokevirtual 99, 3) := by decide +kernel
theorem dX0_solve_33 : decode cX0_solve 33 = .ok (.lastore, 1) := by decide +kernel
theorem dX0_solve_34 : decode cX0_solve 34 = .ok (.iinc 1 1, 3) := by decide +kernel
theorem dX0_solve_37 : decode cX0_solve 37 = .ok (.goto (-35), 3) := by decide +kernel
theorem dX0_solve_40 : decode cX0_solve 40 = .ok (.aload_n 0, 1) := by decide +kernel
theorem dX0_solve_41 : decode cX0_solve 41 = .ok (.aload_n 0, 1) := by decide +kernel
theorem dX0_solve_42 : decode cX0_solve 42 = .ok (.getfield 37, 3) := by decide +kernel
theorem dX0_solve_45 : decode cX0_solve 45 = .ok (.iconst 1, 1) := by decide +kernel
theorem dX0_solve_46 : decode cX0_solve 46 = .ok (.iadd, 1) := by decide +kernel
theorem dX0_solve_47 : decode cX0_solve 47 = .ok (.invokevirtual 96, 3) := by decide +kernel
theorem dX0_solve_50 : decode cX0_solve 50 = .ok (.iconst 1, 1) := by decide +kernel
theorem dX0_solve_51 : decode cX0_solve 51 = .ok (.aload_n 0, 1) := by decide +kernel
theorem dX0_solve_52 : decode cX0_solve 52 = .ok (.getfield 37, 3) := by decide +kernel
theorem dX0_solve_55 : decode cX0_solve 55 = .ok (.iconst 1, 1) := by decide +kernel
theorem dX0_solve_56 : decode cX0_solve 56 = .ok (.iadd, 1) := by decide +kernel
theorem dX0_solve_57 : decode cX0_solve 57 = .ok (.ishl, 1) := by decide +kernel
theorem dX0_solve_58 : decode cX0_solve 58 = .ok (.iconst 1, 1) := by decide +kernel
theorem dX0_solve_59 : decode cX0_solve 59 = .ok (.isub, 1) := by decide +kernel
theorem dX0_solve_60 : decode cX0_solve 60 = .ok (.istore_n 1, 1) := by decide +kernel
theorem dX0_solve_61 : decode cX0_solve 61 = .ok (.aload_n 0, 1) := by decide +kernel
theorem dX0_solve_62 : decode cX0_solve 62 = .ok (.getfield 25, 3) := by decide +kernel
theorem dX0_solve_65 : decode cX0_solve 65 = .ok (.iload_n 1, 1) := by decide +kernel
theorem dX0_solve_66 : decode cX0_solve 66 = .ok (.iconst 1, 1) := by decide +kernel
theorem dX0_solve_67 : decode cX0_solve 67 = .ok (.ishr, 1) := by decide +kernel
theorem dX0_solve_68 : decode cX0_solve 68 = .ok (.laload, 1) := by decide +kernel
theorem dX0_solve_69 : decode cX0_solve 69 = .ok (.lstore_n 2, 1) := by decide +kernel
theorem dX0_solve_70 : decode cX0_solve 70 = .ok (.iconst 0, 1) := by decide +kernel
theorem dX0_solve_71 : decode cX0_solve 71 = .ok (.istore 4, 2) := by decide +kernel
theorem dX0_solve_73 : decode cX0_solve 73 = .ok (.iload 4, 2) := by decide +kernel
theorem dX0_solve_75 : decode cX0_solve 75 = .ok (.aload_n 0, 1) := by decide +kernel
theorem dX0_solve_76 : decode cX0_solve 76 = .ok (.getfield 37, 3) := by decide +kernel
theorem dX0_solve_79 : decode cX0_solve 79 = .ok (.if_icmp .ge 56, 3) := by decide +kernel
theorem dX0_solve_82 : decode cX0_solve 82 = .ok (.aload_n 0, 1) := by decide +kernel
theorem dX0_solve_83 : decode cX0_solve 83 = .ok (.getfield 25, 3) := by decide +kernel
theorem dX0_solve_86 : decode cX0_solve 86 = .ok (.iload_n 1, 1) := by decide +kernel
theorem dX0_solve_87 : decode cX0_solve 87 = .ok (.iconst 1, 1) := by decide +kernel
theorem dX0_solve_88 : decode cX0_solve 88 = .ok (.iload 4, 2) := by decide +kernel
theorem dX0_solve_90 : decode cX0_solve 90 = .ok (.ishl, 1) := by decide +kernel
theorem dX0_solve_91 : decode cX0_solve 91 = .ok (.ixor, 1) := by decide +kernel
theorem dX0_solve_92 : decode cX0_solve 92 = .ok (.laload, 1) := by decide +kernel
theorem dX0_solve_93 : decode cX0_solve 93 = .ok (.lstore 5, 2) := by decide +kernel
theorem dX0_solve_95 : decode cX0_solve 95 = .ok (.aload_n 0, 1) := by decide +kernel
theorem dX0_solve_96 : decode cX0_solve 96 = .ok (.aload_n 0, 1) := by decide +kernel
theorem dX0_solve_97 : decode cX0_solve 97 = .ok (.getfield 18, 3) := by decide +kernel
theorem dX0_solve_100 : decode cX0_solve 100 = .ok (.iload 4, 2) := by decide +kernel
theorem dX0_solve_102 : decode cX0_solve 102 = .ok (.iaload, 1) := by decide +kernel
theorem dX0_solve_103 : decode cX0_solve 103 = .ok (.aload_n 0, 1) := by decide +kernel
theorem dX0_solve_104 : decode cX0_solve 104 = .ok (.getfield 37, 3) := by decide +kernel
theorem dX0_solve_107 : decode cX0_solve 107 = .ok (.iconst 1, 1) := by decide +kernel
theorem dX0_solve_108 : decode cX0_solve 108 = .ok (.isub, 1) := by decide +kernel
theorem dX0_solve_109 : decode cX0_solve 109 = .ok (.iload 4, 2) := by decide +kernel
theorem dX0_solve_111 : decode cX0_solve 111 = .ok (.isub, 1) := by decide +kernel
theorem dX0_solve_112 : decode cX0_solve 112 = .ok (.iconst 2, 1) := by decide +kernel
theorem dX0_solve_113 : decode cX0_solve 113 = .ok (.irem, 1) := by decide +kernel
theorem dX0_solve_114 : decode cX0_solve 114 = .ok (.ifCond .ne 8, 3) := by decide +kernel
theorem dX0_solve_117 : decode cX0_solve 117 = .ok (.lload 5, 2) := by decide +kernel
theorem dX0_solve_119 : decode cX0_solve 119 = .ok (.goto 6, 3) := by decide +kernel
theorem dX0_solve_122 : decode cX0_solve 122 = .ok (.lload 5, 2) := by decide +kernel
theorem dX0_solve_124 : decode cX0_solve 124 = .ok (.lneg, 1) := by decide +kernel
theorem dX0_solve_125 : decode cX0_solve 125 = .ok (.lload_n 2, 1) := by decide +kernel
theorem dX0_solve_126 : decode cX0_solve 126 = .ok (.invokevirtual 55, 3) := by decide +kernel
theorem dX0_solve_129 : decode cX0_solve 129 = .ok (.iinc 4 1, 3) := by decide +kernel
theorem dX0_solve_132 : decode cX0_solve 132 = .ok (.goto (-59), 3) := by decide +kernel
theorem dX0_solve_135 : decode cX0_solve 135 = .ok (.return_, 1) := by decide +kernel
set_option maxRecDepth 20000 in
theorem ggX0_takeMinors_J6_bitCount_0f7a4 : GoodIn wsX0_takeMinors wsJ6_bitCount_0f7a4 := goodIn_r _ [5, 6, 7, 8] (by decide +kernel) (by decide +kernel)
set_option maxRecDepth 20000 in
theorem gX0_takeMinors_J6_bitCount_0f7a4 : GoodIn wsX0_takeMinors (va_wsS RX0 103 yJ6_bitCount_0f7a4 wsJ6_bitCount_0f7a4) := goodIn_app (goodIn_of _ (by decide +kernel)) ggX0_takeMinors_J6_bitCount_0f7a4
set_option maxRecDepth 20000 in
theorem ggX0_takeMinors_X0_expand : GoodIn wsX0_takeMinors wsX0_expand := goodIn_r _ [13, 14, 1, 15, 16, 17, 18, 19, 20, 21, 22, 23] (by decide +kernel) (by decide +kernel)
set_option maxRecDepth 20000 in
theorem gX0_takeMinors_X0_expand : GoodIn wsX0_takeMinors (wsV RX0 108 RX0 yX0_expand wsX0_expand) := goodIn_app (goodIn_of _ (by decide +kernel)) ggX0_takeMinors_X0_expand
theorem dX0_takeMinors_0 : decode cX0_takeMinors 0 = .ok (.aload_n 0, 1) := by decide +kernel
theorem dX0_takeMinors_1 : decode cX0_takeMinors 1 = .ok (.getfield 25, 3) := by decide +kernel
theorem dX0_takeMinors_4 : decode cX0_takeMinors 4 = .ok (.iconst 0, 1) := by decide +kernel
theorem dX0_takeMinors_5 : decode cX0_takeMinors 5 = .ok (.lconst 1, 1) := by decide +kernel
theorem dX0_takeMinors_6 : decode cX0_takeMinors 6 = .ok (.lastore, 1) := by decide +kernel
theorem dX0_takeMinors_7 : decode cX0_takeMinors 7 = .ok (.iconst 1, 1) := by decide +kernel
theorem dX0_takeMinors_8 : decode cX0_takeMinors 8 = .ok (.istore_n 2, 1) := by decide +kernel
theorem dX0_takeMinors_9 : decode cX0_takeMinors 9 = .ok (.iload_n 2, 1) := by decide +kernel
theorem dX0_takeMinors_10 : decode cX0_takeMinors 10 = .ok (.iconst 1, 1) := by decide +kernel
theorem dX0_takeMinors_11 : decode cX0_takeMinors 11 = .ok (.iload_n 1, 1) := by decide +kernel
theorem dX0_takeMinors_12 : decode cX0_takeMinors 12 = .ok (.ishl, 1) := by decide +kernel
theorem dX0_takeMinors_13 : decode cX0_takeMinors 13 = .ok (.if_icmp .ge 38, 3) := by decide +kernel
theorem dX0_takeMinors_16 : decode cX0_takeMinors 16 = .ok (.iload_n 2, 1) := by decide +kernel
theorem dX0_takeMinors_17 : decode cX0_takeMinors 17 = .ok (.invokestatic 103, 3) := by decide +kernel
theorem dX0_takeMinors_20 : decode cX0_takeMinors 20 = .ok (.iconst 1, 1) := by decide +kernel
theorem dX0_takeMinors_21 : decode cX0_takeMinors 21 = .ok (.isub, 1) := by decide +kernel
theorem dX0_takeMinors_22 : decode cX0_takeMinors 22 = .ok (.istore_n 3, 1) := by decide +kernel
theorem dX0_takeMinors_23 : decode cX0_takeMinors 23 = .ok (.aload_n 0, 1) := by decide +kernel
theorem dX0_takeMinors_24 : decode cX0_takeMinors 24 = .ok (.getfield 25, 3) := by decide +kernel
theorem dX0_takeMinors_27 : decode cX0_takeMinors 27 = .ok (.iload_n 2, 1) := by decide +kernel
theorem dX0_takeMinors_28 : decode cX0_takeMinors 28 = .ok (.iload_n 3, 1) := by decide +kernel
theorem dX0_takeMinors_29 : decode cX0_takeMinors 29 = .ok (.iconst 5, 1) := by decide +kernel
theorem dX0_takeMinors_30 : decode cX0_takeMinors 30 = .ok (.if_icmp .ge 13, 3) := by decide +kernel
theorem dX0_takeMinors_33 : decode cX0_takeMinors 33 = .ok (.aload_n 0, 1) := by decide +kernel
theorem dX0_takeMinors_34 : decode cX0_takeMinors 34 = .ok (.iload_n 2, 1) := by decide +kernel
theorem dX0_takeMinors_35 : decode cX0_takeMinors 35 = .ok (.iload_n 3, 1) := by decide +kernel
theorem dX0_takeMinors_36 : decode cX0_takeMinors 36 = .ok (.iload_n 1, 1) := by decide +kernel
theorem dX0_takeMinors_37 : decode cX0_takeMinors 37 = .ok (.invokevirtual 108, 3) := by decide +kernel
theorem dX0_takeMinors_40 : decode cX0_takeMinors 40 = .ok (.goto 4, 3) := by decide +kernel
theorem dX0_takeMinors_43 : decode cX0_takeMinors 43 = .ok (.lconst 0, 1) := by decide +kernel
theorem dX0_takeMinors_44 : decode cX0_takeMinors 44 = .ok (.lastore, 1) := by decide +kernel
theorem dX0_takeMinors_45 : decode cX0_takeMinors 45 = .ok (.iinc 2 1, 3) := by decide +kernel
theorem dX0_takeMinors_48 : decode cX0_takeMinors 48 = .ok (.goto (-39), 3) := by decide +kernel
theorem dX0_takeMinors_51 : decode cX0_takeMinors 51 = .ok (.return_, 1) := by decide +kernel
theorem dX0_expand_0 : decode cX0_expand 0 = .ok (.lconst 0, 1) := by decide +kernel
theorem dX0_expand_1 : decode cX0_expand 1 = .ok (.lstore 4, 2) := by decide +kernel
theorem dX0_expand_3 : decode cX0_expand 3 = .ok (.iconst 0, 1) := by decide +kernel
theorem dX0_expand_4 : decode cX0_expand 4 = .ok (.istore 6, 2) := by decide +kernel
theorem dX0_expand_6 : decode cX0_expand 6 = .ok (.iload_n 3, 1) := by decide +kernel
theorem dX0_expand_7 : decode cX0_expand 7 = .ok (.iconst 1, 1) := by decide +kernel
theorem dX0_expand_8 : decode cX0_expand 8 = .ok (.isub, 1) := by decide +kernel
theorem dX0_expand_9 : decode cX0_expand 9 = .ok (.istore 7, 2) := by decide +kernel
theorem dX0_expand_11 : decode cX0_expand 11 = .ok (.iload 7, 2) := by decide +kernel
theorem dX0_expand_13 : decode cX0_expand 13 = .ok (.ifCond .lt 74, 3) := by decide +kernel
theorem dX0_expand_16 : decode cX0_expand 16 = .ok (.iload_n 1, 1) := by decide +kernel
theorem dX0_expand_17 : decode cX0_expand 17 = .ok (.iconst 1, 1) := by decide +kernel
theorem dX0_expand_18 : decode cX0_expand 18 = .ok (.iload 7, 2) := by decide +kernel
theorem dX0_expand_20 : decode cX0_expand 20 = .ok (.ishl, 1) := by decide +kernel
theorem dX0_expand_21 : decode cX0_expand 21 = .ok (.iand, 1) := by decide +kernel
theorem dX0_expand_22 : decode cX0_expand 22 = .ok (.ifCond .eq 59, 3) := by decide +kernel
theorem dX0_expand_25 : decode cX0_expand 25 = .ok (.aload_n 0, 1) := by decide +kernel
theorem dX0_expand_26 : decode cX0_expand 26 = .ok (.getfield 21, 3) := by decide +kernel
theorem dX0_expand_29 : decode cX0_expand 29 = .ok (.iload_n 2, 1) := by decide +kernel
theorem dX0_expand_30 : decode cX0_expand 30 = .ok (.bipush 6, 2) := by decide +kernel
theorem dX0_expand_32 : decode cX0_expand 32 = .ok (.imul, 1) := by decide +kernel
theorem dX0_expand_33 : decode cX0_expand 33 = .ok (.iload 7, 2) := by decide +kernel
theorem dX0_expand_35 : decode cX0_expand 35 = .ok (.iadd, 1) := by decide +kernel
theorem dX0_expand_36 : decode cX0_expand 36 = .ok (.laload, 1) := by decide +kernel
theorem dX0_expand_37 : decode cX0_expand 37 = .ok (.aload_n 0, 1) := by decide +kernel
theorem dX0_expand_38 : decode cX0_expand 38 = .ok (.getfield 25, 3) := by decide +kernel
theorem dX0_expand_41 : decode cX0_expand 41 = .ok (.iload_n 1, 1) := by decide +kernel
theorem dX0_expand_42 : decode cX0_expand 42 = .ok (.iconst 1, 1) := by decide +kernel
theorem dX0_expand_43 : decode cX0_expand 43 = .ok (.iload 7, 2) := by decide +kernel
theorem dX0_expand_45 : decode cX0_expand 45 = .ok (.ishl, 1) := by decide +kernel
theorem dX0_expand_46 : decode cX0_expand 46 = .ok (.ixor, 1) := by decide +kernel
theorem dX0_expand_47 : decode cX0_expand 47 = .ok (.laload, 1) := by decide +kernel
theorem dX0_expand_48 : decode cX0_expand 48 = .ok (.lmul, 1) := by decide +kernel
theorem dX0_expand_49 : decode cX0_expand 49 = .ok (.lstore 8, 2) := by decide +kernel
theorem dX0_expand_51 : decode cX0_expand 51 = .ok (.lload 4, 2) := by decide +kernel
theorem dX0_expand_53 : decode cX0_expand 53 = .ok (.iload 6, 2) := by decide +kernel
theorem dX0_expand_55 : decode cX0_expand 55 = .ok (.ifCond .eq 9, 3) := by decide +kernel
theorem dX0_expand_58 : decode cX0_expand 58 = .ok (.lload 8, 2) := by decide +kernel
theorem dX0_expand_60 : decode cX0_expand 60 = .ok (.lneg, 1) := by decide +kernel
theorem dX0_expand_61 : decode cX0_expand 61 = .ok (.goto 5, 3) := by decide +kernel
theorem dX0_expand_64 : decode cX0_expand 64 = .ok (.lload 8, 2) := by decide +kernel
theorem dX0_expand_66 : decode cX0_expand 66 = .ok (.ladd, 1) := by decide +kernel
theorem dX0_expand_67 : decode cX0_expand 67 = .ok (.lstore 4, 2) := by decide +kernel
theorem dX0_expand_69 : decode cX0_expand 69 = .ok (.iload 6, 2) := by decide +kernel
theorem dX0_expand_71 : decode cX0_expand 71 = .ok (.ifCond .ne 7, 3) := by decide +kernel
theorem dX0_expand_74 : decode cX0_expand 74 = .ok (.iconst 1, 1) := by decide +kernel
theorem dX0_expand_75 : decode cX0_expand 75 = .ok (.goto 4, 3) := by decide +kernel
theorem dX0_expand_78 : decode cX0_expand 78 = .ok (.iconst 0, 1) := by decide +kernel
theorem dX0_expand_79 : decode cX0_expand 79 = .ok (.istore 6, 2) := by decide +kernel
theorem dX0_expand_81 : decode cX0_expand 81 = .ok (.iinc 7 (-1), 3) := by decide +kernel
theorem dX0_expand_84 : decode cX0_expand 84 = .ok (.goto (-73), 3) := by decide +kernel
theorem dX0_expand_87 : decode cX0_expand 87 = .ok (.lload 4, 2) := by decide +kernel
theorem dX0_expand_89 : decode cX0_expand 89 = .ok (.lreturn, 1) := by decide +kernel
set_option maxRecDepth 20000 in
theorem ggX0_setBend_X0_commonDivisor : GoodIn wsX0_setBend wsX0_commonDivisor := goodIn_r _ [11] (by decide +kernel) (by decide +kernel)
set_option maxRecDepth 20000 in
theorem gX0_setBend_X0_commonDivisor : GoodIn wsX0_setBend (va_wsS RX0 118 yX0_commonDivisor wsX0_commonDivisor) := goodIn_app (goodIn_of _ (by decide +kernel)) ggX0_setBend_X0_commonDivisor
set_option maxRecDepth 20000 in
theorem ggX0_setBend_X0_nearestWhole : GoodIn wsX0_setBend wsX0_nearestWhole := goodIn_r _ [14, 1, 2, 3, 4, 15, 16, 17, 18] (by decide +kernel) (by decide +kernel)
set_option maxRecDepth 20000 in
theorem gX0_setBend_X0_nearestWhole : GoodIn wsX0_setBend (va_wsS RX0 122 yX0_nearestWhole wsX0_nearestWhole) := goodIn_app (goodIn_of _ (by decide +kernel)) ggX0_setBend_X0_nearestWhole
theorem dX0_setBend_0 : decode cX0_setBend 0 = .ok (.lload_n 2, 1) := by decide +kernel
theorem dX0_setBend_1 : decode cX0_setBend 1 = .ok (.invokestatic 112, 3) := by decide +kernel
theorem dX0_setBend_4 : decode cX0_setBend 4 = .ok (.lload 4, 2) := by decide +kernel
theorem dX0_setBend_6 : decode cX0_setBend 6 = .ok (.invokestatic 118, 3) := by decide +kernel
theorem dX0_setBend_9 : decode cX0_setBend 9 = .ok (.lstore 6, 2) := by decide +kernel
theorem dX0_setBend_11 : decode cX0_setBend 11 = .ok (.aload_n 0, 1) := by decide +kernel
theorem dX0_setBend_12 : decode cX0_setBend 12 = .ok (.getfield 28, 3) := by decide +kernel
theorem dX0_setBend_15 : decode cX0_setBend 15 = .ok (.iload_n 1, 1) := by decide +kernel
theorem dX0_setBend_16 : decode cX0_setBend 16 = .ok (.lload 6, 2) := by decide +kernel
theorem dX0_setBend_18 : decode cX0_setBend 18 = .ok (.lconst 0, 1) := by decide +kernel
theorem dX0_setBend_19 : decode cX0_setBend 19 = .ok (.lcmp, 1) := by decide +kernel
theorem dX0_setBend_20 : decode cX0_setBend 20 = .ok (.ifCond .le 10, 3) := by decide +kernel
theorem dX0_setBend_23 : decode cX0_setBend 23 = .ok (.lload_n 2, 1) := by decide +kernel
theorem dX0_setBend_24 : decode cX0_setBend 24 = .ok (.lload 6, 2) := by decide +kernel
theorem dX0_setBend_26 : decode cX0_setBend 26 = .ok (.ldiv, 1) := by decide +kernel
theorem dX0_setBend_27 : decode cX0_setBend 27 = .ok (.goto 4, 3) := by decide +kernel
theorem dX0_setBend_30 : decode cX0_setBend 30 = .ok (.lconst 0, 1) := by decide +kernel
theorem dX0_setBend_31 : decode cX0_setBend 31 = .ok (.lastore, 1) := by decide +kernel
theorem dX0_setBend_32 : decode cX0_setBend 32 = .ok (.aload_n 0, 1) := by decide +kernel
theorem dX0_setBend_33 : decode cX0_setBend 33 = .ok (.getfield 31, 3) := by decide +kernel
theorem dX0_setBend_36 : decode cX0_setBend 36 = .ok (.iload_n 1, 1) := by decide +kernel
theorem dX0_setBend_37 : decode cX0_setBend 37 = .ok (.lload 6, 2) := by decide +kernel
theorem dX0_setBend_39 : decode cX0_setBend 39 = .ok (.lconst 0, 1) := by decide +kernel
theorem dX0_setBend_40 : decode cX0_setBend 40 = .ok (.lcmp, 1) := by decide +kernel
theorem dX0_setBend_41 : decode cX0_setBend 41 = .ok (.ifCond .le 11, 3) := by decide +kernel
theorem dX0_setBend_44 : decode cX0_setBend 44 = .ok (.lload 4, 2) := by decide +kernel
theorem dX0_setBend_46 : decode cX0_setBend 46 = .ok (.lload 6, 2) := by decide +kernel
theorem dX0_setBend_48 : decode cX0_setBend 48 = .ok (.ldiv, 1) := by decide +kernel
theorem dX0_setBend_49 : decode cX0_setBend 49 = .ok (.goto 4, 3) := by decide +kernel
theorem dX0_setBend_52 : decode cX0_setBend 52 = .ok (.lconst 1, 1) := by decide +kernel
theorem dX0_setBend_53 : decode cX0_setBend 53 = .ok (.lastore, 1) := by decide +kernel
theorem dX0_setBend_54 : decode cX0_setBend 54 = .ok (.aload_n 0, 1) := by decide +kernel
theorem dX0_setBend_55 : decode cX0_setBend 55 = .ok (.getfield 34, 3) := by decide +kernel
theorem dX0_setBend_58 : decode cX0_setBend 58 = .ok (.iload_n 1, 1) := by decide +kernel
theorem dX0_setBend_59 : decode cX0_setBend 59 = .ok (.aload_n 0, 1) := by decide +kernel
theorem dX0_setBend_60 : decode cX0_setBend 60 = .ok (.getfield 28, 3) := by decide +kernel
theorem dX0_setBend_63 : decode cX0_setBend 63 = .ok (.iload_n 1, 1) := by decide +kernel
theorem dX0_setBend_64 : decode cX0_setBend 64 = .ok (.laload, 1) := by decide +kernel
theorem dX0_setBend_65 : decode cX0_setBend 65 = .ok (.aload_n 0, 1) := by decide +kernel
theorem dX0_setBend_66 : decode cX0_setBend 66 = .ok (.getfield 31, 3) := by decide +kernel
theorem dX0_setBend_69 : decode cX0_setBend 69 = .ok (.iload_n 1, 1) := by decide +kernel
theorem dX0_setBend_70 : decode cX0_setBend 70 = .ok (.laload, 1) := by decide +kernel
theorem dX0_setBend_71 : decode cX0_setBend 71 = .ok (.invokestatic 122, 3) := by decide +kernel
theorem dX0_setBend_74 : decode cX0_setBend 74 = .ok (.iastore, 1) := by decide +kernel
theorem dX0_setBend_75 : decode cX0_setBend 75 = .ok (.return_, 1) := by decide +kernel
theorem dX0_commonDivisor_0 : decode cX0_commonDivisor 0 = .ok (.lload_n 0, 1) := by decide +kernel
theorem dX0_commonDivisor_1 : decode cX0_commonDivisor 1 = .ok (.lstore 4, 2) := by decide +kernel
theorem dX0_commonDivisor_3 : decode cX0_commonDivisor 3 = .ok (.lload_n 2, 1) := by decide +kernel
theorem dX0_commonDivisor_4 : decode cX0_commonDivisor 4 = .ok (.lstore 6, 2) := by decide +kernel
theorem dX0_commonDivisor_6 : decode cX0_commonDivisor 6 = .ok (.iconst 0, 1) := by decide +kernel
theorem dX0_commonDivisor_7 : decode cX0_commonDivisor 7 = .ok (.istore 8, 2) := by decide +kernel
theorem dX0_commonDivisor_9 : decode cX0_commonDivisor 9 = .ok (.iload 8, 2) := by decide +kernel
theorem dX0_commonDivisor_11 : decode cX0_commonDivisor 11 = .ok (.bipush 100, 2) := by decide +kernel
theorem dX0_commonDivisor_13 : decode cX0_commonDivisor 13 = .ok (.if_icmp .ge 31, 3) := by decide +kernel
theorem dX0_commonDivisor_16 : decode cX0_commonDivisor 16 = .ok (.lload 6, 2) := by decide +kernel
theorem dX0_commonDivisor_18 : decode cX0_commonDivisor 18 = .ok (.lconst 0, 1) := by decide +kernel
theorem dX0_commonDivisor_19 : decode cX0_commonDivisor 19 = .ok (.lcmp, 1) := by decide +kernel
theorem dX0_commonDivisor_20 : decode cX0_commonDivisor 20 = .ok (.ifCond .eq 24, 3) := by decide +kernel
theorem dX0_commonDivisor_23 : decode cX0_commonDivisor 23 = .ok (.lload 4, 2) := by decide +kernel
theorem dX0_commonDivisor_25 : decode cX0_commonDivisor 25 = .ok (.lload 6, 2) := by decide +kernel
theorem dX0_commonDivisor_27 : decode cX0_commonDivisor 27 = .ok (.lrem, 1) := by decide +kernel
theorem dX0_commonDivisor_28 : decode cX0_commonDivisor 28 = .ok (.lstore 9, 2) := by decide +kernel
theorem dX0_commonDivisor_30 : decode cX0_commonDivisor 30 = .ok (.lload 6, 2) := by decide +kernel
theorem dX0_commonDivisor_32 : decode cX0_commonDivisor 32 = .ok (.lstore 4, 2) := by decide +kernel
theorem dX0_commonDivisor_34 : decode cX0_commonDivisor 34 = .ok (.lload 9, 2) := by decide +kernel
theorem dX0_commonDivisor_36 : decode cX0_commonDivisor 36 = .ok (.lstore 6, 2) := by decide +kernel
theorem dX0_commonDivisor_38 : decode cX0_commonDivisor 38 = .ok (.iinc 8 1, 3) := by decide +kernel
theorem dX0_commonDivisor_41 : decode cX0_commonDivisor 41 = .ok (.goto (-32), 3) := by decide +kernel
theorem dX0_commonDivisor_44 : decode cX0_commonDivisor 44 = .ok (.lload 4, 2) := by decide +kernel
theorem dX0_commonDivisor_46 : decode cX0_commonDivisor 46 = .ok (.lreturn, 1) := by decide +kernel
theorem dX0_nearestWhole_0 : decode cX0_nearestWhole 0 = .ok (.lload_n 2, 1) := by decide +kernel
theorem dX0_nearestWhole_1 : decode cX0_nearestWhole 1 = .ok (.lconst 0, 1) := by decide +kernel
theorem dX0_nearestWhole_2 : decode cX0_nearestWhole 2 = .ok (.lcmp, 1) := by decide +kernel
theorem dX0_nearestWhole_3 : decode cX0_nearestWhole 3 = .ok (.ifCond .gt 5, 3) := by decide +kernel
theorem dX0_nearestWhole_6 : decode cX0_nearestWhole 6 = .ok (.iconst 0, 1) := by decide +kernel
theorem dX0_nearestWhole_7 : decode cX0_nearestWhole 7 = .ok (.ireturn, 1) := by decide +kernel
theorem dX0_nearestWhole_8 : decode cX0_nearestWhole 8 = .ok (.lload_n 0, 1) := by decide +kernel
theorem dX0_nearestWhole_9 : decode cX0_nearestWhole 9 = .ok (.invokestatic 112, 3) := by decide +kernel
theorem dX0_nearestWhole_12 : decode cX0_nearestWhole 12 = .ok (.lstore 4, 2) := by decide +kernel
theorem dX0_nearestWhole_14 : decode cX0_nearestWhole 14 = .ok (.lload 4, 2) := by decide +kernel
theorem dX0_nearestWhole_16 : decode cX0_nearestWhole 16 = .ok (.lload_n 2, 1) := by decide +kernel
theorem dX0_nearestWhole_17 : decode cX0_nearestWhole 17 = .ok (.lrem, 1) := by decide +kernel
theorem dX0_nearestWhole_18 : decode cX0_nearestWhole 18 = .ok (.lstore 6, 2) := by decide +kernel
theorem dX0_nearestWhole_20 : decode cX0_nearestWhole 20 = .ok (.lload 4, 2) := by decide +kernel
theorem dX0_nearestWhole_22 : decode cX0_nearestWhole 22 = .ok (.lload_n 2, 1) := by decide +kernel
theorem dX0_nearestWhole_23 : decode cX0_nearestWhole 23 = .ok (.ldiv, 1) := by decide +kernel
theorem dX0_nearestWhole_24 : decode cX0_nearestWhole 24 = .ok (.lload 6, 2) := by decide +kernel
theorem dX0_nearestWhole_26 : decode cX0_nearestWhole 26 = .ok (.lload_n 2, 1) := by decide +kernel
theorem dX0_nearestWhole_27 : decode cX0_nearestWhole 27 = .ok (.lload 6, 2) := by decide +kernel
theorem dX0_nearestWhole_29 : decode cX0_nearestWhole 29 = .ok (.lsub, 1) := by decide +kernel
theorem dX0_nearestWhole_30 : decode cX0_nearestWhole 30 = .ok (.lcmp, 1) := by decide +kernel
theorem dX0_nearestWhole_31 : decode cX0_nearestWhole 31 = .ok (.ifCond .lt 7, 3) := by decide +kernel
theorem dX0_nearestWhole_34 : decode cX0_nearestWhole 34 = .ok (.lconst 1, 1) := by decide +kernel
theorem dX0_nearestWhole_35 : decode cX0_nearestWhole 35 = .ok (.goto 4, 3) := by decide +kernel
theorem dX0_nearestWhole_38 : decode cX0_nearestWhole 38 = .ok (.lconst 0, 1) := by decide +kernel
theorem dX0_nearestWhole_39 : decode cX0_nearestWhole 39 = .ok (.ladd, 1) := by decide +kernel
theorem dX0_nearestWhole_40 : decode cX0_nearestWhole 40 = .ok (.lstore 8, 2) := by decide +kernel
theorem dX0_nearestWhole_42 : decode cX0_nearestWhole 42 = .ok (.lload 8, 2) := by decide +kernel
theorem dX0_nearestWhole_44 : decode cX0_nearestWhole 44 = .ok (.ldc2_w 126, 3) := by decide +kernel
theorem dX0_nearestWhole_47 : decode cX0_nearestWhole 47 = .ok (.invokestatic 128, 3) := by decide +kernel
theorem dX0_nearestWhole_50 : decode cX0_nearestWhole 50 = .ok (.l2i, 1) := by decide +kernel
theorem dX0_nearestWhole_51 : decode cX0_nearestWhole 51 = .ok (.istore 10, 2) := by decide +kernel
theorem dX0_nearestWhole_53 : decode cX0_nearestWhole 53 = .ok (.lload_n 0, 1) := by decide +kernel
theorem dX0_nearestWhole_54 : decode cX0_nearestWhole 54 = .ok (.lconst 0, 1) := by decide +kernel
theorem dX0_nearestWhole_55 : decode cX0_nearestWhole 55 = .ok (.lcmp, 1) := by decide +kernel
theorem dX0_nearestWhole_56 : decode cX0_nearestWhole 56 = .ok (.ifCond .ge 9, 3) := by decide +kernel
theorem dX0_nearestWhole_59 : decode cX0_nearestWhole 59 = .ok (.iload 10, 2) := by decide +kernel
theorem dX0_nearestWhole_61 : decode cX0_nearestWhole 61 = .ok (.ineg, 1) := by decide +kernel
theorem dX0_nearestWhole_62 : decode cX0_nearestWhole 62 = .ok (.goto 5, 3) := by decide +kernel
theorem dX0_nearestWhole_65 : decode cX0_nearestWhole 65 = .ok (.iload 10, 2) := by decide +kernel
theorem dX0_nearestWhole_67 : decode cX0_nearestWhole 67 = .ok (.ireturn, 1) := by decide +kernel
theorem dX1_init_0 : decode cX1_init 0 = .ok (.aload_n 0, 1) := by decide +kernel
theorem dX1_init_1 : decode cX1_init 1 = .ok (.invokespecial 3, 3) := by decide +kernel
theorem dX1_init_4 : decode cX1_init 4 = .ok (.aload_n 0, 1) := by decide +kernel
theorem dX1_init_5 : decode cX1_init 5 = .ok (.bipush 90, 2) := by decide +kernel
theorem dX1_init_7 : decode cX1_init 7 = .ok (.newarray .int, 2) := by decide +kernel
theorem dX1_init_9 : decode cX1_init 9 = .ok (.putfield 11, 3) := by decide +kernel
theorem dX1_init_12 : decode cX1_init 12 = .ok (.aload_n 0, 1) := by decide +kernel
theorem dX1_init_13 : decode cX1_init 13 = .ok (.iconst 0, 1) := by decide +kernel
theorem dX1_init_14 : decode cX1_init 14 = .ok (.putfield 15, 3) := by decide +kernel
theorem dX1_init_17 : decode cX1_init 17 = .ok (.aload_n 0, 1) := by decide +kernel
theorem dX1_init_18 : decode cX1_init 18 = .ok (.iconst 0, 1) := by decide +kernel
theorem dX1_init_19 : decode cX1_init 19 = .ok (.putfield 19, 3) := by decide +kernel
theorem dX1_init_22 : decode cX1_init 22 = .ok (.return_, 1) := by decide +kernel
theorem dX1_renew_0 : decode cX1_renew 0 = .ok (.aload_n 0, 1) := by decide +kernel
theorem dX1_renew_1 : decode cX1_renew 1 = .ok (.iconst 0, 1) := by decide +kernel
theorem dX1_renew_2 : decode cX1_renew 2 = .ok (.putfield 15, 3) := by decide +kernel
theorem dX1_renew_5 : decode cX1_renew 5 = .ok (.aload_n 0, 1) := by decide +kernel
theorem dX1_renew_6 : decode cX1_renew 6 = .ok (.iconst 0, 1) := by decide +kernel
theorem dX1_renew_7 : decode cX1_renew 7 = .ok (.putfield 19, 3) := by decide +kernel
theorem dX1_renew_10 : decode cX1_renew 10 = .ok (.return_, 1) := by decide +kernel
theorem dX1_note_0 : decode cX1_note 0 = .ok (.aload_n 0, 1) := by decide +kernel
theorem dX1_note_1 : decode cX1_note 1 = .ok (.getfield 11, 3) := by decide +kernel
theorem dX1_note_4 : decode cX1_note 4 = .ok (.aload_n 0, 1) := by decide +kernel
theorem dX1_note_5 : decode cX1_note 5 = .ok (.getfield 19, 3) := by decide +kernel
theorem dX1_note_8 : decode cX1_note 8 = .ok (.iconst 3, 1) := by decide +kernel
theorem dX1_note_9 : decode cX1_note 9 = .ok (.imul, 1) := by decide +kernel
theorem dX1_note_10 : decode cX1_note 10 = .ok (.iload_n 1, 1) := by decide +kernel
theorem dX1_note_11 : decode cX1_note 11 = .ok (.iastore, 1) := by decide +kernel
theorem dX1_note_12 : decode cX1_note 12 = .ok (.aload_n 0, 1) := by decide +kernel
theorem dX1_note_13 : decode cX1_note 13 = .ok (.getfield 11, 3) := by decide +kernel
theorem dX1_note_16 : decode cX1_note 16 = .ok (.aload_n 0, 1) := by decide +kernel
theorem dX1_note_17 : decode cX1_note 17 = .ok (.getfield 19, 3) := by decide +kernel
theorem dX1_note_20 : decode cX1_note 20 = .ok (.iconst 3, 1) := by decide +kernel
theorem dX1_note_21 : decode cX1_note 21 = .ok (.imul, 1) := by decide +kernel
theorem dX1_note_22 : decode cX1_note 22 = .ok (.iconst 1, 1) := by decide +kernel
theorem dX1_note_23 : decode cX1_note 23 = .ok (.iadd, 1) := by decide +kernel
theorem dX1_note_24 : decode cX1_note 24 = .ok (.iload_n 2, 1) := by decide +kernel
theorem dX1_note_25 : decode cX1_note 25 = .ok (.iastore, 1) := by decide +kernel
theorem dX1_note_26 : decode cX1_note 26 = .ok (.aload_n 0, 1) := by decide +kernel
theorem dX1_note_27 : decode cX1_note 27 = .ok (.getfield 11, 3) := by decide +kernel
theorem dX1_note_30 : decode cX1_note 30 = .ok (.aload_n 0, 1) := by decide +kernel
theorem dX1_note_31 : decode cX1_note 31 = .ok (.getfield 19, 3) := by decide +kernel
theorem dX1_note_34 : decode cX1_note 34 = .ok (.iconst 3, 1) := by decide +kernel
theorem dX1_note_35 : decode cX1_note 35 = .ok (.imul, 1) := by decide +kernel
theorem dX1_note_36 : decode cX1_note 36 = .ok (.iconst 2, 1) := by decide +kernel
theorem dX1_note_37 : decode cX1_note 37 = .ok (.iadd, 1) := by decide +kernel
theorem dX1_note_38 : decode cX1_note 38 = .ok (.iload_n 3, 1) := by decide +kernel
theorem dX1_note_39 : decode cX1_note 39 = .ok (.iastore, 1) := by decide +kernel
theorem dX1_note_40 : decode cX1_note 40 = .ok (.aload_n 0, 1) := by decide +kernel
theorem dX1_note_41 : decode cX1_note 41 = .ok (.aload_n 0, 1) := by decide +kernel
theorem dX1_note_42 : decode cX1_note 42 = .ok (.getfield 19, 3) := by decide +kernel
theorem dX1_note_45 : decode cX1_note 45 = .ok (.iconst 1, 1) := by decide +kernel
theorem dX1_note_46 : decode cX1_note 46 = .ok (.iadd, 1) := by decide +kernel
theorem dX1_note_47 : decode cX1_note 47 = .ok (.bipush 30, 2) := by decide +kernel
theorem dX1_note_49 : decode cX1_note 49 = .ok (.irem, 1) := by decide +kernel
theorem dX1_note_50 : decode cX1_note 50 = .ok (.putfield 19, 3) := by decide +kernel
theorem dX1_note_53 : decode cX1_note 53 = .ok (.aload_n 0, 1) := by decide +kernel
theorem dX1_note_54 : decode cX1_note 54 = .ok (.aload_n 0, 1) := by decide +kernel
theorem dX1_note_55 : decode cX1_note 55 = .ok (.getfield 15, 3) := by decide +kernel
theorem dX1_note_58 : decode cX1_note 58 = .ok (.iconst 1, 1) := by decide +kernel
theorem dX1_note_59 : decode cX1_note 59 = .ok (.iadd, 1) := by decide +kernel
theorem dX1_note_60 : decode cX1_note 60 = .ok (.bipush 30, 2) := by decide +kernel
theorem dX1_note_62 : decode cX1_note 62 = .ok (.invokestatic 22, 3) := by decide +kernel
theorem dX1_note_65 : decode cX1_note 65 = .ok (.putfield 15, 3) := by decide +kernel
theorem dX1_note_68 : decode cX1_note 68 = .ok (.return_, 1) := by decide +kernel
set_option maxRecDepth 20000 in
theorem ggX1_has_X11_within : GoodIn wsX1_has wsX11_within := goodIn_r _ [4] (by decide +kernel) (by decide +kernel)
set_option maxRecDepth 20000 in
theorem gX1_has_X11_within_n28 : GoodIn wsX1_has (wsX11_within) := ggX1_has_X11_within
theorem dX1_has_0 : decode cX1_has 0 = .ok (.iload_n 1, 1) := by decide +kernel
theorem dX1_has_1 : decode cX1_has 1 = .ok (.iconst 0, 1) := by decide +kernel
theorem dX1_has_2 : decode cX1_has 2 = .ok (.aload_n 0, 1) := by decide +kernel
theorem dX1_has_3 : decode cX1_has 3 = .ok (.getfield 15, 3) := by decide +kernel
theorem dX1_has_6 : decode cX1_has 6 = .ok (.iconst 1, 1) := by decide +kernel
theorem dX1_has_7 : decode cX1_has 7 = .ok (.isub, 1) := by decide +kernel
theorem dX1_has_8 : decode cX1_has 8 = .ok (.invokestatic 28, 3) := by decide +kernel
theorem dX1_has_11 : decode cX1_has 11 = .ok (.ireturn, 1) := by decide +kernel
set_option maxRecDepth 20000 in
theorem ggX1_read_J9_floorMod_7cf53 : GoodIn wsX1_read wsJ9_floorMod_7cf53 := goodIn_r _ [6] (by decide +kernel) (by decide +kernel)
set_option maxRecDepth 20000 in
theorem gX1_read_J9_floorMod_7cf53 : GoodIn wsX1_read (va_wsS RX1 32 yJ9_floorMod_7cf53 wsJ9_floorMod_7cf53) := goodIn_app (goodIn_of _ (by decide +kernel)) ggX1_read_J9_floorMod_7cf53
theorem dX1_read_0 : decode cX1_read 0 = .ok (.aload_n 0, 1) := by decide +kernel
theorem dX1_read_1 : decode cX1_read 1 = .ok (.getfield 11, 3) := by decide +kernel
theorem dX1_read_4 : decode cX1_read 4 = .ok (.aload_n 0, 1) := by decide +kernel
theorem dX1_read_5 : decode cX1_read 5 = .ok (.getfield 19, 3) := by decide +kernel
theorem dX1_read_8 : decode cX1_read 8 = .ok (.iconst 1, 1) := by decide +kernel
theorem dX1_read_9 : decode cX1_read 9 = .ok (.isub, 1) := by decide +kernel
theorem dX1_read_10 : decode cX1_read 10 = .ok (.iload_n 1, 1) := by decide +kernel
theorem dX1_read_11 : decode cX1_read 11 = .ok (.isub, 1) := by decide +kernel
theorem dX1_read_12 : decode cX1_read 12 = .ok (.bipush 30, 2) := by decide +kernel
theorem dX1_read_14 : decode cX1_read 14 = .ok (.invokestatic 32, 3) := by decide +kernel
theorem dX1_read_17 : decode cX1_read 17 = .ok (.iconst 3, 1) := by decide +kernel
theorem dX1_read_18 : decode cX1_read 18 = .ok (.imul, 1) := by decide +kernel
theorem dX1_read_19 : decode cX1_read 19 = .ok (.iload_n 2, 1) := by decide +kernel
theorem dX1_read_20 : decode cX1_read 20 = .ok (.iadd, 1) := by decide +kernel
theorem dX1_read_21 : decode cX1_read 21 = .ok (.iaload, 1) := by decide +kernel
theorem dX1_read_22 : decode cX1_read 22 = .ok (.ireturn, 1) := by decide +kernel
theorem dX2_init_0 : decode cX2_init 0 = .ok (.aload_n 0, 1) := by decide +kernel
theorem dX2_init_1 : decode cX2_init 1 = .ok (.invokespecial 5, 3) := by decide +kernel
theorem dX2_init_4 : decode cX2_init 4 = .ok (.aload_n 0, 1) := by decide +kernel
theorem dX2_init_5 : decode cX2_init 5 = .ok (.iconst 5, 1) := by decide +kernel
theorem dX2_init_6 : decode cX2_init 6 = .ok (.newarray .int, 2) := by decide +kernel
theorem dX2_init_8 : decode cX2_init 8 = .ok (.putfield 11, 3) := by decide +kernel
theorem dX2_init_11 : decode cX2_init 11 = .ok (.aload_n 0, 1) := by decide +kernel
theorem dX2_init_12 : decode cX2_init 12 = .ok (.sipush 605, 3) := by decide +kernel
theorem dX2_init_15 : decode cX2_init 15 = .ok (.newarray .long, 2) := by decide +kernel
theorem dX2_init_17 : decode cX2_init 17 = .ok (.putfield 15, 3) := by decide +kernel
theorem dX2_init_20 : decode cX2_init 20 = .ok (.aload_n 0, 1) := by decide +kernel
theorem dX2_init_21 : decode cX2_init 21 = .ok (.iconst 5, 1) := by decide +kernel
theorem dX2_init_22 : decode cX2_init 22 = .ok (.newarray .int, 2) := by decide +kernel
theorem dX2_init_24 : decode cX2_init 24 = .ok (.putfield 19, 3) := by decide +kernel
theorem dX2_init_27 : decode cX2_init 27 = .ok (.aload_n 0, 1) := by decide +kernel
theorem dX2_init_28 : decode cX2_init 28 = .ok (.iconst 5, 1) := by decide +kernel
theorem dX2_init_29 : decode cX2_init 29 = .ok (.newarray .int, 2) := by decide +kernel
theorem dX2_init_31 : decode cX2_init 31 = .ok (.putfield 22, 3) := by decide +kernel
theorem dX2_init_34 : decode cX2_init 34 = .ok (.aload_n 0, 1) := by decide +kernel
theorem dX2_init_35 : decode cX2_init 35 = .ok (.iconst 0, 1) := by decide +kernel
theorem dX2_init_36 : decode cX2_init 36 = .ok (.putfield 25, 3) := by decide +kernel
theorem dX2_init_39 : decode cX2_init 39 = .ok (.aload_n 0, 1) := by decide +kernel
theorem dX2_init_40 : decode cX2_init 40 = .ok (.iconst 0, 1) := by decide +kernel
theorem dX2_init_41 : decode cX2_init 41 = .ok (.putfield 29, 3) := by decide +kernel
theorem dX2_init_44 : decode cX2_init 44 = .ok (.aload_n 0, 1) := by decide +kernel
theorem dX2_init_45 : decode cX2_init 45 = .ok (.lconst 0, 1) := by decide +kernel
theorem dX2_init_46 : decode cX2_init 46 = .ok (.putfield 32, 3) := by decide +kernel
theorem dX2_init_49 : decode cX2_init 49 = .ok (.return_, 1) := by decide +kernel
theorem dX2_wish_0 : decode cX2_wish 0 = .ok (.aload_n 0, 1) := by decide +kernel
theorem dX2_wish_1 : decode cX2_wish 1 = .ok (.getfield 11, 3) := by decide +kernel
theorem dX2_wish_4 : decode cX2_wish 4 = .ok (.iload_n 1, 1) := by decide +kernel
theorem dX2_wish_5 : decode cX2_wish 5 = .ok (.iload_n 2, 1) := by decide +kernel
theorem dX2_wish_6 : decode cX2_wish 6 = .ok (.iastore, 1) := by decide +kernel
theorem dX2_wish_7 : decode cX2_wish 7 = .ok (.return_, 1) := by decide +kernel
theorem dX2_unitsOf_0 : decode cX2_unitsOf 0 = .ok (.aload_n 0, 1) := by decide +kernel
theorem dX2_unitsOf_1 : decode cX2_unitsOf 1 = .ok (.getfield 22, 3) := by decide +kernel
theorem dX2_unitsOf_4 : decode cX2_unitsOf 4 = .ok (.iload_n 1, 1) := by decide +kernel
theorem dX2_unitsOf_5 : decode cX2_unitsOf 5 = .ok (.iaload, 1) := by decide +kernel
theorem dX2_unitsOf_6 : decode cX2_unitsOf 6 = .ok (.ireturn, 1) := by decide +kernel
theorem dX2_squares_0 : decode cX2_squares 0 = .ok (.aload_n 0, 1) := by decide +kernel
theorem dX2_squares_1 : decode cX2_squares 1 = .ok (.getfield 32, 3) := by decide +kernel
theorem dX2_squares_4 : decode cX2_squares 4 = .ok (.lreturn, 1) := by decide +kernel
set_option maxRecDepth 20000 in
theorem ggX2_find_X11_held : GoodIn wsX2_find wsX11_held := goodIn_r _ [9, 10, 11, 12, 13, 14, 15, 16] (by decide +kernel) (by decide +kernel)
set_option maxRecDepth 20000 in
theorem gX2_find_X11_held_n36 : GoodIn wsX2_find (wsX11_held) := ggX2_find_X11_held
set_option maxRecDepth 20000 in
theorem ggX2_find_X6_count : GoodIn wsX2_find wsX6_count := goodIn_r _ [21, 22, 50, 51, 52, 53] (by decide +kernel) (by decide +kernel)
set_option maxRecDepth 20000 in
theorem gX2_find_X6_count : GoodIn wsX2_find (wsV RX2 40 RX6 yX6_count wsX6_count) := goodIn_app (goodIn_of _ (by decide +kernel)) ggX2_find_X6_count
set_option maxRecDepth 20000 in
theorem ggX2_find_X2_weigh : GoodIn wsX2_find wsX2_weigh := goodIn_r _ [27, 4, 1, 28, 5, 17, 18, 19, 20, 21, 22, 29, 30, 31, 26, 32, 2, 33, 15, 12, 16, 34, 11, 13, 35, 36, 37, 38, 39, 7, 8, 9, 10, 14, 40, 41, 42, 43, 44, 45, 46, 47, 48, 49, 50, 51, 52, 53] (by decide +kernel) (by decide +kernel)
set_option maxRecDepth 20000 in
theorem gX2_find_X2_weigh : GoodIn wsX2_find (wsV RX2 46 RX2 yX2_weigh wsX2_weigh) := goodIn_app (goodIn_of _ (by decide +kernel)) ggX2_find_X2_weigh
set_option maxRecDepth 20000 in
theorem ggX2_find_X2_place : GoodIn wsX2_find wsX2_place := goodIn_r _ [42] (by decide +kernel) (by decide +kernel)
set_option maxRecDepth 20000 in
theorem gX2_find_X2_place : GoodIn wsX2_find (va_wsS RX2 50 yX2_place wsX2_place) := goodIn_app (goodIn_of _ (by decide +kernel)) ggX2_find_X2_place
set_option maxRecDepth 20000 in
theorem ggX2_find_X2_behind : GoodIn wsX2_find wsX2_behind := goodIn_r _ [32, 4, 1, 2, 33, 15, 12, 16, 34, 11, 13, 35, 36, 37, 20, 38, 39, 7, 8, 9, 10, 14, 43, 44, 45, 46, 47, 48, 49, 50, 51, 52, 53] (by decide +kernel) (by decide +kernel)
set_option maxRecDepth 20000 in
theorem gX2_find_X2_behind : GoodIn wsX2_find (wsV RX2 54 RX2 yX2_behind wsX2_behind) := goodIn_app (goodIn_of _ (by decide +kernel)) ggX2_find_X2_behind
theorem dX2_find_0 : decode cX2_find 0 = .ok (.aload_n 0, 1) := by decide +kernel
theorem dX2_find_1 : decode cX2_find 1 = .ok (.iload_n 2, 1) := by decide +kernel
theorem dX2_find_2 : decode cX2_find 2 = .ok (.iconst 0, 1) := by decide +kernel
theorem dX2_find_3 : decode cX2_find 3 = .ok (.bipush 60, 2) := by decide +kernel
theorem dX2_find_5 : decode cX2_find 5 = .ok (.invokestatic 36, 3) := by decide +kernel
theorem dX2_find_8 : decode cX2_find 8 = .ok (.putfield 25, 3) := by decide +kernel
theorem dX2_find_11 : decode cX2_find 11 = .ok (.aload_n 0, 1) := by decide +kernel
theorem dX2_find_12 : decode cX2_find 12 = .ok (.iload_n 3, 1) := by decide +kernel
theorem dX2_find_13 : decode cX2_find 13 = .ok (.putfield 29, 3) := by decide +kernel
theorem dX2_find_16 : decode cX2_find 16 = .ok (.aload_n 1, 1) := by decide +kernel
theorem dX2_find_17 : decode cX2_find 17 = .ok (.invokevirtual 40, 3) := by decide +kernel
theorem dX2_find_20 : decode cX2_find 20 = .ok (.iconst 1, 1) := by decide +kernel
theorem dX2_find_21 : decode cX2_find 21 = .ok (.isub, 1) := by decide +kernel
theorem dX2_find_22 : decode cX2_find 22 = .ok (.istore 4, 2) := by decide +kernel
theorem dX2_find_24 : decode cX2_find 24 = .ok (.iload 4, 2) := by decide +kernel
theorem dX2_find_26 : decode cX2_find 26 = .ok (.ifCond .lt 16, 3) := by decide +kernel
theorem dX2_find_29 : decode cX2_find 29 = .ok (.aload_n 0, 1) := by decide +kernel
theorem dX2_find_30 : decode cX2_find 30 = .ok (.iload 4, 2) := by decide +kernel
theorem dX2_find_32 : decode cX2_find 32 = .ok (.aload_n 1, 1) := by decide +kernel
theorem dX2_find_33 : decode cX2_find 33 = .ok (.invokevirtual 46, 3) := by decide +kernel
theorem dX2_find_36 : decode cX2_find 36 = .ok (.iinc 4 (-1), 3) := by decide +kernel
theorem dX2_find_39 : decode cX2_find 39 = .ok (.goto (-15), 3) := by decide +kernel
theorem dX2_find_42 : decode cX2_find 42 = .ok (.aload_n 0, 1) := by decide +kernel
theorem dX2_find_43 : decode cX2_find 43 = .ok (.getfield 22, 3) := by decide +kernel
theorem dX2_find_46 : decode cX2_find 46 = .ok (.iconst 0, 1) := by decide +kernel
theorem dX2_find_47 : decode cX2_find 47 = .ok (.aload_n 0, 1) := by decide +kernel
theorem dX2_find_48 : decode cX2_find 48 = .ok (.getfield 19, 3) := by decide +kernel
theorem dX2_find_51 : decode cX2_find 51 = .ok (.iconst 0, 1) := by decide +kernel
theorem dX2_find_52 : decode cX2_find 52 = .ok (.iaload, 1) := by decide +kernel
theorem dX2_find_53 : decode cX2_find 53 = .ok (.iastore, 1) := by decide +kernel
theorem dX2_find_54 : decode cX2_find 54 = .ok (.aload_n 0, 1) := by decide +kernel
theorem dX2_find_55 : decode cX2_find 55 = .ok (.aload_n 0, 1) := by decide +kernel
theorem dX2_find_56 : decode cX2_find 56 = .ok (.getfield 15, 3) := by decide +kernel
theorem dX2_find_59 : decode cX2_find 59 = .ok (.iconst 0, 1) := by decide +kernel
theorem dX2_find_60 : decode cX2_find 60 = .ok (.aload_n 0, 1) := by decide +kernel
theorem dX2_find_61 : decode cX2_find 61 = .ok (.getfield 22, 3) := by decide +kernel
theorem dX2_find_64 : decode cX2_find 64 = .ok (.iconst 0, 1) := by decide +kernel
theorem dX2_find_65 : decode cX2_find 65 = .ok (.iaload, 1) := by decide +kernel
theorem dX2_find_66 : decode cX2_find 66 = .ok (.invokestatic 50, 3) := by decide +kernel
theorem dX2_find_69 : decode cX2_find 69 = .ok (.laload, 1) := by decide +kernel
theorem dX2_find_70 : decode cX2_find 70 = .ok (.putfield 32, 3) := by decide +kernel
theorem dX2_find_73 : decode cX2_find 73 = .ok (.iconst 1, 1) := by decide +kernel
theorem dX2_find_74 : decode cX2_find 74 = .ok (.istore 4, 2) := by decide +kernel
theorem dX2_find_76 : decode cX2_find 76 = .ok (.iload 4, 2) := by decide +kernel
theorem dX2_find_78 : decode cX2_find 78 = .ok (.aload_n 1, 1) := by decide +kernel
theorem dX2_find_79 : decode cX2_find 79 = .ok (.invokevirtual 40, 3) := by decide +kernel
theorem dX2_find_82 : decode cX2_find 82 = .ok (.if_icmp .ge 32, 3) := by decide +kernel
theorem dX2_find_85 : decode cX2_find 85 = .ok (.aload_n 0, 1) := by decide +kernel
theorem dX2_find_86 : decode cX2_find 86 = .ok (.getfield 22, 3) := by decide +kernel
theorem dX2_find_89 : decode cX2_find 89 = .ok (.iload 4, 2) := by decide +kernel
theorem dX2_find_91 : decode cX2_find 91 = .ok (.aload_n 0, 1) := by decide +kernel
theorem dX2_find_92 : decode cX2_find 92 = .ok (.iload 4, 2) := by decide +kernel
theorem dX2_find_94 : decode cX2_find 94 = .ok (.aload_n 0, 1) := by decide +kernel
theorem dX2_find_95 : decode cX2_find 95 = .ok (.getfield 22, 3) := by decide +kernel
theorem dX2_find_98 : decode cX2_find 98 = .ok (.iload 4, 2) := by decide +kernel
theorem dX2_find_100 : decode cX2_find 100 = .ok (.iconst 1, 1) := by decide +kernel
theorem dX2_find_101 : decode cX2_find 101 = .ok (.isub, 1) := by decide +kernel
theorem dX2_find_102 : decode cX2_find 102 = .ok (.iaload, 1) := by decide +kernel
theorem dX2_find_103 : decode cX2_find 103 = .ok (.aload_n 1, 1) := by decide +kernel
theorem dX2_find_104 : decode cX2_find 104 = .ok (.invokevirtual 54, 3) := by decide +kernel
theorem dX2_find_107 : decode cX2_find 107 = .ok (.iastore, 1) := by decide +kernel
theorem dX2_find_108 : decode cX2_find 108 = .ok (.iinc 4 1, 3) := by decide +kernel
theorem dX2_find_111 : decode cX2_find 111 = .ok (.goto (-35), 3) := by decide +kernel
theorem dX2_find_114 : decode cX2_find 114 = .ok (.return_, 1) := by decide +kernel
set_option maxRecDepth 20000 in
theorem ggX2_weigh_X6_count : GoodIn wsX2_weigh wsX6_count := goodIn_r _ [9, 10, 44, 45, 46, 47] (by decide +kernel) (by decide +kernel)
set_option maxRecDepth 20000 in
theorem gX2_weigh_X6_count : GoodIn wsX2_weigh (wsV RX2 40 RX6 yX6_count wsX6_count) := goodIn_app (goodIn_of _ (by decide +kernel)) ggX2_weigh_X6_count
set_option maxRecDepth 20000 in
theorem ggX2_weigh_X2_behind : GoodIn wsX2_weigh wsX2_behind := goodIn_r _ [15, 1, 2, 16, 17, 18, 19, 20, 21, 22, 23, 24, 25, 26, 8, 27, 28, 29, 30, 31, 32, 33, 37, 38, 39, 40, 41, 42, 43, 44, 45, 46, 47] (by decide +kernel) (by decide +kernel)
set_option maxRecDepth 20000 in
theorem gX2_weigh_X2_behind : GoodIn wsX2_weigh (wsV RX2 54 RX2 yX2_behind wsX2_behind) := goodIn_app (goodIn_of _ (by decide +kernel)) ggX2_weigh_X2_behind
set_option maxRecDepth 20000 in
theorem ggX2_weigh_X2_place : GoodIn wsX2_weigh wsX2_place := goodIn_r _ [36] (by decide +kernel) (by decide +kernel)
set_option maxRecDepth 20000 in
theorem gX2_weigh_X2_place : GoodIn wsX2_weigh (va_wsS RX2 50 yX2_place wsX2_place) := goodIn_app (goodIn_of _ (by decide +kernel)) ggX2_weigh_X2_place
theorem dX2_weigh_0 : decode cX2_weigh 0 = .ok (.aload_n 0, 1) := by decide +kernel
theorem dX2_weigh_1 : decode cX2_weigh 1 = .ok (.getfield 19, 3) := by decide +kernel
theorem dX2_weigh_4 : decode cX2_weigh 4 = .ok (.iload_n 1, 1) := by decide +kernel
theorem dX2_weigh_5 : decode cX2_weigh 5 = .ok (.aload_n 0, 1) := by decide +kernel
theorem dX2_weigh_6 : decode cX2_weigh 6 = .ok (.getfield 25, 3) := by decide +kernel
theorem dX2_weigh_9 : decode cX2_weigh 9 = .ok (.ineg, 1) := by decide +kernel
theorem dX2_weigh_10 : decode cX2_weigh 10 = .ok (.iastore, 1) := by decide +kernel
theorem dX2_weigh_11 : decode cX2_weigh 11 = .ok (.aload_n 0, 1) := by decide +kernel
theorem dX2_weigh_12 : decode cX2_weigh 12 = .ok (.getfield 25, 3) := by decide +kernel
theorem dX2_weigh_15 : decode cX2_weigh 15 = .ok (.ineg, 1) := by decide +kernel
theorem dX2_weigh_16 : decode cX2_weigh 16 = .ok (.istore_n 3, 1) := by decide +kernel
theorem dX2_weigh_17 : decode cX2_weigh 17 = .ok (.iload_n 3, 1) := by decide +kernel
theorem dX2_weigh_18 : decode cX2_weigh 18 = .ok (.aload_n 0, 1) := by decide +kernel
theorem dX2_weigh_19 : decode cX2_weigh 19 = .ok (.getfield 25, 3) := by decide +kernel
theorem dX2_weigh_22 : decode cX2_weigh 22 = .ok (.if_icmp .gt 113, 3) := by decide +kernel
theorem dX2_weigh_25 : decode cX2_weigh 25 = .ok (.iload_n 3, 1) := by decide +kernel
theorem dX2_weigh_26 : decode cX2_weigh 26 = .ok (.i2l, 1) := by decide +kernel
theorem dX2_weigh_27 : decode cX2_weigh 27 = .ok (.aload_n 0, 1) := by decide +kernel
theorem dX2_weigh_28 : decode cX2_weigh 28 = .ok (.getfield 11, 3) := by decide +kernel
theorem dX2_weigh_31 : decode cX2_weigh 31 = .ok (.iload_n 1, 1) := by decide +kernel
theorem dX2_weigh_32 : decode cX2_weigh 32 = .ok (.iaload, 1) := by decide +kernel
theorem dX2_weigh_33 : decode cX2_weigh 33 = .ok (.i2l, 1) := by decide +kernel
theorem dX2_weigh_34 : decode cX2_weigh 34 = .ok (.lsub, 1) := by decide +kernel
theorem dX2_weigh_35 : decode cX2_weigh 35 = .ok (.lstore 4, 2) := by decide +kernel
theorem dX2_weigh_37 : decode cX2_weigh 37 = .ok (.iload_n 1, 1) := by decide +kernel
theorem dX2_weigh_38 : decode cX2_weigh 38 = .ok (.iconst 1, 1) := by decide +kernel
theorem dX2_weigh_39 : decode cX2_weigh 39 = .ok (.iadd, 1) := by decide +kernel
theorem dX2_weigh_40 : decode cX2_weigh 40 = .ok (.istore 6, 2) := by decide +kernel
theorem dX2_weigh_42 : decode cX2_weigh 42 = .ok (.iload 6, 2) := by decide +kernel
theorem dX2_weigh_44 : decode cX2_weigh 44 = .ok (.aload_n 2, 1) := by decide +kernel
theorem dX2_weigh_45 : decode cX2_weigh 45 = .ok (.invokevirtual 40, 3) := by decide +kernel
theorem dX2_weigh_48 : decode cX2_weigh 48 = .ok (.if_icmp .ge 24, 3) := by decide +kernel
theorem dX2_weigh_51 : decode cX2_weigh 51 = .ok (.aload_n 0, 1) := by decide +kernel
theorem dX2_weigh_52 : decode cX2_weigh 52 = .ok (.getfield 15, 3) := by decide +kernel
theorem dX2_weigh_55 : decode cX2_weigh 55 = .ok (.iload 6, 2) := by decide +kernel
theorem dX2_weigh_57 : decode cX2_weigh 57 = .ok (.aload_n 0, 1) := by decide +kernel
theorem dX2_weigh_58 : decode cX2_weigh 58 = .ok (.iload 6, 2) := by decide +kernel
theorem dX2_weigh_60 : decode cX2_weigh 60 = .ok (.iload_n 3, 1) := by decide +kernel
theorem dX2_weigh_61 : decode cX2_weigh 61 = .ok (.aload_n 2, 1) := by decide +kernel
theorem dX2_weigh_62 : decode cX2_weigh 62 = .ok (.invokevirtual 54, 3) := by decide +kernel
theorem dX2_weigh_65 : decode cX2_weigh 65 = .ok (.invokestatic 50, 3) := by decide +kernel
theorem dX2_weigh_68 : decode cX2_weigh 68 = .ok (.laload, 1) := by decide +kernel
theorem dX2_weigh_69 : decode cX2_weigh 69 = .ok (.goto 4, 3) := by decide +kernel
theorem dX2_weigh_72 : decode cX2_weigh 72 = .ok (.lconst 0, 1) := by decide +kernel
theorem dX2_weigh_73 : decode cX2_weigh 73 = .ok (.lstore 7, 2) := by decide +kernel
theorem dX2_weigh_75 : decode cX2_weigh 75 = .ok (.aload_n 0, 1) := by decide +kernel
theorem dX2_weigh_76 : decode cX2_weigh 76 = .ok (.getfield 15, 3) := by decide +kernel
theorem dX2_weigh_79 : decode cX2_weigh 79 = .ok (.iload_n 1, 1) := by decide +kernel
theorem dX2_weigh_80 : decode cX2_weigh 80 = .ok (.iload_n 3, 1) := by decide +kernel
theorem dX2_weigh_81 : decode cX2_weigh 81 = .ok (.invokestatic 50, 3) := by decide +kernel
theorem dX2_weigh_84 : decode cX2_weigh 84 = .ok (.lload 4, 2) := by decide +kernel
theorem dX2_weigh_86 : decode cX2_weigh 86 = .ok (.lload 4, 2) := by decide +kernel
theorem dX2_weigh_88 : decode cX2_weigh 88 = .ok (.lmul, 1) := by decide +kernel
theorem dX2_weigh_89 : decode cX2_weigh 89 = .ok (.lload 7, 2) := by decide +kernel
theorem dX2_weigh_91 : decode cX2_weigh 91 = .ok (.ladd, 1) := by decide +kernel
theorem dX2_weigh_92 : decode cX2_weigh 92 = .ok (.lastore, 1) := by decide +kernel
theorem dX2_weigh_93 : decode cX2_weigh 93 = .ok (.aload_n 0, 1) := by decide +kernel
theorem dX2_weigh_94 : decode cX2_weigh 94 = .ok (.getfield 15, 3) := by decide +kernel
theorem dX2_weigh_97 : decode cX2_weigh 97 = .ok (.iload_n 1, 1) := by decide +kernel
theorem dX2_weigh_98 : decode cX2_weigh 98 = .ok (.iload_n 3, 1) := by decide +kernel
theorem dX2_weigh_99 : decode cX2_weigh 99 = .ok (.invokestatic 50, 3) := by decide +kernel
theorem dX2_weigh_102 : decode cX2_weigh 102 = .ok (.laload, 1) := by decide +kernel
theorem dX2_weigh_103 : decode cX2_weigh 103 = .ok (.aload_n 0, 1) := by decide +kernel
theorem dX2_weigh_104 : decode cX2_weigh 104 = .ok (.getfield 15, 3) := by decide +kernel
theorem dX2_weigh_107 : decode cX2_weigh 107 = .ok (.iload_n 1, 1) := by decide +kernel
theorem dX2_weigh_108 : decode cX2_weigh 108 = .ok (.aload_n 0, 1) := by decide +kernel
theorem dX2_weigh_109 : decode cX2_weigh 109 = .ok (.getfield 19, 3) := by decide +kernel
theorem dX2_weigh_112 : decode cX2_weigh 112 = .ok (.iload_n 1, 1) := by decide +kernel
theorem dX2_weigh_113 : decode cX2_weigh 113 = .ok (.iaload, 1) := by decide +kernel
theorem dX2_weigh_114 : decode cX2_weigh 114 = .ok (.invokestatic 50, 3) := by decide +kernel
theorem dX2_weigh_117 : decode cX2_weigh 117 = .ok (.laload, 1) := by decide +kernel
theorem dX2_weigh_118 : decode cX2_weigh 118 = .ok (.lcmp, 1) := by decide +kernel
theorem dX2_weigh_119 : decode cX2_weigh 119 = .ok (.ifCond .ge 10, 3) := by decide +kernel
theorem dX2_weigh_122 : decode cX2_weigh 122 = .ok (.aload_n 0, 1) := by decide +kernel
theorem dX2_weigh_123 : decode cX2_weigh 123 = .ok (.getfield 19, 3) := by decide +kernel
theorem dX2_weigh_126 : decode cX2_weigh 126 = .ok (.iload_n 1, 1) := by decide +kernel
theorem dX2_weigh_127 : decode cX2_weigh 127 = .ok (.iload_n 3, 1) := by decide +kernel
theorem dX2_weigh_128 : decode cX2_weigh 128 = .ok (.iastore, 1) := by decide +kernel
theorem dX2_weigh_129 : decode cX2_weigh 129 = .ok (.iinc 3 1, 3) := by decide +kernel
theorem dX2_weigh_132 : decode cX2_weigh 132 = .ok (.goto (-115), 3) := by decide +kernel
theorem dX2_weigh_135 : decode cX2_weigh 135 = .ok (.return_, 1) := by decide +kernel
set_option maxRecDepth 20000 in
theorem ggX2_behind_X6_isDead : GoodIn wsX2_behind wsX6_isDead := goodIn_r _ [15, 16, 29, 30, 31, 32] (by decide +kernel) (by decide +kernel)
set_option maxRecDepth 20000 in
theorem gX2_behind_X6_isDead : GoodIn wsX2_behind (wsV RX2 58 RX6 yX6_isDead wsX6_isDead) := goodIn_app (goodIn_of _ (by decide +kernel)) ggX2_behind_X6_isDead
set_option maxRecDepth 20000 in
theorem ggX2_behind_X11_held : GoodIn wsX2_behind wsX11_held := goodIn_r _ [19, 20, 9, 6, 10, 21, 5, 7] (by decide +kernel) (by decide +kernel)
set_option maxRecDepth 20000 in
theorem gX2_behind_X11_held_n36 : GoodIn wsX2_behind (wsX11_held) := ggX2_behind_X11_held
theorem dX2_behind_0 : decode cX2_behind 0 = .ok (.aload_n 3, 1) := by decide +kernel
theorem dX2_behind_1 : decode cX2_behind 1 = .ok (.iload_n 1, 1) := by decide +kernel
theorem dX2_behind_2 : decode cX2_behind 2 = .ok (.invokevirtual 58, 3) := by decide +kernel
theorem dX2_behind_5 : decode cX2_behind 5 = .ok (.ifCond .eq 5, 3) := by decide +kernel
theorem dX2_behind_8 : decode cX2_behind 8 = .ok (.iload_n 2, 1) := by decide +kernel
theorem dX2_behind_9 : decode cX2_behind 9 = .ok (.ireturn, 1) := by decide +kernel
theorem dX2_behind_10 : decode cX2_behind 10 = .ok (.aload_n 0, 1) := by decide +kernel
theorem dX2_behind_11 : decode cX2_behind 11 = .ok (.getfield 19, 3) := by decide +kernel
theorem dX2_behind_14 : decode cX2_behind 14 = .ok (.iload_n 1, 1) := by decide +kernel
theorem dX2_behind_15 : decode cX2_behind 15 = .ok (.iaload, 1) := by decide +kernel
theorem dX2_behind_16 : decode cX2_behind 16 = .ok (.aload_n 0, 1) := by decide +kernel
theorem dX2_behind_17 : decode cX2_behind 17 = .ok (.getfield 25, 3) := by decide +kernel
theorem dX2_behind_20 : decode cX2_behind 20 = .ok (.ineg, 1) := by decide +kernel
theorem dX2_behind_21 : decode cX2_behind 21 = .ok (.iload_n 2, 1) := by decide +kernel
theorem dX2_behind_22 : decode cX2_behind 22 = .ok (.aload_n 0, 1) := by decide +kernel
theorem dX2_behind_23 : decode cX2_behind 23 = .ok (.getfield 29, 3) := by decide +kernel
theorem dX2_behind_26 : decode cX2_behind 26 = .ok (.isub, 1) := by decide +kernel
theorem dX2_behind_27 : decode cX2_behind 27 = .ok (.invokestatic 62, 3) := by decide +kernel
theorem dX2_behind_30 : decode cX2_behind 30 = .ok (.aload_n 0, 1) := by decide +kernel
theorem dX2_behind_31 : decode cX2_behind 31 = .ok (.getfield 25, 3) := by decide +kernel
theorem dX2_behind_34 : decode cX2_behind 34 = .ok (.iload_n 2, 1) := by decide +kernel
theorem dX2_behind_35 : decode cX2_behind 35 = .ok (.aload_n 0, 1) := by decide +kernel
theorem dX2_behind_36 : decode cX2_behind 36 = .ok (.getfield 29, 3) := by decide +kernel
theorem dX2_behind_39 : decode cX2_behind 39 = .ok (.iadd, 1) := by decide +kernel
theorem dX2_behind_40 : decode cX2_behind 40 = .ok (.invokestatic 67, 3) := by decide +kernel
theorem dX2_behind_43 : decode cX2_behind 43 = .ok (.invokestatic 36, 3) := by decide +kernel
theorem dX2_behind_46 : decode cX2_behind 46 = .ok (.ireturn, 1) := by decide +kernel
theorem dX2_place_0 : decode cX2_place 0 = .ok (.iload_n 0, 1) := by decide +kernel
theorem dX2_place_1 : decode cX2_place 1 = .ok (.bipush 121, 2) := by decide +kernel
theorem dX2_place_3 : decode cX2_place 3 = .ok (.imul, 1) := by decide +kernel
theorem dX2_place_4 : decode cX2_place 4 = .ok (.bipush 60, 2) := by decide +kernel
theorem dX2_place_6 : decode cX2_place 6 = .ok (.iadd, 1) := by decide +kernel
theorem dX2_place_7 : decode cX2_place 7 = .ok (.iload_n 1, 1) := by decide +kernel
theorem dX2_place_8 : decode cX2_place 8 = .ok (.iadd, 1) := by decide +kernel
theorem dX2_place_9 : decode cX2_place 9 = .ok (.ireturn, 1) := by decide +kernel
theorem dX3_init_0 : decode cX3_init 0 = .ok (.aload_n 0, 1) := by decide +kernel
theorem dX3_init_1 : decode cX3_init 1 = .ok (.invokespecial 3, 3) := by decide +kernel
theorem dX3_init_4 : decode cX3_init 4 = .ok (.aload_n 0, 1) := by decide +kernel
theorem dX3_init_5 : decode cX3_init 5 = .ok (.iconst 0, 1) := by decide +kernel
theorem dX3_init_6 : decode cX3_init 6 = .ok (.putfield 9, 3) := by decide +kernel
theorem dX3_init_9 : decode cX3_init 9 = .ok (.aload_n 0, 1) := by decide +kernel
theorem dX3_init_10 : decode cX3_init 10 = .ok (.iconst 0, 1) := by decide +kernel
theorem dX3_init_11 : decode cX3_init 11 = .ok (.putfield 15, 3) := by decide +kernel
theorem dX3_init_14 : decode cX3_init 14 = .ok (.aload_n 0, 1) := by decide +kernel
theorem dX3_init_15 : decode cX3_init 15 = .ok (.iconst 0, 1) := by decide +kernel
theorem dX3_init_16 : decode cX3_init 16 = .ok (.putfield 18, 3) := by decide +kernel
theorem dX3_init_19 : decode cX3_init 19 = .ok (.aload_n 0, 1) := by decide +kernel
theorem dX3_init_20 : decode cX3_init 20 = .ok (.iconst 0, 1) := by decide +kernel
theorem dX3_init_21 : decode cX3_init 21 = .ok (.putfield 21, 3) := by decide +kernel
theorem dX3_init_24 : decode cX3_init 24 = .ok (.return_, 1) := by decide +kernel
set_option maxRecDepth 20000 in
theorem ggX3_renew_X3_enter : GoodIn wsX3_renew wsX3_enter := goodIn_r _ [6, 7, 8, 9, 10, 11, 12, 13] (by decide +kernel) (by decide +kernel)
set_option maxRecDepth 20000 in
theorem gX3_renew_X3_enter : GoodIn wsX3_renew (wsV RX3 24 RX3 yX3_enter wsX3_enter) := goodIn_app (goodIn_of _ (by decide +kernel)) ggX3_renew_X3_enter
theorem dX3_renew_0 : decode cX3_renew 0 = .ok (.aload_n 0, 1) := by decide +kernel
theorem dX3_renew_1 : decode cX3_renew 1 = .ok (.iconst 0, 1) := by decide +kernel
theorem dX3_renew_2 : decode cX3_renew 2 = .ok (.invokevirtual 24, 3) := by decide +kernel
theorem dX3_renew_5 : decode cX3_renew 5 = .ok (.aload_n 0, 1) := by decide +kernel
theorem dX3_renew_6 : decode cX3_renew 6 = .ok (.iconst 0, 1) := by decide +kernel
theorem dX3_renew_7 : decode cX3_renew 7 = .ok (.putfield 15, 3) := by decide +kernel
theorem dX3_renew_10 : decode cX3_renew 10 = .ok (.return_, 1) := by decide +kernel
theorem dX3_now_0 : decode cX3_now 0 = .ok (.aload_n 0, 1) := by decide +kernel
theorem dX3_now_1 : decode cX3_now 1 = .ok (.getfield 9, 3) := by decide +kernel
theorem dX3_now_4 : decode cX3_now 4 = .ok (.ireturn, 1) := by decide +kernel
theorem dX3_done_0 : decode cX3_done 0 = .ok (.aload_n 0, 1) := by decide +kernel
theorem dX3_done_1 : decode cX3_done 1 = .ok (.getfield 15, 3) := by decide +kernel
theorem dX3_done_4 : decode cX3_done 4 = .ok (.ireturn, 1) := by decide +kernel
theorem dX3_enter_0 : decode cX3_enter 0 = .ok (.aload_n 0, 1) := by decide +kernel
theorem dX3_enter_1 : decode cX3_enter 1 = .ok (.iload_n 1, 1) := by decide +kernel
theorem dX3_enter_2 : decode cX3_enter 2 = .ok (.putfield 9, 3) := by decide +kernel
theorem dX3_enter_5 : decode cX3_enter 5 = .ok (.aload_n 0, 1) := by decide +kernel
theorem dX3_enter_6 : decode cX3_enter 6 = .ok (.iconst 0, 1) := by decide +kernel
theorem dX3_enter_7 : decode cX3_enter 7 = .ok (.putfield 18, 3) := by decide +kernel
theorem dX3_enter_10 : decode cX3_enter 10 = .ok (.aload_n 0, 1) := by decide +kernel
theorem dX3_enter_11 : decode cX3_enter 11 = .ok (.iconst 0, 1) := by decide +kernel
theorem dX3_enter_12 : decode cX3_enter 12 = .ok (.putfield 21, 3) := by decide +kernel
theorem dX3_enter_15 : decode cX3_enter 15 = .ok (.return_, 1) := by decide +kernel
set_option maxRecDepth 20000 in
theorem ggX3_pass_X3_enter : GoodIn wsX3_pass wsX3_enter := goodIn_r _ [8, 3, 2, 9, 14, 15, 16, 17] (by decide +kernel) (by decide +kernel)
set_option maxRecDepth 20000 in
theorem gX3_pass_X3_enter : GoodIn wsX3_pass (wsV RX3 24 RX3 yX3_enter wsX3_enter) := goodIn_app (goodIn_of _ (by decide +kernel)) ggX3_pass_X3_enter
set_option maxRecDepth 20000 in
theorem ggX3_pass_X3_search : GoodIn wsX3_pass wsX3_search := goodIn_r _ [13, 9, 2, 4, 5, 6, 7, 8, 3, 14, 15, 16, 17] (by decide +kernel) (by decide +kernel)
set_option maxRecDepth 20000 in
theorem gX3_pass_X3_search : GoodIn wsX3_pass (wsV RX3 28 RX3 yX3_search wsX3_search) := goodIn_app (goodIn_of _ (by decide +kernel)) ggX3_pass_X3_search
theorem dX3_pass_0 : decode cX3_pass 0 = .ok (.aload_n 0, 1) := by decide +kernel
theorem dX3_pass_1 : decode cX3_pass 1 = .ok (.dup, 1) := by decide +kernel
theorem dX3_pass_2 : decode cX3_pass 2 = .ok (.getfield 15, 3) := by decide +kernel
theorem dX3_pass_5 : decode cX3_pass 5 = .ok (.iconst 1, 1) := by decide +kernel
theorem dX3_pass_6 : decode cX3_pass 6 = .ok (.iadd, 1) := by decide +kernel
theorem dX3_pass_7 : decode cX3_pass 7 = .ok (.putfield 15, 3) := by decide +kernel
theorem dX3_pass_10 : decode cX3_pass 10 = .ok (.aload_n 0, 1) := by decide +kernel
theorem dX3_pass_11 : decode cX3_pass 11 = .ok (.iload_n 1, 1) := by decide +kernel
theorem dX3_pass_12 : decode cX3_pass 12 = .ok (.ifCond .eq 12, 3) := by decide +kernel
theorem dX3_pass_15 : decode cX3_pass 15 = .ok (.aload_n 0, 1) := by decide +kernel
theorem dX3_pass_16 : decode cX3_pass 16 = .ok (.getfield 18, 3) := by decide +kernel
theorem dX3_pass_19 : decode cX3_pass 19 = .ok (.iconst 1, 1) := by decide +kernel
theorem dX3_pass_20 : decode cX3_pass 20 = .ok (.iadd, 1) := by decide +kernel
theorem dX3_pass_21 : decode cX3_pass 21 = .ok (.goto 4, 3) := by decide +kernel
theorem dX3_pass_24 : decode cX3_pass 24 = .ok (.iconst 0, 1) := by decide +kernel
theorem dX3_pass_25 : decode cX3_pass 25 = .ok (.putfield 18, 3) := by decide +kernel
theorem dX3_pass_28 : decode cX3_pass 28 = .ok (.aload_n 0, 1) := by decide +kernel
theorem dX3_pass_29 : decode cX3_pass 29 = .ok (.getfield 9, 3) := by decide +kernel
theorem dX3_pass_32 : decode cX3_pass 32 = .ok (.tableswitch 59 1 3 #[28, 43, 54], 28) := by decide +kernel
theorem dX3_pass_60 : decode cX3_pass 60 = .ok (.aload_n 0, 1) := by decide +kernel
theorem dX3_pass_61 : decode cX3_pass 61 = .ok (.getfield 18, 3) := by decide +kernel
theorem dX3_pass_64 : decode cX3_pass 64 = .ok (.iconst 3, 1) := by decide +kernel
theorem dX3_pass_65 : decode cX3_pass 65 = .ok (.if_icmp .lt 8, 3) := by decide +kernel
theorem dX3_pass_68 : decode cX3_pass 68 = .ok (.aload_n 0, 1) := by decide +kernel
theorem dX3_pass_69 : decode cX3_pass 69 = .ok (.iconst 2, 1) := by decide +kernel
theorem dX3_pass_70 : decode cX3_pass 70 = .ok (.invokevirtual 24, 3) := by decide +kernel
theorem dX3_pass_73 : decode cX3_pass 73 = .ok (.iconst 0, 1) := by decide +kernel
theorem dX3_pass_74 : decode cX3_pass 74 = .ok (.ireturn, 1) := by decide +kernel
theorem dX3_pass_75 : decode cX3_pass 75 = .ok (.iload_n 1, 1) := by decide +kernel
theorem dX3_pass_76 : decode cX3_pass 76 = .ok (.ifCond .ne 8, 3) := by decide +kernel
theorem dX3_pass_79 : decode cX3_pass 79 = .ok (.aload_n 0, 1) := by decide +kernel
theorem dX3_pass_80 : decode cX3_pass 80 = .ok (.iconst 3, 1) := by decide +kernel
theorem dX3_pass_81 : decode cX3_pass 81 = .ok (.invokevirtual 24, 3) := by decide +kernel
theorem dX3_pass_84 : decode cX3_pass 84 = .ok (.iconst 0, 1) := by decide +kernel
theorem dX3_pass_85 : decode cX3_pass 85 = .ok (.ireturn, 1) := by decide +kernel
theorem dX3_pass_86 : decode cX3_pass 86 = .ok (.aload_n 0, 1) := by decide +kernel
theorem dX3_pass_87 : decode cX3_pass 87 = .ok (.invokevirtual 28, 3) := by decide +kernel
theorem dX3_pass_90 : decode cX3_pass 90 = .ok (.ireturn, 1) := by decide +kernel
theorem dX3_pass_91 : decode cX3_pass 91 = .ok (.iconst 0, 1) := by decide +kernel
theorem dX3_pass_92 : decode cX3_pass 92 = .ok (.ireturn, 1) := by decide +kernel
set_option maxRecDepth 20000 in
theorem ggX3_search_X3_enter : GoodIn wsX3_search wsX3_enter := goodIn_r _ [7, 8, 2, 1, 9, 10, 11, 12] (by decide +kernel) (by decide +kernel)
set_option maxRecDepth 20000 in
theorem gX3_search_X3_enter : GoodIn wsX3_search (wsV RX3 24 RX3 yX3_enter wsX3_enter) := goodIn_app (goodIn_of _ (by decide +kernel)) ggX3_search_X3_enter
theorem dX3_search_0 : decode cX3_search 0 = .ok (.aload_n 0, 1) := by decide +kernel
theorem dX3_search_1 : decode cX3_search 1 = .ok (.dup, 1) := by decide +kernel
theorem dX3_search_2 : decode cX3_search 2 = .ok (.getfield 21, 3) := by decide +kernel
theorem dX3_search_5 : decode cX3_search 5 = .ok (.iconst 1, 1) := by decide +kernel
theorem dX3_search_6 : decode cX3_search 6 = .ok (.iadd, 1) := by decide +kernel
theorem dX3_search_7 : decode cX3_search 7 = .ok (.putfield 21, 3) := by decide +kernel
theorem dX3_search_10 : decode cX3_search 10 = .ok (.aload_n 0, 1) := by decide +kernel
theorem dX3_search_11 : decode cX3_search 11 = .ok (.getfield 18, 3) := by decide +kernel
theorem dX3_search_14 : decode cX3_search 14 = .ok (.iconst 5, 1) := by decide +kernel
theorem dX3_search_15 : decode cX3_search 15 = .ok (.if_icmp .lt 10, 3) := by decide +kernel
theorem dX3_search_18 : decode cX3_search 18 = .ok (.aload_n 0, 1) := by decide +kernel
theorem dX3_search_19 : decode cX3_search 19 = .ok (.iconst 2, 1) := by decide +kernel
theorem dX3_search_20 : decode cX3_search 20 = .ok (.invokevirtual 24, 3) := by decide +kernel
theorem dX3_search_23 : decode cX3_search 23 = .ok (.iconst 0, 1) := by decide +kernel
theorem dX3_search_24 : decode cX3_search 24 = .ok (.ireturn, 1) := by decide +kernel
theorem dX3_search_25 : decode cX3_search 25 = .ok (.aload_n 0, 1) := by decide +kernel
theorem dX3_search_26 : decode cX3_search 26 = .ok (.getfield 21, 3) := by decide +kernel
theorem dX3_search_29 : decode cX3_search 29 = .ok (.bipush 20, 2) := by decide +kernel
theorem dX3_search_31 : decode cX3_search 31 = .ok (.if_icmp .ge 5, 3) := by decide +kernel
theorem dX3_search_34 : decode cX3_search 34 = .ok (.iconst 0, 1) := by decide +kernel
theorem dX3_search_35 : decode cX3_search 35 = .ok (.ireturn, 1) := by decide +kernel
theorem dX3_search_36 : decode cX3_search 36 = .ok (.aload_n 0, 1) := by decide +kernel
theorem dX3_search_37 : decode cX3_search 37 = .ok (.iconst 0, 1) := by decide +kernel
theorem dX3_search_38 : decode cX3_search 38 = .ok (.invokevirtual 24, 3) := by decide +kernel
theorem dX3_search_41 : decode cX3_search 41 = .ok (.iconst 1, 1) := by decide +kernel
theorem dX3_search_42 : decode cX3_search 42 = .ok (.ireturn, 1) := by decide +kernel
theorem dX4_init_0 : decode cX4_init 0 = .ok (.aload_n 0, 1) := by decide +kernel
theorem dX4_init_1 : decode cX4_init 1 = .ok (.invokespecial 3, 3) := by decide +kernel
theorem dX4_init_4 : decode cX4_init 4 = .ok (.aload_n 0, 1) := by decide +kernel
theorem dX4_init_5 : decode cX4_init 5 = .ok (.bipush 96, 2) := by decide +kernel
theorem dX4_init_7 : decode cX4_init 7 = .ok (.newarray .int, 2) := by decide +kernel
theorem dX4_init_9 : decode cX4_init 9 = .ok (.putfield 9, 3) := by decide +kernel
theorem dX4_init_12 : decode cX4_init 12 = .ok (.aload_n 0, 1) := by decide +kernel
theorem dX4_init_13 : decode cX4_init 13 = .ok (.iconst 3, 1) := by decide +kernel
theorem dX4_init_14 : decode cX4_init 14 = .ok (.newarray .int, 2) := by decide +kernel
theorem dX4_init_16 : decode cX4_init 16 = .ok (.putfield 15, 3) := by decide +kernel
theorem dX4_init_19 : decode cX4_init 19 = .ok (.return_, 1) := by decide +kernel
theorem dX4_swapCell_0 : decode cX4_swapCell 0 = .ok (.aload_n 0, 1) := by decide +kernel
theorem dX4_swapCell_1 : decode cX4_swapCell 1 = .ok (.getfield 9, 3) := by decide +kernel
theorem dX4_swapCell_4 : decode cX4_swapCell 4 = .ok (.iload_n 1, 1) := by decide +kernel
theorem dX4_swapCell_5 : decode cX4_swapCell 5 = .ok (.bipush 32, 2) := by decide +kernel
theorem dX4_swapCell_7 : decode cX4_swapCell 7 = .ok (.imul, 1) := by decide +kernel
theorem dX4_swapCell_8 : decode cX4_swapCell 8 = .ok (.iload_n 2, 1) := by decide +kernel
theorem dX4_swapCell_9 : decode cX4_swapCell 9 = .ok (.iadd, 1) := by decide +kernel
theorem dX4_swapCell_10 : decode cX4_swapCell 10 = .ok (.iaload, 1) := by decide +kernel
theorem dX4_swapCell_11 : decode cX4_swapCell 11 = .ok (.istore 4, 2) := by decide +kernel
theorem dX4_swapCell_13 : decode cX4_swapCell 13 = .ok (.aload_n 0, 1) := by decide +kernel
theorem dX4_swapCell_14 : decode cX4_swapCell 14 = .ok (.getfield 9, 3) := by decide +kernel
theorem dX4_swapCell_17 : decode cX4_swapCell 17 = .ok (.iload_n 1, 1) := by decide +kernel
theorem dX4_swapCell_18 : decode cX4_swapCell 18 = .ok (.bipush 32, 2) := by decide +kernel
theorem dX4_swapCell_20 : decode cX4_swapCell 20 = .ok (.imul, 1) := by decide +kernel
theorem dX4_swapCell_21 : decode cX4_swapCell 21 = .ok (.iload_n 2, 1) := by decide +kernel
theorem dX4_swapCell_22 : decode cX4_swapCell 22 = .ok (.iadd, 1) := by decide +kernel
theorem dX4_swapCell_23 : decode cX4_swapCell 23 = .ok (.iload_n 3, 1) := by decide +kernel
theorem dX4_swapCell_24 : decode cX4_swapCell 24 = .ok (.iastore, 1) := by decide +kernel
theorem dX4_swapCell_25 : decode cX4_swapCell 25 = .ok (.iload 4, 2) := by decide +kernel
theorem dX4_swapCell_27 : decode cX4_swapCell 27 = .ok (.ireturn, 1) := by decide +kernel
theorem dX4_swapWind_0 : decode cX4_swapWind 0 = .ok (.aload_n 0, 1) := by decide +kernel
theorem dX4_swapWind_1 : decode cX4_swapWind 1 = .ok (.getfield 15, 3) := by decide +kernel
theorem dX4_swapWind_4 : decode cX4_swapWind 4 = .ok (.iload_n 1, 1) := by decide +kernel
theorem dX4_swapWind_5 : decode cX4_swapWind 5 = .ok (.iaload, 1) := by decide +kernel
theorem dX4_swapWind_6 : decode cX4_swapWind 6 = .ok (.istore_n 3, 1) := by decide +kernel
theorem dX4_swapWind_7 : decode cX4_swapWind 7 = .ok (.aload_n 0, 1) := by decide +kernel
theorem dX4_swapWind_8 : decode cX4_swapWind 8 = .ok (.getfield 15, 3) := by decide +kernel
theorem dX4_swapWind_11 : decode cX4_swapWind 11 = .ok (.iload_n 1, 1) := by decide +kernel
theorem dX4_swapWind_12 : decode cX4_swapWind 12 = .ok (.iload_n 2, 1) := by decide +kernel
theorem dX4_swapWind_13 : decode cX4_swapWind 13 = .ok (.iastore, 1) := by decide +kernel
theorem dX4_swapWind_14 : decode cX4_swapWind 14 = .ok (.iload_n 3, 1) := by decide +kernel
theorem dX4_swapWind_15 : decode cX4_swapWind 15 = .ok (.ireturn, 1) := by decide +kernel
set_option maxRecDepth 20000 in
theorem ggX4_foretold_J9_floorMod_7cf53 : GoodIn wsX4_foretold wsJ9_floorMod_7cf53 := goodIn_r _ [6] (by decide +kernel) (by decide +kernel)
set_option maxRecDepth 20000 in
theorem gX4_foretold_J9_floorMod_7cf53 : GoodIn wsX4_foretold (va_wsS RX4 18 yJ9_floorMod_7cf53 wsJ9_floorMod_7cf53) := goodIn_app (goodIn_of _ (by decide +kernel)) ggX4_foretold_J9_floorMod_7cf53
theorem dX4_foretold_0 : decode cX4_foretold 0 = .ok (.iconst 0, 1) := by decide +kernel
theorem dX4_foretold_1 : decode cX4_foretold 1 = .ok (.istore_n 3, 1) := by decide +kernel
theorem dX4_foretold_2 : decode cX4_foretold 2 = .ok (.iconst 0, 1) := by decide +kernel
theorem dX4_foretold_3 : decode cX4_foretold 3 = .ok (.istore 4, 2) := by decide +kernel
theorem dX4_foretold_5 : decode cX4_foretold 5 = .ok (.iload 4, 2) := by decide +kernel
theorem dX4_foretold_7 : decode cX4_foretold 7 = .ok (.iconst 3, 1) := by decide +kernel
theorem dX4_foretold_8 : decode cX4_foretold 8 = .ok (.if_icmp .ge 62, 3) := by decide +kernel
theorem dX4_foretold_11 : decode cX4_foretold 11 = .ok (.iload_n 1, 1) := by decide +kernel
theorem dX4_foretold_12 : decode cX4_foretold 12 = .ok (.aload_n 0, 1) := by decide +kernel
theorem dX4_foretold_13 : decode cX4_foretold 13 = .ok (.getfield 15, 3) := by decide +kernel
theorem dX4_foretold_16 : decode cX4_foretold 16 = .ok (.iload 4, 2) := by decide +kernel
theorem dX4_foretold_18 : decode cX4_foretold 18 = .ok (.iaload, 1) := by decide +kernel
theorem dX4_foretold_19 : decode cX4_foretold 19 = .ok (.iload_n 2, 1) := by decide +kernel
theorem dX4_foretold_20 : decode cX4_foretold 20 = .ok (.imul, 1) := by decide +kernel
theorem dX4_foretold_21 : decode cX4_foretold 21 = .ok (.iadd, 1) := by decide +kernel
theorem dX4_foretold_22 : decode cX4_foretold 22 = .ok (.bipush 32, 2) := by decide +kernel
theorem dX4_foretold_24 : decode cX4_foretold 24 = .ok (.invokestatic 18, 3) := by decide +kernel
theorem dX4_foretold_27 : decode cX4_foretold 27 = .ok (.istore 5, 2) := by decide +kernel
theorem dX4_foretold_29 : decode cX4_foretold 29 = .ok (.iload_n 3, 1) := by decide +kernel
theorem dX4_foretold_30 : decode cX4_foretold 30 = .ok (.aload_n 0, 1) := by decide +kernel
theorem dX4_foretold_31 : decode cX4_foretold 31 = .ok (.getfield 9, 3) := by decide +kernel
theorem dX4_foretold_34 : decode cX4_foretold 34 = .ok (.iload 4, 2) := by decide +kernel
theorem dX4_foretold_36 : decode cX4_foretold 36 = .ok (.bipush 32, 2) := by decide +kernel
theorem dX4_foretold_38 : decode cX4_foretold 38 = .ok (.imul, 1) := by decide +kernel
theorem dX4_foretold_39 : decode cX4_foretold 39 = .ok (.iload 5, 2) := by decide +kernel
theorem dX4_foretold_41 : decode cX4_foretold 41 = .ok (.iconst 1, 1) := by decide +kernel
theorem dX4_foretold_42 : decode cX4_foretold 42 = .ok (.iadd, 1) := by decide +kernel
theorem dX4_foretold_43 : decode cX4_foretold 43 = .ok (.bipush 32, 2) := by decide +kernel
theorem dX4_foretold_45 : decode cX4_foretold 45 = .ok (.irem, 1) := by decide +kernel
theorem dX4_foretold_46 : decode cX4_foretold 46 = .ok (.iadd, 1) := by decide +kernel
theorem dX4_foretold_47 : decode cX4_foretold 47 = .ok (.iaload, 1) := by decide +kernel
theorem dX4_foretold_48 : decode cX4_foretold 48 = .ok (.aload_n 0, 1) := by decide +kernel
theorem dX4_foretold_49 : decode cX4_foretold 49 = .ok (.getfield 9, 3) := by decide +kernel
theorem dX4_foretold_52 : decode cX4_foretold 52 = .ok (.iload 4, 2) := by decide +kernel
theorem dX4_foretold_54 : decode cX4_foretold 54 = .ok (.bipush 32, 2) := by decide +kernel
theorem dX4_foretold_56 : decode cX4_foretold 56 = .ok (.imul, 1) := by decide +kernel
theorem dX4_foretold_57 : decode cX4_foretold 57 = .ok (.iload 5, 2) := by decide +kernel
theorem dX4_foretold_59 : decode cX4_foretold 59 = .ok (.iadd, 1) := by decide +kernel
theorem dX4_foretold_60 : decode cX4_foretold 60 = .ok (.iaload, 1) := by decide +kernel
theorem dX4_foretold_61 : decode cX4_foretold 61 = .ok (.isub, 1) := by decide +kernel
theorem dX4_foretold_62 : decode cX4_foretold 62 = .ok (.iadd, 1) := by decide +kernel
theorem dX4_foretold_63 : decode cX4_foretold 63 = .ok (.istore_n 3, 1) := by decide +kernel
theorem dX4_foretold_64 : decode cX4_foretold 64 = .ok (.iinc 4 1, 3) := by decide +kernel
theorem dX4_foretold_67 : decode cX4_foretold 67 = .ok (.goto (-62), 3) := by decide +kernel
theorem dX4_foretold_70 : decode cX4_foretold 70 = .ok (.iload_n 3, 1) := by decide +kernel
theorem dX4_foretold_71 : decode cX4_foretold 71 = .ok (.ireturn, 1) := by decide +kernel
theorem dX5_init_0 : decode cX5_init 0 = .ok (.aload_n 0, 1) := by decide +kernel
theorem dX5_init_1 : decode cX5_init 1 = .ok (.invokespecial 3, 3) := by decide +kernel
theorem dX5_init_4 : decode cX5_init 4 = .ok (.aload_n 0, 1) := by decide +kernel
theorem dX5_init_5 : decode cX5_init 5 = .ok (.bipush 10, 2) := by decide +kernel
theorem dX5_init_7 : decode cX5_init 7 = .ok (.newarray .int, 2) := by decide +kernel
theorem dX5_init_9 : decode cX5_init 9 = .ok (.dup, 1) := by decide +kernel
theorem dX5_init_10 : decode cX5_init 10 = .ok (.iconst 0, 1) := by decide +kernel
theorem dX5_init_11 : decode cX5_init 11 = .ok (.iconst 1, 1) := by decide +kernel
theorem dX5_init_12 : decode cX5_init 12 = .ok (.iastore, 1) := by decide +kernel
theorem dX5_init_13 : decode cX5_init 13 = .ok (.dup, 1) := by decide +kernel
theorem dX5_init_14 : decode cX5_init 14 = .ok (.iconst 1, 1) := by decide +kernel
theorem dX5_init_15 : decode cX5_init 15 = .ok (.iconst 0, 1) := by decide +kernel
theorem dX5_init_16 : decode cX5_init 16 = .ok (.iastore, 1) := by decide +kernel
theorem dX5_init_17 : decode cX5_init 17 = .ok (.dup, 1) := by decide +kernel
theorem dX5_init_18 : decode cX5_init 18 = .ok (.iconst 2, 1) := by decide +kernel
theorem dX5_init_19 : decode cX5_init 19 = .ok (.iconst 0, 1) := by decide +kernel
theorem dX5_init_20 : decode cX5_init 20 = .ok (.iastore, 1) := by decide +kernel
theorem dX5_init_21 : decode cX5_init 21 = .ok (.dup, 1) := by decide +kernel
theorem dX5_init_22 : decode cX5_init 22 = .ok (.iconst 3, 1) := by decide +kernel
theorem dX5_init_23 : decode cX5_init 23 = .ok (.iconst 0, 1) := by decide +kernel
theorem dX5_init_24 : decode cX5_init 24 = .ok (.iastore, 1) := by decide +kernel
theorem dX5_init_25 : decode cX5_init 25 = .ok (.dup, 1) := by decide +kernel
theorem dX5_init_26 : decode cX5_init 26 = .ok (.iconst 4, 1) := by decide +kernel
theorem dX5_init_27 : decode cX5_init 27 = .ok (.iconst 0, 1) := by decide +kernel
theorem dX5_init_28 : decode cX5_init 28 = .ok (.iastore, 1) := by decide +kernel
theorem dX5_init_29 : decode cX5_init 29 = .ok (.dup, 1) := by decide +kernel
theorem dX5_init_30 : decode cX5_init 30 = .ok (.iconst 5, 1) := by decide +kernel
theorem dX5_init_31 : decode cX5_init 31 = .ok (.iconst 1, 1) := by decide +kernel
theorem dX5_init_32 : decode cX5_init 32 = .ok (.iastore, 1) := by decide +kernel
theorem dX5_init_33 : decode cX5_init 33 = .ok (.dup, 1) := by decide +kernel
theorem dX5_init_34 : decode cX5_init 34 = .ok (.bipush 6, 2) := by decide +kernel
theorem dX5_init_36 : decode cX5_init 36 = .ok (.iconst 0, 1) := by decide +kernel
theorem dX5_init_37 : decode cX5_init 37 = .ok (.iastore, 1) := by decide +kernel
theorem dX5_init_38 : decode cX5_init 38 = .ok (.dup, 1) := by decide +kernel
theorem dX5_init_39 : decode cX5_init 39 = .ok (.bipush 7, 2) := by decide +kernel
theorem dX5_init_41 : decode cX5_init 41 = .ok (.iconst 0, 1) := by decide +kernel
theorem dX5_init_42 : decode cX5_init 42 = .ok (.iastore, 1) := by decide +kernel
theorem dX5_init_43 : decode cX5_init 43 = .ok (.dup, 1) := by decide +kernel
theorem dX5_init_44 : decode cX5_init 44 = .ok (.bipush 8, 2) := by decide +kernel
theorem dX5_init_46 : decode cX5_init 46 = .ok (.iconst 0, 1) := by decide +kernel
theorem dX5_init_47 : decode cX5_init 47 = .ok (.iastore, 1) := by decide +kernel
theorem dX5_init_48 : decode cX5_init 48 = .ok (.dup, 1) := by decide +kernel
theorem dX5_init_49 : decode cX5_init 49 = .ok (.bipush 9, 2) := by decide +kernel
theorem dX5_init_51 : decode cX5_init 51 = .ok (.iconst 0, 1) := by decide +kernel
theorem dX5_init_52 : decode cX5_init 52 = .ok (.iastore, 1) := by decide +kernel
theorem dX5_init_53 : decode cX5_init 53 = .ok (.putfield 9, 3) := by decide +kernel
theorem dX5_init_56 : decode cX5_init 56 = .ok (.aload_n 0, 1) := by decide +kernel
theorem dX5_init_57 : decode cX5_init 57 = .ok (.iconst 5, 1) := by decide +kernel
theorem dX5_init_58 : decode cX5_init 58 = .ok (.newarray .long, 2) := by decide +kernel
theorem dX5_init_60 : decode cX5_init 60 = .ok (.putfield 15, 3) := by decide +kernel
theorem dX5_init_63 : decode cX5_init 63 = .ok (.aload_n 0, 1) := by decide +kernel
theorem dX5_init_64 : decode cX5_init 64 = .ok (.iconst 5, 1) := by decide +kernel
theorem dX5_init_65 : decode cX5_init 65 = .ok (.newarray .long, 2) := by decide +kernel
theorem dX5_init_67 : decode cX5_init 67 = .ok (.putfield 19, 3) := by decide +kernel
theorem dX5_init_70 : decode cX5_init 70 = .ok (.return_, 1) := by decide +kernel
theorem dX5_setTerm_0 : decode cX5_setTerm 0 = .ok (.aload_n 0, 1) := by decide +kernel
theorem dX5_setTerm_1 : decode cX5_setTerm 1 = .ok (.getfield 9, 3) := by decide +kernel
theorem dX5_setTerm_4 : decode cX5_setTerm 4 = .ok (.iload_n 1, 1) := by decide +kernel
theorem dX5_setTerm_5 : decode cX5_setTerm 5 = .ok (.iconst 5, 1) := by decide +kernel
theorem dX5_setTerm_6 : decode cX5_setTerm 6 = .ok (.imul, 1) := by decide +kernel
theorem dX5_setTerm_7 : decode cX5_setTerm 7 = .ok (.iload_n 2, 1) := by decide +kernel
theorem dX5_setTerm_8 : decode cX5_setTerm 8 = .ok (.iadd, 1) := by decide +kernel
theorem dX5_setTerm_9 : decode cX5_setTerm 9 = .ok (.iload_n 3, 1) := by decide +kernel
theorem dX5_setTerm_10 : decode cX5_setTerm 10 = .ok (.iastore, 1) := by decide +kernel
theorem dX5_setTerm_11 : decode cX5_setTerm 11 = .ok (.return_, 1) := by decide +kernel
set_option maxRecDepth 20000 in
theorem ggX5_isSteady_X5_zerosWithin : GoodIn wsX5_isSteady wsX5_zerosWithin := goodIn_r _ [8, 1, 9, 10, 11, 12, 13, 14, 15, 7, 16, 17, 18, 19, 20, 21, 22, 23, 24, 25, 26, 27, 28] (by decide +kernel) (by decide +kernel)
set_option maxRecDepth 20000 in
theorem gX5_isSteady_X5_zerosWithin : GoodIn wsX5_isSteady (wsV RX5 24 RX5 yX5_zerosWithin wsX5_zerosWithin) := goodIn_app (goodIn_of _ (by decide +kernel)) ggX5_isSteady_X5_zerosWithin
theorem dX5_isSteady_0 : decode cX5_isSteady 0 = .ok (.iconst 0, 1) := by decide +kernel
theorem dX5_isSteady_1 : decode cX5_isSteady 1 = .ok (.istore_n 2, 1) := by decide +kernel
theorem dX5_isSteady_2 : decode cX5_isSteady 2 = .ok (.iload_n 2, 1) := by decide +kernel
theorem dX5_isSteady_3 : decode cX5_isSteady 3 = .ok (.iconst 5, 1) := by decide +kernel
theorem dX5_isSteady_4 : decode cX5_isSteady 4 = .ok (.if_icmp .ge 39, 3) := by decide +kernel
theorem dX5_isSteady_7 : decode cX5_isSteady 7 = .ok (.aload_n 0, 1) := by decide +kernel
theorem dX5_isSteady_8 : decode cX5_isSteady 8 = .ok (.getfield 15, 3) := by decide +kernel
theorem dX5_isSteady_11 : decode cX5_isSteady 11 = .ok (.iload_n 2, 1) := by decide +kernel
theorem dX5_isSteady_12 : decode cX5_isSteady 12 = .ok (.ldc2_w 22, 3) := by decide +kernel
theorem dX5_isSteady_15 : decode cX5_isSteady 15 = .ok (.aload_n 0, 1) := by decide +kernel
theorem dX5_isSteady_16 : decode cX5_isSteady 16 = .ok (.getfield 9, 3) := by decide +kernel
theorem dX5_isSteady_19 : decode cX5_isSteady 19 = .ok (.iload_n 2, 1) := by decide +kernel
theorem dX5_isSteady_20 : decode cX5_isSteady 20 = .ok (.iaload, 1) := by decide +kernel
theorem dX5_isSteady_21 : decode cX5_isSteady 21 = .ok (.i2l, 1) := by decide +kernel
theorem dX5_isSteady_22 : decode cX5_isSteady 22 = .ok (.lmul, 1) := by decide +kernel
theorem dX5_isSteady_23 : decode cX5_isSteady 23 = .ok (.iload_n 1, 1) := by decide +kernel
theorem dX5_isSteady_24 : decode cX5_isSteady 24 = .ok (.i2l, 1) := by decide +kernel
theorem dX5_isSteady_25 : decode cX5_isSteady 25 = .ok (.aload_n 0, 1) := by decide +kernel
theorem dX5_isSteady_26 : decode cX5_isSteady 26 = .ok (.getfield 9, 3) := by decide +kernel
theorem dX5_isSteady_29 : decode cX5_isSteady 29 = .ok (.iconst 5, 1) := by decide +kernel

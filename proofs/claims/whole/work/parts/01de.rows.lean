theorem dX12_common_44 : decode cX12_common 44 = .ok (.lreturn, 1) := by decide +kernel
set_option maxRecDepth 20000 in
theorem ggX12_findBend_X12_spanOf : GoodIn wsX12_findBend wsX12_spanOf := goodIn_r _ [10, 11, 12, 16, 17, 18, 19, 20, 21, 22, 23, 24, 25, 26, 27, 28, 29, 30, 31, 32, 33, 34, 35, 36, 37, 38, 39, 40, 41, 42, 43, 44, 45, 46, 47, 48, 49, 50, 51, 52, 53, 54, 55, 56] (by decide +kernel) (by decide +kernel)
set_option maxRecDepth 20000 in
theorem gX12_findBend_X12_spanOf : GoodIn wsX12_findBend (wsV RX12 210 RX12 yX12_spanOf wsX12_spanOf) := goodIn_app (goodIn_of _ (by decide +kernel)) ggX12_findBend_X12_spanOf
set_option maxRecDepth 20000 in
theorem ggX12_findBend_X12_common : GoodIn wsX12_findBend wsX12_common := goodIn_r _ [15] (by decide +kernel) (by decide +kernel)
set_option maxRecDepth 20000 in
theorem gX12_findBend_X12_common : GoodIn wsX12_findBend (va_wsS RX12 223 yX12_common wsX12_common) := goodIn_app (goodIn_of _ (by decide +kernel)) ggX12_findBend_X12_common
theorem dX12_findBend_0 : decode cX12_findBend 0 = .ok (.iload_n 1, 1) := by decide +kernel
theorem dX12_findBend_1 : decode cX12_findBend 1 = .ok (.istore_n 2, 1) := by decide +kernel
theorem dX12_findBend_2 : decode cX12_findBend 2 = .ok (.aload_n 0, 1) := by decide +kernel
theorem dX12_findBend_3 : decode cX12_findBend 3 = .ok (.getfield 44, 3) := by decide +kernel
theorem dX12_findBend_6 : decode cX12_findBend 6 = .ok (.iload_n 2, 1) := by decide +kernel
theorem dX12_findBend_7 : decode cX12_findBend 7 = .ok (.baload, 1) := by decide +kernel
theorem dX12_findBend_8 : decode cX12_findBend 8 = .ok (.ifCond .eq 9, 3) := by decide +kernel
theorem dX12_findBend_11 : decode cX12_findBend 11 = .ok (.iinc 2 (-1), 3) := by decide +kernel
theorem dX12_findBend_14 : decode cX12_findBend 14 = .ok (.goto (-12), 3) := by decide +kernel
theorem dX12_findBend_17 : decode cX12_findBend 17 = .ok (.aload_n 0, 1) := by decide +kernel
theorem dX12_findBend_18 : decode cX12_findBend 18 = .ok (.lconst 0, 1) := by decide +kernel
theorem dX12_findBend_19 : decode cX12_findBend 19 = .ok (.putfield 216, 3) := by decide +kernel
theorem dX12_findBend_22 : decode cX12_findBend 22 = .ok (.aload_n 0, 1) := by decide +kernel
theorem dX12_findBend_23 : decode cX12_findBend 23 = .ok (.lconst 1, 1) := by decide +kernel
theorem dX12_findBend_24 : decode cX12_findBend 24 = .ok (.putfield 220, 3) := by decide +kernel
theorem dX12_findBend_27 : decode cX12_findBend 27 = .ok (.iconst 0, 1) := by decide +kernel
theorem dX12_findBend_28 : decode cX12_findBend 28 = .ok (.istore_n 3, 1) := by decide +kernel
theorem dX12_findBend_29 : decode cX12_findBend 29 = .ok (.iload_n 3, 1) := by decide +kernel
theorem dX12_findBend_30 : decode cX12_findBend 30 = .ok (.aload_n 0, 1) := by decide +kernel
theorem dX12_findBend_31 : decode cX12_findBend 31 = .ok (.getfield 196, 3) := by decide +kernel
theorem dX12_findBend_34 : decode cX12_findBend 34 = .ok (.if_icmp .ge 45, 3) := by decide +kernel
theorem dX12_findBend_37 : decode cX12_findBend 37 = .ok (.aload_n 0, 1) := by decide +kernel
theorem dX12_findBend_38 : decode cX12_findBend 38 = .ok (.getfield 52, 3) := by decide +kernel
theorem dX12_findBend_41 : decode cX12_findBend 41 = .ok (.iload_n 3, 1) := by decide +kernel
theorem dX12_findBend_42 : decode cX12_findBend 42 = .ok (.iaload, 1) := by decide +kernel
theorem dX12_findBend_43 : decode cX12_findBend 43 = .ok (.iload_n 2, 1) := by decide +kernel
theorem dX12_findBend_44 : decode cX12_findBend 44 = .ok (.if_icmp .ne 29, 3) := by decide +kernel
theorem dX12_findBend_47 : decode cX12_findBend 47 = .ok (.aload_n 0, 1) := by decide +kernel
theorem dX12_findBend_48 : decode cX12_findBend 48 = .ok (.aload_n 0, 1) := by decide +kernel
theorem dX12_findBend_49 : decode cX12_findBend 49 = .ok (.aload_n 0, 1) := by decide +kernel
theorem dX12_findBend_50 : decode cX12_findBend 50 = .ok (.getfield 196, 3) := by decide +kernel
theorem dX12_findBend_53 : decode cX12_findBend 53 = .ok (.iload_n 3, 1) := by decide +kernel
theorem dX12_findBend_54 : decode cX12_findBend 54 = .ok (.invokevirtual 210, 3) := by decide +kernel
theorem dX12_findBend_57 : decode cX12_findBend 57 = .ok (.putfield 216, 3) := by decide +kernel
theorem dX12_findBend_60 : decode cX12_findBend 60 = .ok (.aload_n 0, 1) := by decide +kernel
theorem dX12_findBend_61 : decode cX12_findBend 61 = .ok (.aload_n 0, 1) := by decide +kernel
theorem dX12_findBend_62 : decode cX12_findBend 62 = .ok (.aload_n 0, 1) := by decide +kernel
theorem dX12_findBend_63 : decode cX12_findBend 63 = .ok (.getfield 196, 3) := by decide +kernel
theorem dX12_findBend_66 : decode cX12_findBend 66 = .ok (.iconst (-1), 1) := by decide +kernel
theorem dX12_findBend_67 : decode cX12_findBend 67 = .ok (.invokevirtual 210, 3) := by decide +kernel
theorem dX12_findBend_70 : decode cX12_findBend 70 = .ok (.putfield 220, 3) := by decide +kernel
theorem dX12_findBend_73 : decode cX12_findBend 73 = .ok (.iinc 3 1, 3) := by decide +kernel
theorem dX12_findBend_76 : decode cX12_findBend 76 = .ok (.goto (-47), 3) := by decide +kernel
theorem dX12_findBend_79 : decode cX12_findBend 79 = .ok (.aload_n 0, 1) := by decide +kernel
theorem dX12_findBend_80 : decode cX12_findBend 80 = .ok (.getfield 216, 3) := by decide +kernel
theorem dX12_findBend_83 : decode cX12_findBend 83 = .ok (.aload_n 0, 1) := by decide +kernel
theorem dX12_findBend_84 : decode cX12_findBend 84 = .ok (.getfield 220, 3) := by decide +kernel
theorem dX12_findBend_87 : decode cX12_findBend 87 = .ok (.invokestatic 223, 3) := by decide +kernel
theorem dX12_findBend_90 : decode cX12_findBend 90 = .ok (.lstore_n 3, 1) := by decide +kernel
theorem dX12_findBend_91 : decode cX12_findBend 91 = .ok (.aload_n 0, 1) := by decide +kernel
theorem dX12_findBend_92 : decode cX12_findBend 92 = .ok (.dup, 1) := by decide +kernel
theorem dX12_findBend_93 : decode cX12_findBend 93 = .ok (.getfield 216, 3) := by decide +kernel
theorem dX12_findBend_96 : decode cX12_findBend 96 = .ok (.lload_n 3, 1) := by decide +kernel
theorem dX12_findBend_97 : decode cX12_findBend 97 = .ok (.ldiv, 1) := by decide +kernel
theorem dX12_findBend_98 : decode cX12_findBend 98 = .ok (.putfield 216, 3) := by decide +kernel
theorem dX12_findBend_101 : decode cX12_findBend 101 = .ok (.aload_n 0, 1) := by decide +kernel
theorem dX12_findBend_102 : decode cX12_findBend 102 = .ok (.dup, 1) := by decide +kernel
theorem dX12_findBend_103 : decode cX12_findBend 103 = .ok (.getfield 220, 3) := by decide +kernel
theorem dX12_findBend_106 : decode cX12_findBend 106 = .ok (.lload_n 3, 1) := by decide +kernel
theorem dX12_findBend_107 : decode cX12_findBend 107 = .ok (.ldiv, 1) := by decide +kernel
theorem dX12_findBend_108 : decode cX12_findBend 108 = .ok (.putfield 220, 3) := by decide +kernel
theorem dX12_findBend_111 : decode cX12_findBend 111 = .ok (.return_, 1) := by decide +kernel
set_option maxRecDepth 20000 in
theorem ggX12_bend_X12_isPart : GoodIn wsX12_bend wsX12_isPart := goodIn_r _ [8, 9, 10, 11, 7, 12, 68, 69, 70, 71, 72, 73, 74, 75, 76, 77, 78, 79, 80, 81, 82, 83, 84, 85, 86, 87, 88, 89, 90, 91, 92, 93, 94, 95, 96, 97, 98, 99, 100, 101, 102, 103, 104, 105, 106, 107, 108] (by decide +kernel) (by decide +kernel)
set_option maxRecDepth 20000 in
theorem gX12_bend_X12_isPart : GoodIn wsX12_bend (wsV RX12 167 RX12 yX12_isPart wsX12_isPart) := goodIn_app (goodIn_of _ (by decide +kernel)) ggX12_bend_X12_isPart
set_option maxRecDepth 20000 in
theorem ggX12_bend_X12_in : GoodIn wsX12_bend wsX12_in := goodIn_r _ [12] (by decide +kernel) (by decide +kernel)
set_option maxRecDepth 20000 in
theorem gX12_bend_X12_in : GoodIn wsX12_bend (va_wsS RX12 130 yX12_in wsX12_in) := goodIn_app (goodIn_of _ (by decide +kernel)) ggX12_bend_X12_in
set_option maxRecDepth 20000 in
theorem ggX12_bend_X12_findColumns : GoodIn wsX12_bend wsX12_findColumns := goodIn_r _ [16, 17, 9, 18, 19, 20, 21, 22, 23, 24, 25, 26, 27, 7, 28, 29, 30, 31, 32, 33, 34, 35, 36, 37, 38, 39, 40, 41, 42, 43, 44, 45, 46, 47, 48, 49, 50, 51, 52, 53, 54, 55, 56, 57, 58, 59, 60, 68, 69, 70, 71, 72, 73, 74, 75, 76, 77, 78, 79, 80, 81, 82, 83, 84, 85, 86, 87, 88, 89, 90, 91, 92, 93, 94, 95, 96, 97, 98, 99, 100, 101, 102, 103, 104, 105, 106, 107, 108] (by decide +kernel) (by decide +kernel)
set_option maxRecDepth 20000 in
theorem gX12_bend_X12_findColumns : GoodIn wsX12_bend (wsV RX12 213 RX12 yX12_findColumns wsX12_findColumns) := goodIn_app (goodIn_of _ (by decide +kernel)) ggX12_bend_X12_findColumns
set_option maxRecDepth 20000 in
theorem ggX12_bend_X12_findBend : GoodIn wsX12_bend wsX12_findBend := goodIn_r _ [64, 18, 2, 3, 21, 23, 56, 57, 58, 7, 59, 60, 24, 65, 66, 67, 68, 69, 70, 71, 72, 73, 74, 75, 76, 77, 78, 79, 80, 81, 82, 83, 84, 85, 86, 87, 88, 89, 90, 91, 92, 93, 94, 95, 96, 97, 98, 99, 100, 101, 102, 103, 104, 105, 106, 107, 108] (by decide +kernel) (by decide +kernel)
set_option maxRecDepth 20000 in
theorem gX12_bend_X12_findBend : GoodIn wsX12_bend (wsV RX12 229 RX12 yX12_findBend wsX12_findBend) := goodIn_app (goodIn_of _ (by decide +kernel)) ggX12_bend_X12_findBend
theorem dX12_bend_0 : decode cX12_bend 0 = .ok (.aload_n 0, 1) := by decide +kernel
theorem dX12_bend_1 : decode cX12_bend 1 = .ok (.iload_n 1, 1) := by decide +kernel
theorem dX12_bend_2 : decode cX12_bend 2 = .ok (.invokevirtual 167, 3) := by decide +kernel
theorem dX12_bend_5 : decode cX12_bend 5 = .ok (.ifCond .eq 13, 3) := by decide +kernel
theorem dX12_bend_8 : decode cX12_bend 8 = .ok (.iload_n 2, 1) := by decide +kernel
theorem dX12_bend_9 : decode cX12_bend 9 = .ok (.i2l, 1) := by decide +kernel
theorem dX12_bend_10 : decode cX12_bend 10 = .ok (.lconst 0, 1) := by decide +kernel
theorem dX12_bend_11 : decode cX12_bend 11 = .ok (.lconst 1, 1) := by decide +kernel
theorem dX12_bend_12 : decode cX12_bend 12 = .ok (.invokestatic 130, 3) := by decide +kernel
theorem dX12_bend_15 : decode cX12_bend 15 = .ok (.ifCond .ne 7, 3) := by decide +kernel
theorem dX12_bend_18 : decode cX12_bend 18 = .ok (.ldc2_w 227, 3) := by decide +kernel
theorem dX12_bend_21 : decode cX12_bend 21 = .ok (.lreturn, 1) := by decide +kernel
theorem dX12_bend_22 : decode cX12_bend 22 = .ok (.aload_n 0, 1) := by decide +kernel
theorem dX12_bend_23 : decode cX12_bend 23 = .ok (.invokevirtual 213, 3) := by decide +kernel
theorem dX12_bend_26 : decode cX12_bend 26 = .ok (.aload_n 0, 1) := by decide +kernel
theorem dX12_bend_27 : decode cX12_bend 27 = .ok (.iload_n 1, 1) := by decide +kernel
theorem dX12_bend_28 : decode cX12_bend 28 = .ok (.invokevirtual 229, 3) := by decide +kernel
theorem dX12_bend_31 : decode cX12_bend 31 = .ok (.iload_n 2, 1) := by decide +kernel
theorem dX12_bend_32 : decode cX12_bend 32 = .ok (.ifCond .ne 10, 3) := by decide +kernel
theorem dX12_bend_35 : decode cX12_bend 35 = .ok (.aload_n 0, 1) := by decide +kernel
theorem dX12_bend_36 : decode cX12_bend 36 = .ok (.getfield 216, 3) := by decide +kernel
theorem dX12_bend_39 : decode cX12_bend 39 = .ok (.goto 7, 3) := by decide +kernel
theorem dX12_bend_42 : decode cX12_bend 42 = .ok (.aload_n 0, 1) := by decide +kernel
theorem dX12_bend_43 : decode cX12_bend 43 = .ok (.getfield 220, 3) := by decide +kernel
theorem dX12_bend_46 : decode cX12_bend 46 = .ok (.lreturn, 1) := by decide +kernel
set_option maxRecDepth 20000 in
theorem ggX12_findWholes_X12_findColumns : GoodIn wsX12_findWholes wsX12_findColumns := goodIn_r _ [10, 11, 1, 12, 13, 14, 15, 16, 17, 18, 19, 20, 21, 9, 22, 23, 24, 25, 26, 27, 28, 29, 30, 31, 32, 33, 34, 35, 36, 37, 38, 39, 40, 41, 42, 43, 44, 45, 46, 47, 48, 49, 50, 51, 52, 53, 54, 62, 63, 64, 65, 66, 67, 68, 69, 70, 71, 72, 73, 74, 75, 76, 77, 78, 79, 80, 81, 82, 83, 84, 85, 86, 87, 88, 89, 90, 91, 92, 93, 94, 95, 96, 97, 98, 99, 100, 101, 102] (by decide +kernel) (by decide +kernel)
set_option maxRecDepth 20000 in
theorem gX12_findWholes_X12_findColumns : GoodIn wsX12_findWholes (wsV RX12 213 RX12 yX12_findColumns wsX12_findColumns) := goodIn_app (goodIn_of _ (by decide +kernel)) ggX12_findWholes_X12_findColumns
set_option maxRecDepth 20000 in
theorem ggX12_findWholes_X12_findBend : GoodIn wsX12_findWholes wsX12_findBend := goodIn_r _ [58, 12, 2, 3, 15, 17, 50, 51, 52, 9, 53, 54, 18, 59, 60, 61, 62, 63, 64, 65, 66, 67, 68, 69, 70, 71, 72, 73, 74, 75, 76, 77, 78, 79, 80, 81, 82, 83, 84, 85, 86, 87, 88, 89, 90, 91, 92, 93, 94, 95, 96, 97, 98, 99, 100, 101, 102] (by decide +kernel) (by decide +kernel)
set_option maxRecDepth 20000 in
theorem gX12_findWholes_X12_findBend : GoodIn wsX12_findWholes (wsV RX12 229 RX12 yX12_findBend wsX12_findBend) := goodIn_app (goodIn_of _ (by decide +kernel)) ggX12_findWholes_X12_findBend
theorem dX12_findWholes_0 : decode cX12_findWholes 0 = .ok (.aload_n 0, 1) := by decide +kernel
theorem dX12_findWholes_1 : decode cX12_findWholes 1 = .ok (.invokevirtual 213, 3) := by decide +kernel
theorem dX12_findWholes_4 : decode cX12_findWholes 4 = .ok (.iconst 0, 1) := by decide +kernel
theorem dX12_findWholes_5 : decode cX12_findWholes 5 = .ok (.istore_n 1, 1) := by decide +kernel
theorem dX12_findWholes_6 : decode cX12_findWholes 6 = .ok (.iload_n 1, 1) := by decide +kernel
theorem dX12_findWholes_7 : decode cX12_findWholes 7 = .ok (.aload_n 0, 1) := by decide +kernel
theorem dX12_findWholes_8 : decode cX12_findWholes 8 = .ok (.getfield 13, 3) := by decide +kernel
theorem dX12_findWholes_11 : decode cX12_findWholes 11 = .ok (.if_icmp .ge 114, 3) := by decide +kernel
theorem dX12_findWholes_14 : decode cX12_findWholes 14 = .ok (.aload_n 0, 1) := by decide +kernel
theorem dX12_findWholes_15 : decode cX12_findWholes 15 = .ok (.iload_n 1, 1) := by decide +kernel
theorem dX12_findWholes_16 : decode cX12_findWholes 16 = .ok (.invokevirtual 229, 3) := by decide +kernel
theorem dX12_findWholes_19 : decode cX12_findWholes 19 = .ok (.aload_n 0, 1) := by decide +kernel
theorem dX12_findWholes_20 : decode cX12_findWholes 20 = .ok (.getfield 216, 3) := by decide +kernel
theorem dX12_findWholes_23 : decode cX12_findWholes 23 = .ok (.lconst 0, 1) := by decide +kernel
theorem dX12_findWholes_24 : decode cX12_findWholes 24 = .ok (.lcmp, 1) := by decide +kernel
theorem dX12_findWholes_25 : decode cX12_findWholes 25 = .ok (.ifCond .ge 11, 3) := by decide +kernel
theorem dX12_findWholes_28 : decode cX12_findWholes 28 = .ok (.aload_n 0, 1) := by decide +kernel
theorem dX12_findWholes_29 : decode cX12_findWholes 29 = .ok (.getfield 216, 3) := by decide +kernel
theorem dX12_findWholes_32 : decode cX12_findWholes 32 = .ok (.lneg, 1) := by decide +kernel
theorem dX12_findWholes_33 : decode cX12_findWholes 33 = .ok (.goto 7, 3) := by decide +kernel
theorem dX12_findWholes_36 : decode cX12_findWholes 36 = .ok (.aload_n 0, 1) := by decide +kernel
theorem dX12_findWholes_37 : decode cX12_findWholes 37 = .ok (.getfield 216, 3) := by decide +kernel
theorem dX12_findWholes_40 : decode cX12_findWholes 40 = .ok (.lstore_n 2, 1) := by decide +kernel
theorem dX12_findWholes_41 : decode cX12_findWholes 41 = .ok (.lload_n 2, 1) := by decide +kernel
theorem dX12_findWholes_42 : decode cX12_findWholes 42 = .ok (.aload_n 0, 1) := by decide +kernel
theorem dX12_findWholes_43 : decode cX12_findWholes 43 = .ok (.getfield 220, 3) := by decide +kernel
theorem dX12_findWholes_46 : decode cX12_findWholes 46 = .ok (.ldiv, 1) := by decide +kernel
theorem dX12_findWholes_47 : decode cX12_findWholes 47 = .ok (.lload_n 2, 1) := by decide +kernel
theorem dX12_findWholes_48 : decode cX12_findWholes 48 = .ok (.aload_n 0, 1) := by decide +kernel
theorem dX12_findWholes_49 : decode cX12_findWholes 49 = .ok (.getfield 220, 3) := by decide +kernel
theorem dX12_findWholes_52 : decode cX12_findWholes 52 = .ok (.lrem, 1) := by decide +kernel
theorem dX12_findWholes_53 : decode cX12_findWholes 53 = .ok (.aload_n 0, 1) := by decide +kernel
theorem dX12_findWholes_54 : decode cX12_findWholes 54 = .ok (.getfield 220, 3) := by decide +kernel
theorem dX12_findWholes_57 : decode cX12_findWholes 57 = .ok (.lload_n 2, 1) := by decide +kernel
theorem dX12_findWholes_58 : decode cX12_findWholes 58 = .ok (.aload_n 0, 1) := by decide +kernel
theorem dX12_findWholes_59 : decode cX12_findWholes 59 = .ok (.getfield 220, 3) := by decide +kernel
theorem dX12_findWholes_62 : decode cX12_findWholes 62 = .ok (.lrem, 1) := by decide +kernel
theorem dX12_findWholes_63 : decode cX12_findWholes 63 = .ok (.lsub, 1) := by decide +kernel
theorem dX12_findWholes_64 : decode cX12_findWholes 64 = .ok (.lcmp, 1) := by decide +kernel
theorem dX12_findWholes_65 : decode cX12_findWholes 65 = .ok (.ifCond .lt 7, 3) := by decide +kernel
theorem dX12_findWholes_68 : decode cX12_findWholes 68 = .ok (.lconst 1, 1) := by decide +kernel
theorem dX12_findWholes_69 : decode cX12_findWholes 69 = .ok (.goto 4, 3) := by decide +kernel
theorem dX12_findWholes_72 : decode cX12_findWholes 72 = .ok (.lconst 0, 1) := by decide +kernel
theorem dX12_findWholes_73 : decode cX12_findWholes 73 = .ok (.ladd, 1) := by decide +kernel
theorem dX12_findWholes_74 : decode cX12_findWholes 74 = .ok (.lstore 4, 2) := by decide +kernel
theorem dX12_findWholes_76 : decode cX12_findWholes 76 = .ok (.lload 4, 2) := by decide +kernel
theorem dX12_findWholes_78 : decode cX12_findWholes 78 = .ok (.ldc2_w 232, 3) := by decide +kernel
theorem dX12_findWholes_81 : decode cX12_findWholes 81 = .ok (.lcmp, 1) := by decide +kernel
theorem dX12_findWholes_82 : decode cX12_findWholes 82 = .ok (.ifCond .le 9, 3) := by decide +kernel
theorem dX12_findWholes_85 : decode cX12_findWholes 85 = .ok (.ldc2_w 232, 3) := by decide +kernel
theorem dX12_findWholes_88 : decode cX12_findWholes 88 = .ok (.goto 5, 3) := by decide +kernel
theorem dX12_findWholes_91 : decode cX12_findWholes 91 = .ok (.lload 4, 2) := by decide +kernel
theorem dX12_findWholes_93 : decode cX12_findWholes 93 = .ok (.lstore 4, 2) := by decide +kernel
theorem dX12_findWholes_95 : decode cX12_findWholes 95 = .ok (.aload_n 0, 1) := by decide +kernel
theorem dX12_findWholes_96 : decode cX12_findWholes 96 = .ok (.getfield 61, 3) := by decide +kernel
theorem dX12_findWholes_99 : decode cX12_findWholes 99 = .ok (.iload_n 1, 1) := by decide +kernel
theorem dX12_findWholes_100 : decode cX12_findWholes 100 = .ok (.aload_n 0, 1) := by decide +kernel
theorem dX12_findWholes_101 : decode cX12_findWholes 101 = .ok (.getfield 216, 3) := by decide +kernel
theorem dX12_findWholes_104 : decode cX12_findWholes 104 = .ok (.lconst 0, 1) := by decide +kernel
theorem dX12_findWholes_105 : decode cX12_findWholes 105 = .ok (.lcmp, 1) := by decide +kernel
theorem dX12_findWholes_106 : decode cX12_findWholes 106 = .ok (.ifCond .ge 9, 3) := by decide +kernel
theorem dX12_findWholes_109 : decode cX12_findWholes 109 = .ok (.lload 4, 2) := by decide +kernel
theorem dX12_findWholes_111 : decode cX12_findWholes 111 = .ok (.lneg, 1) := by decide +kernel
theorem dX12_findWholes_112 : decode cX12_findWholes 112 = .ok (.goto 5, 3) := by decide +kernel
theorem dX12_findWholes_115 : decode cX12_findWholes 115 = .ok (.lload 4, 2) := by decide +kernel
theorem dX12_findWholes_117 : decode cX12_findWholes 117 = .ok (.l2i, 1) := by decide +kernel
theorem dX12_findWholes_118 : decode cX12_findWholes 118 = .ok (.iastore, 1) := by decide +kernel
theorem dX12_findWholes_119 : decode cX12_findWholes 119 = .ok (.iinc 1 1, 3) := by decide +kernel
theorem dX12_findWholes_122 : decode cX12_findWholes 122 = .ok (.goto (-116), 3) := by decide +kernel
theorem dX12_findWholes_125 : decode cX12_findWholes 125 = .ok (.return_, 1) := by decide +kernel
set_option maxRecDepth 20000 in
theorem ggX12_whole_X12_isPart : GoodIn wsX12_whole wsX12_isPart := goodIn_r _ [6, 7, 8, 9, 5, 10, 73, 74, 75, 76, 77, 78, 79, 80, 81, 82, 83, 84, 85, 86, 87, 88, 89, 90, 91, 92, 93, 94, 95, 96, 97, 98, 99, 100, 101, 102, 103, 104, 105, 106, 107, 108, 109, 110, 111, 112, 113] (by decide +kernel) (by decide +kernel)
set_option maxRecDepth 20000 in
theorem gX12_whole_X12_isPart : GoodIn wsX12_whole (wsV RX12 167 RX12 yX12_isPart wsX12_isPart) := goodIn_app (goodIn_of _ (by decide +kernel)) ggX12_whole_X12_isPart
set_option maxRecDepth 20000 in
theorem ggX12_whole_X12_findWholes : GoodIn wsX12_whole wsX12_findWholes := goodIn_r _ [14, 7, 15, 16, 17, 1, 18, 19, 20, 5, 21, 22, 23, 24, 25, 26, 27, 28, 29, 30, 31, 32, 33, 34, 35, 36, 37, 38, 39, 40, 41, 42, 43, 44, 45, 46, 47, 48, 49, 50, 51, 52, 53, 54, 55, 56, 57, 58, 59, 60, 61, 62, 63, 64, 65, 66, 67, 68, 69, 70, 71, 72, 73, 74, 75, 76, 77, 78, 79, 80, 81, 82, 83, 84, 85, 86, 87, 88, 89, 90, 91, 92, 93, 94, 95, 96, 97, 98, 99, 100, 101, 102, 103, 104, 105, 106, 107, 108, 109, 110, 111, 112, 113] (by decide +kernel) (by decide +kernel)
set_option maxRecDepth 20000 in
theorem gX12_whole_X12_findWholes : GoodIn wsX12_whole (wsV RX12 234 RX12 yX12_findWholes wsX12_findWholes) := goodIn_app (goodIn_of _ (by decide +kernel)) ggX12_whole_X12_findWholes
theorem dX12_whole_0 : decode cX12_whole 0 = .ok (.aload_n 0, 1) := by decide +kernel
theorem dX12_whole_1 : decode cX12_whole 1 = .ok (.iload_n 1, 1) := by decide +kernel
theorem dX12_whole_2 : decode cX12_whole 2 = .ok (.invokevirtual 167, 3) := by decide +kernel
theorem dX12_whole_5 : decode cX12_whole 5 = .ok (.ifCond .ne 7, 3) := by decide +kernel
theorem dX12_whole_8 : decode cX12_whole 8 = .ok (.sipush (-10001), 3) := by decide +kernel
theorem dX12_whole_11 : decode cX12_whole 11 = .ok (.ireturn, 1) := by decide +kernel
theorem dX12_whole_12 : decode cX12_whole 12 = .ok (.aload_n 0, 1) := by decide +kernel
theorem dX12_whole_13 : decode cX12_whole 13 = .ok (.invokevirtual 234, 3) := by decide +kernel
theorem dX12_whole_16 : decode cX12_whole 16 = .ok (.aload_n 0, 1) := by decide +kernel
theorem dX12_whole_17 : decode cX12_whole 17 = .ok (.getfield 61, 3) := by decide +kernel
theorem dX12_whole_20 : decode cX12_whole 20 = .ok (.iload_n 1, 1) := by decide +kernel
theorem dX12_whole_21 : decode cX12_whole 21 = .ok (.iaload, 1) := by decide +kernel
theorem dX12_whole_22 : decode cX12_whole 22 = .ok (.ireturn, 1) := by decide +kernel
set_option maxRecDepth 20000 in
theorem ggX12_isBeside_X12_in : GoodIn wsX12_isBeside wsX12_in := goodIn_r _ [6] (by decide +kernel) (by decide +kernel)
set_option maxRecDepth 20000 in
theorem gX12_isBeside_X12_in : GoodIn wsX12_isBeside (va_wsS RX12 130 yX12_in wsX12_in) := goodIn_app (goodIn_of _ (by decide +kernel)) ggX12_isBeside_X12_in
theorem dX12_isBeside_0 : decode cX12_isBeside 0 = .ok (.aload_n 0, 1) := by decide +kernel
theorem dX12_isBeside_1 : decode cX12_isBeside 1 = .ok (.getfield 44, 3) := by decide +kernel
theorem dX12_isBeside_4 : decode cX12_isBeside 4 = .ok (.iload_n 1, 1) := by decide +kernel
theorem dX12_isBeside_5 : decode cX12_isBeside 5 = .ok (.baload, 1) := by decide +kernel
theorem dX12_isBeside_6 : decode cX12_isBeside 6 = .ok (.ifCond .eq 16, 3) := by decide +kernel
theorem dX12_isBeside_9 : decode cX12_isBeside 9 = .ok (.iload_n 2, 1) := by decide +kernel
theorem dX12_isBeside_10 : decode cX12_isBeside 10 = .ok (.iload_n 3, 1) := by decide +kernel
theorem dX12_isBeside_11 : decode cX12_isBeside 11 = .ok (.if_icmp .ne 7, 3) := by decide +kernel
theorem dX12_isBeside_14 : decode cX12_isBeside 14 = .ok (.iconst 1, 1) := by decide +kernel
theorem dX12_isBeside_15 : decode cX12_isBeside 15 = .ok (.goto 29, 3) := by decide +kernel
theorem dX12_isBeside_18 : decode cX12_isBeside 18 = .ok (.iconst 0, 1) := by decide +kernel
theorem dX12_isBeside_19 : decode cX12_isBeside 19 = .ok (.goto 25, 3) := by decide +kernel
theorem dX12_isBeside_22 : decode cX12_isBeside 22 = .ok (.iload_n 2, 1) := by decide +kernel
theorem dX12_isBeside_23 : decode cX12_isBeside 23 = .ok (.iload_n 3, 1) := by decide +kernel
theorem dX12_isBeside_24 : decode cX12_isBeside 24 = .ok (.isub, 1) := by decide +kernel
theorem dX12_isBeside_25 : decode cX12_isBeside 25 = .ok (.i2l, 1) := by decide +kernel
theorem dX12_isBeside_26 : decode cX12_isBeside 26 = .ok (.aload_n 0, 1) := by decide +kernel
theorem dX12_isBeside_27 : decode cX12_isBeside 27 = .ok (.getfield 26, 3) := by decide +kernel
theorem dX12_isBeside_30 : decode cX12_isBeside 30 = .ok (.iconst 5, 1) := by decide +kernel
theorem dX12_isBeside_31 : decode cX12_isBeside 31 = .ok (.iaload, 1) := by decide +kernel
theorem dX12_isBeside_32 : decode cX12_isBeside 32 = .ok (.ineg, 1) := by decide +kernel
theorem dX12_isBeside_33 : decode cX12_isBeside 33 = .ok (.i2l, 1) := by decide +kernel
theorem dX12_isBeside_34 : decode cX12_isBeside 34 = .ok (.aload_n 0, 1) := by decide +kernel
theorem dX12_isBeside_35 : decode cX12_isBeside 35 = .ok (.getfield 26, 3) := by decide +kernel
theorem dX12_isBeside_38 : decode cX12_isBeside 38 = .ok (.iconst 5, 1) := by decide +kernel
theorem dX12_isBeside_39 : decode cX12_isBeside 39 = .ok (.iaload, 1) := by decide +kernel
theorem dX12_isBeside_40 : decode cX12_isBeside 40 = .ok (.i2l, 1) := by decide +kernel
theorem dX12_isBeside_41 : decode cX12_isBeside 41 = .ok (.invokestatic 130, 3) := by decide +kernel
theorem dX12_isBeside_44 : decode cX12_isBeside 44 = .ok (.ireturn, 1) := by decide +kernel
set_option maxRecDepth 20000 in
theorem ggX12_findNearest_X12_isBeside : GoodIn wsX12_findNearest wsX12_isBeside := goodIn_r _ [11, 12, 1, 13, 14, 10, 15, 16, 17, 18, 19, 20, 21, 22, 23, 24, 25, 26, 27, 28, 29, 30, 31, 32, 33, 34, 35, 36, 37, 38, 39, 40, 41, 42, 43, 44, 45, 46, 47, 48, 49, 50, 51, 52, 53, 54, 55, 56] (by decide +kernel) (by decide +kernel)
set_option maxRecDepth 20000 in
theorem gX12_findNearest_X12_isBeside : GoodIn wsX12_findNearest (wsV RX12 239 RX12 yX12_isBeside wsX12_isBeside) := goodIn_app (goodIn_of _ (by decide +kernel)) ggX12_findNearest_X12_isBeside
theorem dX12_findNearest_0 : decode cX12_findNearest 0 = .ok (.aload_n 0, 1) := by decide +kernel
theorem dX12_findNearest_1 : decode cX12_findNearest 1 = .ok (.getfield 26, 3) := by decide +kernel
theorem dX12_findNearest_4 : decode cX12_findNearest 4 = .ok (.iconst 4, 1) := by decide +kernel
theorem dX12_findNearest_5 : decode cX12_findNearest 5 = .ok (.iaload, 1) := by decide +kernel
theorem dX12_findNearest_6 : decode cX12_findNearest 6 = .ok (.istore_n 1, 1) := by decide +kernel
theorem dX12_findNearest_7 : decode cX12_findNearest 7 = .ok (.aload_n 0, 1) := by decide +kernel
theorem dX12_findNearest_8 : decode cX12_findNearest 8 = .ok (.getfield 13, 3) := by decide +kernel
theorem dX12_findNearest_11 : decode cX12_findNearest 11 = .ok (.iconst 1, 1) := by decide +kernel
theorem dX12_findNearest_12 : decode cX12_findNearest 12 = .ok (.isub, 1) := by decide +kernel
theorem dX12_findNearest_13 : decode cX12_findNearest 13 = .ok (.istore_n 2, 1) := by decide +kernel
theorem dX12_findNearest_14 : decode cX12_findNearest 14 = .ok (.iload_n 2, 1) := by decide +kernel
theorem dX12_findNearest_15 : decode cX12_findNearest 15 = .ok (.ifCond .lt 157, 3) := by decide +kernel
theorem dX12_findNearest_18 : decode cX12_findNearest 18 = .ok (.iload_n 1, 1) := by decide +kernel
theorem dX12_findNearest_19 : decode cX12_findNearest 19 = .ok (.ineg, 1) := by decide +kernel
theorem dX12_findNearest_20 : decode cX12_findNearest 20 = .ok (.istore_n 3, 1) := by decide +kernel
theorem dX12_findNearest_21 : decode cX12_findNearest 21 = .ok (.iload_n 3, 1) := by decide +kernel
theorem dX12_findNearest_22 : decode cX12_findNearest 22 = .ok (.iload_n 1, 1) := by decide +kernel
theorem dX12_findNearest_23 : decode cX12_findNearest 23 = .ok (.if_icmp .gt 143, 3) := by decide +kernel
theorem dX12_findNearest_26 : decode cX12_findNearest 26 = .ok (.iload_n 2, 1) := by decide +kernel
theorem dX12_findNearest_27 : decode cX12_findNearest 27 = .ok (.aload_n 0, 1) := by decide +kernel
theorem dX12_findNearest_28 : decode cX12_findNearest 28 = .ok (.getfield 13, 3) := by decide +kernel
theorem dX12_findNearest_31 : decode cX12_findNearest 31 = .ok (.iconst 1, 1) := by decide +kernel
theorem dX12_findNearest_32 : decode cX12_findNearest 32 = .ok (.isub, 1) := by decide +kernel
theorem dX12_findNearest_33 : decode cX12_findNearest 33 = .ok (.if_icmp .ne 7, 3) := by decide +kernel
theorem dX12_findNearest_36 : decode cX12_findNearest 36 = .ok (.lconst 0, 1) := by decide +kernel
theorem dX12_findNearest_37 : decode cX12_findNearest 37 = .ok (.goto 6, 3) := by decide +kernel
theorem dX12_findNearest_40 : decode cX12_findNearest 40 = .ok (.ldc2_w 237, 3) := by decide +kernel
theorem dX12_findNearest_43 : decode cX12_findNearest 43 = .ok (.lstore 4, 2) := by decide +kernel
theorem dX12_findNearest_45 : decode cX12_findNearest 45 = .ok (.iload_n 1, 1) := by decide +kernel
theorem dX12_findNearest_46 : decode cX12_findNearest 46 = .ok (.ineg, 1) := by decide +kernel
theorem dX12_findNearest_47 : decode cX12_findNearest 47 = .ok (.istore 6, 2) := by decide +kernel
theorem dX12_findNearest_49 : decode cX12_findNearest 49 = .ok (.iload 6, 2) := by decide +kernel
theorem dX12_findNearest_51 : decode cX12_findNearest 51 = .ok (.iload_n 1, 1) := by decide +kernel
theorem dX12_findNearest_52 : decode cX12_findNearest 52 = .ok (.if_icmp .gt 75, 3) := by decide +kernel
theorem dX12_findNearest_55 : decode cX12_findNearest 55 = .ok (.iload_n 2, 1) := by decide +kernel
theorem dX12_findNearest_56 : decode cX12_findNearest 56 = .ok (.aload_n 0, 1) := by decide +kernel
theorem dX12_findNearest_57 : decode cX12_findNearest 57 = .ok (.getfield 13, 3) := by decide +kernel
theorem dX12_findNearest_60 : decode cX12_findNearest 60 = .ok (.iconst 1, 1) := by decide +kernel
theorem dX12_findNearest_61 : decode cX12_findNearest 61 = .ok (.isub, 1) := by decide +kernel
theorem dX12_findNearest_62 : decode cX12_findNearest 62 = .ok (.if_icmp .ge 65, 3) := by decide +kernel
theorem dX12_findNearest_65 : decode cX12_findNearest 65 = .ok (.aload_n 0, 1) := by decide +kernel
theorem dX12_findNearest_66 : decode cX12_findNearest 66 = .ok (.getfield 64, 3) := by decide +kernel
theorem dX12_findNearest_69 : decode cX12_findNearest 69 = .ok (.bipush 121, 2) := by decide +kernel
theorem dX12_findNearest_71 : decode cX12_findNearest 71 = .ok (.iload_n 2, 1) := by decide +kernel
theorem dX12_findNearest_72 : decode cX12_findNearest 72 = .ok (.iconst 1, 1) := by decide +kernel
theorem dX12_findNearest_73 : decode cX12_findNearest 73 = .ok (.iadd, 1) := by decide +kernel
theorem dX12_findNearest_74 : decode cX12_findNearest 74 = .ok (.imul, 1) := by decide +kernel
theorem dX12_findNearest_75 : decode cX12_findNearest 75 = .ok (.iload 6, 2) := by decide +kernel
theorem dX12_findNearest_77 : decode cX12_findNearest 77 = .ok (.iadd, 1) := by decide +kernel
theorem dX12_findNearest_78 : decode cX12_findNearest 78 = .ok (.bipush 60, 2) := by decide +kernel
theorem dX12_findNearest_80 : decode cX12_findNearest 80 = .ok (.iadd, 1) := by decide +kernel
theorem dX12_findNearest_81 : decode cX12_findNearest 81 = .ok (.laload, 1) := by decide +kernel
theorem dX12_findNearest_82 : decode cX12_findNearest 82 = .ok (.lstore 7, 2) := by decide +kernel
theorem dX12_findNearest_84 : decode cX12_findNearest 84 = .ok (.aload_n 0, 1) := by decide +kernel
theorem dX12_findNearest_85 : decode cX12_findNearest 85 = .ok (.iload_n 2, 1) := by decide +kernel
theorem dX12_findNearest_86 : decode cX12_findNearest 86 = .ok (.iconst 1, 1) := by decide +kernel
theorem dX12_findNearest_87 : decode cX12_findNearest 87 = .ok (.iadd, 1) := by decide +kernel
theorem dX12_findNearest_88 : decode cX12_findNearest 88 = .ok (.iload 6, 2) := by decide +kernel
theorem dX12_findNearest_90 : decode cX12_findNearest 90 = .ok (.iload_n 3, 1) := by decide +kernel
theorem dX12_findNearest_91 : decode cX12_findNearest 91 = .ok (.invokevirtual 239, 3) := by decide +kernel
theorem dX12_findNearest_94 : decode cX12_findNearest 94 = .ok (.ifCond .eq 23, 3) := by decide +kernel
theorem dX12_findNearest_97 : decode cX12_findNearest 97 = .ok (.lload 4, 2) := by decide +kernel
theorem dX12_findNearest_99 : decode cX12_findNearest 99 = .ok (.lconst 0, 1) := by decide +kernel
theorem dX12_findNearest_100 : decode cX12_findNearest 100 = .ok (.lcmp, 1) := by decide +kernel
theorem dX12_findNearest_101 : decode cX12_findNearest 101 = .ok (.ifCond .lt 11, 3) := by decide +kernel
theorem dX12_findNearest_104 : decode cX12_findNearest 104 = .ok (.lload 7, 2) := by decide +kernel
theorem dX12_findNearest_106 : decode cX12_findNearest 106 = .ok (.lload 4, 2) := by decide +kernel
theorem dX12_findNearest_108 : decode cX12_findNearest 108 = .ok (.lcmp, 1) := by decide +kernel
theorem dX12_findNearest_109 : decode cX12_findNearest 109 = .ok (.ifCond .ge 8, 3) := by decide +kernel
theorem dX12_findNearest_112 : decode cX12_findNearest 112 = .ok (.lload 7, 2) := by decide +kernel
theorem dX12_findNearest_114 : decode cX12_findNearest 114 = .ok (.goto 5, 3) := by decide +kernel
theorem dX12_findNearest_117 : decode cX12_findNearest 117 = .ok (.lload 4, 2) := by decide +kernel
theorem dX12_findNearest_119 : decode cX12_findNearest 119 = .ok (.lstore 4, 2) := by decide +kernel
theorem dX12_findNearest_121 : decode cX12_findNearest 121 = .ok (.iinc 6 1, 3) := by decide +kernel
theorem dX12_findNearest_124 : decode cX12_findNearest 124 = .ok (.goto (-75), 3) := by decide +kernel
theorem dX12_findNearest_127 : decode cX12_findNearest 127 = .ok (.iload_n 3, 1) := by decide +kernel
theorem dX12_findNearest_128 : decode cX12_findNearest 128 = .ok (.aload_n 0, 1) := by decide +kernel
theorem dX12_findNearest_129 : decode cX12_findNearest 129 = .ok (.getfield 67, 3) := by decide +kernel
theorem dX12_findNearest_132 : decode cX12_findNearest 132 = .ok (.iload_n 2, 1) := by decide +kernel
theorem dX12_findNearest_133 : decode cX12_findNearest 133 = .ok (.iaload, 1) := by decide +kernel
theorem dX12_findNearest_134 : decode cX12_findNearest 134 = .ok (.isub, 1) := by decide +kernel
theorem dX12_findNearest_135 : decode cX12_findNearest 135 = .ok (.i2l, 1) := by decide +kernel
theorem dX12_findNearest_136 : decode cX12_findNearest 136 = .ok (.lstore 6, 2) := by decide +kernel
theorem dX12_findNearest_138 : decode cX12_findNearest 138 = .ok (.aload_n 0, 1) := by decide +kernel
theorem dX12_findNearest_139 : decode cX12_findNearest 139 = .ok (.getfield 64, 3) := by decide +kernel
theorem dX12_findNearest_142 : decode cX12_findNearest 142 = .ok (.bipush 121, 2) := by decide +kernel
theorem dX12_findNearest_144 : decode cX12_findNearest 144 = .ok (.iload_n 2, 1) := by decide +kernel
theorem dX12_findNearest_145 : decode cX12_findNearest 145 = .ok (.imul, 1) := by decide +kernel
theorem dX12_findNearest_146 : decode cX12_findNearest 146 = .ok (.iload_n 3, 1) := by decide +kernel
theorem dX12_findNearest_147 : decode cX12_findNearest 147 = .ok (.iadd, 1) := by decide +kernel
theorem dX12_findNearest_148 : decode cX12_findNearest 148 = .ok (.bipush 60, 2) := by decide +kernel
theorem dX12_findNearest_150 : decode cX12_findNearest 150 = .ok (.iadd, 1) := by decide +kernel
theorem dX12_findNearest_151 : decode cX12_findNearest 151 = .ok (.lload 6, 2) := by decide +kernel
theorem dX12_findNearest_153 : decode cX12_findNearest 153 = .ok (.lload 6, 2) := by decide +kernel
theorem dX12_findNearest_155 : decode cX12_findNearest 155 = .ok (.lmul, 1) := by decide +kernel
theorem dX12_findNearest_156 : decode cX12_findNearest 156 = .ok (.lload 4, 2) := by decide +kernel
theorem dX12_findNearest_158 : decode cX12_findNearest 158 = .ok (.ladd, 1) := by decide +kernel
theorem dX12_findNearest_159 : decode cX12_findNearest 159 = .ok (.lastore, 1) := by decide +kernel
theorem dX12_findNearest_160 : decode cX12_findNearest 160 = .ok (.iinc 3 1, 3) := by decide +kernel
theorem dX12_findNearest_163 : decode cX12_findNearest 163 = .ok (.goto (-142), 3) := by decide +kernel
theorem dX12_findNearest_166 : decode cX12_findNearest 166 = .ok (.iinc 2 (-1), 3) := by decide +kernel
theorem dX12_findNearest_169 : decode cX12_findNearest 169 = .ok (.goto (-155), 3) := by decide +kernel
theorem dX12_findNearest_172 : decode cX12_findNearest 172 = .ok (.iconst 0, 1) := by decide +kernel
theorem dX12_findNearest_173 : decode cX12_findNearest 173 = .ok (.istore_n 2, 1) := by decide +kernel
theorem dX12_findNearest_174 : decode cX12_findNearest 174 = .ok (.iload_n 2, 1) := by decide +kernel
theorem dX12_findNearest_175 : decode cX12_findNearest 175 = .ok (.aload_n 0, 1) := by decide +kernel
theorem dX12_findNearest_176 : decode cX12_findNearest 176 = .ok (.getfield 13, 3) := by decide +kernel
theorem dX12_findNearest_179 : decode cX12_findNearest 179 = .ok (.if_icmp .ge 95, 3) := by decide +kernel
theorem dX12_findNearest_182 : decode cX12_findNearest 182 = .ok (.iconst 0, 1) := by decide +kernel
theorem dX12_findNearest_183 : decode cX12_findNearest 183 = .ok (.istore_n 3, 1) := by decide +kernel
theorem dX12_findNearest_184 : decode cX12_findNearest 184 = .ok (.lconst 0, 1) := by decide +kernel
theorem dX12_findNearest_185 : decode cX12_findNearest 185 = .ok (.lstore 4, 2) := by decide +kernel
theorem dX12_findNearest_187 : decode cX12_findNearest 187 = .ok (.iload_n 1, 1) := by decide +kernel
theorem dX12_findNearest_188 : decode cX12_findNearest 188 = .ok (.ineg, 1) := by decide +kernel
theorem dX12_findNearest_189 : decode cX12_findNearest 189 = .ok (.istore 6, 2) := by decide +kernel
theorem dX12_findNearest_191 : decode cX12_findNearest 191 = .ok (.iload 6, 2) := by decide +kernel
theorem dX12_findNearest_193 : decode cX12_findNearest 193 = .ok (.iload_n 1, 1) := by decide +kernel
theorem dX12_findNearest_194 : decode cX12_findNearest 194 = .ok (.if_icmp .gt 74, 3) := by decide +kernel
theorem dX12_findNearest_197 : decode cX12_findNearest 197 = .ok (.aload_n 0, 1) := by decide +kernel
theorem dX12_findNearest_198 : decode cX12_findNearest 198 = .ok (.getfield 64, 3) := by decide +kernel
theorem dX12_findNearest_201 : decode cX12_findNearest 201 = .ok (.bipush 121, 2) := by decide +kernel
theorem dX12_findNearest_203 : decode cX12_findNearest 203 = .ok (.iload_n 2, 1) := by decide +kernel
theorem dX12_findNearest_204 : decode cX12_findNearest 204 = .ok (.imul, 1) := by decide +kernel
theorem dX12_findNearest_205 : decode cX12_findNearest 205 = .ok (.iload 6, 2) := by decide +kernel
theorem dX12_findNearest_207 : decode cX12_findNearest 207 = .ok (.iadd, 1) := by decide +kernel
theorem dX12_findNearest_208 : decode cX12_findNearest 208 = .ok (.bipush 60, 2) := by decide +kernel
theorem dX12_findNearest_210 : decode cX12_findNearest 210 = .ok (.iadd, 1) := by decide +kernel
theorem dX12_findNearest_211 : decode cX12_findNearest 211 = .ok (.laload, 1) := by decide +kernel
theorem dX12_findNearest_212 : decode cX12_findNearest 212 = .ok (.lstore 7, 2) := by decide +kernel
theorem dX12_findNearest_214 : decode cX12_findNearest 214 = .ok (.iload_n 2, 1) := by decide +kernel
theorem dX12_findNearest_215 : decode cX12_findNearest 215 = .ok (.ifCond .eq 21, 3) := by decide +kernel
theorem dX12_findNearest_218 : decode cX12_findNearest 218 = .ok (.aload_n 0, 1) := by decide +kernel
theorem dX12_findNearest_219 : decode cX12_findNearest 219 = .ok (.iload_n 2, 1) := by decide +kernel
theorem dX12_findNearest_220 : decode cX12_findNearest 220 = .ok (.iload 6, 2) := by decide +kernel
theorem dX12_findNearest_222 : decode cX12_findNearest 222 = .ok (.aload_n 0, 1) := by decide +kernel
theorem dX12_findNearest_223 : decode cX12_findNearest 223 = .ok (.getfield 70, 3) := by decide +kernel
theorem dX12_findNearest_226 : decode cX12_findNearest 226 = .ok (.iload_n 2, 1) := by decide +kernel
theorem dX12_findNearest_227 : decode cX12_findNearest 227 = .ok (.iconst 1, 1) := by decide +kernel
theorem dX12_findNearest_228 : decode cX12_findNearest 228 = .ok (.isub, 1) := by decide +kernel
theorem dX12_findNearest_229 : decode cX12_findNearest 229 = .ok (.iaload, 1) := by decide +kernel
theorem dX12_findNearest_230 : decode cX12_findNearest 230 = .ok (.invokevirtual 239, 3) := by decide +kernel
theorem dX12_findNearest_233 : decode cX12_findNearest 233 = .ok (.ifCond .eq 29, 3) := by decide +kernel
theorem dX12_findNearest_236 : decode cX12_findNearest 236 = .ok (.iload_n 3, 1) := by decide +kernel
theorem dX12_findNearest_237 : decode cX12_findNearest 237 = .ok (.ifCond .eq 11, 3) := by decide +kernel
theorem dX12_findNearest_240 : decode cX12_findNearest 240 = .ok (.lload 7, 2) := by decide +kernel
theorem dX12_findNearest_242 : decode cX12_findNearest 242 = .ok (.lload 4, 2) := by decide +kernel
theorem dX12_findNearest_244 : decode cX12_findNearest 244 = .ok (.lcmp, 1) := by decide +kernel
theorem dX12_findNearest_245 : decode cX12_findNearest 245 = .ok (.ifCond .ge 17, 3) := by decide +kernel
theorem dX12_findNearest_248 : decode cX12_findNearest 248 = .ok (.iconst 1, 1) := by decide +kernel
theorem dX12_findNearest_249 : decode cX12_findNearest 249 = .ok (.istore_n 3, 1) := by decide +kernel
theorem dX12_findNearest_250 : decode cX12_findNearest 250 = .ok (.lload 7, 2) := by decide +kernel
theorem dX12_findNearest_252 : decode cX12_findNearest 252 = .ok (.lstore 4, 2) := by decide +kernel
theorem dX12_findNearest_254 : decode cX12_findNearest 254 = .ok (.aload_n 0, 1) := by decide +kernel
theorem dX12_findNearest_255 : decode cX12_findNearest 255 = .ok (.getfield 70, 3) := by decide +kernel
theorem dX12_findNearest_258 : decode cX12_findNearest 258 = .ok (.iload_n 2, 1) := by decide +kernel
theorem dX12_findNearest_259 : decode cX12_findNearest 259 = .ok (.iload 6, 2) := by decide +kernel
theorem dX12_findNearest_261 : decode cX12_findNearest 261 = .ok (.iastore, 1) := by decide +kernel
theorem dX12_findNearest_262 : decode cX12_findNearest 262 = .ok (.iinc 6 1, 3) := by decide +kernel
theorem dX12_findNearest_265 : decode cX12_findNearest 265 = .ok (.goto (-74), 3) := by decide +kernel
theorem dX12_findNearest_268 : decode cX12_findNearest 268 = .ok (.iinc 2 1, 3) := by decide +kernel
theorem dX12_findNearest_271 : decode cX12_findNearest 271 = .ok (.goto (-97), 3) := by decide +kernel
theorem dX12_findNearest_274 : decode cX12_findNearest 274 = .ok (.aload_n 0, 1) := by decide +kernel
theorem dX12_findNearest_275 : decode cX12_findNearest 275 = .ok (.getfield 64, 3) := by decide +kernel
theorem dX12_findNearest_278 : decode cX12_findNearest 278 = .ok (.aload_n 0, 1) := by decide +kernel
theorem dX12_findNearest_279 : decode cX12_findNearest 279 = .ok (.getfield 70, 3) := by decide +kernel
theorem dX12_findNearest_282 : decode cX12_findNearest 282 = .ok (.iconst 0, 1) := by decide +kernel
theorem dX12_findNearest_283 : decode cX12_findNearest 283 = .ok (.iaload, 1) := by decide +kernel
theorem dX12_findNearest_284 : decode cX12_findNearest 284 = .ok (.bipush 60, 2) := by decide +kernel
theorem dX12_findNearest_286 : decode cX12_findNearest 286 = .ok (.iadd, 1) := by decide +kernel
theorem dX12_findNearest_287 : decode cX12_findNearest 287 = .ok (.laload, 1) := by decide +kernel
theorem dX12_findNearest_288 : decode cX12_findNearest 288 = .ok (.lreturn, 1) := by decide +kernel
set_option maxRecDepth 20000 in
theorem ggX12_nearestToWholes_X12_findWholes : GoodIn wsX12_nearestToWholes wsX12_findWholes := goodIn_r _ [8, 1, 9, 10, 11, 3, 12, 13, 14, 7, 15, 16, 17, 18, 19, 20, 21, 22, 23, 24, 25, 26, 27, 28, 29, 30, 31, 32, 33, 34, 35, 36, 37, 38, 39, 40, 41, 42, 43, 44, 45, 46, 47, 48, 49, 50, 51, 52, 53, 54, 55, 56, 57, 58, 59, 60, 61, 62, 63, 64, 65, 66, 81, 82, 83, 84, 85, 86, 87, 88, 89, 90, 91, 92, 93, 94, 95, 96, 97, 98, 99, 100, 101, 102, 103, 104, 105, 106, 107, 108, 109, 110, 111, 112, 113, 114, 115, 116, 117, 118, 119, 120, 121] (by decide +kernel) (by decide +kernel)
set_option maxRecDepth 20000 in
theorem gX12_nearestToWholes_X12_findWholes : GoodIn wsX12_nearestToWholes (wsV RX12 234 RX12 yX12_findWholes wsX12_findWholes) := goodIn_app (goodIn_of _ (by decide +kernel)) ggX12_nearestToWholes_X12_findWholes
set_option maxRecDepth 20000 in
theorem ggX12_nearestToWholes_X12_findNearest : GoodIn wsX12_nearestToWholes wsX12_findNearest := goodIn_r _ [70, 28, 1, 71, 72, 2, 73, 74, 75, 76, 7, 77, 17, 78, 79, 80, 81, 82, 83, 84, 85, 86, 87, 88, 89, 90, 91, 92, 93, 94, 95, 96, 97, 98, 99, 100, 101, 102, 103, 104, 105, 106, 107, 108, 109, 110, 111, 112, 113, 114, 115, 116, 117, 118, 119, 120, 121] (by decide +kernel) (by decide +kernel)
set_option maxRecDepth 20000 in
theorem gX12_nearestToWholes_X12_findNearest : GoodIn wsX12_nearestToWholes (wsV RX12 243 RX12 yX12_findNearest wsX12_findNearest) := goodIn_app (goodIn_of _ (by decide +kernel)) ggX12_nearestToWholes_X12_findNearest
theorem dX12_nearestToWholes_0 : decode cX12_nearestToWholes 0 = .ok (.aload_n 0, 1) := by decide +kernel
theorem dX12_nearestToWholes_1 : decode cX12_nearestToWholes 1 = .ok (.invokevirtual 234, 3) := by decide +kernel
theorem dX12_nearestToWholes_4 : decode cX12_nearestToWholes 4 = .ok (.iconst 0, 1) := by decide +kernel
theorem dX12_nearestToWholes_5 : decode cX12_nearestToWholes 5 = .ok (.istore_n 1, 1) := by decide +kernel
theorem dX12_nearestToWholes_6 : decode cX12_nearestToWholes 6 = .ok (.iload_n 1, 1) := by decide +kernel
theorem dX12_nearestToWholes_7 : decode cX12_nearestToWholes 7 = .ok (.aload_n 0, 1) := by decide +kernel
theorem dX12_nearestToWholes_8 : decode cX12_nearestToWholes 8 = .ok (.getfield 13, 3) := by decide +kernel
theorem dX12_nearestToWholes_11 : decode cX12_nearestToWholes 11 = .ok (.if_icmp .ge 21, 3) := by decide +kernel
theorem dX12_nearestToWholes_14 : decode cX12_nearestToWholes 14 = .ok (.aload_n 0, 1) := by decide +kernel
theorem dX12_nearestToWholes_15 : decode cX12_nearestToWholes 15 = .ok (.getfield 67, 3) := by decide +kernel
theorem dX12_nearestToWholes_18 : decode cX12_nearestToWholes 18 = .ok (.iload_n 1, 1) := by decide +kernel
theorem dX12_nearestToWholes_19 : decode cX12_nearestToWholes 19 = .ok (.aload_n 0, 1) := by decide +kernel
theorem dX12_nearestToWholes_20 : decode cX12_nearestToWholes 20 = .ok (.getfield 61, 3) := by decide +kernel
theorem dX12_nearestToWholes_23 : decode cX12_nearestToWholes 23 = .ok (.iload_n 1, 1) := by decide +kernel
theorem dX12_nearestToWholes_24 : decode cX12_nearestToWholes 24 = .ok (.iaload, 1) := by decide +kernel
theorem dX12_nearestToWholes_25 : decode cX12_nearestToWholes 25 = .ok (.iastore, 1) := by decide +kernel
theorem dX12_nearestToWholes_26 : decode cX12_nearestToWholes 26 = .ok (.iinc 1 1, 3) := by decide +kernel
theorem dX12_nearestToWholes_29 : decode cX12_nearestToWholes 29 = .ok (.goto (-23), 3) := by decide +kernel
theorem dX12_nearestToWholes_32 : decode cX12_nearestToWholes 32 = .ok (.aload_n 0, 1) := by decide +kernel
theorem dX12_nearestToWholes_33 : decode cX12_nearestToWholes 33 = .ok (.invokevirtual 243, 3) := by decide +kernel
theorem dX12_nearestToWholes_36 : decode cX12_nearestToWholes 36 = .ok (.lreturn, 1) := by decide +kernel
set_option maxRecDepth 20000 in
theorem ggX12_nearest_X12_isPart : GoodIn wsX12_nearest wsX12_isPart := goodIn_r _ [6, 7, 8, 9, 5, 10, 89, 90, 91, 92, 93, 94, 95, 96, 97, 98, 99, 100, 101, 102, 103, 104, 105, 106, 107, 108, 109, 110, 111, 112, 113, 114, 115, 116, 117, 118, 119, 120, 121, 122, 123, 124, 125, 126, 127, 128, 129] (by decide +kernel) (by decide +kernel)
set_option maxRecDepth 20000 in
theorem gX12_nearest_X12_isPart : GoodIn wsX12_nearest (wsV RX12 167 RX12 yX12_isPart wsX12_isPart) := goodIn_app (goodIn_of _ (by decide +kernel)) ggX12_nearest_X12_isPart
set_option maxRecDepth 20000 in
theorem ggX12_nearest_X12_nearestToWholes : GoodIn wsX12_nearest wsX12_nearestToWholes := goodIn_r _ [14, 7, 15, 16, 17, 18, 19, 5, 20, 21, 22, 23, 24, 25, 26, 27, 28, 29, 30, 31, 32, 33, 34, 35, 36, 37, 38, 39, 40, 41, 42, 43, 44, 45, 46, 47, 48, 49, 50, 51, 52, 53, 54, 55, 56, 57, 58, 59, 60, 61, 62, 63, 64, 65, 66, 67, 68, 69, 70, 71, 72, 73, 74, 75, 76, 77, 78, 79, 80, 81, 82, 83, 84, 1, 85, 86, 87, 88, 8, 9, 10, 89, 90, 91, 92, 93, 94, 95, 96, 97, 98, 99, 100, 101, 102, 103, 104, 105, 106, 107, 108, 109, 110, 111, 112, 113, 114, 115, 116, 117, 118, 119, 120, 121, 122, 123, 124, 125, 126, 127, 128, 129] (by decide +kernel) (by decide +kernel)
set_option maxRecDepth 20000 in
theorem gX12_nearest_X12_nearestToWholes : GoodIn wsX12_nearest (wsV RX12 247 RX12 yX12_nearestToWholes wsX12_nearestToWholes) := goodIn_app (goodIn_of _ (by decide +kernel)) ggX12_nearest_X12_nearestToWholes
theorem dX12_nearest_0 : decode cX12_nearest 0 = .ok (.aload_n 0, 1) := by decide +kernel
theorem dX12_nearest_1 : decode cX12_nearest 1 = .ok (.iload_n 1, 1) := by decide +kernel
theorem dX12_nearest_2 : decode cX12_nearest 2 = .ok (.invokevirtual 167, 3) := by decide +kernel
theorem dX12_nearest_5 : decode cX12_nearest 5 = .ok (.ifCond .ne 7, 3) := by decide +kernel
theorem dX12_nearest_8 : decode cX12_nearest 8 = .ok (.sipush (-10001), 3) := by decide +kernel
theorem dX12_nearest_11 : decode cX12_nearest 11 = .ok (.ireturn, 1) := by decide +kernel
theorem dX12_nearest_12 : decode cX12_nearest 12 = .ok (.aload_n 0, 1) := by decide +kernel
theorem dX12_nearest_13 : decode cX12_nearest 13 = .ok (.invokevirtual 247, 3) := by decide +kernel
theorem dX12_nearest_16 : decode cX12_nearest 16 = .ok (.lconst 0, 1) := by decide +kernel
theorem dX12_nearest_17 : decode cX12_nearest 17 = .ok (.lcmp, 1) := by decide +kernel
theorem dX12_nearest_18 : decode cX12_nearest 18 = .ok (.ifCond .ge 7, 3) := by decide +kernel
theorem dX12_nearest_21 : decode cX12_nearest 21 = .ok (.iconst 0, 1) := by decide +kernel
theorem dX12_nearest_22 : decode cX12_nearest 22 = .ok (.goto 9, 3) := by decide +kernel
theorem dX12_nearest_25 : decode cX12_nearest 25 = .ok (.aload_n 0, 1) := by decide +kernel
theorem dX12_nearest_26 : decode cX12_nearest 26 = .ok (.getfield 70, 3) := by decide +kernel
theorem dX12_nearest_29 : decode cX12_nearest 29 = .ok (.iload_n 1, 1) := by decide +kernel
theorem dX12_nearest_30 : decode cX12_nearest 30 = .ok (.iaload, 1) := by decide +kernel
theorem dX12_nearest_31 : decode cX12_nearest 31 = .ok (.ireturn, 1) := by decide +kernel
set_option maxRecDepth 20000 in
theorem ggX12_off_X12_nearestToWholes : GoodIn wsX12_off wsX12_nearestToWholes := goodIn_r _ [5, 6, 7, 8, 9, 10, 11, 4, 12, 13, 14, 15, 16, 17, 18, 19, 20, 21, 22, 23, 24, 25, 26, 27, 28, 29, 30, 31, 32, 33, 34, 35, 36, 37, 38, 39, 40, 41, 42, 43, 44, 45, 46, 47, 48, 49, 50, 51, 52, 53, 54, 55, 56, 57, 58, 59, 60, 61, 62, 63, 64, 65, 66, 67, 68, 69, 70, 71, 72, 73, 74, 75, 76, 77, 78, 79, 80, 81, 82, 83, 84, 85, 86, 87, 88, 89, 90, 91, 92, 93, 94, 95, 96, 97, 98, 99, 100, 101, 102, 103, 104, 105, 106, 107, 108, 109, 110, 111, 112, 113, 114, 115, 116, 117, 118, 119, 120, 121, 122, 123, 124, 125] (by decide +kernel) (by decide +kernel)
set_option maxRecDepth 20000 in
theorem gX12_off_X12_nearestToWholes : GoodIn wsX12_off (wsV RX12 247 RX12 yX12_nearestToWholes wsX12_nearestToWholes) := goodIn_app (goodIn_of _ (by decide +kernel)) ggX12_off_X12_nearestToWholes
theorem dX12_off_0 : decode cX12_off 0 = .ok (.aload_n 0, 1) := by decide +kernel
theorem dX12_off_1 : decode cX12_off 1 = .ok (.invokevirtual 247, 3) := by decide +kernel
theorem dX12_off_4 : decode cX12_off 4 = .ok (.lreturn, 1) := by decide +kernel
theorem dX12_become_0 : decode cX12_become 0 = .ok (.aload_n 0, 1) := by decide +kernel
theorem dX12_become_1 : decode cX12_become 1 = .ok (.iload_n 1, 1) := by decide +kernel
theorem dX12_become_2 : decode cX12_become 2 = .ok (.putfield 116, 3) := by decide +kernel
theorem dX12_become_5 : decode cX12_become 5 = .ok (.aload_n 0, 1) := by decide +kernel
theorem dX12_become_6 : decode cX12_become 6 = .ok (.iconst 0, 1) := by decide +kernel
theorem dX12_become_7 : decode cX12_become 7 = .ok (.putfield 119, 3) := by decide +kernel
theorem dX12_become_10 : decode cX12_become 10 = .ok (.aload_n 0, 1) := by decide +kernel
theorem dX12_become_11 : decode cX12_become 11 = .ok (.iconst 0, 1) := by decide +kernel
theorem dX12_become_12 : decode cX12_become 12 = .ok (.putfield 122, 3) := by decide +kernel
theorem dX12_become_15 : decode cX12_become 15 = .ok (.return_, 1) := by decide +kernel
set_option maxRecDepth 20000 in
theorem ggX12_start_X12_become : GoodIn wsX12_start wsX12_become := goodIn_r _ [6, 1, 7, 8, 9, 10, 11, 12, 13, 14, 15, 16, 17, 18, 19, 20, 21, 22, 23, 24, 25, 26, 27, 28, 29, 30, 31, 32, 33, 34, 35, 36, 37, 38, 39, 40, 41, 42, 43, 44, 45, 46, 47, 48, 49] (by decide +kernel) (by decide +kernel)
set_option maxRecDepth 20000 in
theorem gX12_start_X12_become : GoodIn wsX12_start (wsV RX12 250 RX12 yX12_become wsX12_become) := goodIn_app (goodIn_of _ (by decide +kernel)) ggX12_start_X12_become
theorem dX12_start_0 : decode cX12_start 0 = .ok (.aload_n 0, 1) := by decide +kernel
theorem dX12_start_1 : decode cX12_start 1 = .ok (.getfield 116, 3) := by decide +kernel
theorem dX12_start_4 : decode cX12_start 4 = .ok (.ifCond .eq 6, 3) := by decide +kernel
theorem dX12_start_7 : decode cX12_start 7 = .ok (.bipush (-2), 2) := by decide +kernel
theorem dX12_start_9 : decode cX12_start 9 = .ok (.ireturn, 1) := by decide +kernel
theorem dX12_start_10 : decode cX12_start 10 = .ok (.aload_n 0, 1) := by decide +kernel
theorem dX12_start_11 : decode cX12_start 11 = .ok (.iconst 1, 1) := by decide +kernel
theorem dX12_start_12 : decode cX12_start 12 = .ok (.invokevirtual 250, 3) := by decide +kernel
theorem dX12_start_15 : decode cX12_start 15 = .ok (.iconst 1, 1) := by decide +kernel
theorem dX12_start_16 : decode cX12_start 16 = .ok (.ireturn, 1) := by decide +kernel
set_option maxRecDepth 20000 in
theorem ggX12_stop_X12_become : GoodIn wsX12_stop wsX12_become := goodIn_r _ [6, 1, 7, 8, 9, 10, 11, 12, 13, 14, 15, 16, 17, 18, 19, 20, 21, 22, 23, 24, 25, 26, 27, 28, 29, 30, 31, 32, 33, 34, 35, 36, 37, 38, 39, 40, 41, 42, 43, 44, 45, 46, 47, 48, 49] (by decide +kernel) (by decide +kernel)
set_option maxRecDepth 20000 in
theorem gX12_stop_X12_become : GoodIn wsX12_stop (wsV RX12 250 RX12 yX12_become wsX12_become) := goodIn_app (goodIn_of _ (by decide +kernel)) ggX12_stop_X12_become
theorem dX12_stop_0 : decode cX12_stop 0 = .ok (.aload_n 0, 1) := by decide +kernel
theorem dX12_stop_1 : decode cX12_stop 1 = .ok (.getfield 116, 3) := by decide +kernel
theorem dX12_stop_4 : decode cX12_stop 4 = .ok (.istore_n 1, 1) := by decide +kernel
theorem dX12_stop_5 : decode cX12_stop 5 = .ok (.aload_n 0, 1) := by decide +kernel
theorem dX12_stop_6 : decode cX12_stop 6 = .ok (.iconst 0, 1) := by decide +kernel
theorem dX12_stop_7 : decode cX12_stop 7 = .ok (.invokevirtual 250, 3) := by decide +kernel
theorem dX12_stop_10 : decode cX12_stop 10 = .ok (.iload_n 1, 1) := by decide +kernel
theorem dX12_stop_11 : decode cX12_stop 11 = .ok (.ireturn, 1) := by decide +kernel
theorem dX12_unitsAll_0 : decode cX12_unitsAll 0 = .ok (.iconst 0, 1) := by decide +kernel
theorem dX12_unitsAll_1 : decode cX12_unitsAll 1 = .ok (.istore_n 1, 1) := by decide +kernel
theorem dX12_unitsAll_2 : decode cX12_unitsAll 2 = .ok (.iconst 0, 1) := by decide +kernel
theorem dX12_unitsAll_3 : decode cX12_unitsAll 3 = .ok (.istore_n 2, 1) := by decide +kernel
theorem dX12_unitsAll_4 : decode cX12_unitsAll 4 = .ok (.iload_n 2, 1) := by decide +kernel
theorem dX12_unitsAll_5 : decode cX12_unitsAll 5 = .ok (.aload_n 0, 1) := by decide +kernel
theorem dX12_unitsAll_6 : decode cX12_unitsAll 6 = .ok (.getfield 13, 3) := by decide +kernel
theorem dX12_unitsAll_9 : decode cX12_unitsAll 9 = .ok (.if_icmp .ge 18, 3) := by decide +kernel
theorem dX12_unitsAll_12 : decode cX12_unitsAll 12 = .ok (.iload_n 1, 1) := by decide +kernel
theorem dX12_unitsAll_13 : decode cX12_unitsAll 13 = .ok (.aload_n 0, 1) := by decide +kernel
theorem dX12_unitsAll_14 : decode cX12_unitsAll 14 = .ok (.getfield 73, 3) := by decide +kernel
theorem dX12_unitsAll_17 : decode cX12_unitsAll 17 = .ok (.iload_n 2, 1) := by decide +kernel
theorem dX12_unitsAll_18 : decode cX12_unitsAll 18 = .ok (.iaload, 1) := by decide +kernel
theorem dX12_unitsAll_19 : decode cX12_unitsAll 19 = .ok (.iadd, 1) := by decide +kernel
theorem dX12_unitsAll_20 : decode cX12_unitsAll 20 = .ok (.istore_n 1, 1) := by decide +kernel
theorem dX12_unitsAll_21 : decode cX12_unitsAll 21 = .ok (.iinc 2 1, 3) := by decide +kernel
theorem dX12_unitsAll_24 : decode cX12_unitsAll 24 = .ok (.goto (-20), 3) := by decide +kernel
theorem dX12_unitsAll_27 : decode cX12_unitsAll 27 = .ok (.iload_n 1, 1) := by decide +kernel
theorem dX12_unitsAll_28 : decode cX12_unitsAll 28 = .ok (.ireturn, 1) := by decide +kernel
set_option maxRecDepth 20000 in
theorem ggX12_bendMore_X12_findWholes : GoodIn wsX12_bendMore wsX12_findWholes := goodIn_r _ [11, 1, 12, 13, 14, 5, 15, 16, 17, 10, 18, 19, 20, 21, 22, 23, 24, 25, 26, 27, 28, 29, 30, 4, 31, 32, 33, 34, 35, 36, 37, 38, 39, 40, 41, 42, 43, 44, 45, 46, 47, 48, 49, 50, 51, 52, 53, 54, 55, 56, 57, 58, 59, 60, 61, 62, 63, 64, 65, 66, 67, 68, 82, 83, 84, 85, 86, 87, 88, 89, 90, 91, 92, 93, 94, 95, 96, 97, 98, 99, 100, 101, 102, 103, 104, 105, 106, 107, 108, 109, 110, 111, 112, 113, 114, 115, 116, 117, 118, 119, 120, 121, 122] (by decide +kernel) (by decide +kernel)
set_option maxRecDepth 20000 in
theorem gX12_bendMore_X12_findWholes : GoodIn wsX12_bendMore (wsV RX12 234 RX12 yX12_findWholes wsX12_findWholes) := goodIn_app (goodIn_of _ (by decide +kernel)) ggX12_bendMore_X12_findWholes
set_option maxRecDepth 20000 in
theorem ggX12_bendMore_X12_findNearest : GoodIn wsX12_bendMore wsX12_findNearest := goodIn_r _ [72, 4, 1, 73, 74, 2, 6, 75, 76, 77, 10, 78, 20, 79, 80, 81, 82, 83, 84, 85, 86, 87, 88, 89, 90, 91, 92, 93, 94, 95, 96, 97, 98, 99, 100, 101, 102, 103, 104, 105, 106, 107, 108, 109, 110, 111, 112, 113, 114, 115, 116, 117, 118, 119, 120, 121, 122] (by decide +kernel) (by decide +kernel)
set_option maxRecDepth 20000 in
theorem gX12_bendMore_X12_findNearest : GoodIn wsX12_bendMore (wsV RX12 243 RX12 yX12_findNearest wsX12_findNearest) := goodIn_app (goodIn_of _ (by decide +kernel)) ggX12_bendMore_X12_findNearest
theorem dX12_bendMore_0 : decode cX12_bendMore 0 = .ok (.aload_n 0, 1) := by decide +kernel
theorem dX12_bendMore_1 : decode cX12_bendMore 1 = .ok (.invokevirtual 234, 3) := by decide +kernel
theorem dX12_bendMore_4 : decode cX12_bendMore 4 = .ok (.iconst 0, 1) := by decide +kernel
theorem dX12_bendMore_5 : decode cX12_bendMore 5 = .ok (.istore_n 1, 1) := by decide +kernel
theorem dX12_bendMore_6 : decode cX12_bendMore 6 = .ok (.iload_n 1, 1) := by decide +kernel
theorem dX12_bendMore_7 : decode cX12_bendMore 7 = .ok (.aload_n 0, 1) := by decide +kernel
theorem dX12_bendMore_8 : decode cX12_bendMore 8 = .ok (.getfield 13, 3) := by decide +kernel
theorem dX12_bendMore_11 : decode cX12_bendMore 11 = .ok (.if_icmp .ge 38, 3) := by decide +kernel
theorem dX12_bendMore_14 : decode cX12_bendMore 14 = .ok (.aload_n 0, 1) := by decide +kernel
theorem dX12_bendMore_15 : decode cX12_bendMore 15 = .ok (.getfield 67, 3) := by decide +kernel
theorem dX12_bendMore_18 : decode cX12_bendMore 18 = .ok (.iload_n 1, 1) := by decide +kernel
theorem dX12_bendMore_19 : decode cX12_bendMore 19 = .ok (.aload_n 0, 1) := by decide +kernel
theorem dX12_bendMore_20 : decode cX12_bendMore 20 = .ok (.getfield 73, 3) := by decide +kernel
theorem dX12_bendMore_23 : decode cX12_bendMore 23 = .ok (.iload_n 1, 1) := by decide +kernel
theorem dX12_bendMore_24 : decode cX12_bendMore 24 = .ok (.iaload, 1) := by decide +kernel
theorem dX12_bendMore_25 : decode cX12_bendMore 25 = .ok (.aload_n 0, 1) := by decide +kernel
theorem dX12_bendMore_26 : decode cX12_bendMore 26 = .ok (.getfield 26, 3) := by decide +kernel
theorem dX12_bendMore_29 : decode cX12_bendMore 29 = .ok (.iconst 3, 1) := by decide +kernel
theorem dX12_bendMore_30 : decode cX12_bendMore 30 = .ok (.iaload, 1) := by decide +kernel
theorem dX12_bendMore_31 : decode cX12_bendMore 31 = .ok (.aload_n 0, 1) := by decide +kernel
theorem dX12_bendMore_32 : decode cX12_bendMore 32 = .ok (.getfield 61, 3) := by decide +kernel
theorem dX12_bendMore_35 : decode cX12_bendMore 35 = .ok (.iload_n 1, 1) := by decide +kernel
theorem dX12_bendMore_36 : decode cX12_bendMore 36 = .ok (.iaload, 1) := by decide +kernel
theorem dX12_bendMore_37 : decode cX12_bendMore 37 = .ok (.imul, 1) := by decide +kernel
theorem dX12_bendMore_38 : decode cX12_bendMore 38 = .ok (.bipush 100, 2) := by decide +kernel
theorem dX12_bendMore_40 : decode cX12_bendMore 40 = .ok (.idiv, 1) := by decide +kernel
theorem dX12_bendMore_41 : decode cX12_bendMore 41 = .ok (.isub, 1) := by decide +kernel
theorem dX12_bendMore_42 : decode cX12_bendMore 42 = .ok (.iastore, 1) := by decide +kernel
theorem dX12_bendMore_43 : decode cX12_bendMore 43 = .ok (.iinc 1 1, 3) := by decide +kernel
theorem dX12_bendMore_46 : decode cX12_bendMore 46 = .ok (.goto (-40), 3) := by decide +kernel
theorem dX12_bendMore_49 : decode cX12_bendMore 49 = .ok (.aload_n 0, 1) := by decide +kernel
theorem dX12_bendMore_50 : decode cX12_bendMore 50 = .ok (.invokevirtual 243, 3) := by decide +kernel
theorem dX12_bendMore_53 : decode cX12_bendMore 53 = .ok (.lconst 0, 1) := by decide +kernel
theorem dX12_bendMore_54 : decode cX12_bendMore 54 = .ok (.lcmp, 1) := by decide +kernel
theorem dX12_bendMore_55 : decode cX12_bendMore 55 = .ok (.ifCond .lt 31, 3) := by decide +kernel
theorem dX12_bendMore_58 : decode cX12_bendMore 58 = .ok (.iconst 0, 1) := by decide +kernel
theorem dX12_bendMore_59 : decode cX12_bendMore 59 = .ok (.istore_n 1, 1) := by decide +kernel
theorem dX12_bendMore_60 : decode cX12_bendMore 60 = .ok (.iload_n 1, 1) := by decide +kernel
theorem dX12_bendMore_61 : decode cX12_bendMore 61 = .ok (.aload_n 0, 1) := by decide +kernel
theorem dX12_bendMore_62 : decode cX12_bendMore 62 = .ok (.getfield 13, 3) := by decide +kernel
theorem dX12_bendMore_65 : decode cX12_bendMore 65 = .ok (.if_icmp .ge 21, 3) := by decide +kernel
theorem dX12_bendMore_68 : decode cX12_bendMore 68 = .ok (.aload_n 0, 1) := by decide +kernel
theorem dX12_bendMore_69 : decode cX12_bendMore 69 = .ok (.getfield 73, 3) := by decide +kernel
theorem dX12_bendMore_72 : decode cX12_bendMore 72 = .ok (.iload_n 1, 1) := by decide +kernel
theorem dX12_bendMore_73 : decode cX12_bendMore 73 = .ok (.aload_n 0, 1) := by decide +kernel
theorem dX12_bendMore_74 : decode cX12_bendMore 74 = .ok (.getfield 70, 3) := by decide +kernel
theorem dX12_bendMore_77 : decode cX12_bendMore 77 = .ok (.iload_n 1, 1) := by decide +kernel
theorem dX12_bendMore_78 : decode cX12_bendMore 78 = .ok (.iaload, 1) := by decide +kernel
theorem dX12_bendMore_79 : decode cX12_bendMore 79 = .ok (.iastore, 1) := by decide +kernel
theorem dX12_bendMore_80 : decode cX12_bendMore 80 = .ok (.iinc 1 1, 3) := by decide +kernel
theorem dX12_bendMore_83 : decode cX12_bendMore 83 = .ok (.goto (-23), 3) := by decide +kernel
theorem dX12_bendMore_86 : decode cX12_bendMore 86 = .ok (.return_, 1) := by decide +kernel
set_option maxRecDepth 20000 in
theorem ggX12_frame_X12_isLost : GoodIn wsX12_frame wsX12_isLost := goodIn_r _ [15, 2, 16, 17, 18, 14, 19, 20, 21, 22, 23, 24, 101, 102, 103, 104, 105, 106, 107, 108, 109, 110, 111, 112, 113, 114, 115, 116, 117, 118, 119, 120, 121, 122, 123, 124, 125, 126, 127, 128, 129, 130, 131, 132, 133, 134, 135, 136, 137, 138, 139, 140, 141] (by decide +kernel) (by decide +kernel)
set_option maxRecDepth 20000 in
theorem gX12_frame_X12_isLost : GoodIn wsX12_frame (wsV RX12 161 RX12 yX12_isLost wsX12_isLost) := goodIn_app (goodIn_of _ (by decide +kernel)) ggX12_frame_X12_isLost
set_option maxRecDepth 20000 in
theorem ggX12_frame_X12_become : GoodIn wsX12_frame wsX12_become := goodIn_r _ [28, 5, 3, 4, 101, 102, 103, 104, 105, 106, 107, 108, 109, 110, 111, 112, 113, 114, 115, 116, 117, 118, 119, 120, 121, 122, 123, 124, 125, 126, 127, 128, 129, 130, 131, 132, 133, 134, 135, 136, 137, 138, 139, 140, 141] (by decide +kernel) (by decide +kernel)
set_option maxRecDepth 20000 in
theorem gX12_frame_X12_become : GoodIn wsX12_frame (wsV RX12 250 RX12 yX12_become wsX12_become) := goodIn_app (goodIn_of _ (by decide +kernel)) ggX12_frame_X12_become
set_option maxRecDepth 20000 in
theorem ggX12_frame_X12_bendMore : GoodIn wsX12_frame wsX12_bendMore := goodIn_r _ [32, 33, 34, 6, 2, 35, 36, 37, 38, 39, 14, 40, 41, 42, 43, 44, 45, 46, 47, 48, 49, 1, 50, 51, 52, 53, 54, 11, 12, 13, 15, 16, 17, 18, 19, 20, 21, 22, 23, 24, 55, 56, 57, 58, 59, 60, 61, 62, 63, 64, 65, 66, 67, 68, 69, 70, 71, 72, 73, 74, 75, 76, 77, 78, 79, 80, 81, 82, 83, 84, 85, 86, 87, 88, 89, 90, 91, 92, 93, 94, 95, 96, 101, 102, 103, 104, 105, 106, 107, 108, 109, 110, 111, 112, 113, 114, 115, 116, 117, 118, 119, 120, 121, 122, 123, 124, 125, 126, 127, 128, 129, 130, 131, 132, 133, 134, 135, 136, 137, 138, 139, 140, 141] (by decide +kernel) (by decide +kernel)
set_option maxRecDepth 20000 in
theorem gX12_frame_X12_bendMore : GoodIn wsX12_frame (wsV RX12 253 RX12 yX12_bendMore wsX12_bendMore) := goodIn_app (goodIn_of _ (by decide +kernel)) ggX12_frame_X12_bendMore
set_option maxRecDepth 20000 in
theorem ggX12_frame_X12_unitsAll : GoodIn wsX12_frame wsX12_unitsAll := goodIn_r _ [100, 33, 6, 101, 102, 103, 104, 105, 106, 107, 108, 109, 110, 111, 112, 113, 114, 115, 116, 117, 118, 119, 120, 121, 122, 123, 124, 125, 126, 127, 128, 129, 130, 131, 132, 133, 134, 135, 136, 137, 138, 139, 140, 141] (by decide +kernel) (by decide +kernel)
set_option maxRecDepth 20000 in
theorem gX12_frame_X12_unitsAll : GoodIn wsX12_frame (wsV RX12 256 RX12 yX12_unitsAll wsX12_unitsAll) := goodIn_app (goodIn_of _ (by decide +kernel)) ggX12_frame_X12_unitsAll
theorem dX12_frame_0 : decode cX12_frame 0 = .ok (.iconst 0, 1) := by decide +kernel
theorem dX12_frame_1 : decode cX12_frame 1 = .ok (.istore_n 1, 1) := by decide +kernel
theorem dX12_frame_2 : decode cX12_frame 2 = .ok (.iconst 0, 1) := by decide +kernel
theorem dX12_frame_3 : decode cX12_frame 3 = .ok (.istore_n 2, 1) := by decide +kernel
theorem dX12_frame_4 : decode cX12_frame 4 = .ok (.iload_n 2, 1) := by decide +kernel
theorem dX12_frame_5 : decode cX12_frame 5 = .ok (.aload_n 0, 1) := by decide +kernel
theorem dX12_frame_6 : decode cX12_frame 6 = .ok (.getfield 7, 3) := by decide +kernel
theorem dX12_frame_9 : decode cX12_frame 9 = .ok (.if_icmp .ge 25, 3) := by decide +kernel
theorem dX12_frame_12 : decode cX12_frame 12 = .ok (.iload_n 1, 1) := by decide +kernel
theorem dX12_frame_13 : decode cX12_frame 13 = .ok (.aload_n 0, 1) := by decide +kernel
theorem dX12_frame_14 : decode cX12_frame 14 = .ok (.iload_n 2, 1) := by decide +kernel
theorem dX12_frame_15 : decode cX12_frame 15 = .ok (.invokevirtual 161, 3) := by decide +kernel
theorem dX12_frame_18 : decode cX12_frame 18 = .ok (.ifCond .eq 7, 3) := by decide +kernel
theorem dX12_frame_21 : decode cX12_frame 21 = .ok (.iconst 1, 1) := by decide +kernel
theorem dX12_frame_22 : decode cX12_frame 22 = .ok (.goto 4, 3) := by decide +kernel
theorem dX12_frame_25 : decode cX12_frame 25 = .ok (.iconst 0, 1) := by decide +kernel
theorem dX12_frame_26 : decode cX12_frame 26 = .ok (.iadd, 1) := by decide +kernel
theorem dX12_frame_27 : decode cX12_frame 27 = .ok (.istore_n 1, 1) := by decide +kernel
theorem dX12_frame_28 : decode cX12_frame 28 = .ok (.iinc 2 1, 3) := by decide +kernel
theorem dX12_frame_31 : decode cX12_frame 31 = .ok (.goto (-27), 3) := by decide +kernel
theorem dX12_frame_34 : decode cX12_frame 34 = .ok (.iload_n 1, 1) := by decide +kernel
theorem dX12_frame_35 : decode cX12_frame 35 = .ok (.aload_n 0, 1) := by decide +kernel
theorem dX12_frame_36 : decode cX12_frame 36 = .ok (.getfield 26, 3) := by decide +kernel
theorem dX12_frame_39 : decode cX12_frame 39 = .ok (.iconst 2, 1) := by decide +kernel
theorem dX12_frame_40 : decode cX12_frame 40 = .ok (.iaload, 1) := by decide +kernel
theorem dX12_frame_41 : decode cX12_frame 41 = .ok (.if_icmp .gt 7, 3) := by decide +kernel
theorem dX12_frame_44 : decode cX12_frame 44 = .ok (.iconst 1, 1) := by decide +kernel
theorem dX12_frame_45 : decode cX12_frame 45 = .ok (.goto 4, 3) := by decide +kernel
theorem dX12_frame_48 : decode cX12_frame 48 = .ok (.iconst 0, 1) := by decide +kernel
theorem dX12_frame_49 : decode cX12_frame 49 = .ok (.istore_n 2, 1) := by decide +kernel
theorem dX12_frame_50 : decode cX12_frame 50 = .ok (.aload_n 0, 1) := by decide +kernel
theorem dX12_frame_51 : decode cX12_frame 51 = .ok (.iload_n 2, 1) := by decide +kernel
theorem dX12_frame_52 : decode cX12_frame 52 = .ok (.ifCond .eq 12, 3) := by decide +kernel
theorem dX12_frame_55 : decode cX12_frame 55 = .ok (.aload_n 0, 1) := by decide +kernel
theorem dX12_frame_56 : decode cX12_frame 56 = .ok (.getfield 119, 3) := by decide +kernel
theorem dX12_frame_59 : decode cX12_frame 59 = .ok (.iconst 1, 1) := by decide +kernel
theorem dX12_frame_60 : decode cX12_frame 60 = .ok (.iadd, 1) := by decide +kernel
theorem dX12_frame_61 : decode cX12_frame 61 = .ok (.goto 4, 3) := by decide +kernel
theorem dX12_frame_64 : decode cX12_frame 64 = .ok (.iconst 0, 1) := by decide +kernel
theorem dX12_frame_65 : decode cX12_frame 65 = .ok (.putfield 119, 3) := by decide +kernel
theorem dX12_frame_68 : decode cX12_frame 68 = .ok (.aload_n 0, 1) := by decide +kernel
theorem dX12_frame_69 : decode cX12_frame 69 = .ok (.dup, 1) := by decide +kernel
theorem dX12_frame_70 : decode cX12_frame 70 = .ok (.getfield 122, 3) := by decide +kernel
theorem dX12_frame_73 : decode cX12_frame 73 = .ok (.iconst 1, 1) := by decide +kernel
theorem dX12_frame_74 : decode cX12_frame 74 = .ok (.iadd, 1) := by decide +kernel
theorem dX12_frame_75 : decode cX12_frame 75 = .ok (.putfield 122, 3) := by decide +kernel
theorem dX12_frame_78 : decode cX12_frame 78 = .ok (.aload_n 0, 1) := by decide +kernel
theorem dX12_frame_79 : decode cX12_frame 79 = .ok (.getfield 116, 3) := by decide +kernel
theorem dX12_frame_82 : decode cX12_frame 82 = .ok (.iconst 1, 1) := by decide +kernel
theorem dX12_frame_83 : decode cX12_frame 83 = .ok (.if_icmp .ne 19, 3) := by decide +kernel
theorem dX12_frame_86 : decode cX12_frame 86 = .ok (.aload_n 0, 1) := by decide +kernel
theorem dX12_frame_87 : decode cX12_frame 87 = .ok (.getfield 119, 3) := by decide +kernel
theorem dX12_frame_90 : decode cX12_frame 90 = .ok (.iconst 3, 1) := by decide +kernel
theorem dX12_frame_91 : decode cX12_frame 91 = .ok (.if_icmp .ne 96, 3) := by decide +kernel
theorem dX12_frame_94 : decode cX12_frame 94 = .ok (.aload_n 0, 1) := by decide +kernel
theorem dX12_frame_95 : decode cX12_frame 95 = .ok (.iconst 2, 1) := by decide +kernel
theorem dX12_frame_96 : decode cX12_frame 96 = .ok (.invokevirtual 250, 3) := by decide +kernel
theorem dX12_frame_99 : decode cX12_frame 99 = .ok (.goto 88, 3) := by decide +kernel
theorem dX12_frame_102 : decode cX12_frame 102 = .ok (.aload_n 0, 1) := by decide +kernel
theorem dX12_frame_103 : decode cX12_frame 103 = .ok (.getfield 116, 3) := by decide +kernel
theorem dX12_frame_106 : decode cX12_frame 106 = .ok (.iconst 2, 1) := by decide +kernel
theorem dX12_frame_107 : decode cX12_frame 107 = .ok (.if_icmp .ne 22, 3) := by decide +kernel
theorem dX12_frame_110 : decode cX12_frame 110 = .ok (.iload_n 2, 1) := by decide +kernel
theorem dX12_frame_111 : decode cX12_frame 111 = .ok (.ifCond .eq 10, 3) := by decide +kernel
theorem dX12_frame_114 : decode cX12_frame 114 = .ok (.aload_n 0, 1) := by decide +kernel
theorem dX12_frame_115 : decode cX12_frame 115 = .ok (.invokevirtual 253, 3) := by decide +kernel
theorem dX12_frame_118 : decode cX12_frame 118 = .ok (.goto 69, 3) := by decide +kernel
theorem dX12_frame_121 : decode cX12_frame 121 = .ok (.aload_n 0, 1) := by decide +kernel
theorem dX12_frame_122 : decode cX12_frame 122 = .ok (.iconst 3, 1) := by decide +kernel
theorem dX12_frame_123 : decode cX12_frame 123 = .ok (.invokevirtual 250, 3) := by decide +kernel
theorem dX12_frame_126 : decode cX12_frame 126 = .ok (.goto 61, 3) := by decide +kernel
theorem dX12_frame_129 : decode cX12_frame 129 = .ok (.aload_n 0, 1) := by decide +kernel
theorem dX12_frame_130 : decode cX12_frame 130 = .ok (.getfield 116, 3) := by decide +kernel
theorem dX12_frame_133 : decode cX12_frame 133 = .ok (.iconst 3, 1) := by decide +kernel
theorem dX12_frame_134 : decode cX12_frame 134 = .ok (.if_icmp .ne 53, 3) := by decide +kernel
theorem dX12_frame_137 : decode cX12_frame 137 = .ok (.aload_n 0, 1) := by decide +kernel
theorem dX12_frame_138 : decode cX12_frame 138 = .ok (.getfield 119, 3) := by decide +kernel
theorem dX12_frame_141 : decode cX12_frame 141 = .ok (.iconst 5, 1) := by decide +kernel
theorem dX12_frame_142 : decode cX12_frame 142 = .ok (.if_icmp .ne 11, 3) := by decide +kernel
theorem dX12_frame_145 : decode cX12_frame 145 = .ok (.aload_n 0, 1) := by decide +kernel
theorem dX12_frame_146 : decode cX12_frame 146 = .ok (.iconst 2, 1) := by decide +kernel
theorem dX12_frame_147 : decode cX12_frame 147 = .ok (.invokevirtual 250, 3) := by decide +kernel
theorem dX12_frame_150 : decode cX12_frame 150 = .ok (.goto 37, 3) := by decide +kernel
theorem dX12_frame_153 : decode cX12_frame 153 = .ok (.aload_n 0, 1) := by decide +kernel
theorem dX12_frame_154 : decode cX12_frame 154 = .ok (.getfield 122, 3) := by decide +kernel
theorem dX12_frame_157 : decode cX12_frame 157 = .ok (.bipush 20, 2) := by decide +kernel
theorem dX12_frame_159 : decode cX12_frame 159 = .ok (.if_icmp .ne 28, 3) := by decide +kernel
theorem dX12_frame_162 : decode cX12_frame 162 = .ok (.aload_n 0, 1) := by decide +kernel
theorem dX12_frame_163 : decode cX12_frame 163 = .ok (.iconst 0, 1) := by decide +kernel
theorem dX12_frame_164 : decode cX12_frame 164 = .ok (.invokevirtual 250, 3) := by decide +kernel
theorem dX12_frame_167 : decode cX12_frame 167 = .ok (.iconst 0, 1) := by decide +kernel
theorem dX12_frame_168 : decode cX12_frame 168 = .ok (.istore_n 3, 1) := by decide +kernel
theorem dX12_frame_169 : decode cX12_frame 169 = .ok (.iload_n 3, 1) := by decide +kernel
theorem dX12_frame_170 : decode cX12_frame 170 = .ok (.iconst 5, 1) := by decide +kernel
theorem dX12_frame_171 : decode cX12_frame 171 = .ok (.if_icmp .ge 16, 3) := by decide +kernel
theorem dX12_frame_174 : decode cX12_frame 174 = .ok (.aload_n 0, 1) := by decide +kernel
theorem dX12_frame_175 : decode cX12_frame 175 = .ok (.getfield 73, 3) := by decide +kernel
theorem dX12_frame_178 : decode cX12_frame 178 = .ok (.iload_n 3, 1) := by decide +kernel
theorem dX12_frame_179 : decode cX12_frame 179 = .ok (.iconst 0, 1) := by decide +kernel
theorem dX12_frame_180 : decode cX12_frame 180 = .ok (.iastore, 1) := by decide +kernel
theorem dX12_frame_181 : decode cX12_frame 181 = .ok (.iinc 3 1, 3) := by decide +kernel
theorem dX12_frame_184 : decode cX12_frame 184 = .ok (.goto (-15), 3) := by decide +kernel
theorem dX12_frame_187 : decode cX12_frame 187 = .ok (.aload_n 0, 1) := by decide +kernel
theorem dX12_frame_188 : decode cX12_frame 188 = .ok (.getfield 125, 3) := by decide +kernel
theorem dX12_frame_191 : decode cX12_frame 191 = .ok (.bipush 30, 2) := by decide +kernel
theorem dX12_frame_193 : decode cX12_frame 193 = .ok (.irem, 1) := by decide +kernel
theorem dX12_frame_194 : decode cX12_frame 194 = .ok (.istore_n 3, 1) := by decide +kernel
theorem dX12_frame_195 : decode cX12_frame 195 = .ok (.aload_n 0, 1) := by decide +kernel
theorem dX12_frame_196 : decode cX12_frame 196 = .ok (.getfield 76, 3) := by decide +kernel
theorem dX12_frame_199 : decode cX12_frame 199 = .ok (.iload_n 3, 1) := by decide +kernel
theorem dX12_frame_200 : decode cX12_frame 200 = .ok (.aload_n 0, 1) := by decide +kernel
theorem dX12_frame_201 : decode cX12_frame 201 = .ok (.getfield 116, 3) := by decide +kernel
theorem dX12_frame_204 : decode cX12_frame 204 = .ok (.iastore, 1) := by decide +kernel
theorem dX12_frame_205 : decode cX12_frame 205 = .ok (.aload_n 0, 1) := by decide +kernel
theorem dX12_frame_206 : decode cX12_frame 206 = .ok (.getfield 79, 3) := by decide +kernel
theorem dX12_frame_209 : decode cX12_frame 209 = .ok (.iload_n 3, 1) := by decide +kernel
theorem dX12_frame_210 : decode cX12_frame 210 = .ok (.iload_n 1, 1) := by decide +kernel
theorem dX12_frame_211 : decode cX12_frame 211 = .ok (.iastore, 1) := by decide +kernel
theorem dX12_frame_212 : decode cX12_frame 212 = .ok (.aload_n 0, 1) := by decide +kernel
theorem dX12_frame_213 : decode cX12_frame 213 = .ok (.getfield 82, 3) := by decide +kernel
theorem dX12_frame_216 : decode cX12_frame 216 = .ok (.iload_n 3, 1) := by decide +kernel
theorem dX12_frame_217 : decode cX12_frame 217 = .ok (.aload_n 0, 1) := by decide +kernel
theorem dX12_frame_218 : decode cX12_frame 218 = .ok (.invokevirtual 256, 3) := by decide +kernel
theorem dX12_frame_221 : decode cX12_frame 221 = .ok (.iastore, 1) := by decide +kernel
theorem dX12_frame_222 : decode cX12_frame 222 = .ok (.aload_n 0, 1) := by decide +kernel
theorem dX12_frame_223 : decode cX12_frame 223 = .ok (.dup, 1) := by decide +kernel
theorem dX12_frame_224 : decode cX12_frame 224 = .ok (.getfield 125, 3) := by decide +kernel
theorem dX12_frame_227 : decode cX12_frame 227 = .ok (.iconst 1, 1) := by decide +kernel
theorem dX12_frame_228 : decode cX12_frame 228 = .ok (.iadd, 1) := by decide +kernel
theorem dX12_frame_229 : decode cX12_frame 229 = .ok (.putfield 125, 3) := by decide +kernel
theorem dX12_frame_232 : decode cX12_frame 232 = .ok (.return_, 1) := by decide +kernel
set_option maxRecDepth 20000 in
theorem ggX12_frames_X12_in : GoodIn wsX12_frames wsX12_in := goodIn_r _ [6] (by decide +kernel) (by decide +kernel)
set_option maxRecDepth 20000 in
theorem gX12_frames_X12_in : GoodIn wsX12_frames (va_wsS RX12 130 yX12_in wsX12_in) := goodIn_app (goodIn_of _ (by decide +kernel)) ggX12_frames_X12_in
set_option maxRecDepth 20000 in
theorem ggX12_frames_X12_frame : GoodIn wsX12_frames wsX12_frame := goodIn_r _ [10, 11, 12, 13, 14, 2, 15, 16, 17, 18, 19, 20, 21, 22, 5, 23, 24, 25, 26, 27, 28, 29, 30, 31, 32, 33, 34, 35, 36, 37, 38, 39, 40, 41, 42, 43, 44, 45, 46, 47, 48, 49, 50, 51, 52, 53, 54, 55, 56, 57, 58, 59, 60, 61, 62, 63, 64, 65, 66, 67, 68, 69, 70, 71, 72, 73, 74, 75, 76, 77, 78, 79, 80, 81, 82, 83, 84, 85, 86, 87, 88, 89, 90, 91, 92, 93, 94, 95, 96, 97, 98, 99, 100, 101, 3, 4, 6, 102, 103, 104, 105, 106, 107, 108, 109, 110, 111, 112, 113, 114, 115, 116, 117, 118, 119, 120, 121, 122, 123, 124, 125, 126, 127, 128, 129, 130, 131, 132, 133, 134, 135, 136, 137, 138, 139, 140, 141, 142, 143, 144, 145, 146] (by decide +kernel) (by decide +kernel)
set_option maxRecDepth 20000 in
theorem gX12_frames_X12_frame : GoodIn wsX12_frames (wsV RX12 262 RX12 yX12_frame wsX12_frame) := goodIn_app (goodIn_of _ (by decide +kernel)) ggX12_frames_X12_frame
theorem dX12_frames_0 : decode cX12_frames 0 = .ok (.iload_n 1, 1) := by decide +kernel
theorem dX12_frames_1 : decode cX12_frames 1 = .ok (.i2l, 1) := by decide +kernel
theorem dX12_frames_2 : decode cX12_frames 2 = .ok (.lconst 1, 1) := by decide +kernel
theorem dX12_frames_3 : decode cX12_frames 3 = .ok (.ldc2_w 260, 3) := by decide +kernel
theorem dX12_frames_6 : decode cX12_frames 6 = .ok (.invokestatic 130, 3) := by decide +kernel
theorem dX12_frames_9 : decode cX12_frames 9 = .ok (.ifCond .ne 5, 3) := by decide +kernel
theorem dX12_frames_12 : decode cX12_frames 12 = .ok (.iconst (-1), 1) := by decide +kernel
theorem dX12_frames_13 : decode cX12_frames 13 = .ok (.ireturn, 1) := by decide +kernel
theorem dX12_frames_14 : decode cX12_frames 14 = .ok (.iconst 0, 1) := by decide +kernel
theorem dX12_frames_15 : decode cX12_frames 15 = .ok (.istore_n 2, 1) := by decide +kernel
theorem dX12_frames_16 : decode cX12_frames 16 = .ok (.iload_n 2, 1) := by decide +kernel
theorem dX12_frames_17 : decode cX12_frames 17 = .ok (.iload_n 1, 1) := by decide +kernel
theorem dX12_frames_18 : decode cX12_frames 18 = .ok (.if_icmp .ge 13, 3) := by decide +kernel
theorem dX12_frames_21 : decode cX12_frames 21 = .ok (.aload_n 0, 1) := by decide +kernel
theorem dX12_frames_22 : decode cX12_frames 22 = .ok (.invokevirtual 262, 3) := by decide +kernel
theorem dX12_frames_25 : decode cX12_frames 25 = .ok (.iinc 2 1, 3) := by decide +kernel
theorem dX12_frames_28 : decode cX12_frames 28 = .ok (.goto (-12), 3) := by decide +kernel
theorem dX12_frames_31 : decode cX12_frames 31 = .ok (.aload_n 0, 1) := by decide +kernel
theorem dX12_frames_32 : decode cX12_frames 32 = .ok (.getfield 116, 3) := by decide +kernel
theorem dX12_frames_35 : decode cX12_frames 35 = .ok (.ireturn, 1) := by decide +kernel
set_option maxRecDepth 20000 in
theorem ggX12_state_X12_in : GoodIn wsX12_state wsX12_in := goodIn_r _ [9] (by decide +kernel) (by decide +kernel)
set_option maxRecDepth 20000 in
theorem gX12_state_X12_in : GoodIn wsX12_state (va_wsS RX12 130 yX12_in wsX12_in) := goodIn_app (goodIn_of _ (by decide +kernel)) ggX12_state_X12_in
theorem dX12_state_0 : decode cX12_state 0 = .ok (.iload_n 1, 1) := by decide +kernel
theorem dX12_state_1 : decode cX12_state 1 = .ok (.i2l, 1) := by decide +kernel
theorem dX12_state_2 : decode cX12_state 2 = .ok (.lconst 0, 1) := by decide +kernel
theorem dX12_state_3 : decode cX12_state 3 = .ok (.aload_n 0, 1) := by decide +kernel
theorem dX12_state_4 : decode cX12_state 4 = .ok (.getfield 13, 3) := by decide +kernel
theorem dX12_state_7 : decode cX12_state 7 = .ok (.iconst 2, 1) := by decide +kernel
theorem dX12_state_8 : decode cX12_state 8 = .ok (.iadd, 1) := by decide +kernel
theorem dX12_state_9 : decode cX12_state 9 = .ok (.i2l, 1) := by decide +kernel
theorem dX12_state_10 : decode cX12_state 10 = .ok (.invokestatic 130, 3) := by decide +kernel
theorem dX12_state_13 : decode cX12_state 13 = .ok (.ifCond .ne 7, 3) := by decide +kernel
theorem dX12_state_16 : decode cX12_state 16 = .ok (.sipush (-10001), 3) := by decide +kernel
theorem dX12_state_19 : decode cX12_state 19 = .ok (.ireturn, 1) := by decide +kernel
theorem dX12_state_20 : decode cX12_state 20 = .ok (.iload_n 1, 1) := by decide +kernel
theorem dX12_state_21 : decode cX12_state 21 = .ok (.aload_n 0, 1) := by decide +kernel
theorem dX12_state_22 : decode cX12_state 22 = .ok (.getfield 13, 3) := by decide +kernel
theorem dX12_state_25 : decode cX12_state 25 = .ok (.if_icmp .ge 12, 3) := by decide +kernel
theorem dX12_state_28 : decode cX12_state 28 = .ok (.aload_n 0, 1) := by decide +kernel
theorem dX12_state_29 : decode cX12_state 29 = .ok (.getfield 73, 3) := by decide +kernel
theorem dX12_state_32 : decode cX12_state 32 = .ok (.iload_n 1, 1) := by decide +kernel
theorem dX12_state_33 : decode cX12_state 33 = .ok (.iaload, 1) := by decide +kernel
theorem dX12_state_34 : decode cX12_state 34 = .ok (.goto 39, 3) := by decide +kernel
theorem dX12_state_37 : decode cX12_state 37 = .ok (.iload_n 1, 1) := by decide +kernel
theorem dX12_state_38 : decode cX12_state 38 = .ok (.aload_n 0, 1) := by decide +kernel
theorem dX12_state_39 : decode cX12_state 39 = .ok (.getfield 13, 3) := by decide +kernel
theorem dX12_state_42 : decode cX12_state 42 = .ok (.if_icmp .ne 10, 3) := by decide +kernel
theorem dX12_state_45 : decode cX12_state 45 = .ok (.aload_n 0, 1) := by decide +kernel
theorem dX12_state_46 : decode cX12_state 46 = .ok (.getfield 113, 3) := by decide +kernel
theorem dX12_state_49 : decode cX12_state 49 = .ok (.goto 24, 3) := by decide +kernel
theorem dX12_state_52 : decode cX12_state 52 = .ok (.iload_n 1, 1) := by decide +kernel
theorem dX12_state_53 : decode cX12_state 53 = .ok (.aload_n 0, 1) := by decide +kernel
theorem dX12_state_54 : decode cX12_state 54 = .ok (.getfield 13, 3) := by decide +kernel
theorem dX12_state_57 : decode cX12_state 57 = .ok (.iconst 1, 1) := by decide +kernel
theorem dX12_state_58 : decode cX12_state 58 = .ok (.iadd, 1) := by decide +kernel
theorem dX12_state_59 : decode cX12_state 59 = .ok (.if_icmp .ne 10, 3) := by decide +kernel
theorem dX12_state_62 : decode cX12_state 62 = .ok (.aload_n 0, 1) := by decide +kernel
theorem dX12_state_63 : decode cX12_state 63 = .ok (.getfield 116, 3) := by decide +kernel
theorem dX12_state_66 : decode cX12_state 66 = .ok (.goto 7, 3) := by decide +kernel
theorem dX12_state_69 : decode cX12_state 69 = .ok (.aload_n 0, 1) := by decide +kernel
theorem dX12_state_70 : decode cX12_state 70 = .ok (.getfield 125, 3) := by decide +kernel
theorem dX12_state_73 : decode cX12_state 73 = .ok (.ireturn, 1) := by decide +kernel
set_option maxRecDepth 20000 in
theorem ggX12_units_X12_isPart : GoodIn wsX12_units wsX12_isPart := goodIn_r _ [7, 8, 9, 10, 6, 11, 12, 13, 14, 15, 16, 17, 18, 19, 20, 21, 22, 23, 24, 25, 26, 27, 28, 29, 30, 31, 32, 33, 34, 35, 36, 37, 38, 39, 40, 41, 42, 43, 44, 45, 46, 47, 48, 49, 50, 51, 52] (by decide +kernel) (by decide +kernel)
set_option maxRecDepth 20000 in
theorem gX12_units_X12_isPart : GoodIn wsX12_units (wsV RX12 167 RX12 yX12_isPart wsX12_isPart) := goodIn_app (goodIn_of _ (by decide +kernel)) ggX12_units_X12_isPart
set_option maxRecDepth 20000 in
theorem ggX12_units_X12_in : GoodIn wsX12_units wsX12_in := goodIn_r _ [11] (by decide +kernel) (by decide +kernel)
set_option maxRecDepth 20000 in
theorem gX12_units_X12_in : GoodIn wsX12_units (va_wsS RX12 130 yX12_in wsX12_in) := goodIn_app (goodIn_of _ (by decide +kernel)) ggX12_units_X12_in
theorem dX12_units_0 : decode cX12_units 0 = .ok (.aload_n 0, 1) := by decide +kernel
theorem dX12_units_1 : decode cX12_units 1 = .ok (.iload_n 1, 1) := by decide +kernel
theorem dX12_units_2 : decode cX12_units 2 = .ok (.invokevirtual 167, 3) := by decide +kernel
theorem dX12_units_5 : decode cX12_units 5 = .ok (.ifCond .eq 26, 3) := by decide +kernel
theorem dX12_units_8 : decode cX12_units 8 = .ok (.iload_n 2, 1) := by decide +kernel
theorem dX12_units_9 : decode cX12_units 9 = .ok (.i2l, 1) := by decide +kernel
theorem dX12_units_10 : decode cX12_units 10 = .ok (.aload_n 0, 1) := by decide +kernel
theorem dX12_units_11 : decode cX12_units 11 = .ok (.getfield 26, 3) := by decide +kernel
theorem dX12_units_14 : decode cX12_units 14 = .ok (.iconst 4, 1) := by decide +kernel
theorem dX12_units_15 : decode cX12_units 15 = .ok (.iaload, 1) := by decide +kernel
theorem dX12_units_16 : decode cX12_units 16 = .ok (.ineg, 1) := by decide +kernel
theorem dX12_units_17 : decode cX12_units 17 = .ok (.i2l, 1) := by decide +kernel
theorem dX12_units_18 : decode cX12_units 18 = .ok (.aload_n 0, 1) := by decide +kernel
theorem dX12_units_19 : decode cX12_units 19 = .ok (.getfield 26, 3) := by decide +kernel
theorem dX12_units_22 : decode cX12_units 22 = .ok (.iconst 4, 1) := by decide +kernel
theorem dX12_units_23 : decode cX12_units 23 = .ok (.iaload, 1) := by decide +kernel
theorem dX12_units_24 : decode cX12_units 24 = .ok (.i2l, 1) := by decide +kernel
theorem dX12_units_25 : decode cX12_units 25 = .ok (.invokestatic 130, 3) := by decide +kernel
theorem dX12_units_28 : decode cX12_units 28 = .ok (.ifCond .ne 7, 3) := by decide +kernel
theorem dX12_units_31 : decode cX12_units 31 = .ok (.sipush (-10001), 3) := by decide +kernel
theorem dX12_units_34 : decode cX12_units 34 = .ok (.ireturn, 1) := by decide +kernel
theorem dX12_units_35 : decode cX12_units 35 = .ok (.aload_n 0, 1) := by decide +kernel
theorem dX12_units_36 : decode cX12_units 36 = .ok (.getfield 73, 3) := by decide +kernel
theorem dX12_units_39 : decode cX12_units 39 = .ok (.iload_n 1, 1) := by decide +kernel
theorem dX12_units_40 : decode cX12_units 40 = .ok (.iaload, 1) := by decide +kernel
theorem dX12_units_41 : decode cX12_units 41 = .ok (.istore_n 3, 1) := by decide +kernel
theorem dX12_units_42 : decode cX12_units 42 = .ok (.aload_n 0, 1) := by decide +kernel
theorem dX12_units_43 : decode cX12_units 43 = .ok (.getfield 73, 3) := by decide +kernel
theorem dX12_units_46 : decode cX12_units 46 = .ok (.iload_n 1, 1) := by decide +kernel
theorem dX12_units_47 : decode cX12_units 47 = .ok (.iload_n 2, 1) := by decide +kernel
theorem dX12_units_48 : decode cX12_units 48 = .ok (.iastore, 1) := by decide +kernel
theorem dX12_units_49 : decode cX12_units 49 = .ok (.iload_n 3, 1) := by decide +kernel
theorem dX12_units_50 : decode cX12_units 50 = .ok (.ireturn, 1) := by decide +kernel
set_option maxRecDepth 20000 in
theorem ggX12_shed_X12_unitsAll : GoodIn wsX12_shed wsX12_unitsAll := goodIn_r _ [8, 1, 3, 9, 10, 11, 12, 13, 14, 15, 16, 17, 18, 19, 20, 21, 22, 23, 24, 25, 26, 27, 28, 29, 30, 31, 32, 33, 34, 35, 36, 37, 38, 39, 40, 41, 42, 43, 44, 45, 46, 47, 48, 49] (by decide +kernel) (by decide +kernel)
set_option maxRecDepth 20000 in
theorem gX12_shed_X12_unitsAll : GoodIn wsX12_shed (wsV RX12 256 RX12 yX12_unitsAll wsX12_unitsAll) := goodIn_app (goodIn_of _ (by decide +kernel)) ggX12_shed_X12_unitsAll
theorem dX12_shed_0 : decode cX12_shed 0 = .ok (.aload_n 0, 1) := by decide +kernel
theorem dX12_shed_1 : decode cX12_shed 1 = .ok (.invokevirtual 256, 3) := by decide +kernel
theorem dX12_shed_4 : decode cX12_shed 4 = .ok (.aload_n 0, 1) := by decide +kernel
theorem dX12_shed_5 : decode cX12_shed 5 = .ok (.getfield 13, 3) := by decide +kernel
theorem dX12_shed_8 : decode cX12_shed 8 = .ok (.idiv, 1) := by decide +kernel
theorem dX12_shed_9 : decode cX12_shed 9 = .ok (.istore_n 1, 1) := by decide +kernel
theorem dX12_shed_10 : decode cX12_shed 10 = .ok (.aload_n 0, 1) := by decide +kernel
theorem dX12_shed_11 : decode cX12_shed 11 = .ok (.dup, 1) := by decide +kernel
theorem dX12_shed_12 : decode cX12_shed 12 = .ok (.getfield 113, 3) := by decide +kernel
theorem dX12_shed_15 : decode cX12_shed 15 = .ok (.iload_n 1, 1) := by decide +kernel
theorem dX12_shed_16 : decode cX12_shed 16 = .ok (.iadd, 1) := by decide +kernel
theorem dX12_shed_17 : decode cX12_shed 17 = .ok (.putfield 113, 3) := by decide +kernel
theorem dX12_shed_20 : decode cX12_shed 20 = .ok (.iconst 0, 1) := by decide +kernel
theorem dX12_shed_21 : decode cX12_shed 21 = .ok (.istore_n 2, 1) := by decide +kernel
theorem dX12_shed_22 : decode cX12_shed 22 = .ok (.iload_n 2, 1) := by decide +kernel
theorem dX12_shed_23 : decode cX12_shed 23 = .ok (.aload_n 0, 1) := by decide +kernel
theorem dX12_shed_24 : decode cX12_shed 24 = .ok (.getfield 13, 3) := by decide +kernel
theorem dX12_shed_27 : decode cX12_shed 27 = .ok (.if_icmp .ge 19, 3) := by decide +kernel
theorem dX12_shed_30 : decode cX12_shed 30 = .ok (.aload_n 0, 1) := by decide +kernel
theorem dX12_shed_31 : decode cX12_shed 31 = .ok (.getfield 73, 3) := by decide +kernel
theorem dX12_shed_34 : decode cX12_shed 34 = .ok (.iload_n 2, 1) := by decide +kernel
theorem dX12_shed_35 : decode cX12_shed 35 = .ok (.dup2, 1) := by decide +kernel
theorem dX12_shed_36 : decode cX12_shed 36 = .ok (.iaload, 1) := by decide +kernel
theorem dX12_shed_37 : decode cX12_shed 37 = .ok (.iload_n 1, 1) := by decide +kernel
theorem dX12_shed_38 : decode cX12_shed 38 = .ok (.isub, 1) := by decide +kernel
theorem dX12_shed_39 : decode cX12_shed 39 = .ok (.iastore, 1) := by decide +kernel
theorem dX12_shed_40 : decode cX12_shed 40 = .ok (.iinc 2 1, 3) := by decide +kernel
theorem dX12_shed_43 : decode cX12_shed 43 = .ok (.goto (-21), 3) := by decide +kernel
theorem dX12_shed_46 : decode cX12_shed 46 = .ok (.iload_n 1, 1) := by decide +kernel
theorem dX12_shed_47 : decode cX12_shed 47 = .ok (.ireturn, 1) := by decide +kernel
set_option maxRecDepth 20000 in
theorem ggX12_log_X12_in : GoodIn wsX12_log wsX12_in := goodIn_r _ [9] (by decide +kernel) (by decide +kernel)
set_option maxRecDepth 20000 in
theorem gX12_log_X12_in : GoodIn wsX12_log (va_wsS RX12 130 yX12_in wsX12_in) := goodIn_app (goodIn_of _ (by decide +kernel)) ggX12_log_X12_in
theorem dX12_log_0 : decode cX12_log 0 = .ok (.aload_n 0, 1) := by decide +kernel
theorem dX12_log_1 : decode cX12_log 1 = .ok (.getfield 125, 3) := by decide +kernel
theorem dX12_log_4 : decode cX12_log 4 = .ok (.bipush 30, 2) := by decide +kernel
theorem dX12_log_6 : decode cX12_log 6 = .ok (.if_icmp .ge 10, 3) := by decide +kernel
theorem dX12_log_9 : decode cX12_log 9 = .ok (.aload_n 0, 1) := by decide +kernel
theorem dX12_log_10 : decode cX12_log 10 = .ok (.getfield 125, 3) := by decide +kernel
theorem dX12_log_13 : decode cX12_log 13 = .ok (.goto 5, 3) := by decide +kernel
theorem dX12_log_16 : decode cX12_log 16 = .ok (.bipush 30, 2) := by decide +kernel
theorem dX12_log_18 : decode cX12_log 18 = .ok (.istore_n 3, 1) := by decide +kernel
theorem dX12_log_19 : decode cX12_log 19 = .ok (.iload_n 1, 1) := by decide +kernel
theorem dX12_log_20 : decode cX12_log 20 = .ok (.i2l, 1) := by decide +kernel
theorem dX12_log_21 : decode cX12_log 21 = .ok (.lconst 0, 1) := by decide +kernel
theorem dX12_log_22 : decode cX12_log 22 = .ok (.iload_n 3, 1) := by decide +kernel
theorem dX12_log_23 : decode cX12_log 23 = .ok (.iconst 1, 1) := by decide +kernel
theorem dX12_log_24 : decode cX12_log 24 = .ok (.isub, 1) := by decide +kernel
theorem dX12_log_25 : decode cX12_log 25 = .ok (.i2l, 1) := by decide +kernel
theorem dX12_log_26 : decode cX12_log 26 = .ok (.invokestatic 130, 3) := by decide +kernel
theorem dX12_log_29 : decode cX12_log 29 = .ok (.ifCond .eq 15, 3) := by decide +kernel
theorem dX12_log_32 : decode cX12_log 32 = .ok (.iload_n 2, 1) := by decide +kernel
theorem dX12_log_33 : decode cX12_log 33 = .ok (.i2l, 1) := by decide +kernel
theorem dX12_log_34 : decode cX12_log 34 = .ok (.lconst 0, 1) := by decide +kernel
theorem dX12_log_35 : decode cX12_log 35 = .ok (.ldc2_w 265, 3) := by decide +kernel
theorem dX12_log_38 : decode cX12_log 38 = .ok (.invokestatic 130, 3) := by decide +kernel
theorem dX12_log_41 : decode cX12_log 41 = .ok (.ifCond .ne 7, 3) := by decide +kernel
theorem dX12_log_44 : decode cX12_log 44 = .ok (.sipush (-10001), 3) := by decide +kernel
theorem dX12_log_47 : decode cX12_log 47 = .ok (.ireturn, 1) := by decide +kernel
theorem dX12_log_48 : decode cX12_log 48 = .ok (.aload_n 0, 1) := by decide +kernel
theorem dX12_log_49 : decode cX12_log 49 = .ok (.getfield 125, 3) := by decide +kernel
theorem dX12_log_52 : decode cX12_log 52 = .ok (.iconst 1, 1) := by decide +kernel
theorem dX12_log_53 : decode cX12_log 53 = .ok (.isub, 1) := by decide +kernel
theorem dX12_log_54 : decode cX12_log 54 = .ok (.iload_n 1, 1) := by decide +kernel
theorem dX12_log_55 : decode cX12_log 55 = .ok (.isub, 1) := by decide +kernel
theorem dX12_log_56 : decode cX12_log 56 = .ok (.bipush 30, 2) := by decide +kernel
theorem dX12_log_58 : decode cX12_log 58 = .ok (.irem, 1) := by decide +kernel
theorem dX12_log_59 : decode cX12_log 59 = .ok (.istore 4, 2) := by decide +kernel
theorem dX12_log_61 : decode cX12_log 61 = .ok (.iload_n 2, 1) := by decide +kernel
theorem dX12_log_62 : decode cX12_log 62 = .ok (.ifCond .ne 13, 3) := by decide +kernel
theorem dX12_log_65 : decode cX12_log 65 = .ok (.aload_n 0, 1) := by decide +kernel
theorem dX12_log_66 : decode cX12_log 66 = .ok (.getfield 76, 3) := by decide +kernel
theorem dX12_log_69 : decode cX12_log 69 = .ok (.iload 4, 2) := by decide +kernel
theorem dX12_log_71 : decode cX12_log 71 = .ok (.iaload, 1) := by decide +kernel
theorem dX12_log_72 : decode cX12_log 72 = .ok (.goto 25, 3) := by decide +kernel
theorem dX12_log_75 : decode cX12_log 75 = .ok (.iload_n 2, 1) := by decide +kernel
theorem dX12_log_76 : decode cX12_log 76 = .ok (.iconst 1, 1) := by decide +kernel
theorem dX12_log_77 : decode cX12_log 77 = .ok (.if_icmp .ne 13, 3) := by decide +kernel
theorem dX12_log_80 : decode cX12_log 80 = .ok (.aload_n 0, 1) := by decide +kernel
theorem dX12_log_81 : decode cX12_log 81 = .ok (.getfield 79, 3) := by decide +kernel
theorem dX12_log_84 : decode cX12_log 84 = .ok (.iload 4, 2) := by decide +kernel
theorem dX12_log_86 : decode cX12_log 86 = .ok (.iaload, 1) := by decide +kernel
theorem dX12_log_87 : decode cX12_log 87 = .ok (.goto 10, 3) := by decide +kernel
theorem dX12_log_90 : decode cX12_log 90 = .ok (.aload_n 0, 1) := by decide +kernel
theorem dX12_log_91 : decode cX12_log 91 = .ok (.getfield 82, 3) := by decide +kernel
theorem dX12_log_94 : decode cX12_log 94 = .ok (.iload 4, 2) := by decide +kernel
theorem dX12_log_96 : decode cX12_log 96 = .ok (.iaload, 1) := by decide +kernel
theorem dX12_log_97 : decode cX12_log 97 = .ok (.ireturn, 1) := by decide +kernel
set_option maxRecDepth 20000 in
theorem ggX12_loop_X12_in : GoodIn wsX12_loop wsX12_in := goodIn_r _ [9] (by decide +kernel) (by decide +kernel)
set_option maxRecDepth 20000 in
theorem gX12_loop_X12_in : GoodIn wsX12_loop (va_wsS RX12 130 yX12_in wsX12_in) := goodIn_app (goodIn_of _ (by decide +kernel)) ggX12_loop_X12_in
set_option maxRecDepth 20000 in
theorem ggX12_loop_X12_isSheet : GoodIn wsX12_loop wsX12_isSheet := goodIn_r _ [12, 13, 14, 6, 7, 8, 9] (by decide +kernel) (by decide +kernel)
set_option maxRecDepth 20000 in
theorem gX12_loop_X12_isSheet : GoodIn wsX12_loop (va_wsS RX12 180 yX12_isSheet wsX12_isSheet) := goodIn_app (goodIn_of _ (by decide +kernel)) ggX12_loop_X12_isSheet
set_option maxRecDepth 20000 in
theorem ggX12_loop_X12_against : GoodIn wsX12_loop wsX12_against := goodIn_r _ [18, 19, 20, 6, 7, 8, 9, 21, 22, 23, 24, 25, 26, 27, 28, 29, 30, 31, 32, 33, 34, 35, 36, 37, 38, 39, 40, 41, 42, 43, 44, 45, 46, 47, 48, 49, 50, 51, 52, 53, 54, 55, 56, 57, 58, 59, 60, 61] (by decide +kernel) (by decide +kernel)
set_option maxRecDepth 20000 in
theorem gX12_loop_X12_against : GoodIn wsX12_loop (wsV RX12 184 RX12 yX12_against wsX12_against) := goodIn_app (goodIn_of _ (by decide +kernel)) ggX12_loop_X12_against
theorem dX12_loop_0 : decode cX12_loop 0 = .ok (.iload_n 1, 1) := by decide +kernel
theorem dX12_loop_1 : decode cX12_loop 1 = .ok (.i2l, 1) := by decide +kernel
theorem dX12_loop_2 : decode cX12_loop 2 = .ok (.lconst 0, 1) := by decide +kernel
theorem dX12_loop_3 : decode cX12_loop 3 = .ok (.lconst 1, 1) := by decide +kernel
theorem dX12_loop_4 : decode cX12_loop 4 = .ok (.invokestatic 130, 3) := by decide +kernel
theorem dX12_loop_7 : decode cX12_loop 7 = .ok (.ifCond .eq 24, 3) := by decide +kernel
theorem dX12_loop_10 : decode cX12_loop 10 = .ok (.iload_n 2, 1) := by decide +kernel
theorem dX12_loop_11 : decode cX12_loop 11 = .ok (.iload_n 3, 1) := by decide +kernel
theorem dX12_loop_12 : decode cX12_loop 12 = .ok (.invokestatic 180, 3) := by decide +kernel
theorem dX12_loop_15 : decode cX12_loop 15 = .ok (.ifCond .eq 16, 3) := by decide +kernel
theorem dX12_loop_18 : decode cX12_loop 18 = .ok (.iload 5, 2) := by decide +kernel
theorem dX12_loop_20 : decode cX12_loop 20 = .ok (.i2l, 1) := by decide +kernel
theorem dX12_loop_21 : decode cX12_loop 21 = .ok (.lconst 1, 1) := by decide +kernel
theorem dX12_loop_22 : decode cX12_loop 22 = .ok (.ldc2_w 134, 3) := by decide +kernel
theorem dX12_loop_25 : decode cX12_loop 25 = .ok (.invokestatic 130, 3) := by decide +kernel
theorem dX12_loop_28 : decode cX12_loop 28 = .ok (.ifCond .ne 5, 3) := by decide +kernel
theorem dX12_loop_31 : decode cX12_loop 31 = .ok (.iconst (-1), 1) := by decide +kernel
theorem dX12_loop_32 : decode cX12_loop 32 = .ok (.ireturn, 1) := by decide +kernel
theorem dX12_loop_33 : decode cX12_loop 33 = .ok (.aload_n 0, 1) := by decide +kernel
theorem dX12_loop_34 : decode cX12_loop 34 = .ok (.iload_n 2, 1) := by decide +kernel
theorem dX12_loop_35 : decode cX12_loop 35 = .ok (.iload_n 3, 1) := by decide +kernel
theorem dX12_loop_36 : decode cX12_loop 36 = .ok (.iload 4, 2) := by decide +kernel
theorem dX12_loop_38 : decode cX12_loop 38 = .ok (.iload 5, 2) := by decide +kernel
theorem dX12_loop_40 : decode cX12_loop 40 = .ok (.invokevirtual 184, 3) := by decide +kernel
theorem dX12_loop_43 : decode cX12_loop 43 = .ok (.istore 6, 2) := by decide +kernel
theorem dX12_loop_45 : decode cX12_loop 45 = .ok (.iload 6, 2) := by decide +kernel
theorem dX12_loop_47 : decode cX12_loop 47 = .ok (.ifCond .ge 6, 3) := by decide +kernel
theorem dX12_loop_50 : decode cX12_loop 50 = .ok (.iload 6, 2) := by decide +kernel
theorem dX12_loop_52 : decode cX12_loop 52 = .ok (.ireturn, 1) := by decide +kernel
theorem dX12_loop_53 : decode cX12_loop 53 = .ok (.bipush 40, 2) := by decide +kernel
theorem dX12_loop_55 : decode cX12_loop 55 = .ok (.iload_n 2, 1) := by decide +kernel
theorem dX12_loop_56 : decode cX12_loop 56 = .ok (.imul, 1) := by decide +kernel
theorem dX12_loop_57 : decode cX12_loop 57 = .ok (.iload 4, 2) := by decide +kernel
theorem dX12_loop_59 : decode cX12_loop 59 = .ok (.iadd, 1) := by decide +kernel
theorem dX12_loop_60 : decode cX12_loop 60 = .ok (.istore 7, 2) := by decide +kernel
theorem dX12_loop_62 : decode cX12_loop 62 = .ok (.iconst 0, 1) := by decide +kernel
theorem dX12_loop_63 : decode cX12_loop 63 = .ok (.istore 8, 2) := by decide +kernel
theorem dX12_loop_65 : decode cX12_loop 65 = .ok (.iload 8, 2) := by decide +kernel
theorem dX12_loop_67 : decode cX12_loop 67 = .ok (.iload 5, 2) := by decide +kernel
theorem dX12_loop_69 : decode cX12_loop 69 = .ok (.if_icmp .ge 35, 3) := by decide +kernel
theorem dX12_loop_72 : decode cX12_loop 72 = .ok (.aload_n 0, 1) := by decide +kernel
theorem dX12_loop_73 : decode cX12_loop 73 = .ok (.getfield 106, 3) := by decide +kernel
theorem dX12_loop_76 : decode cX12_loop 76 = .ok (.iload 7, 2) := by decide +kernel
theorem dX12_loop_78 : decode cX12_loop 78 = .ok (.iload 8, 2) := by decide +kernel
theorem dX12_loop_80 : decode cX12_loop 80 = .ok (.iadd, 1) := by decide +kernel
theorem dX12_loop_81 : decode cX12_loop 81 = .ok (.iaload, 1) := by decide +kernel
theorem dX12_loop_82 : decode cX12_loop 82 = .ok (.i2l, 1) := by decide +kernel
theorem dX12_loop_83 : decode cX12_loop 83 = .ok (.ldc2_w 267, 3) := by decide +kernel
theorem dX12_loop_86 : decode cX12_loop 86 = .ok (.ldc2_w 269, 3) := by decide +kernel
theorem dX12_loop_89 : decode cX12_loop 89 = .ok (.invokestatic 130, 3) := by decide +kernel
theorem dX12_loop_92 : decode cX12_loop 92 = .ok (.ifCond .ne 6, 3) := by decide +kernel
theorem dX12_loop_95 : decode cX12_loop 95 = .ok (.bipush (-2), 2) := by decide +kernel
theorem dX12_loop_97 : decode cX12_loop 97 = .ok (.ireturn, 1) := by decide +kernel
theorem dX12_loop_98 : decode cX12_loop 98 = .ok (.iinc 8 1, 3) := by decide +kernel
theorem dX12_loop_101 : decode cX12_loop 101 = .ok (.goto (-36), 3) := by decide +kernel
theorem dX12_loop_104 : decode cX12_loop 104 = .ok (.iconst 0, 1) := by decide +kernel
theorem dX12_loop_105 : decode cX12_loop 105 = .ok (.istore 8, 2) := by decide +kernel
theorem dX12_loop_107 : decode cX12_loop 107 = .ok (.iload 8, 2) := by decide +kernel
theorem dX12_loop_109 : decode cX12_loop 109 = .ok (.iconst 5, 1) := by decide +kernel
theorem dX12_loop_110 : decode cX12_loop 110 = .ok (.if_icmp .ge 41, 3) := by decide +kernel
theorem dX12_loop_113 : decode cX12_loop 113 = .ok (.aload_n 0, 1) := by decide +kernel
theorem dX12_loop_114 : decode cX12_loop 114 = .ok (.getfield 85, 3) := by decide +kernel
theorem dX12_loop_117 : decode cX12_loop 117 = .ok (.iconst 5, 1) := by decide +kernel
theorem dX12_loop_118 : decode cX12_loop 118 = .ok (.iload_n 1, 1) := by decide +kernel
theorem dX12_loop_119 : decode cX12_loop 119 = .ok (.imul, 1) := by decide +kernel
theorem dX12_loop_120 : decode cX12_loop 120 = .ok (.iload 8, 2) := by decide +kernel
theorem dX12_loop_122 : decode cX12_loop 122 = .ok (.iadd, 1) := by decide +kernel
theorem dX12_loop_123 : decode cX12_loop 123 = .ok (.iload 8, 2) := by decide +kernel
theorem dX12_loop_125 : decode cX12_loop 125 = .ok (.iload 5, 2) := by decide +kernel
theorem dX12_loop_127 : decode cX12_loop 127 = .ok (.if_icmp .ge 16, 3) := by decide +kernel
theorem dX12_loop_130 : decode cX12_loop 130 = .ok (.aload_n 0, 1) := by decide +kernel
theorem dX12_loop_131 : decode cX12_loop 131 = .ok (.getfield 106, 3) := by decide +kernel
theorem dX12_loop_134 : decode cX12_loop 134 = .ok (.iload 7, 2) := by decide +kernel
theorem dX12_loop_136 : decode cX12_loop 136 = .ok (.iload 8, 2) := by decide +kernel
theorem dX12_loop_138 : decode cX12_loop 138 = .ok (.iadd, 1) := by decide +kernel
theorem dX12_loop_139 : decode cX12_loop 139 = .ok (.iaload, 1) := by decide +kernel
theorem dX12_loop_140 : decode cX12_loop 140 = .ok (.goto 4, 3) := by decide +kernel
theorem dX12_loop_143 : decode cX12_loop 143 = .ok (.iconst 0, 1) := by decide +kernel
theorem dX12_loop_144 : decode cX12_loop 144 = .ok (.iastore, 1) := by decide +kernel
theorem dX12_loop_145 : decode cX12_loop 145 = .ok (.iinc 8 1, 3) := by decide +kernel
theorem dX12_loop_148 : decode cX12_loop 148 = .ok (.goto (-41), 3) := by decide +kernel
theorem dX12_loop_151 : decode cX12_loop 151 = .ok (.iload 5, 2) := by decide +kernel
theorem dX12_loop_153 : decode cX12_loop 153 = .ok (.ireturn, 1) := by decide +kernel
theorem dX12_size_0 : decode cX12_size 0 = .ok (.lload_n 0, 1) := by decide +kernel
theorem dX12_size_1 : decode cX12_size 1 = .ok (.lconst 0, 1) := by decide +kernel
theorem dX12_size_2 : decode cX12_size 2 = .ok (.lcmp, 1) := by decide +kernel
theorem dX12_size_3 : decode cX12_size 3 = .ok (.ifCond .ge 8, 3) := by decide +kernel
theorem dX12_size_6 : decode cX12_size 6 = .ok (.lload_n 0, 1) := by decide +kernel
theorem dX12_size_7 : decode cX12_size 7 = .ok (.lneg, 1) := by decide +kernel
theorem dX12_size_8 : decode cX12_size 8 = .ok (.goto 4, 3) := by decide +kernel
theorem dX12_size_11 : decode cX12_size 11 = .ok (.lload_n 0, 1) := by decide +kernel
theorem dX12_size_12 : decode cX12_size 12 = .ok (.lreturn, 1) := by decide +kernel
set_option maxRecDepth 20000 in
theorem ggX12_isSteady_X12_size : GoodIn wsX12_isSteady wsX12_size := goodIn_r _ [8] (by decide +kernel) (by decide +kernel)
set_option maxRecDepth 20000 in
theorem gX12_isSteady_X12_size : GoodIn wsX12_isSteady (va_wsS RX12 271 yX12_size wsX12_size) := goodIn_app (goodIn_of _ (by decide +kernel)) ggX12_isSteady_X12_size
theorem dX12_isSteady_0 : decode cX12_isSteady 0 = .ok (.iconst (-1), 1) := by decide +kernel
theorem dX12_isSteady_1 : decode cX12_isSteady 1 = .ok (.istore_n 2, 1) := by decide +kernel
theorem dX12_isSteady_2 : decode cX12_isSteady 2 = .ok (.iconst 0, 1) := by decide +kernel
theorem dX12_isSteady_3 : decode cX12_isSteady 3 = .ok (.istore_n 3, 1) := by decide +kernel
theorem dX12_isSteady_4 : decode cX12_isSteady 4 = .ok (.iload_n 3, 1) := by decide +kernel
theorem dX12_isSteady_5 : decode cX12_isSteady 5 = .ok (.iconst 5, 1) := by decide +kernel
theorem dX12_isSteady_6 : decode cX12_isSteady 6 = .ok (.if_icmp .ge 56, 3) := by decide +kernel
theorem dX12_isSteady_9 : decode cX12_isSteady 9 = .ok (.aload_n 0, 1) := by decide +kernel
theorem dX12_isSteady_10 : decode cX12_isSteady 10 = .ok (.getfield 88, 3) := by decide +kernel
theorem dX12_isSteady_13 : decode cX12_isSteady 13 = .ok (.iload_n 3, 1) := by decide +kernel
theorem dX12_isSteady_14 : decode cX12_isSteady 14 = .ok (.ldc2_w 260, 3) := by decide +kernel
theorem dX12_isSteady_17 : decode cX12_isSteady 17 = .ok (.aload_n 0, 1) := by decide +kernel
theorem dX12_isSteady_18 : decode cX12_isSteady 18 = .ok (.getfield 85, 3) := by decide +kernel
theorem dX12_isSteady_21 : decode cX12_isSteady 21 = .ok (.iload_n 3, 1) := by decide +kernel
theorem dX12_isSteady_22 : decode cX12_isSteady 22 = .ok (.iaload, 1) := by decide +kernel
theorem dX12_isSteady_23 : decode cX12_isSteady 23 = .ok (.i2l, 1) := by decide +kernel
theorem dX12_isSteady_24 : decode cX12_isSteady 24 = .ok (.lmul, 1) := by decide +kernel
theorem dX12_isSteady_25 : decode cX12_isSteady 25 = .ok (.iload_n 1, 1) := by decide +kernel
theorem dX12_isSteady_26 : decode cX12_isSteady 26 = .ok (.i2l, 1) := by decide +kernel
theorem dX12_isSteady_27 : decode cX12_isSteady 27 = .ok (.aload_n 0, 1) := by decide +kernel
theorem dX12_isSteady_28 : decode cX12_isSteady 28 = .ok (.getfield 85, 3) := by decide +kernel
theorem dX12_isSteady_31 : decode cX12_isSteady 31 = .ok (.iconst 5, 1) := by decide +kernel
theorem dX12_isSteady_32 : decode cX12_isSteady 32 = .ok (.iload_n 3, 1) := by decide +kernel
theorem dX12_isSteady_33 : decode cX12_isSteady 33 = .ok (.iadd, 1) := by decide +kernel
theorem dX12_isSteady_34 : decode cX12_isSteady 34 = .ok (.iaload, 1) := by decide +kernel
theorem dX12_isSteady_35 : decode cX12_isSteady 35 = .ok (.i2l, 1) := by decide +kernel
theorem dX12_isSteady_36 : decode cX12_isSteady 36 = .ok (.lmul, 1) := by decide +kernel
theorem dX12_isSteady_37 : decode cX12_isSteady 37 = .ok (.ladd, 1) := by decide +kernel
theorem dX12_isSteady_38 : decode cX12_isSteady 38 = .ok (.lastore, 1) := by decide +kernel
theorem dX12_isSteady_39 : decode cX12_isSteady 39 = .ok (.aload_n 0, 1) := by decide +kernel
theorem dX12_isSteady_40 : decode cX12_isSteady 40 = .ok (.getfield 88, 3) := by decide +kernel
theorem dX12_isSteady_43 : decode cX12_isSteady 43 = .ok (.iload_n 3, 1) := by decide +kernel
theorem dX12_isSteady_44 : decode cX12_isSteady 44 = .ok (.laload, 1) := by decide +kernel
theorem dX12_isSteady_45 : decode cX12_isSteady 45 = .ok (.lconst 0, 1) := by decide +kernel
theorem dX12_isSteady_46 : decode cX12_isSteady 46 = .ok (.lcmp, 1) := by decide +kernel
theorem dX12_isSteady_47 : decode cX12_isSteady 47 = .ok (.ifCond .eq 7, 3) := by decide +kernel
theorem dX12_isSteady_50 : decode cX12_isSteady 50 = .ok (.iload_n 3, 1) := by decide +kernel
theorem dX12_isSteady_51 : decode cX12_isSteady 51 = .ok (.goto 4, 3) := by decide +kernel
theorem dX12_isSteady_54 : decode cX12_isSteady 54 = .ok (.iload_n 2, 1) := by decide +kernel
theorem dX12_isSteady_55 : decode cX12_isSteady 55 = .ok (.istore_n 2, 1) := by decide +kernel
theorem dX12_isSteady_56 : decode cX12_isSteady 56 = .ok (.iinc 3 1, 3) := by decide +kernel
theorem dX12_isSteady_59 : decode cX12_isSteady 59 = .ok (.goto (-55), 3) := by decide +kernel
theorem dX12_isSteady_62 : decode cX12_isSteady 62 = .ok (.iload_n 2, 1) := by decide +kernel
theorem dX12_isSteady_63 : decode cX12_isSteady 63 = .ok (.ifCond .ge 5, 3) := by decide +kernel
theorem dX12_isSteady_66 : decode cX12_isSteady 66 = .ok (.iconst 0, 1) := by decide +kernel
theorem dX12_isSteady_67 : decode cX12_isSteady 67 = .ok (.ireturn, 1) := by decide +kernel
theorem dX12_isSteady_68 : decode cX12_isSteady 68 = .ok (.iload_n 2, 1) := by decide +kernel
theorem dX12_isSteady_69 : decode cX12_isSteady 69 = .ok (.iconst 2, 1) := by decide +kernel
theorem dX12_isSteady_70 : decode cX12_isSteady 70 = .ok (.if_icmp .le 110, 3) := by decide +kernel
theorem dX12_isSteady_73 : decode cX12_isSteady 73 = .ok (.aload_n 0, 1) := by decide +kernel
theorem dX12_isSteady_74 : decode cX12_isSteady 74 = .ok (.getfield 88, 3) := by decide +kernel
theorem dX12_isSteady_77 : decode cX12_isSteady 77 = .ok (.iconst 0, 1) := by decide +kernel
theorem dX12_isSteady_78 : decode cX12_isSteady 78 = .ok (.laload, 1) := by decide +kernel
theorem dX12_isSteady_79 : decode cX12_isSteady 79 = .ok (.invokestatic 271, 3) := by decide +kernel
theorem dX12_isSteady_82 : decode cX12_isSteady 82 = .ok (.aload_n 0, 1) := by decide +kernel
theorem dX12_isSteady_83 : decode cX12_isSteady 83 = .ok (.getfield 88, 3) := by decide +kernel
theorem dX12_isSteady_86 : decode cX12_isSteady 86 = .ok (.iload_n 2, 1) := by decide +kernel
theorem dX12_isSteady_87 : decode cX12_isSteady 87 = .ok (.laload, 1) := by decide +kernel
theorem dX12_isSteady_88 : decode cX12_isSteady 88 = .ok (.invokestatic 271, 3) := by decide +kernel
theorem dX12_isSteady_91 : decode cX12_isSteady 91 = .ok (.lcmp, 1) := by decide +kernel
theorem dX12_isSteady_92 : decode cX12_isSteady 92 = .ok (.ifCond .lt 5, 3) := by decide +kernel
theorem dX12_isSteady_95 : decode cX12_isSteady 95 = .ok (.iconst 0, 1) := by decide +kernel
theorem dX12_isSteady_96 : decode cX12_isSteady 96 = .ok (.ireturn, 1) := by decide +kernel
theorem dX12_isSteady_97 : decode cX12_isSteady 97 = .ok (.iconst 0, 1) := by decide +kernel
theorem dX12_isSteady_98 : decode cX12_isSteady 98 = .ok (.istore_n 3, 1) := by decide +kernel
theorem dX12_isSteady_99 : decode cX12_isSteady 99 = .ok (.iload_n 3, 1) := by decide +kernel
theorem dX12_isSteady_100 : decode cX12_isSteady 100 = .ok (.iload_n 2, 1) := by decide +kernel
theorem dX12_isSteady_101 : decode cX12_isSteady 101 = .ok (.if_icmp .ge 48, 3) := by decide +kernel
theorem dX12_isSteady_104 : decode cX12_isSteady 104 = .ok (.aload_n 0, 1) := by decide +kernel
theorem dX12_isSteady_105 : decode cX12_isSteady 105 = .ok (.getfield 91, 3) := by decide +kernel
theorem dX12_isSteady_108 : decode cX12_isSteady 108 = .ok (.iload_n 3, 1) := by decide +kernel
theorem dX12_isSteady_109 : decode cX12_isSteady 109 = .ok (.aload_n 0, 1) := by decide +kernel
theorem dX12_isSteady_110 : decode cX12_isSteady 110 = .ok (.getfield 88, 3) := by decide +kernel
theorem dX12_isSteady_113 : decode cX12_isSteady 113 = .ok (.iload_n 2, 1) := by decide +kernel
theorem dX12_isSteady_114 : decode cX12_isSteady 114 = .ok (.laload, 1) := by decide +kernel
theorem dX12_isSteady_115 : decode cX12_isSteady 115 = .ok (.aload_n 0, 1) := by decide +kernel
theorem dX12_isSteady_116 : decode cX12_isSteady 116 = .ok (.getfield 88, 3) := by decide +kernel
theorem dX12_isSteady_119 : decode cX12_isSteady 119 = .ok (.iload_n 3, 1) := by decide +kernel
theorem dX12_isSteady_120 : decode cX12_isSteady 120 = .ok (.iconst 1, 1) := by decide +kernel
theorem dX12_isSteady_121 : decode cX12_isSteady 121 = .ok (.iadd, 1) := by decide +kernel
theorem dX12_isSteady_122 : decode cX12_isSteady 122 = .ok (.laload, 1) := by decide +kernel
theorem dX12_isSteady_123 : decode cX12_isSteady 123 = .ok (.lmul, 1) := by decide +kernel
theorem dX12_isSteady_124 : decode cX12_isSteady 124 = .ok (.aload_n 0, 1) := by decide +kernel
theorem dX12_isSteady_125 : decode cX12_isSteady 125 = .ok (.getfield 88, 3) := by decide +kernel
theorem dX12_isSteady_128 : decode cX12_isSteady 128 = .ok (.iconst 0, 1) := by decide +kernel
theorem dX12_isSteady_129 : decode cX12_isSteady 129 = .ok (.laload, 1) := by decide +kernel
theorem dX12_isSteady_130 : decode cX12_isSteady 130 = .ok (.aload_n 0, 1) := by decide +kernel
theorem dX12_isSteady_131 : decode cX12_isSteady 131 = .ok (.getfield 88, 3) := by decide +kernel
theorem dX12_isSteady_134 : decode cX12_isSteady 134 = .ok (.iload_n 2, 1) := by decide +kernel
theorem dX12_isSteady_135 : decode cX12_isSteady 135 = .ok (.iconst 1, 1) := by decide +kernel
theorem dX12_isSteady_136 : decode cX12_isSteady 136 = .ok (.isub, 1) := by decide +kernel
theorem dX12_isSteady_137 : decode cX12_isSteady 137 = .ok (.iload_n 3, 1) := by decide +kernel
theorem dX12_isSteady_138 : decode cX12_isSteady 138 = .ok (.isub, 1) := by decide +kernel
theorem dX12_isSteady_139 : decode cX12_isSteady 139 = .ok (.laload, 1) := by decide +kernel
theorem dX12_isSteady_140 : decode cX12_isSteady 140 = .ok (.lmul, 1) := by decide +kernel
theorem dX12_isSteady_141 : decode cX12_isSteady 141 = .ok (.lsub, 1) := by decide +kernel
theorem dX12_isSteady_142 : decode cX12_isSteady 142 = .ok (.lastore, 1) := by decide +kernel
theorem dX12_isSteady_143 : decode cX12_isSteady 143 = .ok (.iinc 3 1, 3) := by decide +kernel
theorem dX12_isSteady_146 : decode cX12_isSteady 146 = .ok (.goto (-47), 3) := by decide +kernel
theorem dX12_isSteady_149 : decode cX12_isSteady 149 = .ok (.iinc 2 (-1), 3) := by decide +kernel
theorem dX12_isSteady_152 : decode cX12_isSteady 152 = .ok (.iconst 0, 1) := by decide +kernel
theorem dX12_isSteady_153 : decode cX12_isSteady 153 = .ok (.istore_n 3, 1) := by decide +kernel
theorem dX12_isSteady_154 : decode cX12_isSteady 154 = .ok (.iload_n 3, 1) := by decide +kernel
theorem dX12_isSteady_155 : decode cX12_isSteady 155 = .ok (.iload_n 2, 1) := by decide +kernel
theorem dX12_isSteady_156 : decode cX12_isSteady 156 = .ok (.if_icmp .gt 21, 3) := by decide +kernel
theorem dX12_isSteady_159 : decode cX12_isSteady 159 = .ok (.aload_n 0, 1) := by decide +kernel
theorem dX12_isSteady_160 : decode cX12_isSteady 160 = .ok (.getfield 88, 3) := by decide +kernel
theorem dX12_isSteady_163 : decode cX12_isSteady 163 = .ok (.iload_n 3, 1) := by decide +kernel
theorem dX12_isSteady_164 : decode cX12_isSteady 164 = .ok (.aload_n 0, 1) := by decide +kernel
theorem dX12_isSteady_165 : decode cX12_isSteady 165 = .ok (.getfield 91, 3) := by decide +kernel
theorem dX12_isSteady_168 : decode cX12_isSteady 168 = .ok (.iload_n 3, 1) := by decide +kernel
theorem dX12_isSteady_169 : decode cX12_isSteady 169 = .ok (.laload, 1) := by decide +kernel
theorem dX12_isSteady_170 : decode cX12_isSteady 170 = .ok (.lastore, 1) := by decide +kernel
theorem dX12_isSteady_171 : decode cX12_isSteady 171 = .ok (.iinc 3 1, 3) := by decide +kernel
theorem dX12_isSteady_174 : decode cX12_isSteady 174 = .ok (.goto (-20), 3) := by decide +kernel
theorem dX12_isSteady_177 : decode cX12_isSteady 177 = .ok (.goto (-109), 3) := by decide +kernel
theorem dX12_isSteady_180 : decode cX12_isSteady 180 = .ok (.iload_n 2, 1) := by decide +kernel
theorem dX12_isSteady_181 : decode cX12_isSteady 181 = .ok (.ifCond .le 27, 3) := by decide +kernel
theorem dX12_isSteady_184 : decode cX12_isSteady 184 = .ok (.aload_n 0, 1) := by decide +kernel
theorem dX12_isSteady_185 : decode cX12_isSteady 185 = .ok (.getfield 88, 3) := by decide +kernel
theorem dX12_isSteady_188 : decode cX12_isSteady 188 = .ok (.iconst 0, 1) := by decide +kernel
theorem dX12_isSteady_189 : decode cX12_isSteady 189 = .ok (.laload, 1) := by decide +kernel
theorem dX12_isSteady_190 : decode cX12_isSteady 190 = .ok (.invokestatic 271, 3) := by decide +kernel
theorem dX12_isSteady_193 : decode cX12_isSteady 193 = .ok (.aload_n 0, 1) := by decide +kernel
theorem dX12_isSteady_194 : decode cX12_isSteady 194 = .ok (.getfield 88, 3) := by decide +kernel
theorem dX12_isSteady_197 : decode cX12_isSteady 197 = .ok (.iload_n 2, 1) := by decide +kernel
theorem dX12_isSteady_198 : decode cX12_isSteady 198 = .ok (.laload, 1) := by decide +kernel
theorem dX12_isSteady_199 : decode cX12_isSteady 199 = .ok (.invokestatic 271, 3) := by decide +kernel
theorem dX12_isSteady_202 : decode cX12_isSteady 202 = .ok (.lcmp, 1) := by decide +kernel
theorem dX12_isSteady_203 : decode cX12_isSteady 203 = .ok (.ifCond .lt 5, 3) := by decide +kernel
theorem dX12_isSteady_206 : decode cX12_isSteady 206 = .ok (.iconst 0, 1) := by decide +kernel
theorem dX12_isSteady_207 : decode cX12_isSteady 207 = .ok (.ireturn, 1) := by decide +kernel
theorem dX12_isSteady_208 : decode cX12_isSteady 208 = .ok (.iload_n 2, 1) := by decide +kernel
theorem dX12_isSteady_209 : decode cX12_isSteady 209 = .ok (.iconst 2, 1) := by decide +kernel
theorem dX12_isSteady_210 : decode cX12_isSteady 210 = .ok (.if_icmp .lt 32, 3) := by decide +kernel
theorem dX12_isSteady_213 : decode cX12_isSteady 213 = .ok (.aload_n 0, 1) := by decide +kernel
theorem dX12_isSteady_214 : decode cX12_isSteady 214 = .ok (.getfield 88, 3) := by decide +kernel
theorem dX12_isSteady_217 : decode cX12_isSteady 217 = .ok (.iconst 1, 1) := by decide +kernel
theorem dX12_isSteady_218 : decode cX12_isSteady 218 = .ok (.laload, 1) := by decide +kernel
theorem dX12_isSteady_219 : decode cX12_isSteady 219 = .ok (.invokestatic 271, 3) := by decide +kernel
theorem dX12_isSteady_222 : decode cX12_isSteady 222 = .ok (.aload_n 0, 1) := by decide +kernel
theorem dX12_isSteady_223 : decode cX12_isSteady 223 = .ok (.getfield 88, 3) := by decide +kernel
theorem dX12_isSteady_226 : decode cX12_isSteady 226 = .ok (.iconst 2, 1) := by decide +kernel
theorem dX12_isSteady_227 : decode cX12_isSteady 227 = .ok (.laload, 1) := by decide +kernel
theorem dX12_isSteady_228 : decode cX12_isSteady 228 = .ok (.aload_n 0, 1) := by decide +kernel
theorem dX12_isSteady_229 : decode cX12_isSteady 229 = .ok (.getfield 88, 3) := by decide +kernel
theorem dX12_isSteady_232 : decode cX12_isSteady 232 = .ok (.iconst 0, 1) := by decide +kernel
theorem dX12_isSteady_233 : decode cX12_isSteady 233 = .ok (.laload, 1) := by decide +kernel
theorem dX12_isSteady_234 : decode cX12_isSteady 234 = .ok (.ladd, 1) := by decide +kernel
theorem dX12_isSteady_235 : decode cX12_isSteady 235 = .ok (.invokestatic 271, 3) := by decide +kernel
theorem dX12_isSteady_238 : decode cX12_isSteady 238 = .ok (.lcmp, 1) := by decide +kernel
theorem dX12_isSteady_239 : decode cX12_isSteady 239 = .ok (.ifCond .ge 7, 3) := by decide +kernel
theorem dX12_isSteady_242 : decode cX12_isSteady 242 = .ok (.iconst 1, 1) := by decide +kernel
theorem dX12_isSteady_243 : decode cX12_isSteady 243 = .ok (.goto 4, 3) := by decide +kernel
theorem dX12_isSteady_246 : decode cX12_isSteady 246 = .ok (.iconst 0, 1) := by decide +kernel
theorem dX12_isSteady_247 : decode cX12_isSteady 247 = .ok (.ireturn, 1) := by decide +kernel
set_option maxRecDepth 20000 in
theorem ggX12_steady_X12_in : GoodIn wsX12_steady wsX12_in := goodIn_r _ [5] (by decide +kernel) (by decide +kernel)
set_option maxRecDepth 20000 in
theorem gX12_steady_X12_in : GoodIn wsX12_steady (va_wsS RX12 130 yX12_in wsX12_in) := goodIn_app (goodIn_of _ (by decide +kernel)) ggX12_steady_X12_in
set_option maxRecDepth 20000 in
theorem ggX12_steady_X12_isSteady : GoodIn wsX12_steady wsX12_isSteady := goodIn_r _ [9, 10, 1, 11, 12, 13, 14, 4, 15, 16, 17, 18, 19, 20, 21, 22, 23, 24, 25, 26, 27, 28, 29, 30, 31, 32, 33, 34, 35, 36, 37, 38, 39, 40, 41, 42, 43, 44, 45, 46, 47, 48, 49, 50, 51, 52, 53, 54, 55, 56] (by decide +kernel) (by decide +kernel)
set_option maxRecDepth 20000 in
theorem gX12_steady_X12_isSteady : GoodIn wsX12_steady (wsV RX12 275 RX12 yX12_isSteady wsX12_isSteady) := goodIn_app (goodIn_of _ (by decide +kernel)) ggX12_steady_X12_isSteady
theorem dX12_steady_0 : decode cX12_steady 0 = .ok (.iload_n 1, 1) := by decide +kernel
theorem dX12_steady_1 : decode cX12_steady 1 = .ok (.i2l, 1) := by decide +kernel
theorem dX12_steady_2 : decode cX12_steady 2 = .ok (.lconst 0, 1) := by decide +kernel
theorem dX12_steady_3 : decode cX12_steady 3 = .ok (.ldc2_w 260, 3) := by decide +kernel
theorem dX12_steady_6 : decode cX12_steady 6 = .ok (.invokestatic 130, 3) := by decide +kernel
theorem dX12_steady_9 : decode cX12_steady 9 = .ok (.ifCond .ne 7, 3) := by decide +kernel
theorem dX12_steady_12 : decode cX12_steady 12 = .ok (.iconst (-1), 1) := by decide +kernel
theorem dX12_steady_13 : decode cX12_steady 13 = .ok (.goto 16, 3) := by decide +kernel
theorem dX12_steady_16 : decode cX12_steady 16 = .ok (.aload_n 0, 1) := by decide +kernel
theorem dX12_steady_17 : decode cX12_steady 17 = .ok (.iload_n 1, 1) := by decide +kernel
theorem dX12_steady_18 : decode cX12_steady 18 = .ok (.invokevirtual 275, 3) := by decide +kernel
theorem dX12_steady_21 : decode cX12_steady 21 = .ok (.ifCond .eq 7, 3) := by decide +kernel
theorem dX12_steady_24 : decode cX12_steady 24 = .ok (.iconst 1, 1) := by decide +kernel
theorem dX12_steady_25 : decode cX12_steady 25 = .ok (.goto 4, 3) := by decide +kernel
theorem dX12_steady_28 : decode cX12_steady 28 = .ok (.iconst 0, 1) := by decide +kernel
theorem dX12_steady_29 : decode cX12_steady 29 = .ok (.ireturn, 1) := by decide +kernel
set_option maxRecDepth 20000 in
theorem ggX12_unsteady_X12_in : GoodIn wsX12_unsteady wsX12_in := goodIn_r _ [5] (by decide +kernel) (by decide +kernel)
set_option maxRecDepth 20000 in
theorem gX12_unsteady_X12_in : GoodIn wsX12_unsteady (va_wsS RX12 130 yX12_in wsX12_in) := goodIn_app (goodIn_of _ (by decide +kernel)) ggX12_unsteady_X12_in
set_option maxRecDepth 20000 in
theorem ggX12_unsteady_X12_isSteady : GoodIn wsX12_unsteady wsX12_isSteady := goodIn_r _ [9, 10, 1, 11, 12, 13, 14, 4, 15, 16, 17, 18, 19, 20, 21, 22, 23, 24, 25, 26, 27, 28, 29, 30, 31, 32, 33, 34, 35, 36, 37, 38, 39, 40, 41, 42, 43, 44, 45, 46, 47, 48, 49, 50, 51, 52, 53, 54, 55, 56] (by decide +kernel) (by decide +kernel)
set_option maxRecDepth 20000 in
theorem gX12_unsteady_X12_isSteady : GoodIn wsX12_unsteady (wsV RX12 275 RX12 yX12_isSteady wsX12_isSteady) := goodIn_app (goodIn_of _ (by decide +kernel)) ggX12_unsteady_X12_isSteady
theorem dX12_unsteady_0 : decode cX12_unsteady 0 = .ok (.iload_n 1, 1) := by decide +kernel
theorem dX12_unsteady_1 : decode cX12_unsteady 1 = .ok (.i2l, 1) := by decide +kernel
theorem dX12_unsteady_2 : decode cX12_unsteady 2 = .ok (.lconst 0, 1) := by decide +kernel
theorem dX12_unsteady_3 : decode cX12_unsteady 3 = .ok (.iload_n 2, 1) := by decide +kernel
theorem dX12_unsteady_4 : decode cX12_unsteady 4 = .ok (.i2l, 1) := by decide +kernel
theorem dX12_unsteady_5 : decode cX12_unsteady 5 = .ok (.invokestatic 130, 3) := by decide +kernel
theorem dX12_unsteady_8 : decode cX12_unsteady 8 = .ok (.ifCond .eq 15, 3) := by decide +kernel
theorem dX12_unsteady_11 : decode cX12_unsteady 11 = .ok (.iload_n 2, 1) := by decide +kernel
theorem dX12_unsteady_12 : decode cX12_unsteady 12 = .ok (.i2l, 1) := by decide +kernel
theorem dX12_unsteady_13 : decode cX12_unsteady 13 = .ok (.lconst 0, 1) := by decide +kernel
theorem dX12_unsteady_14 : decode cX12_unsteady 14 = .ok (.ldc2_w 260, 3) := by decide +kernel
theorem dX12_unsteady_17 : decode cX12_unsteady 17 = .ok (.invokestatic 130, 3) := by decide +kernel
theorem dX12_unsteady_20 : decode cX12_unsteady 20 = .ok (.ifCond .ne 5, 3) := by decide +kernel
theorem dX12_unsteady_23 : decode cX12_unsteady 23 = .ok (.iconst (-1), 1) := by decide +kernel
theorem dX12_unsteady_24 : decode cX12_unsteady 24 = .ok (.ireturn, 1) := by decide +kernel
theorem dX12_unsteady_25 : decode cX12_unsteady 25 = .ok (.iload_n 1, 1) := by decide +kernel
theorem dX12_unsteady_26 : decode cX12_unsteady 26 = .ok (.istore_n 3, 1) := by decide +kernel
theorem dX12_unsteady_27 : decode cX12_unsteady 27 = .ok (.iload_n 3, 1) := by decide +kernel
theorem dX12_unsteady_28 : decode cX12_unsteady 28 = .ok (.iload_n 2, 1) := by decide +kernel
theorem dX12_unsteady_29 : decode cX12_unsteady 29 = .ok (.if_icmp .gt 19, 3) := by decide +kernel
theorem dX12_unsteady_32 : decode cX12_unsteady 32 = .ok (.aload_n 0, 1) := by decide +kernel
theorem dX12_unsteady_33 : decode cX12_unsteady 33 = .ok (.iload_n 3, 1) := by decide +kernel
theorem dX12_unsteady_34 : decode cX12_unsteady 34 = .ok (.invokevirtual 275, 3) := by decide +kernel
theorem dX12_unsteady_37 : decode cX12_unsteady 37 = .ok (.ifCond .ne 5, 3) := by decide +kernel
theorem dX12_unsteady_40 : decode cX12_unsteady 40 = .ok (.iload_n 3, 1) := by decide +kernel
theorem dX12_unsteady_41 : decode cX12_unsteady 41 = .ok (.ireturn, 1) := by decide +kernel
theorem dX12_unsteady_42 : decode cX12_unsteady 42 = .ok (.iinc 3 1, 3) := by decide +kernel
theorem dX12_unsteady_45 : decode cX12_unsteady 45 = .ok (.goto (-18), 3) := by decide +kernel
theorem dX12_unsteady_48 : decode cX12_unsteady 48 = .ok (.bipush (-4), 2) := by decide +kernel
theorem dX12_unsteady_50 : decode cX12_unsteady 50 = .ok (.ireturn, 1) := by decide +kernel
set_option maxRecDepth 20000 in
theorem ggX12_isLayer_X12_in : GoodIn wsX12_isLayer wsX12_in := goodIn_r _ [5] (by decide +kernel) (by decide +kernel)
set_option maxRecDepth 20000 in
theorem gX12_isLayer_X12_in : GoodIn wsX12_isLayer (va_wsS RX12 130 yX12_in wsX12_in) := goodIn_app (goodIn_of _ (by decide +kernel)) ggX12_isLayer_X12_in
theorem dX12_isLayer_0 : decode cX12_isLayer 0 = .ok (.iload_n 0, 1) := by decide +kernel
theorem dX12_isLayer_1 : decode cX12_isLayer 1 = .ok (.i2l, 1) := by decide +kernel
theorem dX12_isLayer_2 : decode cX12_isLayer 2 = .ok (.lconst 0, 1) := by decide +kernel
theorem dX12_isLayer_3 : decode cX12_isLayer 3 = .ok (.ldc2_w 265, 3) := by decide +kernel
theorem dX12_isLayer_6 : decode cX12_isLayer 6 = .ok (.invokestatic 130, 3) := by decide +kernel
theorem dX12_isLayer_9 : decode cX12_isLayer 9 = .ok (.ireturn, 1) := by decide +kernel
set_option maxRecDepth 20000 in
theorem ggX12_cell_X12_isLayer : GoodIn wsX12_cell wsX12_isLayer := goodIn_r _ [8, 9, 10, 11, 7, 12] (by decide +kernel) (by decide +kernel)
set_option maxRecDepth 20000 in
theorem gX12_cell_X12_isLayer : GoodIn wsX12_cell (va_wsS RX12 278 yX12_isLayer wsX12_isLayer) := goodIn_app (goodIn_of _ (by decide +kernel)) ggX12_cell_X12_isLayer
set_option maxRecDepth 20000 in
theorem ggX12_cell_X12_in : GoodIn wsX12_cell wsX12_in := goodIn_r _ [12] (by decide +kernel) (by decide +kernel)
set_option maxRecDepth 20000 in
theorem gX12_cell_X12_in : GoodIn wsX12_cell (va_wsS RX12 130 yX12_in wsX12_in) := goodIn_app (goodIn_of _ (by decide +kernel)) ggX12_cell_X12_in
theorem dX12_cell_0 : decode cX12_cell 0 = .ok (.iload_n 1, 1) := by decide +kernel
theorem dX12_cell_1 : decode cX12_cell 1 = .ok (.invokestatic 278, 3) := by decide +kernel
theorem dX12_cell_4 : decode cX12_cell 4 = .ok (.ifCond .eq 29, 3) := by decide +kernel
theorem dX12_cell_7 : decode cX12_cell 7 = .ok (.iload_n 2, 1) := by decide +kernel
theorem dX12_cell_8 : decode cX12_cell 8 = .ok (.i2l, 1) := by decide +kernel
theorem dX12_cell_9 : decode cX12_cell 9 = .ok (.lconst 0, 1) := by decide +kernel
theorem dX12_cell_10 : decode cX12_cell 10 = .ok (.ldc2_w 281, 3) := by decide +kernel
theorem dX12_cell_13 : decode cX12_cell 13 = .ok (.invokestatic 130, 3) := by decide +kernel
theorem dX12_cell_16 : decode cX12_cell 16 = .ok (.ifCond .eq 17, 3) := by decide +kernel
theorem dX12_cell_19 : decode cX12_cell 19 = .ok (.iload_n 3, 1) := by decide +kernel
theorem dX12_cell_20 : decode cX12_cell 20 = .ok (.i2l, 1) := by decide +kernel
theorem dX12_cell_21 : decode cX12_cell 21 = .ok (.ldc2_w 283, 3) := by decide +kernel
theorem dX12_cell_24 : decode cX12_cell 24 = .ok (.ldc2_w 178, 3) := by decide +kernel
theorem dX12_cell_27 : decode cX12_cell 27 = .ok (.invokestatic 130, 3) := by decide +kernel
theorem dX12_cell_30 : decode cX12_cell 30 = .ok (.ifCond .ne 7, 3) := by decide +kernel
theorem dX12_cell_33 : decode cX12_cell 33 = .ok (.sipush (-10001), 3) := by decide +kernel
theorem dX12_cell_36 : decode cX12_cell 36 = .ok (.ireturn, 1) := by decide +kernel
theorem dX12_cell_37 : decode cX12_cell 37 = .ok (.aload_n 0, 1) := by decide +kernel
theorem dX12_cell_38 : decode cX12_cell 38 = .ok (.getfield 94, 3) := by decide +kernel
theorem dX12_cell_41 : decode cX12_cell 41 = .ok (.bipush 32, 2) := by decide +kernel
theorem dX12_cell_43 : decode cX12_cell 43 = .ok (.iload_n 1, 1) := by decide +kernel
theorem dX12_cell_44 : decode cX12_cell 44 = .ok (.imul, 1) := by decide +kernel
theorem dX12_cell_45 : decode cX12_cell 45 = .ok (.iload_n 2, 1) := by decide +kernel
theorem dX12_cell_46 : decode cX12_cell 46 = .ok (.iadd, 1) := by decide +kernel
theorem dX12_cell_47 : decode cX12_cell 47 = .ok (.iaload, 1) := by decide +kernel
theorem dX12_cell_48 : decode cX12_cell 48 = .ok (.istore 4, 2) := by decide +kernel
theorem dX12_cell_50 : decode cX12_cell 50 = .ok (.aload_n 0, 1) := by decide +kernel
theorem dX12_cell_51 : decode cX12_cell 51 = .ok (.getfield 94, 3) := by decide +kernel
theorem dX12_cell_54 : decode cX12_cell 54 = .ok (.bipush 32, 2) := by decide +kernel
theorem dX12_cell_56 : decode cX12_cell 56 = .ok (.iload_n 1, 1) := by decide +kernel
theorem dX12_cell_57 : decode cX12_cell 57 = .ok (.imul, 1) := by decide +kernel
theorem dX12_cell_58 : decode cX12_cell 58 = .ok (.iload_n 2, 1) := by decide +kernel
theorem dX12_cell_59 : decode cX12_cell 59 = .ok (.iadd, 1) := by decide +kernel
theorem dX12_cell_60 : decode cX12_cell 60 = .ok (.iload_n 3, 1) := by decide +kernel
theorem dX12_cell_61 : decode cX12_cell 61 = .ok (.iastore, 1) := by decide +kernel
theorem dX12_cell_62 : decode cX12_cell 62 = .ok (.iload 4, 2) := by decide +kernel
theorem dX12_cell_64 : decode cX12_cell 64 = .ok (.ireturn, 1) := by decide +kernel
set_option maxRecDepth 20000 in
theorem ggX12_wind_X12_isLayer : GoodIn wsX12_wind wsX12_isLayer := goodIn_r _ [7, 8, 9, 10, 6, 11] (by decide +kernel) (by decide +kernel)
set_option maxRecDepth 20000 in
theorem gX12_wind_X12_isLayer : GoodIn wsX12_wind (va_wsS RX12 278 yX12_isLayer wsX12_isLayer) := goodIn_app (goodIn_of _ (by decide +kernel)) ggX12_wind_X12_isLayer
set_option maxRecDepth 20000 in
theorem ggX12_wind_X12_in : GoodIn wsX12_wind wsX12_in := goodIn_r _ [11] (by decide +kernel) (by decide +kernel)
set_option maxRecDepth 20000 in
theorem gX12_wind_X12_in : GoodIn wsX12_wind (va_wsS RX12 130 yX12_in wsX12_in) := goodIn_app (goodIn_of _ (by decide +kernel)) ggX12_wind_X12_in
theorem dX12_wind_0 : decode cX12_wind 0 = .ok (.iload_n 1, 1) := by decide +kernel
theorem dX12_wind_1 : decode cX12_wind 1 = .ok (.invokestatic 278, 3) := by decide +kernel
theorem dX12_wind_4 : decode cX12_wind 4 = .ok (.ifCond .eq 17, 3) := by decide +kernel
theorem dX12_wind_7 : decode cX12_wind 7 = .ok (.iload_n 2, 1) := by decide +kernel
theorem dX12_wind_8 : decode cX12_wind 8 = .ok (.i2l, 1) := by decide +kernel
theorem dX12_wind_9 : decode cX12_wind 9 = .ok (.ldc2_w 285, 3) := by decide +kernel
theorem dX12_wind_12 : decode cX12_wind 12 = .ok (.ldc2_w 281, 3) := by decide +kernel
theorem dX12_wind_15 : decode cX12_wind 15 = .ok (.invokestatic 130, 3) := by decide +kernel
theorem dX12_wind_18 : decode cX12_wind 18 = .ok (.ifCond .ne 7, 3) := by decide +kernel
theorem dX12_wind_21 : decode cX12_wind 21 = .ok (.sipush (-10001), 3) := by decide +kernel
theorem dX12_wind_24 : decode cX12_wind 24 = .ok (.ireturn, 1) := by decide +kernel
theorem dX12_wind_25 : decode cX12_wind 25 = .ok (.aload_n 0, 1) := by decide +kernel
theorem dX12_wind_26 : decode cX12_wind 26 = .ok (.getfield 97, 3) := by decide +kernel
theorem dX12_wind_29 : decode cX12_wind 29 = .ok (.iload_n 1, 1) := by decide +kernel
theorem dX12_wind_30 : decode cX12_wind 30 = .ok (.iaload, 1) := by decide +kernel
theorem dX12_wind_31 : decode cX12_wind 31 = .ok (.istore_n 3, 1) := by decide +kernel
theorem dX12_wind_32 : decode cX12_wind 32 = .ok (.aload_n 0, 1) := by decide +kernel
theorem dX12_wind_33 : decode cX12_wind 33 = .ok (.getfield 97, 3) := by decide +kernel
theorem dX12_wind_36 : decode cX12_wind 36 = .ok (.iload_n 1, 1) := by decide +kernel
theorem dX12_wind_37 : decode cX12_wind 37 = .ok (.iload_n 2, 1) := by decide +kernel
theorem dX12_wind_38 : decode cX12_wind 38 = .ok (.iastore, 1) := by decide +kernel
theorem dX12_wind_39 : decode cX12_wind 39 = .ok (.iload_n 3, 1) := by decide +kernel
theorem dX12_wind_40 : decode cX12_wind 40 = .ok (.ireturn, 1) := by decide +kernel
set_option maxRecDepth 20000 in
theorem ggX12_foretell_X12_isSpot : GoodIn wsX12_foretell wsX12_isSpot := goodIn_r _ [9, 10, 11, 12, 8, 13, 14, 15, 16, 17, 18, 19, 20, 21, 22, 23, 24, 25, 26, 27, 28, 29, 30, 31, 32, 33, 34, 35, 36, 37, 38, 39, 40, 41, 42, 43, 44, 45, 46, 47, 48, 49, 50, 51, 52, 53, 54] (by decide +kernel) (by decide +kernel)
set_option maxRecDepth 20000 in
theorem gX12_foretell_X12_isSpot : GoodIn wsX12_foretell (wsV RX12 136 RX12 yX12_isSpot wsX12_isSpot) := goodIn_app (goodIn_of _ (by decide +kernel)) ggX12_foretell_X12_isSpot
set_option maxRecDepth 20000 in
theorem ggX12_foretell_X12_in : GoodIn wsX12_foretell wsX12_in := goodIn_r _ [13] (by decide +kernel) (by decide +kernel)
set_option maxRecDepth 20000 in
theorem gX12_foretell_X12_in : GoodIn wsX12_foretell (va_wsS RX12 130 yX12_in wsX12_in) := goodIn_app (goodIn_of _ (by decide +kernel)) ggX12_foretell_X12_in
theorem dX12_foretell_0 : decode cX12_foretell 0 = .ok (.aload_n 0, 1) := by decide +kernel
theorem dX12_foretell_1 : decode cX12_foretell 1 = .ok (.iload_n 1, 1) := by decide +kernel
theorem dX12_foretell_2 : decode cX12_foretell 2 = .ok (.invokevirtual 136, 3) := by decide +kernel
theorem dX12_foretell_5 : decode cX12_foretell 5 = .ok (.ifCond .eq 15, 3) := by decide +kernel
theorem dX12_foretell_8 : decode cX12_foretell 8 = .ok (.iload_n 2, 1) := by decide +kernel
theorem dX12_foretell_9 : decode cX12_foretell 9 = .ok (.i2l, 1) := by decide +kernel
theorem dX12_foretell_10 : decode cX12_foretell 10 = .ok (.lconst 0, 1) := by decide +kernel
theorem dX12_foretell_11 : decode cX12_foretell 11 = .ok (.ldc2_w 232, 3) := by decide +kernel
theorem dX12_foretell_14 : decode cX12_foretell 14 = .ok (.invokestatic 130, 3) := by decide +kernel
theorem dX12_foretell_17 : decode cX12_foretell 17 = .ok (.ifCond .ne 7, 3) := by decide +kernel
theorem dX12_foretell_20 : decode cX12_foretell 20 = .ok (.sipush (-10001), 3) := by decide +kernel
theorem dX12_foretell_23 : decode cX12_foretell 23 = .ok (.ireturn, 1) := by decide +kernel
theorem dX12_foretell_24 : decode cX12_foretell 24 = .ok (.iconst 0, 1) := by decide +kernel
theorem dX12_foretell_25 : decode cX12_foretell 25 = .ok (.istore_n 3, 1) := by decide +kernel
theorem dX12_foretell_26 : decode cX12_foretell 26 = .ok (.iconst 0, 1) := by decide +kernel
theorem dX12_foretell_27 : decode cX12_foretell 27 = .ok (.istore 4, 2) := by decide +kernel
theorem dX12_foretell_29 : decode cX12_foretell 29 = .ok (.iload 4, 2) := by decide +kernel
theorem dX12_foretell_31 : decode cX12_foretell 31 = .ok (.iconst 3, 1) := by decide +kernel
theorem dX12_foretell_32 : decode cX12_foretell 32 = .ok (.if_icmp .ge 68, 3) := by decide +kernel
theorem dX12_foretell_35 : decode cX12_foretell 35 = .ok (.aload_n 0, 1) := by decide +kernel
theorem dX12_foretell_36 : decode cX12_foretell 36 = .ok (.getfield 26, 3) := by decide +kernel
theorem dX12_foretell_39 : decode cX12_foretell 39 = .ok (.bipush 6, 2) := by decide +kernel
theorem dX12_foretell_41 : decode cX12_foretell 41 = .ok (.iaload, 1) := by decide +kernel
theorem dX12_foretell_42 : decode cX12_foretell 42 = .ok (.iload_n 1, 1) := by decide +kernel
theorem dX12_foretell_43 : decode cX12_foretell 43 = .ok (.imul, 1) := by decide +kernel

theorem dX11_spot_81 : decode cX11_spot 81 = .ok (.getfield 26, 3) := by decide +kernel
theorem dX11_spot_84 : decode cX11_spot 84 = .ok (.iload_n 1, 1) := by decide +kernel
theorem dX11_spot_85 : decode cX11_spot 85 = .ok (.invokevirtual 140, 3) := by decide +kernel
theorem dX11_spot_88 : decode cX11_spot 88 = .ok (.ireturn, 1) := by decide +kernel
theorem dX11_spot_89 : decode cX11_spot 89 = .ok (.iload_n 3, 1) := by decide +kernel
theorem dX11_spot_90 : decode cX11_spot 90 = .ok (.ifCond .eq 7, 3) := by decide +kernel
theorem dX11_spot_93 : decode cX11_spot 93 = .ok (.iconst 1, 1) := by decide +kernel
theorem dX11_spot_94 : decode cX11_spot 94 = .ok (.goto 4, 3) := by decide +kernel
theorem dX11_spot_97 : decode cX11_spot 97 = .ok (.iconst 0, 1) := by decide +kernel
theorem dX11_spot_98 : decode cX11_spot 98 = .ok (.ireturn, 1) := by decide +kernel
theorem dX11_spot_99 : decode cX11_spot 99 = .ok (.iload_n 3, 1) := by decide +kernel
theorem dX11_spot_100 : decode cX11_spot 100 = .ok (.ifCond .eq 8, 3) := by decide +kernel
theorem dX11_spot_103 : decode cX11_spot 103 = .ok (.bipush (-4), 2) := by decide +kernel
theorem dX11_spot_105 : decode cX11_spot 105 = .ok (.goto 11, 3) := by decide +kernel
theorem dX11_spot_108 : decode cX11_spot 108 = .ok (.aload_n 0, 1) := by decide +kernel
theorem dX11_spot_109 : decode cX11_spot 109 = .ok (.getfield 26, 3) := by decide +kernel
theorem dX11_spot_112 : decode cX11_spot 112 = .ok (.iload_n 1, 1) := by decide +kernel
theorem dX11_spot_113 : decode cX11_spot 113 = .ok (.invokevirtual 143, 3) := by decide +kernel
theorem dX11_spot_116 : decode cX11_spot 116 = .ok (.ireturn, 1) := by decide +kernel
theorem dX11_spot_117 : decode cX11_spot 117 = .ok (.iload_n 3, 1) := by decide +kernel
theorem dX11_spot_118 : decode cX11_spot 118 = .ok (.ifCond .eq 9, 3) := by decide +kernel
theorem dX11_spot_121 : decode cX11_spot 121 = .ok (.sipush (-10002), 3) := by decide +kernel
theorem dX11_spot_124 : decode cX11_spot 124 = .ok (.goto 11, 3) := by decide +kernel
theorem dX11_spot_127 : decode cX11_spot 127 = .ok (.aload_n 0, 1) := by decide +kernel
theorem dX11_spot_128 : decode cX11_spot 128 = .ok (.getfield 26, 3) := by decide +kernel
theorem dX11_spot_131 : decode cX11_spot 131 = .ok (.iload_n 1, 1) := by decide +kernel
theorem dX11_spot_132 : decode cX11_spot 132 = .ok (.invokevirtual 146, 3) := by decide +kernel
theorem dX11_spot_135 : decode cX11_spot 135 = .ok (.ireturn, 1) := by decide +kernel
set_option maxRecDepth 20000 in
theorem ggX11_table_X11_isSpot : GoodIn wsX11_table wsX11_isSpot := goodIn_r _ [6, 7, 8, 9, 10, 11, 12, 13, 14, 15, 5, 16, 35, 36, 37, 38, 39, 40, 41, 42, 43, 44, 45, 46, 47, 48, 49, 50, 51, 52] (by decide +kernel) (by decide +kernel)
set_option maxRecDepth 20000 in
theorem gX11_table_X11_isSpot : GoodIn wsX11_table (wsV RX11 99 RX11 yX11_isSpot wsX11_isSpot) := goodIn_app (goodIn_of _ (by decide +kernel)) ggX11_table_X11_isSpot
set_option maxRecDepth 20000 in
theorem ggX11_table_X11_isPart : GoodIn wsX11_table wsX11_isPart := goodIn_r _ [20, 21, 22, 23, 24, 25, 26, 27, 14, 15, 5, 16, 35, 36, 37, 38, 39, 40, 41, 42, 43, 44, 45, 53, 54, 55, 56] (by decide +kernel) (by decide +kernel)
set_option maxRecDepth 20000 in
theorem gX11_table_X11_isPart : GoodIn wsX11_table (wsV RX11 149 RX11 yX11_isPart wsX11_isPart) := goodIn_app (goodIn_of _ (by decide +kernel)) ggX11_table_X11_isPart
set_option maxRecDepth 20000 in
theorem ggX11_table_X11_within : GoodIn wsX11_table wsX11_within := goodIn_r _ [16] (by decide +kernel) (by decide +kernel)
set_option maxRecDepth 20000 in
theorem gX11_table_X11_within : GoodIn wsX11_table (va_wsS RX11 86 yX11_within wsX11_within) := goodIn_app (goodIn_of _ (by decide +kernel)) ggX11_table_X11_within
set_option maxRecDepth 20000 in
theorem ggX11_table_X10_swap : GoodIn wsX11_table wsX10_swap := goodIn_r _ [32, 33, 34, 57, 58, 59, 60, 61, 62] (by decide +kernel) (by decide +kernel)
set_option maxRecDepth 20000 in
theorem gX11_table_X10_swap : GoodIn wsX11_table (wsV RX11 152 RX10 yX10_swap wsX10_swap) := goodIn_app (goodIn_of _ (by decide +kernel)) ggX11_table_X10_swap
theorem dX11_table_0 : decode cX11_table 0 = .ok (.aload_n 0, 1) := by decide +kernel
theorem dX11_table_1 : decode cX11_table 1 = .ok (.iload_n 1, 1) := by decide +kernel
theorem dX11_table_2 : decode cX11_table 2 = .ok (.invokevirtual 99, 3) := by decide +kernel
theorem dX11_table_5 : decode cX11_table 5 = .ok (.ifCond .eq 22, 3) := by decide +kernel
theorem dX11_table_8 : decode cX11_table 8 = .ok (.aload_n 0, 1) := by decide +kernel
theorem dX11_table_9 : decode cX11_table 9 = .ok (.iload_n 2, 1) := by decide +kernel
theorem dX11_table_10 : decode cX11_table 10 = .ok (.invokevirtual 149, 3) := by decide +kernel
theorem dX11_table_13 : decode cX11_table 13 = .ok (.ifCond .eq 14, 3) := by decide +kernel
theorem dX11_table_16 : decode cX11_table 16 = .ok (.iload_n 3, 1) := by decide +kernel
theorem dX11_table_17 : decode cX11_table 17 = .ok (.bipush (-9), 2) := by decide +kernel
theorem dX11_table_19 : decode cX11_table 19 = .ok (.bipush 9, 2) := by decide +kernel
theorem dX11_table_21 : decode cX11_table 21 = .ok (.invokestatic 86, 3) := by decide +kernel
theorem dX11_table_24 : decode cX11_table 24 = .ok (.ifCond .ne 7, 3) := by decide +kernel
theorem dX11_table_27 : decode cX11_table 27 = .ok (.sipush (-10001), 3) := by decide +kernel
theorem dX11_table_30 : decode cX11_table 30 = .ok (.ireturn, 1) := by decide +kernel
theorem dX11_table_31 : decode cX11_table 31 = .ok (.aload_n 0, 1) := by decide +kernel
theorem dX11_table_32 : decode cX11_table 32 = .ok (.getfield 33, 3) := by decide +kernel
theorem dX11_table_35 : decode cX11_table 35 = .ok (.iload_n 1, 1) := by decide +kernel
theorem dX11_table_36 : decode cX11_table 36 = .ok (.iload_n 2, 1) := by decide +kernel
theorem dX11_table_37 : decode cX11_table 37 = .ok (.iload_n 3, 1) := by decide +kernel
theorem dX11_table_38 : decode cX11_table 38 = .ok (.invokevirtual 152, 3) := by decide +kernel
theorem dX11_table_41 : decode cX11_table 41 = .ok (.ireturn, 1) := by decide +kernel
set_option maxRecDepth 20000 in
theorem ggX11_poke_X11_isPart : GoodIn wsX11_poke wsX11_isPart := goodIn_r _ [8, 9, 10, 11, 12, 13, 14, 15, 16, 17, 7, 18, 82, 83, 84, 85, 86, 87, 88, 89, 90, 91, 92, 93, 94, 95, 96] (by decide +kernel) (by decide +kernel)
set_option maxRecDepth 20000 in
theorem gX11_poke_X11_isPart : GoodIn wsX11_poke (wsV RX11 149 RX11 yX11_isPart wsX11_isPart) := goodIn_app (goodIn_of _ (by decide +kernel)) ggX11_poke_X11_isPart
set_option maxRecDepth 20000 in
theorem ggX11_poke_X11_within : GoodIn wsX11_poke wsX11_within := goodIn_r _ [18] (by decide +kernel) (by decide +kernel)
set_option maxRecDepth 20000 in
theorem gX11_poke_X11_within : GoodIn wsX11_poke (va_wsS RX11 86 yX11_within wsX11_within) := goodIn_app (goodIn_of _ (by decide +kernel)) ggX11_poke_X11_within
set_option maxRecDepth 20000 in
theorem ggX11_poke_X9_count : GoodIn wsX11_poke wsX9_count := goodIn_r _ [23, 24, 97, 98, 99, 100, 101, 102, 103] (by decide +kernel) (by decide +kernel)
set_option maxRecDepth 20000 in
theorem gX11_poke_X9_count : GoodIn wsX11_poke (wsV RX11 154 RX9 yX9_count wsX9_count) := goodIn_app (goodIn_of _ (by decide +kernel)) ggX11_poke_X9_count
set_option maxRecDepth 20000 in
theorem ggX11_poke_X8_refusal : GoodIn wsX11_poke wsX8_refusal := goodIn_r _ [29, 30, 31, 32, 7, 33, 16, 17, 18, 34, 35, 36, 37, 38, 28, 39, 104, 105, 106] (by decide +kernel) (by decide +kernel)
set_option maxRecDepth 20000 in
theorem gX11_poke_X8_refusal : GoodIn wsX11_poke (wsV RX11 107 RX8 yX8_refusal wsX8_refusal) := goodIn_app (goodIn_of _ (by decide +kernel)) ggX11_poke_X8_refusal
set_option maxRecDepth 20000 in
theorem ggX11_poke_X8_allWithin : GoodIn wsX11_poke wsX8_allWithin := goodIn_r _ [43, 44, 45, 46, 28, 47, 48, 17, 7, 18, 104, 105, 106] (by decide +kernel) (by decide +kernel)
set_option maxRecDepth 20000 in
theorem gX11_poke_X8_allWithin : GoodIn wsX11_poke (wsV RX11 111 RX8 yX8_allWithin wsX8_allWithin) := goodIn_app (goodIn_of _ (by decide +kernel)) ggX11_poke_X8_allWithin
set_option maxRecDepth 20000 in
theorem ggX11_poke_X10_pokesOf : GoodIn wsX11_poke wsX10_pokesOf := goodIn_r _ [53, 54, 107, 108, 109, 110, 111, 112] (by decide +kernel) (by decide +kernel)
set_option maxRecDepth 20000 in
theorem gX11_poke_X10_pokesOf : GoodIn wsX11_poke (wsV RX11 158 RX10 yX10_pokesOf wsX10_pokesOf) := goodIn_app (goodIn_of _ (by decide +kernel)) ggX11_poke_X10_pokesOf
set_option maxRecDepth 20000 in
theorem ggX11_poke_X10_begin : GoodIn wsX11_poke wsX10_begin := goodIn_r _ [58, 59, 54, 107, 108, 109, 110, 111, 112] (by decide +kernel) (by decide +kernel)
set_option maxRecDepth 20000 in
theorem gX11_poke_X10_begin : GoodIn wsX11_poke (wsV RX11 161 RX10 yX10_begin wsX10_begin) := goodIn_app (goodIn_of _ (by decide +kernel)) ggX11_poke_X10_begin
set_option maxRecDepth 20000 in
theorem ggX11_poke_X8_at : GoodIn wsX11_poke wsX8_at := goodIn_r _ [47, 48, 104, 105, 106] (by decide +kernel) (by decide +kernel)
set_option maxRecDepth 20000 in
theorem gX11_poke_X8_at : GoodIn wsX11_poke (wsV RX11 115 RX8 yX8_at wsX8_at) := goodIn_app (goodIn_of _ (by decide +kernel)) ggX11_poke_X8_at
set_option maxRecDepth 20000 in
theorem ggX11_poke_X10_add : GoodIn wsX11_poke wsX10_add := goodIn_r _ [64, 54, 65, 66, 67, 68, 69, 70, 71, 72, 73, 74, 75, 59, 76, 7, 77, 78, 79, 80, 81, 107, 108, 109, 110, 111, 112] (by decide +kernel) (by decide +kernel)
set_option maxRecDepth 20000 in
theorem gX11_poke_X10_add : GoodIn wsX11_poke (wsV RX11 164 RX10 yX10_add wsX10_add) := goodIn_app (goodIn_of _ (by decide +kernel)) ggX11_poke_X10_add
theorem dX11_poke_0 : decode cX11_poke 0 = .ok (.aload_n 0, 1) := by decide +kernel
theorem dX11_poke_1 : decode cX11_poke 1 = .ok (.iload_n 1, 1) := by decide +kernel
theorem dX11_poke_2 : decode cX11_poke 2 = .ok (.invokevirtual 149, 3) := by decide +kernel
theorem dX11_poke_5 : decode cX11_poke 5 = .ok (.ifCond .eq 13, 3) := by decide +kernel
theorem dX11_poke_8 : decode cX11_poke 8 = .ok (.iload_n 2, 1) := by decide +kernel
theorem dX11_poke_9 : decode cX11_poke 9 = .ok (.iconst 1, 1) := by decide +kernel
theorem dX11_poke_10 : decode cX11_poke 10 = .ok (.bipush 99, 2) := by decide +kernel
theorem dX11_poke_12 : decode cX11_poke 12 = .ok (.invokestatic 86, 3) := by decide +kernel
theorem dX11_poke_15 : decode cX11_poke 15 = .ok (.ifCond .ne 5, 3) := by decide +kernel
theorem dX11_poke_18 : decode cX11_poke 18 = .ok (.iconst (-1), 1) := by decide +kernel
theorem dX11_poke_19 : decode cX11_poke 19 = .ok (.ireturn, 1) := by decide +kernel
theorem dX11_poke_20 : decode cX11_poke 20 = .ok (.aload_n 0, 1) := by decide +kernel
theorem dX11_poke_21 : decode cX11_poke 21 = .ok (.getfield 19, 3) := by decide +kernel
theorem dX11_poke_24 : decode cX11_poke 24 = .ok (.iload_n 3, 1) := by decide +kernel
theorem dX11_poke_25 : decode cX11_poke 25 = .ok (.iload 4, 2) := by decide +kernel
theorem dX11_poke_27 : decode cX11_poke 27 = .ok (.iload 5, 2) := by decide +kernel
theorem dX11_poke_29 : decode cX11_poke 29 = .ok (.aload_n 0, 1) := by decide +kernel
theorem dX11_poke_30 : decode cX11_poke 30 = .ok (.getfield 26, 3) := by decide +kernel
theorem dX11_poke_33 : decode cX11_poke 33 = .ok (.invokevirtual 154, 3) := by decide +kernel
theorem dX11_poke_36 : decode cX11_poke 36 = .ok (.invokevirtual 107, 3) := by decide +kernel
theorem dX11_poke_39 : decode cX11_poke 39 = .ok (.istore 6, 2) := by decide +kernel
theorem dX11_poke_41 : decode cX11_poke 41 = .ok (.iload 6, 2) := by decide +kernel
theorem dX11_poke_43 : decode cX11_poke 43 = .ok (.ifCond .eq 6, 3) := by decide +kernel
theorem dX11_poke_46 : decode cX11_poke 46 = .ok (.iload 6, 2) := by decide +kernel
theorem dX11_poke_48 : decode cX11_poke 48 = .ok (.ireturn, 1) := by decide +kernel
theorem dX11_poke_49 : decode cX11_poke 49 = .ok (.aload_n 0, 1) := by decide +kernel
theorem dX11_poke_50 : decode cX11_poke 50 = .ok (.getfield 19, 3) := by decide +kernel
theorem dX11_poke_53 : decode cX11_poke 53 = .ok (.iload_n 3, 1) := by decide +kernel
theorem dX11_poke_54 : decode cX11_poke 54 = .ok (.iload 5, 2) := by decide +kernel
theorem dX11_poke_56 : decode cX11_poke 56 = .ok (.aload_n 0, 1) := by decide +kernel
theorem dX11_poke_57 : decode cX11_poke 57 = .ok (.getfield 26, 3) := by decide +kernel
theorem dX11_poke_60 : decode cX11_poke 60 = .ok (.invokevirtual 154, 3) := by decide +kernel
theorem dX11_poke_63 : decode cX11_poke 63 = .ok (.sipush (-999), 3) := by decide +kernel
theorem dX11_poke_66 : decode cX11_poke 66 = .ok (.sipush 999, 3) := by decide +kernel
theorem dX11_poke_69 : decode cX11_poke 69 = .ok (.invokevirtual 111, 3) := by decide +kernel
theorem dX11_poke_72 : decode cX11_poke 72 = .ok (.ifCond .ne 6, 3) := by decide +kernel
theorem dX11_poke_75 : decode cX11_poke 75 = .ok (.bipush (-2), 2) := by decide +kernel
theorem dX11_poke_77 : decode cX11_poke 77 = .ok (.ireturn, 1) := by decide +kernel
theorem dX11_poke_78 : decode cX11_poke 78 = .ok (.aload_n 0, 1) := by decide +kernel
theorem dX11_poke_79 : decode cX11_poke 79 = .ok (.getfield 33, 3) := by decide +kernel
theorem dX11_poke_82 : decode cX11_poke 82 = .ok (.iload_n 1, 1) := by decide +kernel
theorem dX11_poke_83 : decode cX11_poke 83 = .ok (.invokevirtual 158, 3) := by decide +kernel
theorem dX11_poke_86 : decode cX11_poke 86 = .ok (.bipush 9, 2) := by decide +kernel
theorem dX11_poke_88 : decode cX11_poke 88 = .ok (.if_icmp .lt 6, 3) := by decide +kernel
theorem dX11_poke_91 : decode cX11_poke 91 = .ok (.bipush (-3), 2) := by decide +kernel
theorem dX11_poke_93 : decode cX11_poke 93 = .ok (.ireturn, 1) := by decide +kernel
theorem dX11_poke_94 : decode cX11_poke 94 = .ok (.aload_n 0, 1) := by decide +kernel
theorem dX11_poke_95 : decode cX11_poke 95 = .ok (.getfield 33, 3) := by decide +kernel
theorem dX11_poke_98 : decode cX11_poke 98 = .ok (.iload_n 1, 1) := by decide +kernel
theorem dX11_poke_99 : decode cX11_poke 99 = .ok (.iload_n 2, 1) := by decide +kernel
theorem dX11_poke_100 : decode cX11_poke 100 = .ok (.invokevirtual 161, 3) := by decide +kernel
theorem dX11_poke_103 : decode cX11_poke 103 = .ok (.iconst 0, 1) := by decide +kernel
theorem dX11_poke_104 : decode cX11_poke 104 = .ok (.istore 7, 2) := by decide +kernel
theorem dX11_poke_106 : decode cX11_poke 106 = .ok (.iload 7, 2) := by decide +kernel
theorem dX11_poke_108 : decode cX11_poke 108 = .ok (.aload_n 0, 1) := by decide +kernel
theorem dX11_poke_109 : decode cX11_poke 109 = .ok (.getfield 26, 3) := by decide +kernel
theorem dX11_poke_112 : decode cX11_poke 112 = .ok (.invokevirtual 154, 3) := by decide +kernel
theorem dX11_poke_115 : decode cX11_poke 115 = .ok (.if_icmp .ge 33, 3) := by decide +kernel
theorem dX11_poke_118 : decode cX11_poke 118 = .ok (.aload_n 0, 1) := by decide +kernel
theorem dX11_poke_119 : decode cX11_poke 119 = .ok (.getfield 33, 3) := by decide +kernel
theorem dX11_poke_122 : decode cX11_poke 122 = .ok (.iload 7, 2) := by decide +kernel
theorem dX11_poke_124 : decode cX11_poke 124 = .ok (.iload_n 1, 1) := by decide +kernel
theorem dX11_poke_125 : decode cX11_poke 125 = .ok (.iload_n 2, 1) := by decide +kernel
theorem dX11_poke_126 : decode cX11_poke 126 = .ok (.aload_n 0, 1) := by decide +kernel
theorem dX11_poke_127 : decode cX11_poke 127 = .ok (.getfield 19, 3) := by decide +kernel
theorem dX11_poke_130 : decode cX11_poke 130 = .ok (.iload_n 3, 1) := by decide +kernel
theorem dX11_poke_131 : decode cX11_poke 131 = .ok (.iload 5, 2) := by decide +kernel
theorem dX11_poke_133 : decode cX11_poke 133 = .ok (.iload 7, 2) := by decide +kernel
theorem dX11_poke_135 : decode cX11_poke 135 = .ok (.iadd, 1) := by decide +kernel
theorem dX11_poke_136 : decode cX11_poke 136 = .ok (.invokevirtual 115, 3) := by decide +kernel
theorem dX11_poke_139 : decode cX11_poke 139 = .ok (.invokevirtual 164, 3) := by decide +kernel
theorem dX11_poke_142 : decode cX11_poke 142 = .ok (.iinc 7 1, 3) := by decide +kernel
theorem dX11_poke_145 : decode cX11_poke 145 = .ok (.goto (-39), 3) := by decide +kernel
theorem dX11_poke_148 : decode cX11_poke 148 = .ok (.aload_n 0, 1) := by decide +kernel
theorem dX11_poke_149 : decode cX11_poke 149 = .ok (.getfield 33, 3) := by decide +kernel
theorem dX11_poke_152 : decode cX11_poke 152 = .ok (.iload_n 1, 1) := by decide +kernel
theorem dX11_poke_153 : decode cX11_poke 153 = .ok (.invokevirtual 158, 3) := by decide +kernel
theorem dX11_poke_156 : decode cX11_poke 156 = .ok (.ireturn, 1) := by decide +kernel
set_option maxRecDepth 20000 in
theorem ggX11_told_X11_isSpot : GoodIn wsX11_told wsX11_isSpot := goodIn_r _ [6, 7, 8, 9, 10, 11, 12, 13, 14, 15, 5, 16, 45, 46, 47, 48, 49, 50, 51, 52, 53, 54, 55, 56, 57, 58, 59, 60, 61, 62] (by decide +kernel) (by decide +kernel)
set_option maxRecDepth 20000 in
theorem gX11_told_X11_isSpot : GoodIn wsX11_told (wsV RX11 99 RX11 yX11_isSpot wsX11_isSpot) := goodIn_app (goodIn_of _ (by decide +kernel)) ggX11_told_X11_isSpot
set_option maxRecDepth 20000 in
theorem ggX11_told_X11_isPart : GoodIn wsX11_told wsX11_isPart := goodIn_r _ [20, 21, 22, 23, 24, 25, 26, 27, 14, 15, 5, 16, 45, 46, 47, 48, 49, 50, 51, 52, 53, 54, 55, 63, 64, 65, 66] (by decide +kernel) (by decide +kernel)
set_option maxRecDepth 20000 in
theorem gX11_told_X11_isPart : GoodIn wsX11_told (wsV RX11 149 RX11 yX11_isPart wsX11_isPart) := goodIn_app (goodIn_of _ (by decide +kernel)) ggX11_told_X11_isPart
set_option maxRecDepth 20000 in
theorem ggX11_told_X11_within : GoodIn wsX11_told wsX11_within := goodIn_r _ [16] (by decide +kernel) (by decide +kernel)
set_option maxRecDepth 20000 in
theorem gX11_told_X11_within : GoodIn wsX11_told (va_wsS RX11 86 yX11_within wsX11_within) := goodIn_app (goodIn_of _ (by decide +kernel)) ggX11_told_X11_within
set_option maxRecDepth 20000 in
theorem ggX11_told_X10_number : GoodIn wsX11_told wsX10_number := goodIn_r _ [32, 33, 67, 68, 69, 70, 71, 72] (by decide +kernel) (by decide +kernel)
set_option maxRecDepth 20000 in
theorem gX11_told_X10_number : GoodIn wsX11_told (wsV RX11 168 RX10 yX10_number wsX10_number) := goodIn_app (goodIn_of _ (by decide +kernel)) ggX11_told_X10_number
set_option maxRecDepth 20000 in
theorem ggX11_told_X10_pokesOf : GoodIn wsX11_told wsX10_pokesOf := goodIn_r _ [37, 38, 67, 68, 69, 70, 71, 72] (by decide +kernel) (by decide +kernel)
set_option maxRecDepth 20000 in
theorem gX11_told_X10_pokesOf : GoodIn wsX11_told (wsV RX11 158 RX10 yX10_pokesOf wsX10_pokesOf) := goodIn_app (goodIn_of _ (by decide +kernel)) ggX11_told_X10_pokesOf
set_option maxRecDepth 20000 in
theorem ggX11_told_X10_doubt : GoodIn wsX11_told wsX10_doubt := goodIn_r _ [42, 43, 44, 67, 68, 69, 70, 71, 72] (by decide +kernel) (by decide +kernel)
set_option maxRecDepth 20000 in
theorem gX11_told_X10_doubt : GoodIn wsX11_told (wsV RX11 171 RX10 yX10_doubt wsX10_doubt) := goodIn_app (goodIn_of _ (by decide +kernel)) ggX11_told_X10_doubt
theorem dX11_told_0 : decode cX11_told 0 = .ok (.aload_n 0, 1) := by decide +kernel
theorem dX11_told_1 : decode cX11_told 1 = .ok (.iload_n 1, 1) := by decide +kernel
theorem dX11_told_2 : decode cX11_told 2 = .ok (.invokevirtual 99, 3) := by decide +kernel
theorem dX11_told_5 : decode cX11_told 5 = .ok (.ifCond .eq 20, 3) := by decide +kernel
theorem dX11_told_8 : decode cX11_told 8 = .ok (.aload_n 0, 1) := by decide +kernel
theorem dX11_told_9 : decode cX11_told 9 = .ok (.iload_n 2, 1) := by decide +kernel
theorem dX11_told_10 : decode cX11_told 10 = .ok (.invokevirtual 149, 3) := by decide +kernel
theorem dX11_told_13 : decode cX11_told 13 = .ok (.ifCond .eq 12, 3) := by decide +kernel
theorem dX11_told_16 : decode cX11_told 16 = .ok (.iload_n 3, 1) := by decide +kernel
theorem dX11_told_17 : decode cX11_told 17 = .ok (.iconst 0, 1) := by decide +kernel
theorem dX11_told_18 : decode cX11_told 18 = .ok (.iconst 1, 1) := by decide +kernel
theorem dX11_told_19 : decode cX11_told 19 = .ok (.invokestatic 86, 3) := by decide +kernel
theorem dX11_told_22 : decode cX11_told 22 = .ok (.ifCond .ne 7, 3) := by decide +kernel
theorem dX11_told_25 : decode cX11_told 25 = .ok (.sipush (-10001), 3) := by decide +kernel
theorem dX11_told_28 : decode cX11_told 28 = .ok (.ireturn, 1) := by decide +kernel
theorem dX11_told_29 : decode cX11_told 29 = .ok (.iload_n 3, 1) := by decide +kernel
theorem dX11_told_30 : decode cX11_told 30 = .ok (.ifCond .ne 13, 3) := by decide +kernel
theorem dX11_told_33 : decode cX11_told 33 = .ok (.aload_n 0, 1) := by decide +kernel
theorem dX11_told_34 : decode cX11_told 34 = .ok (.getfield 33, 3) := by decide +kernel
theorem dX11_told_37 : decode cX11_told 37 = .ok (.iload_n 1, 1) := by decide +kernel
theorem dX11_told_38 : decode cX11_told 38 = .ok (.iload_n 2, 1) := by decide +kernel
theorem dX11_told_39 : decode cX11_told 39 = .ok (.invokevirtual 168, 3) := by decide +kernel
theorem dX11_told_42 : decode cX11_told 42 = .ok (.ireturn, 1) := by decide +kernel
theorem dX11_told_43 : decode cX11_told 43 = .ok (.aload_n 0, 1) := by decide +kernel
theorem dX11_told_44 : decode cX11_told 44 = .ok (.getfield 33, 3) := by decide +kernel
theorem dX11_told_47 : decode cX11_told 47 = .ok (.iload_n 2, 1) := by decide +kernel
theorem dX11_told_48 : decode cX11_told 48 = .ok (.invokevirtual 158, 3) := by decide +kernel
theorem dX11_told_51 : decode cX11_told 51 = .ok (.ifCond .ne 9, 3) := by decide +kernel
theorem dX11_told_54 : decode cX11_told 54 = .ok (.sipush (-10004), 3) := by decide +kernel
theorem dX11_told_57 : decode cX11_told 57 = .ok (.goto 12, 3) := by decide +kernel
theorem dX11_told_60 : decode cX11_told 60 = .ok (.aload_n 0, 1) := by decide +kernel
theorem dX11_told_61 : decode cX11_told 61 = .ok (.getfield 33, 3) := by decide +kernel
theorem dX11_told_64 : decode cX11_told 64 = .ok (.iload_n 1, 1) := by decide +kernel
theorem dX11_told_65 : decode cX11_told 65 = .ok (.iload_n 2, 1) := by decide +kernel
theorem dX11_told_66 : decode cX11_told 66 = .ok (.invokevirtual 171, 3) := by decide +kernel
theorem dX11_told_69 : decode cX11_told 69 = .ok (.ireturn, 1) := by decide +kernel
set_option maxRecDepth 20000 in
theorem ggX11_dead_X11_isPart : GoodIn wsX11_dead wsX11_isPart := goodIn_r _ [6, 1, 7, 8, 9, 10, 11, 12, 13, 14, 5, 15, 21, 22, 23, 24, 25, 26, 27, 28, 29, 30, 31, 32, 33, 34, 35] (by decide +kernel) (by decide +kernel)
set_option maxRecDepth 20000 in
theorem gX11_dead_X11_isPart : GoodIn wsX11_dead (wsV RX11 149 RX11 yX11_isPart wsX11_isPart) := goodIn_app (goodIn_of _ (by decide +kernel)) ggX11_dead_X11_isPart
set_option maxRecDepth 20000 in
theorem ggX11_dead_X6_swapDead : GoodIn wsX11_dead wsX6_swapDead := goodIn_r _ [19, 20, 32, 33, 34, 35] (by decide +kernel) (by decide +kernel)
set_option maxRecDepth 20000 in
theorem gX11_dead_X6_swapDead : GoodIn wsX11_dead (wsV RX11 174 RX6 yX6_swapDead wsX6_swapDead) := goodIn_app (goodIn_of _ (by decide +kernel)) ggX11_dead_X6_swapDead
theorem dX11_dead_0 : decode cX11_dead 0 = .ok (.aload_n 0, 1) := by decide +kernel
theorem dX11_dead_1 : decode cX11_dead 1 = .ok (.iload_n 1, 1) := by decide +kernel
theorem dX11_dead_2 : decode cX11_dead 2 = .ok (.invokevirtual 149, 3) := by decide +kernel
theorem dX11_dead_5 : decode cX11_dead 5 = .ok (.ifCond .eq 7, 3) := by decide +kernel
theorem dX11_dead_8 : decode cX11_dead 8 = .ok (.iload_n 1, 1) := by decide +kernel
theorem dX11_dead_9 : decode cX11_dead 9 = .ok (.ifCond .ne 5, 3) := by decide +kernel
theorem dX11_dead_12 : decode cX11_dead 12 = .ok (.iconst (-1), 1) := by decide +kernel
theorem dX11_dead_13 : decode cX11_dead 13 = .ok (.ireturn, 1) := by decide +kernel
theorem dX11_dead_14 : decode cX11_dead 14 = .ok (.aload_n 0, 1) := by decide +kernel
theorem dX11_dead_15 : decode cX11_dead 15 = .ok (.getfield 40, 3) := by decide +kernel
theorem dX11_dead_18 : decode cX11_dead 18 = .ok (.iload_n 1, 1) := by decide +kernel
theorem dX11_dead_19 : decode cX11_dead 19 = .ok (.iload_n 2, 1) := by decide +kernel
theorem dX11_dead_20 : decode cX11_dead 20 = .ok (.invokevirtual 174, 3) := by decide +kernel
theorem dX11_dead_23 : decode cX11_dead 23 = .ok (.ifCond .eq 7, 3) := by decide +kernel
theorem dX11_dead_26 : decode cX11_dead 26 = .ok (.iconst 1, 1) := by decide +kernel
theorem dX11_dead_27 : decode cX11_dead 27 = .ok (.goto 4, 3) := by decide +kernel
theorem dX11_dead_30 : decode cX11_dead 30 = .ok (.iconst 0, 1) := by decide +kernel
theorem dX11_dead_31 : decode cX11_dead 31 = .ok (.ireturn, 1) := by decide +kernel
set_option maxRecDepth 20000 in
theorem ggX11_seen_X11_findBends : GoodIn wsX11_seen wsX11_findBends := goodIn_r _ [6, 7, 8, 1, 9, 10, 11, 12, 13, 14, 15, 16, 17, 18, 19, 20, 21, 22, 23, 24, 25, 26, 27, 28, 29, 30, 31, 32, 33, 34, 35, 36, 5, 37, 38, 39, 40, 41, 42, 43, 44, 45, 46, 47, 48, 49, 50, 51, 52, 53, 54, 55, 56, 57, 58, 59, 60, 61, 62, 63, 64, 65, 66, 67, 68, 69, 70, 71, 72, 73, 74, 75, 76, 77, 78, 79, 80, 81, 82, 83, 84, 85, 86, 87, 88, 89, 90, 91, 92, 93, 94, 95, 96, 97, 98, 99, 100, 101, 102, 103, 104, 105, 106, 107, 108, 109, 110, 111, 112, 113, 114, 115, 116, 117, 118, 119, 120, 121, 122, 123, 124, 125, 126, 127, 128, 129, 130, 131, 132, 133, 134, 135, 136, 137, 138, 139, 140, 141, 146, 147, 148, 149, 150, 151, 152, 153, 154, 155, 156, 157, 158, 159, 160, 161, 162, 163, 164, 165, 166, 167, 168, 169, 170, 171, 172, 173, 174, 175, 176, 177, 178, 179, 180, 181, 182, 183] (by decide +kernel) (by decide +kernel)
set_option maxRecDepth 20000 in
theorem gX11_seen_X11_findBends : GoodIn wsX11_seen (wsV RX11 178 RX11 yX11_findBends wsX11_findBends) := goodIn_app (goodIn_of _ (by decide +kernel)) ggX11_seen_X11_findBends
set_option maxRecDepth 20000 in
theorem ggX11_seen_X0_seenBits : GoodIn wsX11_seen wsX0_seenBits := goodIn_r _ [145, 43, 112, 165, 166, 167, 168, 169, 170, 171, 172, 173] (by decide +kernel) (by decide +kernel)
set_option maxRecDepth 20000 in
theorem gX11_seen_X0_seenBits : GoodIn wsX11_seen (wsV RX11 181 RX0 yX0_seenBits wsX0_seenBits) := goodIn_app (goodIn_of _ (by decide +kernel)) ggX11_seen_X0_seenBits
theorem dX11_seen_0 : decode cX11_seen 0 = .ok (.aload_n 0, 1) := by decide +kernel
theorem dX11_seen_1 : decode cX11_seen 1 = .ok (.invokevirtual 178, 3) := by decide +kernel
theorem dX11_seen_4 : decode cX11_seen 4 = .ok (.aload_n 0, 1) := by decide +kernel
theorem dX11_seen_5 : decode cX11_seen 5 = .ok (.getfield 47, 3) := by decide +kernel
theorem dX11_seen_8 : decode cX11_seen 8 = .ok (.invokevirtual 181, 3) := by decide +kernel
theorem dX11_seen_11 : decode cX11_seen 11 = .ok (.ireturn, 1) := by decide +kernel
set_option maxRecDepth 20000 in
theorem ggX11_bend_X11_isPart : GoodIn wsX11_bend wsX11_isPart := goodIn_r _ [7, 8, 9, 10, 11, 12, 13, 14, 15, 16, 6, 17, 159, 160, 161, 162, 163, 164, 165, 166, 167, 168, 169, 170, 171, 172, 173] (by decide +kernel) (by decide +kernel)
set_option maxRecDepth 20000 in
theorem gX11_bend_X11_isPart : GoodIn wsX11_bend (wsV RX11 149 RX11 yX11_isPart wsX11_isPart) := goodIn_app (goodIn_of _ (by decide +kernel)) ggX11_bend_X11_isPart
set_option maxRecDepth 20000 in
theorem ggX11_bend_X11_within : GoodIn wsX11_bend wsX11_within := goodIn_r _ [17] (by decide +kernel) (by decide +kernel)
set_option maxRecDepth 20000 in
theorem gX11_bend_X11_within : GoodIn wsX11_bend (va_wsS RX11 86 yX11_within wsX11_within) := goodIn_app (goodIn_of _ (by decide +kernel)) ggX11_bend_X11_within
set_option maxRecDepth 20000 in
theorem ggX11_bend_X11_findBends : GoodIn wsX11_bend wsX11_findBends := goodIn_r _ [21, 22, 23, 2, 24, 8, 25, 26, 27, 28, 29, 30, 31, 32, 33, 34, 35, 36, 37, 38, 39, 40, 41, 42, 43, 44, 45, 46, 47, 48, 49, 50, 6, 51, 52, 53, 54, 55, 56, 57, 58, 59, 60, 61, 62, 63, 64, 65, 66, 67, 68, 69, 10, 11, 12, 13, 14, 70, 71, 72, 73, 74, 75, 76, 77, 78, 79, 80, 81, 82, 83, 84, 85, 86, 87, 88, 89, 90, 91, 92, 93, 94, 95, 96, 97, 98, 99, 100, 101, 102, 103, 104, 105, 106, 107, 108, 109, 110, 111, 112, 113, 114, 115, 116, 117, 118, 119, 120, 121, 122, 123, 124, 125, 126, 127, 128, 129, 130, 131, 132, 133, 134, 135, 136, 137, 138, 139, 140, 141, 142, 143, 144, 145, 146, 147, 148, 149, 150, 159, 160, 161, 162, 163, 164, 165, 166, 167, 168, 169, 174, 175, 176, 177, 178, 179, 180, 181, 182, 183, 184, 185, 186, 187, 188, 189, 190, 170, 171, 172, 173, 191, 192, 193, 194, 195, 196] (by decide +kernel) (by decide +kernel)
set_option maxRecDepth 20000 in
theorem gX11_bend_X11_findBends : GoodIn wsX11_bend (wsV RX11 178 RX11 yX11_findBends wsX11_findBends) := goodIn_app (goodIn_of _ (by decide +kernel)) ggX11_bend_X11_findBends
set_option maxRecDepth 20000 in
theorem ggX11_bend_X0_above : GoodIn wsX11_bend wsX0_above := goodIn_r _ [154, 58, 182, 183, 184, 185, 186, 187, 188, 189, 190] (by decide +kernel) (by decide +kernel)
set_option maxRecDepth 20000 in
theorem gX11_bend_X0_above : GoodIn wsX11_bend (wsV RX11 186 RX0 yX0_above wsX0_above) := goodIn_app (goodIn_of _ (by decide +kernel)) ggX11_bend_X0_above
set_option maxRecDepth 20000 in
theorem ggX11_bend_X0_below : GoodIn wsX11_bend wsX0_below := goodIn_r _ [158, 59, 182, 183, 184, 185, 186, 187, 188, 189, 190] (by decide +kernel) (by decide +kernel)
set_option maxRecDepth 20000 in
theorem gX11_bend_X0_below : GoodIn wsX11_bend (wsV RX11 190 RX0 yX0_below wsX0_below) := goodIn_app (goodIn_of _ (by decide +kernel)) ggX11_bend_X0_below
theorem dX11_bend_0 : decode cX11_bend 0 = .ok (.aload_n 0, 1) := by decide +kernel
theorem dX11_bend_1 : decode cX11_bend 1 = .ok (.iload_n 1, 1) := by decide +kernel
theorem dX11_bend_2 : decode cX11_bend 2 = .ok (.invokevirtual 149, 3) := by decide +kernel
theorem dX11_bend_5 : decode cX11_bend 5 = .ok (.ifCond .eq 12, 3) := by decide +kernel
theorem dX11_bend_8 : decode cX11_bend 8 = .ok (.iload_n 2, 1) := by decide +kernel
theorem dX11_bend_9 : decode cX11_bend 9 = .ok (.iconst 0, 1) := by decide +kernel
theorem dX11_bend_10 : decode cX11_bend 10 = .ok (.iconst 1, 1) := by decide +kernel
theorem dX11_bend_11 : decode cX11_bend 11 = .ok (.invokestatic 86, 3) := by decide +kernel
theorem dX11_bend_14 : decode cX11_bend 14 = .ok (.ifCond .ne 7, 3) := by decide +kernel
theorem dX11_bend_17 : decode cX11_bend 17 = .ok (.ldc2_w 184, 3) := by decide +kernel
theorem dX11_bend_20 : decode cX11_bend 20 = .ok (.lreturn, 1) := by decide +kernel
theorem dX11_bend_21 : decode cX11_bend 21 = .ok (.aload_n 0, 1) := by decide +kernel
theorem dX11_bend_22 : decode cX11_bend 22 = .ok (.invokevirtual 178, 3) := by decide +kernel
theorem dX11_bend_25 : decode cX11_bend 25 = .ok (.iload_n 2, 1) := by decide +kernel
theorem dX11_bend_26 : decode cX11_bend 26 = .ok (.ifCond .ne 14, 3) := by decide +kernel
theorem dX11_bend_29 : decode cX11_bend 29 = .ok (.aload_n 0, 1) := by decide +kernel
theorem dX11_bend_30 : decode cX11_bend 30 = .ok (.getfield 47, 3) := by decide +kernel
theorem dX11_bend_33 : decode cX11_bend 33 = .ok (.iload_n 1, 1) := by decide +kernel
theorem dX11_bend_34 : decode cX11_bend 34 = .ok (.invokevirtual 186, 3) := by decide +kernel
theorem dX11_bend_37 : decode cX11_bend 37 = .ok (.goto 11, 3) := by decide +kernel
theorem dX11_bend_40 : decode cX11_bend 40 = .ok (.aload_n 0, 1) := by decide +kernel
theorem dX11_bend_41 : decode cX11_bend 41 = .ok (.getfield 47, 3) := by decide +kernel
theorem dX11_bend_44 : decode cX11_bend 44 = .ok (.iload_n 1, 1) := by decide +kernel
theorem dX11_bend_45 : decode cX11_bend 45 = .ok (.invokevirtual 190, 3) := by decide +kernel
theorem dX11_bend_48 : decode cX11_bend 48 = .ok (.lreturn, 1) := by decide +kernel
set_option maxRecDepth 20000 in
theorem ggX11_whole_X11_isPart : GoodIn wsX11_whole wsX11_isPart := goodIn_r _ [6, 7, 8, 9, 10, 11, 12, 13, 14, 15, 5, 16, 154, 155, 156, 157, 158, 159, 160, 161, 162, 163, 164, 165, 166, 167, 168] (by decide +kernel) (by decide +kernel)
set_option maxRecDepth 20000 in
theorem gX11_whole_X11_isPart : GoodIn wsX11_whole (wsV RX11 149 RX11 yX11_isPart wsX11_isPart) := goodIn_app (goodIn_of _ (by decide +kernel)) ggX11_whole_X11_isPart
set_option maxRecDepth 20000 in
theorem ggX11_whole_X11_findBends : GoodIn wsX11_whole wsX11_findBends := goodIn_r _ [20, 21, 22, 1, 23, 7, 24, 25, 26, 27, 28, 29, 30, 31, 32, 33, 34, 35, 36, 37, 38, 39, 40, 41, 42, 43, 44, 45, 46, 47, 48, 49, 5, 50, 51, 52, 53, 54, 55, 56, 57, 58, 59, 60, 61, 62, 63, 64, 65, 66, 67, 68, 9, 10, 11, 12, 13, 69, 70, 71, 72, 73, 74, 75, 76, 77, 78, 79, 80, 81, 82, 83, 84, 85, 86, 87, 88, 89, 90, 91, 92, 93, 94, 95, 96, 97, 98, 99, 100, 101, 102, 103, 104, 105, 106, 107, 108, 109, 110, 111, 112, 113, 114, 115, 116, 117, 118, 119, 120, 121, 122, 123, 124, 125, 126, 127, 128, 129, 130, 131, 132, 133, 134, 135, 136, 137, 138, 139, 140, 141, 142, 143, 144, 145, 146, 147, 148, 149, 154, 155, 156, 157, 158, 159, 160, 161, 162, 163, 164, 169, 170, 171, 172, 173, 174, 175, 176, 177, 178, 179, 180, 181, 182, 183, 184, 185, 165, 166, 167, 168, 186, 187, 188, 189, 190, 191] (by decide +kernel) (by decide +kernel)
set_option maxRecDepth 20000 in
theorem gX11_whole_X11_findBends : GoodIn wsX11_whole (wsV RX11 178 RX11 yX11_findBends wsX11_findBends) := goodIn_app (goodIn_of _ (by decide +kernel)) ggX11_whole_X11_findBends
set_option maxRecDepth 20000 in
theorem ggX11_whole_X0_rounded : GoodIn wsX11_whole wsX0_rounded := goodIn_r _ [153, 105, 177, 178, 179, 180, 181, 182, 183, 184, 185] (by decide +kernel) (by decide +kernel)
set_option maxRecDepth 20000 in
theorem gX11_whole_X0_rounded : GoodIn wsX11_whole (wsV RX11 193 RX0 yX0_rounded wsX0_rounded) := goodIn_app (goodIn_of _ (by decide +kernel)) ggX11_whole_X0_rounded
theorem dX11_whole_0 : decode cX11_whole 0 = .ok (.aload_n 0, 1) := by decide +kernel
theorem dX11_whole_1 : decode cX11_whole 1 = .ok (.iload_n 1, 1) := by decide +kernel
theorem dX11_whole_2 : decode cX11_whole 2 = .ok (.invokevirtual 149, 3) := by decide +kernel
theorem dX11_whole_5 : decode cX11_whole 5 = .ok (.ifCond .ne 7, 3) := by decide +kernel
theorem dX11_whole_8 : decode cX11_whole 8 = .ok (.sipush (-10001), 3) := by decide +kernel
theorem dX11_whole_11 : decode cX11_whole 11 = .ok (.ireturn, 1) := by decide +kernel
theorem dX11_whole_12 : decode cX11_whole 12 = .ok (.aload_n 0, 1) := by decide +kernel
theorem dX11_whole_13 : decode cX11_whole 13 = .ok (.invokevirtual 178, 3) := by decide +kernel
theorem dX11_whole_16 : decode cX11_whole 16 = .ok (.aload_n 0, 1) := by decide +kernel
theorem dX11_whole_17 : decode cX11_whole 17 = .ok (.getfield 47, 3) := by decide +kernel
theorem dX11_whole_20 : decode cX11_whole 20 = .ok (.iload_n 1, 1) := by decide +kernel
theorem dX11_whole_21 : decode cX11_whole 21 = .ok (.invokevirtual 193, 3) := by decide +kernel
theorem dX11_whole_24 : decode cX11_whole 24 = .ok (.ireturn, 1) := by decide +kernel
set_option maxRecDepth 20000 in
theorem ggX11_nearest_X11_isPart : GoodIn wsX11_nearest wsX11_isPart := goodIn_r _ [6, 7, 8, 9, 10, 11, 12, 13, 14, 15, 5, 16, 200, 201, 202, 203, 204, 205, 206, 207, 208, 209, 210, 211, 212, 213, 214] (by decide +kernel) (by decide +kernel)
set_option maxRecDepth 20000 in
theorem gX11_nearest_X11_isPart : GoodIn wsX11_nearest (wsV RX11 149 RX11 yX11_isPart wsX11_isPart) := goodIn_app (goodIn_of _ (by decide +kernel)) ggX11_nearest_X11_isPart
set_option maxRecDepth 20000 in
theorem ggX11_nearest_X11_findBends : GoodIn wsX11_nearest wsX11_findBends := goodIn_r _ [20, 21, 22, 23, 24, 7, 25, 26, 27, 28, 29, 30, 31, 32, 33, 34, 35, 36, 37, 38, 39, 40, 41, 42, 43, 44, 45, 46, 47, 48, 49, 50, 5, 51, 52, 53, 54, 55, 56, 57, 58, 59, 60, 61, 62, 63, 64, 65, 66, 67, 68, 69, 9, 10, 11, 12, 13, 70, 71, 72, 73, 74, 75, 76, 77, 78, 79, 80, 81, 82, 83, 84, 85, 86, 87, 88, 89, 90, 91, 92, 93, 94, 95, 96, 97, 98, 99, 100, 101, 102, 103, 104, 105, 106, 107, 108, 109, 110, 111, 112, 113, 114, 115, 116, 117, 118, 119, 120, 121, 122, 123, 124, 125, 126, 127, 128, 129, 130, 131, 132, 133, 134, 135, 136, 137, 138, 139, 140, 141, 142, 143, 144, 145, 146, 147, 148, 149, 150, 200, 201, 202, 203, 204, 205, 206, 207, 208, 209, 210, 215, 216, 217, 218, 219, 220, 221, 222, 223, 224, 225, 226, 227, 228, 229, 230, 231, 211, 212, 213, 214, 232, 233, 234, 235, 236, 237] (by decide +kernel) (by decide +kernel)
set_option maxRecDepth 20000 in
theorem gX11_nearest_X11_findBends : GoodIn wsX11_nearest (wsV RX11 178 RX11 yX11_findBends wsX11_findBends) := goodIn_app (goodIn_of _ (by decide +kernel)) ggX11_nearest_X11_findBends
set_option maxRecDepth 20000 in
theorem ggX11_nearest_X11_fitWholes : GoodIn wsX11_nearest wsX11_fitWholes := goodIn_r _ [154, 7, 1, 23, 22, 8, 9, 10, 11, 12, 13, 155, 156, 157, 55, 158, 106, 159, 160, 161, 162, 163, 164, 25, 26, 27, 28, 29, 30, 165, 166, 167, 168, 169, 170, 171, 172, 173, 174, 175, 5, 176, 177, 178, 47, 179, 180, 46, 48, 181, 182, 183, 184, 185, 186, 187, 188, 189, 190, 191, 192, 71, 72, 73, 74, 193, 194, 195, 200, 201, 202, 203, 204, 205, 206, 207, 208, 209, 210, 211, 212, 213, 214, 223, 224, 225, 226, 227, 228, 229, 230, 231, 238, 239, 240, 241, 242, 243, 244, 215] (by decide +kernel) (by decide +kernel)
set_option maxRecDepth 20000 in
theorem gX11_nearest_X11_fitWholes : GoodIn wsX11_nearest (wsV RX11 196 RX11 yX11_fitWholes wsX11_fitWholes) := goodIn_app (goodIn_of _ (by decide +kernel)) ggX11_nearest_X11_fitWholes
set_option maxRecDepth 20000 in
theorem ggX11_nearest_X2_unitsOf : GoodIn wsX11_nearest wsX2_unitsOf := goodIn_r _ [199, 171, 238, 239, 240, 241, 242, 243, 244] (by decide +kernel) (by decide +kernel)
set_option maxRecDepth 20000 in
theorem gX11_nearest_X2_unitsOf : GoodIn wsX11_nearest (wsV RX11 199 RX2 yX2_unitsOf wsX2_unitsOf) := goodIn_app (goodIn_of _ (by decide +kernel)) ggX11_nearest_X2_unitsOf
theorem dX11_nearest_0 : decode cX11_nearest 0 = .ok (.aload_n 0, 1) := by decide +kernel
theorem dX11_nearest_1 : decode cX11_nearest 1 = .ok (.iload_n 1, 1) := by decide +kernel
theorem dX11_nearest_2 : decode cX11_nearest 2 = .ok (.invokevirtual 149, 3) := by decide +kernel
theorem dX11_nearest_5 : decode cX11_nearest 5 = .ok (.ifCond .ne 7, 3) := by decide +kernel
theorem dX11_nearest_8 : decode cX11_nearest 8 = .ok (.sipush (-10001), 3) := by decide +kernel
theorem dX11_nearest_11 : decode cX11_nearest 11 = .ok (.ireturn, 1) := by decide +kernel
theorem dX11_nearest_12 : decode cX11_nearest 12 = .ok (.aload_n 0, 1) := by decide +kernel
theorem dX11_nearest_13 : decode cX11_nearest 13 = .ok (.invokevirtual 178, 3) := by decide +kernel
theorem dX11_nearest_16 : decode cX11_nearest 16 = .ok (.aload_n 0, 1) := by decide +kernel
theorem dX11_nearest_17 : decode cX11_nearest 17 = .ok (.invokevirtual 196, 3) := by decide +kernel
theorem dX11_nearest_20 : decode cX11_nearest 20 = .ok (.aload_n 0, 1) := by decide +kernel
theorem dX11_nearest_21 : decode cX11_nearest 21 = .ok (.getfield 54, 3) := by decide +kernel
theorem dX11_nearest_24 : decode cX11_nearest 24 = .ok (.iload_n 1, 1) := by decide +kernel
theorem dX11_nearest_25 : decode cX11_nearest 25 = .ok (.invokevirtual 199, 3) := by decide +kernel
theorem dX11_nearest_28 : decode cX11_nearest 28 = .ok (.ireturn, 1) := by decide +kernel
set_option maxRecDepth 20000 in
theorem ggX11_off_X11_findBends : GoodIn wsX11_off wsX11_findBends := goodIn_r _ [6, 7, 8, 9, 10, 11, 12, 13, 14, 15, 16, 17, 18, 19, 20, 21, 22, 23, 24, 25, 26, 27, 28, 29, 30, 31, 32, 33, 34, 35, 36, 37, 5, 38, 39, 40, 41, 42, 43, 44, 45, 46, 47, 48, 49, 50, 51, 52, 53, 54, 55, 56, 57, 58, 59, 60, 61, 62, 63, 64, 65, 66, 67, 68, 69, 70, 71, 72, 73, 74, 75, 76, 77, 78, 79, 80, 81, 82, 83, 84, 85, 86, 87, 88, 89, 90, 91, 92, 93, 94, 95, 96, 97, 98, 99, 100, 101, 102, 103, 104, 105, 106, 107, 108, 109, 110, 111, 112, 113, 114, 115, 116, 117, 118, 119, 120, 121, 122, 123, 124, 125, 126, 127, 128, 129, 130, 131, 132, 133, 134, 135, 136, 137, 138, 139, 140, 141, 142, 193, 194, 195, 196, 197, 198, 199, 200, 201, 202, 203, 204, 205, 206, 207, 208, 209, 210, 211, 212, 213, 214, 215, 216, 217, 218, 219, 220, 221, 222, 223, 224, 225, 226, 227, 228, 229, 230] (by decide +kernel) (by decide +kernel)
set_option maxRecDepth 20000 in
theorem gX11_off_X11_findBends : GoodIn wsX11_off (wsV RX11 178 RX11 yX11_findBends wsX11_findBends) := goodIn_app (goodIn_of _ (by decide +kernel)) ggX11_off_X11_findBends
set_option maxRecDepth 20000 in
theorem ggX11_off_X11_fitWholes : GoodIn wsX11_off wsX11_fitWholes := goodIn_r _ [146, 11, 1, 9, 8, 147, 57, 58, 59, 60, 61, 148, 149, 150, 42, 151, 98, 152, 153, 154, 155, 156, 157, 12, 13, 14, 15, 16, 17, 158, 159, 160, 161, 162, 163, 164, 165, 166, 167, 168, 5, 169, 170, 171, 34, 172, 173, 33, 35, 174, 175, 176, 177, 178, 179, 180, 181, 182, 183, 184, 185, 63, 64, 65, 66, 186, 187, 188, 193, 194, 195, 196, 197, 198, 199, 200, 201, 202, 203, 221, 222, 223, 224, 212, 213, 214, 215, 216, 217, 218, 219, 220, 231, 232, 233, 234, 235, 236, 237, 204] (by decide +kernel) (by decide +kernel)
set_option maxRecDepth 20000 in
theorem gX11_off_X11_fitWholes : GoodIn wsX11_off (wsV RX11 196 RX11 yX11_fitWholes wsX11_fitWholes) := goodIn_app (goodIn_of _ (by decide +kernel)) ggX11_off_X11_fitWholes
set_option maxRecDepth 20000 in
theorem ggX11_off_X2_squares : GoodIn wsX11_off wsX2_squares := goodIn_r _ [192, 167, 231, 232, 233, 234, 235, 236, 237] (by decide +kernel) (by decide +kernel)
set_option maxRecDepth 20000 in
theorem gX11_off_X2_squares : GoodIn wsX11_off (wsV RX11 202 RX2 yX2_squares wsX2_squares) := goodIn_app (goodIn_of _ (by decide +kernel)) ggX11_off_X2_squares
theorem dX11_off_0 : decode cX11_off 0 = .ok (.aload_n 0, 1) := by decide +kernel
theorem dX11_off_1 : decode cX11_off 1 = .ok (.invokevirtual 178, 3) := by decide +kernel
theorem dX11_off_4 : decode cX11_off 4 = .ok (.aload_n 0, 1) := by decide +kernel
theorem dX11_off_5 : decode cX11_off 5 = .ok (.invokevirtual 196, 3) := by decide +kernel
theorem dX11_off_8 : decode cX11_off 8 = .ok (.aload_n 0, 1) := by decide +kernel
theorem dX11_off_9 : decode cX11_off 9 = .ok (.getfield 54, 3) := by decide +kernel
theorem dX11_off_12 : decode cX11_off 12 = .ok (.invokevirtual 202, 3) := by decide +kernel
theorem dX11_off_15 : decode cX11_off 15 = .ok (.lreturn, 1) := by decide +kernel
set_option maxRecDepth 20000 in
theorem ggX11_start_X3_now : GoodIn wsX11_start wsX3_now := goodIn_r _ [6, 7, 25, 26, 27, 28] (by decide +kernel) (by decide +kernel)
set_option maxRecDepth 20000 in
theorem gX11_start_X3_now : GoodIn wsX11_start (wsV RX11 206 RX3 yX3_now wsX3_now) := goodIn_app (goodIn_of _ (by decide +kernel)) ggX11_start_X3_now
set_option maxRecDepth 20000 in
theorem ggX11_start_X3_enter : GoodIn wsX11_start wsX3_enter := goodIn_r _ [11, 7, 12, 13, 25, 26, 27, 28] (by decide +kernel) (by decide +kernel)
set_option maxRecDepth 20000 in
theorem gX11_start_X3_enter : GoodIn wsX11_start (wsV RX11 209 RX3 yX3_enter wsX3_enter) := goodIn_app (goodIn_of _ (by decide +kernel)) ggX11_start_X3_enter
theorem dX11_start_0 : decode cX11_start 0 = .ok (.aload_n 0, 1) := by decide +kernel
theorem dX11_start_1 : decode cX11_start 1 = .ok (.getfield 61, 3) := by decide +kernel
theorem dX11_start_4 : decode cX11_start 4 = .ok (.invokevirtual 206, 3) := by decide +kernel
theorem dX11_start_7 : decode cX11_start 7 = .ok (.ifCond .eq 6, 3) := by decide +kernel
theorem dX11_start_10 : decode cX11_start 10 = .ok (.bipush (-2), 2) := by decide +kernel
theorem dX11_start_12 : decode cX11_start 12 = .ok (.ireturn, 1) := by decide +kernel
theorem dX11_start_13 : decode cX11_start 13 = .ok (.aload_n 0, 1) := by decide +kernel
theorem dX11_start_14 : decode cX11_start 14 = .ok (.getfield 61, 3) := by decide +kernel
theorem dX11_start_17 : decode cX11_start 17 = .ok (.iconst 1, 1) := by decide +kernel
theorem dX11_start_18 : decode cX11_start 18 = .ok (.invokevirtual 209, 3) := by decide +kernel
theorem dX11_start_21 : decode cX11_start 21 = .ok (.iconst 1, 1) := by decide +kernel
theorem dX11_start_22 : decode cX11_start 22 = .ok (.ireturn, 1) := by decide +kernel
set_option maxRecDepth 20000 in
theorem ggX11_stop_X3_now : GoodIn wsX11_stop wsX3_now := goodIn_r _ [6, 7, 25, 26, 27, 28] (by decide +kernel) (by decide +kernel)
set_option maxRecDepth 20000 in
theorem gX11_stop_X3_now : GoodIn wsX11_stop (wsV RX11 206 RX3 yX3_now wsX3_now) := goodIn_app (goodIn_of _ (by decide +kernel)) ggX11_stop_X3_now
set_option maxRecDepth 20000 in
theorem ggX11_stop_X3_enter : GoodIn wsX11_stop wsX3_enter := goodIn_r _ [11, 7, 12, 13, 25, 26, 27, 28] (by decide +kernel) (by decide +kernel)
set_option maxRecDepth 20000 in
theorem gX11_stop_X3_enter : GoodIn wsX11_stop (wsV RX11 209 RX3 yX3_enter wsX3_enter) := goodIn_app (goodIn_of _ (by decide +kernel)) ggX11_stop_X3_enter
theorem dX11_stop_0 : decode cX11_stop 0 = .ok (.aload_n 0, 1) := by decide +kernel
theorem dX11_stop_1 : decode cX11_stop 1 = .ok (.getfield 61, 3) := by decide +kernel
theorem dX11_stop_4 : decode cX11_stop 4 = .ok (.invokevirtual 206, 3) := by decide +kernel
theorem dX11_stop_7 : decode cX11_stop 7 = .ok (.istore_n 1, 1) := by decide +kernel
theorem dX11_stop_8 : decode cX11_stop 8 = .ok (.aload_n 0, 1) := by decide +kernel
theorem dX11_stop_9 : decode cX11_stop 9 = .ok (.getfield 61, 3) := by decide +kernel
theorem dX11_stop_12 : decode cX11_stop 12 = .ok (.iconst 0, 1) := by decide +kernel
theorem dX11_stop_13 : decode cX11_stop 13 = .ok (.invokevirtual 209, 3) := by decide +kernel
theorem dX11_stop_16 : decode cX11_stop 16 = .ok (.iload_n 1, 1) := by decide +kernel
theorem dX11_stop_17 : decode cX11_stop 17 = .ok (.ireturn, 1) := by decide +kernel
set_option maxRecDepth 20000 in
theorem ggX11_frames_X11_within : GoodIn wsX11_frames wsX11_within := goodIn_r _ [9] (by decide +kernel) (by decide +kernel)
set_option maxRecDepth 20000 in
theorem gX11_frames_X11_within : GoodIn wsX11_frames (va_wsS RX11 86 yX11_within wsX11_within) := goodIn_app (goodIn_of _ (by decide +kernel)) ggX11_frames_X11_within
set_option maxRecDepth 20000 in
theorem ggX11_frames_X11_findBends : GoodIn wsX11_frames wsX11_findBends := goodIn_r _ [13, 1, 2, 14, 15, 4, 16, 17, 18, 19, 20, 21, 22, 23, 24, 25, 26, 27, 28, 29, 30, 31, 32, 33, 34, 35, 36, 37, 38, 39, 40, 41, 8, 42, 43, 44, 45, 46, 47, 48, 49, 50, 51, 52, 53, 54, 55, 56, 57, 58, 59, 60, 61, 62, 63, 64, 65, 66, 67, 68, 69, 70, 71, 72, 73, 74, 75, 76, 77, 78, 79, 80, 81, 82, 83, 84, 85, 86, 87, 88, 89, 90, 91, 92, 93, 94, 95, 96, 97, 98, 99, 100, 101, 102, 103, 104, 105, 106, 107, 108, 109, 110, 111, 112, 113, 114, 115, 116, 117, 118, 119, 120, 121, 122, 123, 124, 125, 126, 127, 128, 129, 130, 131, 132, 133, 134, 135, 136, 137, 138, 139, 140, 141, 142, 143, 144, 145, 146, 250, 251, 252, 253, 254, 255, 256, 257, 258, 259, 260, 261, 262, 263, 264, 265, 266, 267, 268, 269, 270, 271, 272, 273, 274, 275, 276, 277, 278, 279, 280, 281, 282, 283, 284, 285, 286, 287] (by decide +kernel) (by decide +kernel)
set_option maxRecDepth 20000 in
theorem gX11_frames_X11_findBends : GoodIn wsX11_frames (wsV RX11 178 RX11 yX11_findBends wsX11_findBends) := goodIn_app (goodIn_of _ (by decide +kernel)) ggX11_frames_X11_findBends
set_option maxRecDepth 20000 in
theorem ggX11_frames_X9_lostOnes : GoodIn wsX11_frames wsX9_lostOnes := goodIn_r _ [150, 27, 262, 263, 264, 265, 266, 267, 268] (by decide +kernel) (by decide +kernel)
set_option maxRecDepth 20000 in
theorem gX11_frames_X9_lostOnes : GoodIn wsX11_frames (wsV RX11 212 RX9 yX9_lostOnes wsX9_lostOnes) := goodIn_app (goodIn_of _ (by decide +kernel)) ggX11_frames_X9_lostOnes
set_option maxRecDepth 20000 in
theorem ggX11_frames_X7_get : GoodIn wsX11_frames wsX7_get := goodIn_r _ [20, 21, 261] (by decide +kernel) (by decide +kernel)
set_option maxRecDepth 20000 in
theorem gX11_frames_X7_get : GoodIn wsX11_frames (wsV RX11 129 RX7 yX7_get wsX7_get) := goodIn_app (goodIn_of _ (by decide +kernel)) ggX11_frames_X7_get
set_option maxRecDepth 20000 in
theorem ggX11_frames_X3_now : GoodIn wsX11_frames wsX3_now := goodIn_r _ [155, 156, 288, 289, 290, 291] (by decide +kernel) (by decide +kernel)
set_option maxRecDepth 20000 in
theorem gX11_frames_X3_now : GoodIn wsX11_frames (wsV RX11 206 RX3 yX3_now wsX3_now) := goodIn_app (goodIn_of _ (by decide +kernel)) ggX11_frames_X3_now
set_option maxRecDepth 20000 in
theorem ggX11_frames_X3_pass : GoodIn wsX11_frames wsX3_pass := goodIn_r _ [160, 161, 162, 156, 163, 164, 165, 154, 166, 167, 168, 169, 170, 171, 288, 289, 290, 291] (by decide +kernel) (by decide +kernel)
set_option maxRecDepth 20000 in
theorem gX11_frames_X3_pass : GoodIn wsX11_frames (wsV RX11 215 RX3 yX3_pass wsX3_pass) := goodIn_app (goodIn_of _ (by decide +kernel)) ggX11_frames_X3_pass
set_option maxRecDepth 20000 in
theorem ggX11_frames_X6_level : GoodIn wsX11_frames wsX6_level := goodIn_r _ [175, 176, 177, 57, 58, 59, 278, 279, 280, 281] (by decide +kernel) (by decide +kernel)
set_option maxRecDepth 20000 in
theorem gX11_frames_X6_level : GoodIn wsX11_frames (wsV RX11 219 RX6 yX6_level wsX6_level) := goodIn_app (goodIn_of _ (by decide +kernel)) ggX11_frames_X6_level
set_option maxRecDepth 20000 in
theorem ggX11_frames_X11_moveUnits : GoodIn wsX11_frames wsX11_moveUnits := goodIn_r _ [181, 4, 182, 2, 14, 183, 61, 62, 63, 64, 65, 184, 185, 186, 187, 176, 16, 17, 18, 19, 20, 21, 188, 189, 190, 46, 191, 102, 192, 193, 194, 195, 196, 197, 198, 199, 200, 201, 202, 203, 204, 205, 206, 207, 208, 8, 209, 210, 211, 38, 212, 213, 37, 39, 214, 215, 216, 217, 218, 219, 220, 221, 222, 223, 224, 225, 67, 68, 69, 70, 226, 227, 228, 229, 230, 231, 232, 233, 234, 235, 236, 250, 251, 252, 253, 254, 255, 256, 257, 258, 259, 260, 278, 279, 280, 281, 261, 269, 270, 271, 272, 273, 274, 275, 276, 277, 292, 293, 294, 295, 296, 297, 298] (by decide +kernel) (by decide +kernel)
set_option maxRecDepth 20000 in
theorem gX11_frames_X11_moveUnits : GoodIn wsX11_frames (wsV RX11 222 RX11 yX11_moveUnits wsX11_moveUnits) := goodIn_app (goodIn_of _ (by decide +kernel)) ggX11_frames_X11_moveUnits
set_option maxRecDepth 20000 in
theorem ggX11_frames_X6_sum : GoodIn wsX11_frames wsX6_sum := goodIn_r _ [240, 65, 176, 278, 279, 280, 281] (by decide +kernel) (by decide +kernel)
set_option maxRecDepth 20000 in
theorem gX11_frames_X6_sum : GoodIn wsX11_frames (wsV RX11 226 RX6 yX6_sum wsX6_sum) := goodIn_app (goodIn_of _ (by decide +kernel)) ggX11_frames_X6_sum
set_option maxRecDepth 20000 in
theorem ggX11_frames_X1_note : GoodIn wsX11_frames wsX1_note := goodIn_r _ [245, 246, 247, 248, 249, 211, 38, 212, 299, 300, 301] (by decide +kernel) (by decide +kernel)
set_option maxRecDepth 20000 in
theorem gX11_frames_X1_note : GoodIn wsX11_frames (wsV RX11 229 RX1 yX1_note wsX1_note) := goodIn_app (goodIn_of _ (by decide +kernel)) ggX11_frames_X1_note
theorem dX11_frames_0 : decode cX11_frames 0 = .ok (.iload_n 1, 1) := by decide +kernel
theorem dX11_frames_1 : decode cX11_frames 1 = .ok (.iconst 1, 1) := by decide +kernel
theorem dX11_frames_2 : decode cX11_frames 2 = .ok (.bipush 100, 2) := by decide +kernel
theorem dX11_frames_4 : decode cX11_frames 4 = .ok (.invokestatic 86, 3) := by decide +kernel
theorem dX11_frames_7 : decode cX11_frames 7 = .ok (.ifCond .ne 5, 3) := by decide +kernel
theorem dX11_frames_10 : decode cX11_frames 10 = .ok (.iconst (-1), 1) := by decide +kernel
theorem dX11_frames_11 : decode cX11_frames 11 = .ok (.ireturn, 1) := by decide +kernel
theorem dX11_frames_12 : decode cX11_frames 12 = .ok (.aload_n 0, 1) := by decide +kernel
theorem dX11_frames_13 : decode cX11_frames 13 = .ok (.invokevirtual 178, 3) := by decide +kernel
theorem dX11_frames_16 : decode cX11_frames 16 = .ok (.aload_n 0, 1) := by decide +kernel
theorem dX11_frames_17 : decode cX11_frames 17 = .ok (.getfield 26, 3) := by decide +kernel
theorem dX11_frames_20 : decode cX11_frames 20 = .ok (.invokevirtual 212, 3) := by decide +kernel
theorem dX11_frames_23 : decode cX11_frames 23 = .ok (.aload_n 0, 1) := by decide +kernel
theorem dX11_frames_24 : decode cX11_frames 24 = .ok (.getfield 10, 3) := by decide +kernel
theorem dX11_frames_27 : decode cX11_frames 27 = .ok (.iconst 2, 1) := by decide +kernel
theorem dX11_frames_28 : decode cX11_frames 28 = .ok (.invokevirtual 129, 3) := by decide +kernel
theorem dX11_frames_31 : decode cX11_frames 31 = .ok (.if_icmp .gt 7, 3) := by decide +kernel
theorem dX11_frames_34 : decode cX11_frames 34 = .ok (.iconst 1, 1) := by decide +kernel
theorem dX11_frames_35 : decode cX11_frames 35 = .ok (.goto 4, 3) := by decide +kernel
theorem dX11_frames_38 : decode cX11_frames 38 = .ok (.iconst 0, 1) := by decide +kernel
theorem dX11_frames_39 : decode cX11_frames 39 = .ok (.istore_n 2, 1) := by decide +kernel
theorem dX11_frames_40 : decode cX11_frames 40 = .ok (.iconst 1, 1) := by decide +kernel
theorem dX11_frames_41 : decode cX11_frames 41 = .ok (.istore_n 3, 1) := by decide +kernel
theorem dX11_frames_42 : decode cX11_frames 42 = .ok (.iconst 0, 1) := by decide +kernel
theorem dX11_frames_43 : decode cX11_frames 43 = .ok (.istore 4, 2) := by decide +kernel
theorem dX11_frames_45 : decode cX11_frames 45 = .ok (.iload 4, 2) := by decide +kernel
theorem dX11_frames_47 : decode cX11_frames 47 = .ok (.iload_n 1, 1) := by decide +kernel
theorem dX11_frames_48 : decode cX11_frames 48 = .ok (.if_icmp .ge 83, 3) := by decide +kernel
theorem dX11_frames_51 : decode cX11_frames 51 = .ok (.aload_n 0, 1) := by decide +kernel
theorem dX11_frames_52 : decode cX11_frames 52 = .ok (.getfield 61, 3) := by decide +kernel
theorem dX11_frames_55 : decode cX11_frames 55 = .ok (.invokevirtual 206, 3) := by decide +kernel
theorem dX11_frames_58 : decode cX11_frames 58 = .ok (.istore 5, 2) := by decide +kernel
theorem dX11_frames_60 : decode cX11_frames 60 = .ok (.aload_n 0, 1) := by decide +kernel
theorem dX11_frames_61 : decode cX11_frames 61 = .ok (.getfield 61, 3) := by decide +kernel
theorem dX11_frames_64 : decode cX11_frames 64 = .ok (.iload_n 2, 1) := by decide +kernel
theorem dX11_frames_65 : decode cX11_frames 65 = .ok (.invokevirtual 215, 3) := by decide +kernel
theorem dX11_frames_68 : decode cX11_frames 68 = .ok (.ifCond .eq 10, 3) := by decide +kernel
theorem dX11_frames_71 : decode cX11_frames 71 = .ok (.aload_n 0, 1) := by decide +kernel
theorem dX11_frames_72 : decode cX11_frames 72 = .ok (.getfield 40, 3) := by decide +kernel
theorem dX11_frames_75 : decode cX11_frames 75 = .ok (.invokevirtual 219, 3) := by decide +kernel
theorem dX11_frames_78 : decode cX11_frames 78 = .ok (.iload 5, 2) := by decide +kernel
theorem dX11_frames_80 : decode cX11_frames 80 = .ok (.iconst 2, 1) := by decide +kernel
theorem dX11_frames_81 : decode cX11_frames 81 = .ok (.if_icmp .ne 16, 3) := by decide +kernel
theorem dX11_frames_84 : decode cX11_frames 84 = .ok (.iload_n 2, 1) := by decide +kernel
theorem dX11_frames_85 : decode cX11_frames 85 = .ok (.ifCond .eq 12, 3) := by decide +kernel
theorem dX11_frames_88 : decode cX11_frames 88 = .ok (.iload_n 3, 1) := by decide +kernel
theorem dX11_frames_89 : decode cX11_frames 89 = .ok (.ifCond .eq 8, 3) := by decide +kernel
theorem dX11_frames_92 : decode cX11_frames 92 = .ok (.aload_n 0, 1) := by decide +kernel
theorem dX11_frames_93 : decode cX11_frames 93 = .ok (.invokevirtual 222, 3) := by decide +kernel
theorem dX11_frames_96 : decode cX11_frames 96 = .ok (.istore_n 3, 1) := by decide +kernel
theorem dX11_frames_97 : decode cX11_frames 97 = .ok (.aload_n 0, 1) := by decide +kernel
theorem dX11_frames_98 : decode cX11_frames 98 = .ok (.getfield 68, 3) := by decide +kernel
theorem dX11_frames_101 : decode cX11_frames 101 = .ok (.aload_n 0, 1) := by decide +kernel
theorem dX11_frames_102 : decode cX11_frames 102 = .ok (.getfield 61, 3) := by decide +kernel
theorem dX11_frames_105 : decode cX11_frames 105 = .ok (.invokevirtual 206, 3) := by decide +kernel
theorem dX11_frames_108 : decode cX11_frames 108 = .ok (.aload_n 0, 1) := by decide +kernel
theorem dX11_frames_109 : decode cX11_frames 109 = .ok (.getfield 26, 3) := by decide +kernel
theorem dX11_frames_112 : decode cX11_frames 112 = .ok (.invokevirtual 212, 3) := by decide +kernel
theorem dX11_frames_115 : decode cX11_frames 115 = .ok (.aload_n 0, 1) := by decide +kernel
theorem dX11_frames_116 : decode cX11_frames 116 = .ok (.getfield 40, 3) := by decide +kernel
theorem dX11_frames_119 : decode cX11_frames 119 = .ok (.invokevirtual 226, 3) := by decide +kernel
theorem dX11_frames_122 : decode cX11_frames 122 = .ok (.invokevirtual 229, 3) := by decide +kernel
theorem dX11_frames_125 : decode cX11_frames 125 = .ok (.iinc 4 1, 3) := by decide +kernel
theorem dX11_frames_128 : decode cX11_frames 128 = .ok (.goto (-83), 3) := by decide +kernel
theorem dX11_frames_131 : decode cX11_frames 131 = .ok (.aload_n 0, 1) := by decide +kernel
theorem dX11_frames_132 : decode cX11_frames 132 = .ok (.getfield 61, 3) := by decide +kernel
theorem dX11_frames_135 : decode cX11_frames 135 = .ok (.invokevirtual 206, 3) := by decide +kernel
theorem dX11_frames_138 : decode cX11_frames 138 = .ok (.ireturn, 1) := by decide +kernel
set_option maxRecDepth 20000 in
theorem ggX11_state_X6_count : GoodIn wsX11_state wsX6_count := goodIn_r _ [7, 8, 45, 46, 47, 48] (by decide +kernel) (by decide +kernel)
set_option maxRecDepth 20000 in
theorem gX11_state_X6_count : GoodIn wsX11_state (wsV RX11 233 RX6 yX6_count wsX6_count) := goodIn_app (goodIn_of _ (by decide +kernel)) ggX11_state_X6_count
set_option maxRecDepth 20000 in
theorem ggX11_state_X11_within : GoodIn wsX11_state wsX11_within := goodIn_r _ [12] (by decide +kernel) (by decide +kernel)
set_option maxRecDepth 20000 in
theorem gX11_state_X11_within : GoodIn wsX11_state (va_wsS RX11 86 yX11_within wsX11_within) := goodIn_app (goodIn_of _ (by decide +kernel)) ggX11_state_X11_within
set_option maxRecDepth 20000 in
theorem ggX11_state_X6_unitsOf : GoodIn wsX11_state wsX6_unitsOf := goodIn_r _ [16, 17, 45, 46, 47, 48] (by decide +kernel) (by decide +kernel)
set_option maxRecDepth 20000 in
theorem gX11_state_X6_unitsOf : GoodIn wsX11_state (wsV RX11 234 RX6 yX6_unitsOf wsX6_unitsOf) := goodIn_app (goodIn_of _ (by decide +kernel)) ggX11_state_X6_unitsOf
set_option maxRecDepth 20000 in
theorem ggX11_state_X6_tip : GoodIn wsX11_state wsX6_tip := goodIn_r _ [21, 22, 45, 46, 47, 48] (by decide +kernel) (by decide +kernel)
set_option maxRecDepth 20000 in
theorem gX11_state_X6_tip : GoodIn wsX11_state (wsV RX11 235 RX6 yX6_tip wsX6_tip) := goodIn_app (goodIn_of _ (by decide +kernel)) ggX11_state_X6_tip
set_option maxRecDepth 20000 in
theorem ggX11_state_X3_now : GoodIn wsX11_state wsX3_now := goodIn_r _ [27, 28, 49, 50, 51, 52] (by decide +kernel) (by decide +kernel)
set_option maxRecDepth 20000 in
theorem gX11_state_X3_now : GoodIn wsX11_state (wsV RX11 206 RX3 yX3_now wsX3_now) := goodIn_app (goodIn_of _ (by decide +kernel)) ggX11_state_X3_now
set_option maxRecDepth 20000 in
theorem ggX11_state_X3_done : GoodIn wsX11_state wsX3_done := goodIn_r _ [32, 33, 49, 50, 51, 52] (by decide +kernel) (by decide +kernel)
set_option maxRecDepth 20000 in
theorem gX11_state_X3_done : GoodIn wsX11_state (wsV RX11 238 RX3 yX3_done wsX3_done) := goodIn_app (goodIn_of _ (by decide +kernel)) ggX11_state_X3_done
theorem dX11_state_0 : decode cX11_state 0 = .ok (.aload_n 0, 1) := by decide +kernel
theorem dX11_state_1 : decode cX11_state 1 = .ok (.getfield 40, 3) := by decide +kernel
theorem dX11_state_4 : decode cX11_state 4 = .ok (.invokevirtual 233, 3) := by decide +kernel
theorem dX11_state_7 : decode cX11_state 7 = .ok (.istore_n 2, 1) := by decide +kernel
theorem dX11_state_8 : decode cX11_state 8 = .ok (.iload_n 1, 1) := by decide +kernel
theorem dX11_state_9 : decode cX11_state 9 = .ok (.iconst 0, 1) := by decide +kernel
theorem dX11_state_10 : decode cX11_state 10 = .ok (.iload_n 2, 1) := by decide +kernel
theorem dX11_state_11 : decode cX11_state 11 = .ok (.iconst 2, 1) := by decide +kernel
theorem dX11_state_12 : decode cX11_state 12 = .ok (.iadd, 1) := by decide +kernel
theorem dX11_state_13 : decode cX11_state 13 = .ok (.invokestatic 86, 3) := by decide +kernel
theorem dX11_state_16 : decode cX11_state 16 = .ok (.ifCond .ne 7, 3) := by decide +kernel
theorem dX11_state_19 : decode cX11_state 19 = .ok (.sipush (-10001), 3) := by decide +kernel
theorem dX11_state_22 : decode cX11_state 22 = .ok (.ireturn, 1) := by decide +kernel
theorem dX11_state_23 : decode cX11_state 23 = .ok (.iload_n 1, 1) := by decide +kernel
theorem dX11_state_24 : decode cX11_state 24 = .ok (.iload_n 2, 1) := by decide +kernel
theorem dX11_state_25 : decode cX11_state 25 = .ok (.if_icmp .ge 12, 3) := by decide +kernel
theorem dX11_state_28 : decode cX11_state 28 = .ok (.aload_n 0, 1) := by decide +kernel
theorem dX11_state_29 : decode cX11_state 29 = .ok (.getfield 40, 3) := by decide +kernel
theorem dX11_state_32 : decode cX11_state 32 = .ok (.iload_n 1, 1) := by decide +kernel
theorem dX11_state_33 : decode cX11_state 33 = .ok (.invokevirtual 234, 3) := by decide +kernel
theorem dX11_state_36 : decode cX11_state 36 = .ok (.ireturn, 1) := by decide +kernel
theorem dX11_state_37 : decode cX11_state 37 = .ok (.iload_n 1, 1) := by decide +kernel
theorem dX11_state_38 : decode cX11_state 38 = .ok (.iload_n 2, 1) := by decide +kernel
theorem dX11_state_39 : decode cX11_state 39 = .ok (.if_icmp .ne 11, 3) := by decide +kernel
theorem dX11_state_42 : decode cX11_state 42 = .ok (.aload_n 0, 1) := by decide +kernel
theorem dX11_state_43 : decode cX11_state 43 = .ok (.getfield 40, 3) := by decide +kernel
theorem dX11_state_46 : decode cX11_state 46 = .ok (.invokevirtual 235, 3) := by decide +kernel
theorem dX11_state_49 : decode cX11_state 49 = .ok (.ireturn, 1) := by decide +kernel
theorem dX11_state_50 : decode cX11_state 50 = .ok (.iload_n 1, 1) := by decide +kernel
theorem dX11_state_51 : decode cX11_state 51 = .ok (.iload_n 2, 1) := by decide +kernel
theorem dX11_state_52 : decode cX11_state 52 = .ok (.iconst 1, 1) := by decide +kernel
theorem dX11_state_53 : decode cX11_state 53 = .ok (.iadd, 1) := by decide +kernel
theorem dX11_state_54 : decode cX11_state 54 = .ok (.if_icmp .ne 13, 3) := by decide +kernel
theorem dX11_state_57 : decode cX11_state 57 = .ok (.aload_n 0, 1) := by decide +kernel
theorem dX11_state_58 : decode cX11_state 58 = .ok (.getfield 61, 3) := by decide +kernel
theorem dX11_state_61 : decode cX11_state 61 = .ok (.invokevirtual 206, 3) := by decide +kernel
theorem dX11_state_64 : decode cX11_state 64 = .ok (.goto 10, 3) := by decide +kernel
theorem dX11_state_67 : decode cX11_state 67 = .ok (.aload_n 0, 1) := by decide +kernel
theorem dX11_state_68 : decode cX11_state 68 = .ok (.getfield 61, 3) := by decide +kernel
theorem dX11_state_71 : decode cX11_state 71 = .ok (.invokevirtual 238, 3) := by decide +kernel
theorem dX11_state_74 : decode cX11_state 74 = .ok (.ireturn, 1) := by decide +kernel
set_option maxRecDepth 20000 in
theorem ggX11_units_X7_get : GoodIn wsX11_units wsX7_get := goodIn_r _ [7, 8, 39] (by decide +kernel) (by decide +kernel)
set_option maxRecDepth 20000 in
theorem gX11_units_X7_get : GoodIn wsX11_units (wsV RX11 129 RX7 yX7_get wsX7_get) := goodIn_app (goodIn_of _ (by decide +kernel)) ggX11_units_X7_get
set_option maxRecDepth 20000 in
theorem ggX11_units_X11_isPart : GoodIn wsX11_units wsX11_isPart := goodIn_r _ [13, 2, 14, 15, 16, 17, 18, 19, 20, 21, 12, 22, 28, 29, 30, 31, 32, 33, 34, 35, 36, 37, 38, 40, 41, 42, 43] (by decide +kernel) (by decide +kernel)
set_option maxRecDepth 20000 in
theorem gX11_units_X11_isPart : GoodIn wsX11_units (wsV RX11 149 RX11 yX11_isPart wsX11_isPart) := goodIn_app (goodIn_of _ (by decide +kernel)) ggX11_units_X11_isPart
set_option maxRecDepth 20000 in
theorem ggX11_units_X11_within : GoodIn wsX11_units wsX11_within := goodIn_r _ [22] (by decide +kernel) (by decide +kernel)
set_option maxRecDepth 20000 in
theorem gX11_units_X11_within : GoodIn wsX11_units (va_wsS RX11 86 yX11_within wsX11_within) := goodIn_app (goodIn_of _ (by decide +kernel)) ggX11_units_X11_within
set_option maxRecDepth 20000 in
theorem ggX11_units_X6_swapUnits : GoodIn wsX11_units wsX6_swapUnits := goodIn_r _ [26, 27, 40, 41, 42, 43] (by decide +kernel) (by decide +kernel)
set_option maxRecDepth 20000 in
theorem gX11_units_X6_swapUnits : GoodIn wsX11_units (wsV RX11 241 RX6 yX6_swapUnits wsX6_swapUnits) := goodIn_app (goodIn_of _ (by decide +kernel)) ggX11_units_X6_swapUnits
theorem dX11_units_0 : decode cX11_units 0 = .ok (.aload_n 0, 1) := by decide +kernel
theorem dX11_units_1 : decode cX11_units 1 = .ok (.getfield 10, 3) := by decide +kernel
theorem dX11_units_4 : decode cX11_units 4 = .ok (.iconst 4, 1) := by decide +kernel
theorem dX11_units_5 : decode cX11_units 5 = .ok (.invokevirtual 129, 3) := by decide +kernel
theorem dX11_units_8 : decode cX11_units 8 = .ok (.istore_n 3, 1) := by decide +kernel
theorem dX11_units_9 : decode cX11_units 9 = .ok (.aload_n 0, 1) := by decide +kernel
theorem dX11_units_10 : decode cX11_units 10 = .ok (.iload_n 1, 1) := by decide +kernel
theorem dX11_units_11 : decode cX11_units 11 = .ok (.invokevirtual 149, 3) := by decide +kernel
theorem dX11_units_14 : decode cX11_units 14 = .ok (.ifCond .eq 13, 3) := by decide +kernel
theorem dX11_units_17 : decode cX11_units 17 = .ok (.iload_n 2, 1) := by decide +kernel
theorem dX11_units_18 : decode cX11_units 18 = .ok (.iload_n 3, 1) := by decide +kernel
theorem dX11_units_19 : decode cX11_units 19 = .ok (.ineg, 1) := by decide +kernel
theorem dX11_units_20 : decode cX11_units 20 = .ok (.iload_n 3, 1) := by decide +kernel
theorem dX11_units_21 : decode cX11_units 21 = .ok (.invokestatic 86, 3) := by decide +kernel
theorem dX11_units_24 : decode cX11_units 24 = .ok (.ifCond .ne 7, 3) := by decide +kernel
theorem dX11_units_27 : decode cX11_units 27 = .ok (.sipush (-10001), 3) := by decide +kernel
theorem dX11_units_30 : decode cX11_units 30 = .ok (.ireturn, 1) := by decide +kernel
theorem dX11_units_31 : decode cX11_units 31 = .ok (.aload_n 0, 1) := by decide +kernel
theorem dX11_units_32 : decode cX11_units 32 = .ok (.getfield 40, 3) := by decide +kernel
theorem dX11_units_35 : decode cX11_units 35 = .ok (.iload_n 1, 1) := by decide +kernel
theorem dX11_units_36 : decode cX11_units 36 = .ok (.iload_n 2, 1) := by decide +kernel
theorem dX11_units_37 : decode cX11_units 37 = .ok (.invokevirtual 241, 3) := by decide +kernel
theorem dX11_units_40 : decode cX11_units 40 = .ok (.ireturn, 1) := by decide +kernel
set_option maxRecDepth 20000 in
theorem ggX11_shed_X6_giveToTip : GoodIn wsX11_shed wsX6_giveToTip := goodIn_r _ [6, 7, 8, 9, 10, 11, 12, 5, 13, 14, 15, 16, 28, 29, 30, 31] (by decide +kernel) (by decide +kernel)
set_option maxRecDepth 20000 in
theorem gX11_shed_X6_giveToTip : GoodIn wsX11_shed (wsV RX11 244 RX6 yX6_giveToTip wsX6_giveToTip) := goodIn_app (goodIn_of _ (by decide +kernel)) ggX11_shed_X6_giveToTip
theorem dX11_shed_0 : decode cX11_shed 0 = .ok (.aload_n 0, 1) := by decide +kernel
theorem dX11_shed_1 : decode cX11_shed 1 = .ok (.getfield 40, 3) := by decide +kernel
theorem dX11_shed_4 : decode cX11_shed 4 = .ok (.invokevirtual 244, 3) := by decide +kernel
theorem dX11_shed_7 : decode cX11_shed 7 = .ok (.ireturn, 1) := by decide +kernel
set_option maxRecDepth 20000 in
theorem ggX11_log_X1_has : GoodIn wsX11_log wsX1_has := goodIn_r _ [6, 7, 8, 9, 10, 33, 34, 35] (by decide +kernel) (by decide +kernel)
set_option maxRecDepth 20000 in
theorem gX11_log_X1_has : GoodIn wsX11_log (wsV RX11 247 RX1 yX1_has wsX1_has) := goodIn_app (goodIn_of _ (by decide +kernel)) ggX11_log_X1_has
set_option maxRecDepth 20000 in
theorem ggX11_log_X11_within : GoodIn wsX11_log wsX11_within := goodIn_r _ [10] (by decide +kernel) (by decide +kernel)
set_option maxRecDepth 20000 in
theorem gX11_log_X11_within : GoodIn wsX11_log (va_wsS RX11 86 yX11_within wsX11_within) := goodIn_app (goodIn_of _ (by decide +kernel)) ggX11_log_X11_within
set_option maxRecDepth 20000 in
theorem ggX11_log_X1_read : GoodIn wsX11_log wsX1_read := goodIn_r _ [15, 16, 17, 18, 19, 20, 21, 33, 34, 35] (by decide +kernel) (by decide +kernel)
set_option maxRecDepth 20000 in
theorem gX11_log_X1_read : GoodIn wsX11_log (wsV RX11 250 RX1 yX1_read wsX1_read) := goodIn_app (goodIn_of _ (by decide +kernel)) ggX11_log_X1_read
theorem dX11_log_0 : decode cX11_log 0 = .ok (.aload_n 0, 1) := by decide +kernel
theorem dX11_log_1 : decode cX11_log 1 = .ok (.getfield 68, 3) := by decide +kernel
theorem dX11_log_4 : decode cX11_log 4 = .ok (.iload_n 1, 1) := by decide +kernel
theorem dX11_log_5 : decode cX11_log 5 = .ok (.invokevirtual 247, 3) := by decide +kernel
theorem dX11_log_8 : decode cX11_log 8 = .ok (.ifCond .eq 12, 3) := by decide +kernel
theorem dX11_log_11 : decode cX11_log 11 = .ok (.iload_n 2, 1) := by decide +kernel
theorem dX11_log_12 : decode cX11_log 12 = .ok (.iconst 0, 1) := by decide +kernel
theorem dX11_log_13 : decode cX11_log 13 = .ok (.iconst 2, 1) := by decide +kernel
theorem dX11_log_14 : decode cX11_log 14 = .ok (.invokestatic 86, 3) := by decide +kernel
theorem dX11_log_17 : decode cX11_log 17 = .ok (.ifCond .ne 7, 3) := by decide +kernel
theorem dX11_log_20 : decode cX11_log 20 = .ok (.sipush (-10001), 3) := by decide +kernel
theorem dX11_log_23 : decode cX11_log 23 = .ok (.ireturn, 1) := by decide +kernel
theorem dX11_log_24 : decode cX11_log 24 = .ok (.aload_n 0, 1) := by decide +kernel
theorem dX11_log_25 : decode cX11_log 25 = .ok (.getfield 68, 3) := by decide +kernel
theorem dX11_log_28 : decode cX11_log 28 = .ok (.iload_n 1, 1) := by decide +kernel
theorem dX11_log_29 : decode cX11_log 29 = .ok (.iload_n 2, 1) := by decide +kernel
theorem dX11_log_30 : decode cX11_log 30 = .ok (.invokevirtual 250, 3) := by decide +kernel
theorem dX11_log_33 : decode cX11_log 33 = .ok (.ireturn, 1) := by decide +kernel
set_option maxRecDepth 20000 in
theorem ggX11_loop_X11_within : GoodIn wsX11_loop wsX11_within := goodIn_r _ [6] (by decide +kernel) (by decide +kernel)
set_option maxRecDepth 20000 in
theorem gX11_loop_X11_within : GoodIn wsX11_loop (va_wsS RX11 86 yX11_within wsX11_within) := goodIn_app (goodIn_of _ (by decide +kernel)) ggX11_loop_X11_within
set_option maxRecDepth 20000 in
theorem ggX11_loop_X8_refusal : GoodIn wsX11_loop wsX8_refusal := goodIn_r _ [11, 12, 13, 14, 5, 15, 3, 4, 6, 16, 17, 18, 19, 20, 10, 21, 49, 50, 51] (by decide +kernel) (by decide +kernel)
set_option maxRecDepth 20000 in
theorem gX11_loop_X8_refusal : GoodIn wsX11_loop (wsV RX11 107 RX8 yX8_refusal wsX8_refusal) := goodIn_app (goodIn_of _ (by decide +kernel)) ggX11_loop_X8_refusal
set_option maxRecDepth 20000 in
theorem ggX11_loop_X8_allWithin : GoodIn wsX11_loop wsX8_allWithin := goodIn_r _ [25, 26, 27, 28, 10, 29, 30, 4, 5, 6, 49, 50, 51] (by decide +kernel) (by decide +kernel)
set_option maxRecDepth 20000 in
theorem gX11_loop_X8_allWithin : GoodIn wsX11_loop (wsV RX11 111 RX8 yX8_allWithin wsX8_allWithin) := goodIn_app (goodIn_of _ (by decide +kernel)) ggX11_loop_X8_allWithin
set_option maxRecDepth 20000 in
theorem ggX11_loop_X8_at : GoodIn wsX11_loop wsX8_at := goodIn_r _ [29, 30, 49, 50, 51] (by decide +kernel) (by decide +kernel)
set_option maxRecDepth 20000 in
theorem gX11_loop_X8_at : GoodIn wsX11_loop (wsV RX11 115 RX8 yX8_at wsX8_at) := goodIn_app (goodIn_of _ (by decide +kernel)) ggX11_loop_X8_at
set_option maxRecDepth 20000 in
theorem ggX11_loop_X5_setTerm : GoodIn wsX11_loop wsX5_setTerm := goodIn_r _ [36, 37, 52, 53, 54] (by decide +kernel) (by decide +kernel)
set_option maxRecDepth 20000 in
theorem gX11_loop_X5_setTerm : GoodIn wsX11_loop (wsV RX11 253 RX5 yX5_setTerm wsX5_setTerm) := goodIn_app (goodIn_of _ (by decide +kernel)) ggX11_loop_X5_setTerm
theorem dX11_loop_0 : decode cX11_loop 0 = .ok (.iload_n 1, 1) := by decide +kernel
theorem dX11_loop_1 : decode cX11_loop 1 = .ok (.iconst 0, 1) := by decide +kernel
theorem dX11_loop_2 : decode cX11_loop 2 = .ok (.iconst 1, 1) := by decide +kernel
theorem dX11_loop_3 : decode cX11_loop 3 = .ok (.invokestatic 86, 3) := by decide +kernel
theorem dX11_loop_6 : decode cX11_loop 6 = .ok (.ifCond .eq 13, 3) := by decide +kernel
theorem dX11_loop_9 : decode cX11_loop 9 = .ok (.iload 5, 2) := by decide +kernel
theorem dX11_loop_11 : decode cX11_loop 11 = .ok (.iconst 1, 1) := by decide +kernel
theorem dX11_loop_12 : decode cX11_loop 12 = .ok (.iconst 5, 1) := by decide +kernel
theorem dX11_loop_13 : decode cX11_loop 13 = .ok (.invokestatic 86, 3) := by decide +kernel
theorem dX11_loop_16 : decode cX11_loop 16 = .ok (.ifCond .ne 5, 3) := by decide +kernel
theorem dX11_loop_19 : decode cX11_loop 19 = .ok (.iconst (-1), 1) := by decide +kernel
theorem dX11_loop_20 : decode cX11_loop 20 = .ok (.ireturn, 1) := by decide +kernel
theorem dX11_loop_21 : decode cX11_loop 21 = .ok (.aload_n 0, 1) := by decide +kernel
theorem dX11_loop_22 : decode cX11_loop 22 = .ok (.getfield 19, 3) := by decide +kernel
theorem dX11_loop_25 : decode cX11_loop 25 = .ok (.iload_n 2, 1) := by decide +kernel
theorem dX11_loop_26 : decode cX11_loop 26 = .ok (.iload_n 3, 1) := by decide +kernel
theorem dX11_loop_27 : decode cX11_loop 27 = .ok (.iload 4, 2) := by decide +kernel
theorem dX11_loop_29 : decode cX11_loop 29 = .ok (.iload 5, 2) := by decide +kernel
theorem dX11_loop_31 : decode cX11_loop 31 = .ok (.invokevirtual 107, 3) := by decide +kernel
theorem dX11_loop_34 : decode cX11_loop 34 = .ok (.istore 6, 2) := by decide +kernel
theorem dX11_loop_36 : decode cX11_loop 36 = .ok (.iload 6, 2) := by decide +kernel
theorem dX11_loop_38 : decode cX11_loop 38 = .ok (.ifCond .eq 6, 3) := by decide +kernel
theorem dX11_loop_41 : decode cX11_loop 41 = .ok (.iload 6, 2) := by decide +kernel
theorem dX11_loop_43 : decode cX11_loop 43 = .ok (.ireturn, 1) := by decide +kernel
theorem dX11_loop_44 : decode cX11_loop 44 = .ok (.aload_n 0, 1) := by decide +kernel
theorem dX11_loop_45 : decode cX11_loop 45 = .ok (.getfield 19, 3) := by decide +kernel
theorem dX11_loop_48 : decode cX11_loop 48 = .ok (.iload_n 2, 1) := by decide +kernel
theorem dX11_loop_49 : decode cX11_loop 49 = .ok (.iload 4, 2) := by decide +kernel
theorem dX11_loop_51 : decode cX11_loop 51 = .ok (.iload 5, 2) := by decide +kernel
theorem dX11_loop_53 : decode cX11_loop 53 = .ok (.bipush (-50), 2) := by decide +kernel
theorem dX11_loop_55 : decode cX11_loop 55 = .ok (.bipush 50, 2) := by decide +kernel
theorem dX11_loop_57 : decode cX11_loop 57 = .ok (.invokevirtual 111, 3) := by decide +kernel
theorem dX11_loop_60 : decode cX11_loop 60 = .ok (.ifCond .ne 6, 3) := by decide +kernel
theorem dX11_loop_63 : decode cX11_loop 63 = .ok (.bipush (-2), 2) := by decide +kernel
theorem dX11_loop_65 : decode cX11_loop 65 = .ok (.ireturn, 1) := by decide +kernel
theorem dX11_loop_66 : decode cX11_loop 66 = .ok (.iconst 0, 1) := by decide +kernel
theorem dX11_loop_67 : decode cX11_loop 67 = .ok (.istore 7, 2) := by decide +kernel
theorem dX11_loop_69 : decode cX11_loop 69 = .ok (.iload 7, 2) := by decide +kernel
theorem dX11_loop_71 : decode cX11_loop 71 = .ok (.iconst 5, 1) := by decide +kernel
theorem dX11_loop_72 : decode cX11_loop 72 = .ok (.if_icmp .ge 43, 3) := by decide +kernel
theorem dX11_loop_75 : decode cX11_loop 75 = .ok (.aload_n 0, 1) := by decide +kernel
theorem dX11_loop_76 : decode cX11_loop 76 = .ok (.getfield 75, 3) := by decide +kernel
theorem dX11_loop_79 : decode cX11_loop 79 = .ok (.iload_n 1, 1) := by decide +kernel
theorem dX11_loop_80 : decode cX11_loop 80 = .ok (.iload 7, 2) := by decide +kernel
theorem dX11_loop_82 : decode cX11_loop 82 = .ok (.iload 7, 2) := by decide +kernel
theorem dX11_loop_84 : decode cX11_loop 84 = .ok (.iload 5, 2) := by decide +kernel
theorem dX11_loop_86 : decode cX11_loop 86 = .ok (.if_icmp .ge 19, 3) := by decide +kernel
theorem dX11_loop_89 : decode cX11_loop 89 = .ok (.aload_n 0, 1) := by decide +kernel
theorem dX11_loop_90 : decode cX11_loop 90 = .ok (.getfield 19, 3) := by decide +kernel
theorem dX11_loop_93 : decode cX11_loop 93 = .ok (.iload_n 2, 1) := by decide +kernel
theorem dX11_loop_94 : decode cX11_loop 94 = .ok (.iload 4, 2) := by decide +kernel
theorem dX11_loop_96 : decode cX11_loop 96 = .ok (.iload 7, 2) := by decide +kernel
theorem dX11_loop_98 : decode cX11_loop 98 = .ok (.iadd, 1) := by decide +kernel
theorem dX11_loop_99 : decode cX11_loop 99 = .ok (.invokevirtual 115, 3) := by decide +kernel
theorem dX11_loop_102 : decode cX11_loop 102 = .ok (.goto 4, 3) := by decide +kernel
theorem dX11_loop_105 : decode cX11_loop 105 = .ok (.iconst 0, 1) := by decide +kernel
theorem dX11_loop_106 : decode cX11_loop 106 = .ok (.invokevirtual 253, 3) := by decide +kernel
theorem dX11_loop_109 : decode cX11_loop 109 = .ok (.iinc 7 1, 3) := by decide +kernel
theorem dX11_loop_112 : decode cX11_loop 112 = .ok (.goto (-43), 3) := by decide +kernel
theorem dX11_loop_115 : decode cX11_loop 115 = .ok (.iload 5, 2) := by decide +kernel
theorem dX11_loop_117 : decode cX11_loop 117 = .ok (.ireturn, 1) := by decide +kernel
set_option maxRecDepth 20000 in
theorem ggX11_steady_X11_within : GoodIn wsX11_steady wsX11_within := goodIn_r _ [5] (by decide +kernel) (by decide +kernel)
set_option maxRecDepth 20000 in
theorem gX11_steady_X11_within : GoodIn wsX11_steady (va_wsS RX11 86 yX11_within wsX11_within) := goodIn_app (goodIn_of _ (by decide +kernel)) ggX11_steady_X11_within
set_option maxRecDepth 20000 in
theorem ggX11_steady_X5_isSteady : GoodIn wsX11_steady wsX5_isSteady := goodIn_r _ [10, 11, 12, 13, 14, 15, 16, 9, 17, 18, 19, 20, 21, 22, 23, 24, 25, 26, 27, 28, 29, 30, 31, 32, 33, 34, 46, 47, 48] (by decide +kernel) (by decide +kernel)
set_option maxRecDepth 20000 in
theorem gX11_steady_X5_isSteady : GoodIn wsX11_steady (wsV RX11 256 RX5 yX5_isSteady wsX5_isSteady) := goodIn_app (goodIn_of _ (by decide +kernel)) ggX11_steady_X5_isSteady
theorem dX11_steady_0 : decode cX11_steady 0 = .ok (.iload_n 1, 1) := by decide +kernel
theorem dX11_steady_1 : decode cX11_steady 1 = .ok (.iconst 0, 1) := by decide +kernel
theorem dX11_steady_2 : decode cX11_steady 2 = .ok (.bipush 100, 2) := by decide +kernel
theorem dX11_steady_4 : decode cX11_steady 4 = .ok (.invokestatic 86, 3) := by decide +kernel
theorem dX11_steady_7 : decode cX11_steady 7 = .ok (.ifCond .ne 5, 3) := by decide +kernel
theorem dX11_steady_10 : decode cX11_steady 10 = .ok (.iconst (-1), 1) := by decide +kernel
theorem dX11_steady_11 : decode cX11_steady 11 = .ok (.ireturn, 1) := by decide +kernel
theorem dX11_steady_12 : decode cX11_steady 12 = .ok (.aload_n 0, 1) := by decide +kernel
theorem dX11_steady_13 : decode cX11_steady 13 = .ok (.getfield 75, 3) := by decide +kernel
theorem dX11_steady_16 : decode cX11_steady 16 = .ok (.iload_n 1, 1) := by decide +kernel
theorem dX11_steady_17 : decode cX11_steady 17 = .ok (.invokevirtual 256, 3) := by decide +kernel
theorem dX11_steady_20 : decode cX11_steady 20 = .ok (.ifCond .eq 7, 3) := by decide +kernel
theorem dX11_steady_23 : decode cX11_steady 23 = .ok (.iconst 1, 1) := by decide +kernel
theorem dX11_steady_24 : decode cX11_steady 24 = .ok (.goto 4, 3) := by decide +kernel
theorem dX11_steady_27 : decode cX11_steady 27 = .ok (.iconst 0, 1) := by decide +kernel
theorem dX11_steady_28 : decode cX11_steady 28 = .ok (.ireturn, 1) := by decide +kernel
set_option maxRecDepth 20000 in
theorem ggX11_unsteady_X11_within : GoodIn wsX11_unsteady wsX11_within := goodIn_r _ [5] (by decide +kernel) (by decide +kernel)
set_option maxRecDepth 20000 in
theorem gX11_unsteady_X11_within : GoodIn wsX11_unsteady (va_wsS RX11 86 yX11_within wsX11_within) := goodIn_app (goodIn_of _ (by decide +kernel)) ggX11_unsteady_X11_within
set_option maxRecDepth 20000 in
theorem ggX11_unsteady_X5_isSteady : GoodIn wsX11_unsteady wsX5_isSteady := goodIn_r _ [10, 11, 12, 13, 14, 15, 16, 9, 17, 18, 19, 20, 21, 22, 23, 24, 25, 26, 27, 28, 29, 30, 31, 32, 33, 34, 46, 47, 48] (by decide +kernel) (by decide +kernel)
set_option maxRecDepth 20000 in
theorem gX11_unsteady_X5_isSteady : GoodIn wsX11_unsteady (wsV RX11 256 RX5 yX5_isSteady wsX5_isSteady) := goodIn_app (goodIn_of _ (by decide +kernel)) ggX11_unsteady_X5_isSteady
theorem dX11_unsteady_0 : decode cX11_unsteady 0 = .ok (.iload_n 1, 1) := by decide +kernel
theorem dX11_unsteady_1 : decode cX11_unsteady 1 = .ok (.iconst 0, 1) := by decide +kernel
theorem dX11_unsteady_2 : decode cX11_unsteady 2 = .ok (.bipush 100, 2) := by decide +kernel
theorem dX11_unsteady_4 : decode cX11_unsteady 4 = .ok (.invokestatic 86, 3) := by decide +kernel
theorem dX11_unsteady_7 : decode cX11_unsteady 7 = .ok (.ifCond .eq 13, 3) := by decide +kernel
theorem dX11_unsteady_10 : decode cX11_unsteady 10 = .ok (.iload_n 2, 1) := by decide +kernel
theorem dX11_unsteady_11 : decode cX11_unsteady 11 = .ok (.iload_n 1, 1) := by decide +kernel
theorem dX11_unsteady_12 : decode cX11_unsteady 12 = .ok (.bipush 100, 2) := by decide +kernel
theorem dX11_unsteady_14 : decode cX11_unsteady 14 = .ok (.invokestatic 86, 3) := by decide +kernel
theorem dX11_unsteady_17 : decode cX11_unsteady 17 = .ok (.ifCond .ne 5, 3) := by decide +kernel
theorem dX11_unsteady_20 : decode cX11_unsteady 20 = .ok (.iconst (-1), 1) := by decide +kernel
theorem dX11_unsteady_21 : decode cX11_unsteady 21 = .ok (.ireturn, 1) := by decide +kernel
theorem dX11_unsteady_22 : decode cX11_unsteady 22 = .ok (.iload_n 1, 1) := by decide +kernel
theorem dX11_unsteady_23 : decode cX11_unsteady 23 = .ok (.istore_n 3, 1) := by decide +kernel
theorem dX11_unsteady_24 : decode cX11_unsteady 24 = .ok (.iload_n 3, 1) := by decide +kernel
theorem dX11_unsteady_25 : decode cX11_unsteady 25 = .ok (.iload_n 2, 1) := by decide +kernel
theorem dX11_unsteady_26 : decode cX11_unsteady 26 = .ok (.if_icmp .gt 22, 3) := by decide +kernel
theorem dX11_unsteady_29 : decode cX11_unsteady 29 = .ok (.aload_n 0, 1) := by decide +kernel
theorem dX11_unsteady_30 : decode cX11_unsteady 30 = .ok (.getfield 75, 3) := by decide +kernel
theorem dX11_unsteady_33 : decode cX11_unsteady 33 = .ok (.iload_n 3, 1) := by decide +kernel
theorem dX11_unsteady_34 : decode cX11_unsteady 34 = .ok (.invokevirtual 256, 3) := by decide +kernel
theorem dX11_unsteady_37 : decode cX11_unsteady 37 = .ok (.ifCond .ne 5, 3) := by decide +kernel
theorem dX11_unsteady_40 : decode cX11_unsteady 40 = .ok (.iload_n 3, 1) := by decide +kernel
theorem dX11_unsteady_41 : decode cX11_unsteady 41 = .ok (.ireturn, 1) := by decide +kernel
theorem dX11_unsteady_42 : decode cX11_unsteady 42 = .ok (.iinc 3 1, 3) := by decide +kernel
theorem dX11_unsteady_45 : decode cX11_unsteady 45 = .ok (.goto (-21), 3) := by decide +kernel
theorem dX11_unsteady_48 : decode cX11_unsteady 48 = .ok (.bipush (-4), 2) := by decide +kernel
theorem dX11_unsteady_50 : decode cX11_unsteady 50 = .ok (.ireturn, 1) := by decide +kernel
set_option maxRecDepth 20000 in
theorem ggX11_cell_X11_isLayer : GoodIn wsX11_cell wsX11_isLayer := goodIn_r _ [5, 6, 7, 4, 8] (by decide +kernel) (by decide +kernel)
set_option maxRecDepth 20000 in
theorem gX11_cell_X11_isLayer : GoodIn wsX11_cell (va_wsS RX11 259 yX11_isLayer wsX11_isLayer) := goodIn_app (goodIn_of _ (by decide +kernel)) ggX11_cell_X11_isLayer
set_option maxRecDepth 20000 in
theorem ggX11_cell_X11_within : GoodIn wsX11_cell wsX11_within := goodIn_r _ [8] (by decide +kernel) (by decide +kernel)
set_option maxRecDepth 20000 in
theorem gX11_cell_X11_within : GoodIn wsX11_cell (va_wsS RX11 86 yX11_within wsX11_within) := goodIn_app (goodIn_of _ (by decide +kernel)) ggX11_cell_X11_within
set_option maxRecDepth 20000 in
theorem ggX11_cell_X4_swapCell : GoodIn wsX11_cell wsX4_swapCell := goodIn_r _ [13, 14, 26, 27] (by decide +kernel) (by decide +kernel)
set_option maxRecDepth 20000 in
theorem gX11_cell_X4_swapCell : GoodIn wsX11_cell (wsV RX11 262 RX4 yX4_swapCell wsX4_swapCell) := goodIn_app (goodIn_of _ (by decide +kernel)) ggX11_cell_X4_swapCell
theorem dX11_cell_0 : decode cX11_cell 0 = .ok (.iload_n 1, 1) := by decide +kernel
theorem dX11_cell_1 : decode cX11_cell 1 = .ok (.invokestatic 259, 3) := by decide +kernel
theorem dX11_cell_4 : decode cX11_cell 4 = .ok (.ifCond .eq 24, 3) := by decide +kernel
theorem dX11_cell_7 : decode cX11_cell 7 = .ok (.iload_n 2, 1) := by decide +kernel
theorem dX11_cell_8 : decode cX11_cell 8 = .ok (.iconst 0, 1) := by decide +kernel
theorem dX11_cell_9 : decode cX11_cell 9 = .ok (.bipush 31, 2) := by decide +kernel
theorem dX11_cell_11 : decode cX11_cell 11 = .ok (.invokestatic 86, 3) := by decide +kernel
theorem dX11_cell_14 : decode cX11_cell 14 = .ok (.ifCond .eq 14, 3) := by decide +kernel
theorem dX11_cell_17 : decode cX11_cell 17 = .ok (.iload_n 3, 1) := by decide +kernel
theorem dX11_cell_18 : decode cX11_cell 18 = .ok (.bipush (-99), 2) := by decide +kernel
theorem dX11_cell_20 : decode cX11_cell 20 = .ok (.bipush 99, 2) := by decide +kernel
theorem dX11_cell_22 : decode cX11_cell 22 = .ok (.invokestatic 86, 3) := by decide +kernel
theorem dX11_cell_25 : decode cX11_cell 25 = .ok (.ifCond .ne 7, 3) := by decide +kernel
theorem dX11_cell_28 : decode cX11_cell 28 = .ok (.sipush (-10001), 3) := by decide +kernel
theorem dX11_cell_31 : decode cX11_cell 31 = .ok (.ireturn, 1) := by decide +kernel
theorem dX11_cell_32 : decode cX11_cell 32 = .ok (.aload_n 0, 1) := by decide +kernel
theorem dX11_cell_33 : decode cX11_cell 33 = .ok (.getfield 82, 3) := by decide +kernel
theorem dX11_cell_36 : decode cX11_cell 36 = .ok (.iload_n 1, 1) := by decide +kernel
theorem dX11_cell_37 : decode cX11_cell 37 = .ok (.iload_n 2, 1) := by decide +kernel
theorem dX11_cell_38 : decode cX11_cell 38 = .ok (.iload_n 3, 1) := by decide +kernel
theorem dX11_cell_39 : decode cX11_cell 39 = .ok (.invokevirtual 262, 3) := by decide +kernel
theorem dX11_cell_42 : decode cX11_cell 42 = .ok (.ireturn, 1) := by decide +kernel
set_option maxRecDepth 20000 in
theorem ggX11_wind_X11_isLayer : GoodIn wsX11_wind wsX11_isLayer := goodIn_r _ [5, 6, 7, 4, 8] (by decide +kernel) (by decide +kernel)
set_option maxRecDepth 20000 in
theorem gX11_wind_X11_isLayer : GoodIn wsX11_wind (va_wsS RX11 259 yX11_isLayer wsX11_isLayer) := goodIn_app (goodIn_of _ (by decide +kernel)) ggX11_wind_X11_isLayer
set_option maxRecDepth 20000 in
theorem ggX11_wind_X11_within : GoodIn wsX11_wind wsX11_within := goodIn_r _ [8] (by decide +kernel) (by decide +kernel)
set_option maxRecDepth 20000 in
theorem gX11_wind_X11_within : GoodIn wsX11_wind (va_wsS RX11 86 yX11_within wsX11_within) := goodIn_app (goodIn_of _ (by decide +kernel)) ggX11_wind_X11_within
set_option maxRecDepth 20000 in
theorem ggX11_wind_X4_swapWind : GoodIn wsX11_wind wsX4_swapWind := goodIn_r _ [13, 14, 26, 27] (by decide +kernel) (by decide +kernel)
set_option maxRecDepth 20000 in
theorem gX11_wind_X4_swapWind : GoodIn wsX11_wind (wsV RX11 265 RX4 yX4_swapWind wsX4_swapWind) := goodIn_app (goodIn_of _ (by decide +kernel)) ggX11_wind_X4_swapWind
theorem dX11_wind_0 : decode cX11_wind 0 = .ok (.iload_n 1, 1) := by decide +kernel
theorem dX11_wind_1 : decode cX11_wind 1 = .ok (.invokestatic 259, 3) := by decide +kernel
theorem dX11_wind_4 : decode cX11_wind 4 = .ok (.ifCond .eq 14, 3) := by decide +kernel
theorem dX11_wind_7 : decode cX11_wind 7 = .ok (.iload_n 2, 1) := by decide +kernel
theorem dX11_wind_8 : decode cX11_wind 8 = .ok (.bipush (-31), 2) := by decide +kernel
theorem dX11_wind_10 : decode cX11_wind 10 = .ok (.bipush 31, 2) := by decide +kernel
theorem dX11_wind_12 : decode cX11_wind 12 = .ok (.invokestatic 86, 3) := by decide +kernel
theorem dX11_wind_15 : decode cX11_wind 15 = .ok (.ifCond .ne 7, 3) := by decide +kernel
theorem dX11_wind_18 : decode cX11_wind 18 = .ok (.sipush (-10001), 3) := by decide +kernel
theorem dX11_wind_21 : decode cX11_wind 21 = .ok (.ireturn, 1) := by decide +kernel
theorem dX11_wind_22 : decode cX11_wind 22 = .ok (.aload_n 0, 1) := by decide +kernel
theorem dX11_wind_23 : decode cX11_wind 23 = .ok (.getfield 82, 3) := by decide +kernel
theorem dX11_wind_26 : decode cX11_wind 26 = .ok (.iload_n 1, 1) := by decide +kernel
theorem dX11_wind_27 : decode cX11_wind 27 = .ok (.iload_n 2, 1) := by decide +kernel
theorem dX11_wind_28 : decode cX11_wind 28 = .ok (.invokevirtual 265, 3) := by decide +kernel
theorem dX11_wind_31 : decode cX11_wind 31 = .ok (.ireturn, 1) := by decide +kernel
set_option maxRecDepth 20000 in
theorem ggX11_foretell_X11_isSpot : GoodIn wsX11_foretell wsX11_isSpot := goodIn_r _ [7, 8, 9, 10, 11, 12, 13, 14, 15, 16, 6, 17, 35, 36, 37, 38, 39, 40, 41, 42, 43, 44, 45, 46, 47, 48, 49, 50, 51, 52] (by decide +kernel) (by decide +kernel)
set_option maxRecDepth 20000 in
theorem gX11_foretell_X11_isSpot : GoodIn wsX11_foretell (wsV RX11 99 RX11 yX11_isSpot wsX11_isSpot) := goodIn_app (goodIn_of _ (by decide +kernel)) ggX11_foretell_X11_isSpot
set_option maxRecDepth 20000 in
theorem ggX11_foretell_X11_within : GoodIn wsX11_foretell wsX11_within := goodIn_r _ [17] (by decide +kernel) (by decide +kernel)
set_option maxRecDepth 20000 in
theorem gX11_foretell_X11_within : GoodIn wsX11_foretell (va_wsS RX11 86 yX11_within wsX11_within) := goodIn_app (goodIn_of _ (by decide +kernel)) ggX11_foretell_X11_within
set_option maxRecDepth 20000 in
theorem ggX11_foretell_X7_get : GoodIn wsX11_foretell wsX7_get := goodIn_r _ [22, 23, 53] (by decide +kernel) (by decide +kernel)
set_option maxRecDepth 20000 in
theorem gX11_foretell_X7_get : GoodIn wsX11_foretell (wsV RX11 129 RX7 yX7_get wsX7_get) := goodIn_app (goodIn_of _ (by decide +kernel)) ggX11_foretell_X7_get
set_option maxRecDepth 20000 in
theorem ggX11_foretell_X4_foretold : GoodIn wsX11_foretell wsX4_foretold := goodIn_r _ [28, 29, 30, 31, 32, 33, 34, 54, 55] (by decide +kernel) (by decide +kernel)
set_option maxRecDepth 20000 in
theorem gX11_foretell_X4_foretold : GoodIn wsX11_foretell (wsV RX11 268 RX4 yX4_foretold wsX4_foretold) := goodIn_app (goodIn_of _ (by decide +kernel)) ggX11_foretell_X4_foretold
theorem dX11_foretell_0 : decode cX11_foretell 0 = .ok (.aload_n 0, 1) := by decide +kernel
theorem dX11_foretell_1 : decode cX11_foretell 1 = .ok (.iload_n 1, 1) := by decide +kernel
theorem dX11_foretell_2 : decode cX11_foretell 2 = .ok (.invokevirtual 99, 3) := by decide +kernel
theorem dX11_foretell_5 : decode cX11_foretell 5 = .ok (.ifCond .eq 14, 3) := by decide +kernel
theorem dX11_foretell_8 : decode cX11_foretell 8 = .ok (.iload_n 2, 1) := by decide +kernel
theorem dX11_foretell_9 : decode cX11_foretell 9 = .ok (.iconst 0, 1) := by decide +kernel
theorem dX11_foretell_10 : decode cX11_foretell 10 = .ok (.sipush 9999, 3) := by decide +kernel
theorem dX11_foretell_13 : decode cX11_foretell 13 = .ok (.invokestatic 86, 3) := by decide +kernel
theorem dX11_foretell_16 : decode cX11_foretell 16 = .ok (.ifCond .ne 7, 3) := by decide +kernel
theorem dX11_foretell_19 : decode cX11_foretell 19 = .ok (.sipush (-10001), 3) := by decide +kernel
theorem dX11_foretell_22 : decode cX11_foretell 22 = .ok (.ireturn, 1) := by decide +kernel
theorem dX11_foretell_23 : decode cX11_foretell 23 = .ok (.aload_n 0, 1) := by decide +kernel
theorem dX11_foretell_24 : decode cX11_foretell 24 = .ok (.getfield 82, 3) := by decide +kernel
theorem dX11_foretell_27 : decode cX11_foretell 27 = .ok (.aload_n 0, 1) := by decide +kernel
theorem dX11_foretell_28 : decode cX11_foretell 28 = .ok (.getfield 10, 3) := by decide +kernel
theorem dX11_foretell_31 : decode cX11_foretell 31 = .ok (.bipush 6, 2) := by decide +kernel
theorem dX11_foretell_33 : decode cX11_foretell 33 = .ok (.invokevirtual 129, 3) := by decide +kernel
theorem dX11_foretell_36 : decode cX11_foretell 36 = .ok (.iload_n 1, 1) := by decide +kernel
theorem dX11_foretell_37 : decode cX11_foretell 37 = .ok (.imul, 1) := by decide +kernel
theorem dX11_foretell_38 : decode cX11_foretell 38 = .ok (.iload_n 2, 1) := by decide +kernel
theorem dX11_foretell_39 : decode cX11_foretell 39 = .ok (.invokevirtual 268, 3) := by decide +kernel
theorem dX11_foretell_42 : decode cX11_foretell 42 = .ok (.ireturn, 1) := by decide +kernel
set_option maxRecDepth 20000 in
theorem ggX11_guess_X8_refusal : GoodIn wsX11_guess wsX8_refusal := goodIn_r _ [6, 7, 8, 9, 10, 11, 12, 13, 14, 15, 16, 17, 18, 19, 5, 20, 51, 52, 53] (by decide +kernel) (by decide +kernel)
set_option maxRecDepth 20000 in
theorem gX11_guess_X8_refusal : GoodIn wsX11_guess (wsV RX11 107 RX8 yX8_refusal wsX8_refusal) := goodIn_app (goodIn_of _ (by decide +kernel)) ggX11_guess_X8_refusal
set_option maxRecDepth 20000 in
theorem ggX11_guess_X11_earlier : GoodIn wsX11_guess wsX11_earlier := goodIn_r _ [23, 24, 25, 26, 27] (by decide +kernel) (by decide +kernel)
set_option maxRecDepth 20000 in
theorem gX11_guess_X11_earlier : GoodIn wsX11_guess (va_wsS RX11 271 yX11_earlier wsX11_earlier) := goodIn_app (goodIn_of _ (by decide +kernel)) ggX11_guess_X11_earlier
set_option maxRecDepth 20000 in
theorem ggX11_guess_X8_apart : GoodIn wsX11_guess wsX8_apart := goodIn_r _ [31, 32, 33, 26, 34, 35, 36, 37, 5, 38, 39, 51, 52, 53] (by decide +kernel) (by decide +kernel)
set_option maxRecDepth 20000 in
theorem gX11_guess_X8_apart : GoodIn wsX11_guess (wsV RX11 274 RX8 yX8_apart wsX8_apart) := goodIn_app (goodIn_of _ (by decide +kernel)) ggX11_guess_X8_apart
theorem dX11_guess_0 : decode cX11_guess 0 = .ok (.aload_n 0, 1) := by decide +kernel
theorem dX11_guess_1 : decode cX11_guess 1 = .ok (.getfield 19, 3) := by decide +kernel
theorem dX11_guess_4 : decode cX11_guess 4 = .ok (.iload_n 1, 1) := by decide +kernel
theorem dX11_guess_5 : decode cX11_guess 5 = .ok (.iload_n 3, 1) := by decide +kernel
theorem dX11_guess_6 : decode cX11_guess 6 = .ok (.iconst 0, 1) := by decide +kernel
theorem dX11_guess_7 : decode cX11_guess 7 = .ok (.bipush 32, 2) := by decide +kernel
theorem dX11_guess_9 : decode cX11_guess 9 = .ok (.invokevirtual 107, 3) := by decide +kernel
theorem dX11_guess_12 : decode cX11_guess 12 = .ok (.aload_n 0, 1) := by decide +kernel
theorem dX11_guess_13 : decode cX11_guess 13 = .ok (.getfield 19, 3) := by decide +kernel
theorem dX11_guess_16 : decode cX11_guess 16 = .ok (.iload_n 2, 1) := by decide +kernel
theorem dX11_guess_17 : decode cX11_guess 17 = .ok (.iload_n 3, 1) := by decide +kernel
theorem dX11_guess_18 : decode cX11_guess 18 = .ok (.iconst 0, 1) := by decide +kernel
theorem dX11_guess_19 : decode cX11_guess 19 = .ok (.bipush 32, 2) := by decide +kernel
theorem dX11_guess_21 : decode cX11_guess 21 = .ok (.invokevirtual 107, 3) := by decide +kernel
theorem dX11_guess_24 : decode cX11_guess 24 = .ok (.invokestatic 271, 3) := by decide +kernel
theorem dX11_guess_27 : decode cX11_guess 27 = .ok (.istore 4, 2) := by decide +kernel
theorem dX11_guess_29 : decode cX11_guess 29 = .ok (.iload 4, 2) := by decide +kernel
theorem dX11_guess_31 : decode cX11_guess 31 = .ok (.ifCond .eq 6, 3) := by decide +kernel
theorem dX11_guess_34 : decode cX11_guess 34 = .ok (.iload 4, 2) := by decide +kernel
theorem dX11_guess_36 : decode cX11_guess 36 = .ok (.ireturn, 1) := by decide +kernel
theorem dX11_guess_37 : decode cX11_guess 37 = .ok (.iconst 0, 1) := by decide +kernel
theorem dX11_guess_38 : decode cX11_guess 38 = .ok (.istore 5, 2) := by decide +kernel
theorem dX11_guess_40 : decode cX11_guess 40 = .ok (.aload_n 0, 1) := by decide +kernel
theorem dX11_guess_41 : decode cX11_guess 41 = .ok (.getfield 19, 3) := by decide +kernel
theorem dX11_guess_44 : decode cX11_guess 44 = .ok (.iload_n 1, 1) := by decide +kernel
theorem dX11_guess_45 : decode cX11_guess 45 = .ok (.iload_n 2, 1) := by decide +kernel
theorem dX11_guess_46 : decode cX11_guess 46 = .ok (.iconst 0, 1) := by decide +kernel
theorem dX11_guess_47 : decode cX11_guess 47 = .ok (.invokevirtual 274, 3) := by decide +kernel
theorem dX11_guess_50 : decode cX11_guess 50 = .ok (.lstore 6, 2) := by decide +kernel
theorem dX11_guess_52 : decode cX11_guess 52 = .ok (.iconst 1, 1) := by decide +kernel
theorem dX11_guess_53 : decode cX11_guess 53 = .ok (.istore 8, 2) := by decide +kernel
theorem dX11_guess_55 : decode cX11_guess 55 = .ok (.iload 8, 2) := by decide +kernel
theorem dX11_guess_57 : decode cX11_guess 57 = .ok (.bipush 32, 2) := by decide +kernel
theorem dX11_guess_59 : decode cX11_guess 59 = .ok (.if_icmp .ge 38, 3) := by decide +kernel
theorem dX11_guess_62 : decode cX11_guess 62 = .ok (.aload_n 0, 1) := by decide +kernel
theorem dX11_guess_63 : decode cX11_guess 63 = .ok (.getfield 19, 3) := by decide +kernel
theorem dX11_guess_66 : decode cX11_guess 66 = .ok (.iload_n 1, 1) := by decide +kernel
theorem dX11_guess_67 : decode cX11_guess 67 = .ok (.iload_n 2, 1) := by decide +kernel
theorem dX11_guess_68 : decode cX11_guess 68 = .ok (.iload 8, 2) := by decide +kernel
theorem dX11_guess_70 : decode cX11_guess 70 = .ok (.invokevirtual 274, 3) := by decide +kernel
theorem dX11_guess_73 : decode cX11_guess 73 = .ok (.lstore 9, 2) := by decide +kernel
theorem dX11_guess_75 : decode cX11_guess 75 = .ok (.lload 9, 2) := by decide +kernel
theorem dX11_guess_77 : decode cX11_guess 77 = .ok (.lload 6, 2) := by decide +kernel
theorem dX11_guess_79 : decode cX11_guess 79 = .ok (.lcmp, 1) := by decide +kernel
theorem dX11_guess_80 : decode cX11_guess 80 = .ok (.ifCond .ge 11, 3) := by decide +kernel
theorem dX11_guess_83 : decode cX11_guess 83 = .ok (.lload 9, 2) := by decide +kernel
theorem dX11_guess_85 : decode cX11_guess 85 = .ok (.lstore 6, 2) := by decide +kernel
theorem dX11_guess_87 : decode cX11_guess 87 = .ok (.iload 8, 2) := by decide +kernel
theorem dX11_guess_89 : decode cX11_guess 89 = .ok (.istore 5, 2) := by decide +kernel
theorem dX11_guess_91 : decode cX11_guess 91 = .ok (.iinc 8 1, 3) := by decide +kernel
theorem dX11_guess_94 : decode cX11_guess 94 = .ok (.goto (-39), 3) := by decide +kernel
theorem dX11_guess_97 : decode cX11_guess 97 = .ok (.iload 5, 2) := by decide +kernel
theorem dX11_guess_99 : decode cX11_guess 99 = .ok (.ireturn, 1) := by decide +kernel
set_option maxRecDepth 20000 in
theorem ggX11_sheet_X11_isSheet : GoodIn wsX11_sheet wsX11_isSheet := goodIn_r _ [5, 6, 7, 4, 8] (by decide +kernel) (by decide +kernel)
set_option maxRecDepth 20000 in
theorem gX11_sheet_X11_isSheet : GoodIn wsX11_sheet (va_wsS RX11 278 yX11_isSheet wsX11_isSheet) := goodIn_app (goodIn_of _ (by decide +kernel)) ggX11_sheet_X11_isSheet
set_option maxRecDepth 20000 in
theorem ggX11_sheet_X11_isLane : GoodIn wsX11_sheet wsX11_isLane := goodIn_r _ [11, 6, 7, 4, 8] (by decide +kernel) (by decide +kernel)
set_option maxRecDepth 20000 in
theorem gX11_sheet_X11_isLane : GoodIn wsX11_sheet (va_wsS RX11 281 yX11_isLane wsX11_isLane) := goodIn_app (goodIn_of _ (by decide +kernel)) ggX11_sheet_X11_isLane
set_option maxRecDepth 20000 in
theorem ggX11_sheet_X8_lay : GoodIn wsX11_sheet wsX8_lay := goodIn_r _ [16, 17, 18, 19, 31, 32, 33] (by decide +kernel) (by decide +kernel)
set_option maxRecDepth 20000 in
theorem gX11_sheet_X8_lay : GoodIn wsX11_sheet (wsV RX11 284 RX8 yX8_lay wsX8_lay) := goodIn_app (goodIn_of _ (by decide +kernel)) ggX11_sheet_X8_lay
theorem dX11_sheet_0 : decode cX11_sheet 0 = .ok (.iload_n 1, 1) := by decide +kernel
theorem dX11_sheet_1 : decode cX11_sheet 1 = .ok (.invokestatic 278, 3) := by decide +kernel
theorem dX11_sheet_4 : decode cX11_sheet 4 = .ok (.ifCond .eq 16, 3) := by decide +kernel
theorem dX11_sheet_7 : decode cX11_sheet 7 = .ok (.iload_n 2, 1) := by decide +kernel
theorem dX11_sheet_8 : decode cX11_sheet 8 = .ok (.invokestatic 281, 3) := by decide +kernel
theorem dX11_sheet_11 : decode cX11_sheet 11 = .ok (.ifCond .eq 9, 3) := by decide +kernel
theorem dX11_sheet_14 : decode cX11_sheet 14 = .ok (.iload_n 3, 1) := by decide +kernel
theorem dX11_sheet_15 : decode cX11_sheet 15 = .ok (.bipush 40, 2) := by decide +kernel
theorem dX11_sheet_17 : decode cX11_sheet 17 = .ok (.if_icmp .le 5, 3) := by decide +kernel
theorem dX11_sheet_20 : decode cX11_sheet 20 = .ok (.iconst (-1), 1) := by decide +kernel
theorem dX11_sheet_21 : decode cX11_sheet 21 = .ok (.ireturn, 1) := by decide +kernel
theorem dX11_sheet_22 : decode cX11_sheet 22 = .ok (.iload_n 3, 1) := by decide +kernel
theorem dX11_sheet_23 : decode cX11_sheet 23 = .ok (.ifCond .ge 6, 3) := by decide +kernel
theorem dX11_sheet_26 : decode cX11_sheet 26 = .ok (.bipush (-14), 2) := by decide +kernel
theorem dX11_sheet_28 : decode cX11_sheet 28 = .ok (.ireturn, 1) := by decide +kernel
theorem dX11_sheet_29 : decode cX11_sheet 29 = .ok (.aload_n 0, 1) := by decide +kernel
theorem dX11_sheet_30 : decode cX11_sheet 30 = .ok (.getfield 19, 3) := by decide +kernel
theorem dX11_sheet_33 : decode cX11_sheet 33 = .ok (.iload_n 1, 1) := by decide +kernel
theorem dX11_sheet_34 : decode cX11_sheet 34 = .ok (.iload_n 2, 1) := by decide +kernel
theorem dX11_sheet_35 : decode cX11_sheet 35 = .ok (.iload_n 3, 1) := by decide +kernel
theorem dX11_sheet_36 : decode cX11_sheet 36 = .ok (.invokevirtual 284, 3) := by decide +kernel
theorem dX11_sheet_39 : decode cX11_sheet 39 = .ok (.iload_n 3, 1) := by decide +kernel
theorem dX11_sheet_40 : decode cX11_sheet 40 = .ok (.ireturn, 1) := by decide +kernel
set_option maxRecDepth 20000 in
theorem ggX11_drop_X11_isSheet : GoodIn wsX11_drop wsX11_isSheet := goodIn_r _ [5, 6, 7, 4, 8] (by decide +kernel) (by decide +kernel)
set_option maxRecDepth 20000 in
theorem gX11_drop_X11_isSheet : GoodIn wsX11_drop (va_wsS RX11 278 yX11_isSheet wsX11_isSheet) := goodIn_app (goodIn_of _ (by decide +kernel)) ggX11_drop_X11_isSheet
set_option maxRecDepth 20000 in
theorem ggX11_drop_X8_holds : GoodIn wsX11_drop wsX8_holds := goodIn_r _ [13, 14, 30, 31, 32] (by decide +kernel) (by decide +kernel)
set_option maxRecDepth 20000 in
theorem gX11_drop_X8_holds : GoodIn wsX11_drop (wsV RX11 287 RX8 yX8_holds wsX8_holds) := goodIn_app (goodIn_of _ (by decide +kernel)) ggX11_drop_X8_holds
set_option maxRecDepth 20000 in
theorem ggX11_drop_X8_takeAway : GoodIn wsX11_drop wsX8_takeAway := goodIn_r _ [18, 14, 30, 31, 32] (by decide +kernel) (by decide +kernel)
set_option maxRecDepth 20000 in
theorem gX11_drop_X8_takeAway : GoodIn wsX11_drop (wsV RX11 290 RX8 yX8_takeAway wsX8_takeAway) := goodIn_app (goodIn_of _ (by decide +kernel)) ggX11_drop_X8_takeAway
theorem dX11_drop_0 : decode cX11_drop 0 = .ok (.iload_n 1, 1) := by decide +kernel
theorem dX11_drop_1 : decode cX11_drop 1 = .ok (.invokestatic 278, 3) := by decide +kernel
theorem dX11_drop_4 : decode cX11_drop 4 = .ok (.ifCond .ne 5, 3) := by decide +kernel
theorem dX11_drop_7 : decode cX11_drop 7 = .ok (.iconst (-1), 1) := by decide +kernel
theorem dX11_drop_8 : decode cX11_drop 8 = .ok (.ireturn, 1) := by decide +kernel
theorem dX11_drop_9 : decode cX11_drop 9 = .ok (.aload_n 0, 1) := by decide +kernel
theorem dX11_drop_10 : decode cX11_drop 10 = .ok (.getfield 19, 3) := by decide +kernel
theorem dX11_drop_13 : decode cX11_drop 13 = .ok (.iload_n 1, 1) := by decide +kernel
theorem dX11_drop_14 : decode cX11_drop 14 = .ok (.invokevirtual 287, 3) := by decide +kernel
theorem dX11_drop_17 : decode cX11_drop 17 = .ok (.ifCond .ne 6, 3) := by decide +kernel
theorem dX11_drop_20 : decode cX11_drop 20 = .ok (.bipush (-11), 2) := by decide +kernel
theorem dX11_drop_22 : decode cX11_drop 22 = .ok (.ireturn, 1) := by decide +kernel
theorem dX11_drop_23 : decode cX11_drop 23 = .ok (.aload_n 0, 1) := by decide +kernel
theorem dX11_drop_24 : decode cX11_drop 24 = .ok (.getfield 19, 3) := by decide +kernel
theorem dX11_drop_27 : decode cX11_drop 27 = .ok (.iload_n 1, 1) := by decide +kernel
theorem dX11_drop_28 : decode cX11_drop 28 = .ok (.invokevirtual 290, 3) := by decide +kernel
theorem dX11_drop_31 : decode cX11_drop 31 = .ok (.ireturn, 1) := by decide +kernel
set_option maxRecDepth 20000 in
theorem ggX11_item_X8_refusal : GoodIn wsX11_item wsX8_refusal := goodIn_r _ [6, 7, 8, 9, 10, 11, 12, 13, 14, 15, 16, 17, 18, 19, 5, 20, 37, 38, 39] (by decide +kernel) (by decide +kernel)
set_option maxRecDepth 20000 in
theorem gX11_item_X8_refusal : GoodIn wsX11_item (wsV RX11 107 RX8 yX8_refusal wsX8_refusal) := goodIn_app (goodIn_of _ (by decide +kernel)) ggX11_item_X8_refusal
set_option maxRecDepth 20000 in
theorem ggX11_item_X8_put : GoodIn wsX11_item wsX8_put := goodIn_r _ [24, 7, 25, 37, 38, 39] (by decide +kernel) (by decide +kernel)
set_option maxRecDepth 20000 in
theorem gX11_item_X8_put : GoodIn wsX11_item (wsV RX11 293 RX8 yX8_put wsX8_put) := goodIn_app (goodIn_of _ (by decide +kernel)) ggX11_item_X8_put
theorem dX11_item_0 : decode cX11_item 0 = .ok (.aload_n 0, 1) := by decide +kernel
theorem dX11_item_1 : decode cX11_item 1 = .ok (.getfield 19, 3) := by decide +kernel
theorem dX11_item_4 : decode cX11_item 4 = .ok (.iload_n 1, 1) := by decide +kernel
theorem dX11_item_5 : decode cX11_item 5 = .ok (.iload_n 2, 1) := by decide +kernel
theorem dX11_item_6 : decode cX11_item 6 = .ok (.iload_n 3, 1) := by decide +kernel
theorem dX11_item_7 : decode cX11_item 7 = .ok (.iconst 1, 1) := by decide +kernel
theorem dX11_item_8 : decode cX11_item 8 = .ok (.invokevirtual 107, 3) := by decide +kernel
theorem dX11_item_11 : decode cX11_item 11 = .ok (.istore 5, 2) := by decide +kernel
theorem dX11_item_13 : decode cX11_item 13 = .ok (.iload 5, 2) := by decide +kernel
theorem dX11_item_15 : decode cX11_item 15 = .ok (.ifCond .eq 6, 3) := by decide +kernel
theorem dX11_item_18 : decode cX11_item 18 = .ok (.iload 5, 2) := by decide +kernel
theorem dX11_item_20 : decode cX11_item 20 = .ok (.ireturn, 1) := by decide +kernel
theorem dX11_item_21 : decode cX11_item 21 = .ok (.aload_n 0, 1) := by decide +kernel
theorem dX11_item_22 : decode cX11_item 22 = .ok (.getfield 19, 3) := by decide +kernel
theorem dX11_item_25 : decode cX11_item 25 = .ok (.iload_n 1, 1) := by decide +kernel
theorem dX11_item_26 : decode cX11_item 26 = .ok (.iload_n 3, 1) := by decide +kernel
theorem dX11_item_27 : decode cX11_item 27 = .ok (.iload 4, 2) := by decide +kernel
theorem dX11_item_29 : decode cX11_item 29 = .ok (.invokevirtual 293, 3) := by decide +kernel
theorem dX11_item_32 : decode cX11_item 32 = .ok (.iconst 1, 1) := by decide +kernel
theorem dX11_item_33 : decode cX11_item 33 = .ok (.ireturn, 1) := by decide +kernel
set_option maxRecDepth 20000 in
theorem ggX11_layer_X11_isLayer : GoodIn wsX11_layer wsX11_isLayer := goodIn_r _ [6, 7, 8, 5, 9] (by decide +kernel) (by decide +kernel)
set_option maxRecDepth 20000 in
theorem gX11_layer_X11_isLayer : GoodIn wsX11_layer (va_wsS RX11 259 yX11_isLayer wsX11_isLayer) := goodIn_app (goodIn_of _ (by decide +kernel)) ggX11_layer_X11_isLayer
set_option maxRecDepth 20000 in
theorem ggX11_layer_X8_refusal : GoodIn wsX11_layer wsX8_refusal := goodIn_r _ [14, 15, 16, 17, 5, 18, 7, 8, 9, 19, 20, 21, 22, 23, 13, 24, 52, 53, 54] (by decide +kernel) (by decide +kernel)
set_option maxRecDepth 20000 in
theorem gX11_layer_X8_refusal : GoodIn wsX11_layer (wsV RX11 107 RX8 yX8_refusal wsX8_refusal) := goodIn_app (goodIn_of _ (by decide +kernel)) ggX11_layer_X8_refusal
set_option maxRecDepth 20000 in
theorem ggX11_layer_X8_allWithin : GoodIn wsX11_layer wsX8_allWithin := goodIn_r _ [28, 29, 30, 31, 13, 32, 33, 8, 5, 9, 52, 53, 54] (by decide +kernel) (by decide +kernel)
set_option maxRecDepth 20000 in
theorem gX11_layer_X8_allWithin : GoodIn wsX11_layer (wsV RX11 111 RX8 yX8_allWithin wsX8_allWithin) := goodIn_app (goodIn_of _ (by decide +kernel)) ggX11_layer_X8_allWithin
set_option maxRecDepth 20000 in
theorem ggX11_layer_X8_at : GoodIn wsX11_layer wsX8_at := goodIn_r _ [32, 33, 52, 53, 54] (by decide +kernel) (by decide +kernel)
set_option maxRecDepth 20000 in
theorem gX11_layer_X8_at : GoodIn wsX11_layer (wsV RX11 115 RX8 yX8_at wsX8_at) := goodIn_app (goodIn_of _ (by decide +kernel)) ggX11_layer_X8_at
set_option maxRecDepth 20000 in
theorem ggX11_layer_X4_swapCell : GoodIn wsX11_layer wsX4_swapCell := goodIn_r _ [39, 40, 55, 56] (by decide +kernel) (by decide +kernel)
set_option maxRecDepth 20000 in
theorem gX11_layer_X4_swapCell : GoodIn wsX11_layer (wsV RX11 262 RX4 yX4_swapCell wsX4_swapCell) := goodIn_app (goodIn_of _ (by decide +kernel)) ggX11_layer_X4_swapCell
theorem dX11_layer_0 : decode cX11_layer 0 = .ok (.iload_n 1, 1) := by decide +kernel
theorem dX11_layer_1 : decode cX11_layer 1 = .ok (.invokestatic 259, 3) := by decide +kernel
theorem dX11_layer_4 : decode cX11_layer 4 = .ok (.ifCond .ne 5, 3) := by decide +kernel
theorem dX11_layer_7 : decode cX11_layer 7 = .ok (.iconst (-1), 1) := by decide +kernel
theorem dX11_layer_8 : decode cX11_layer 8 = .ok (.ireturn, 1) := by decide +kernel
theorem dX11_layer_9 : decode cX11_layer 9 = .ok (.aload_n 0, 1) := by decide +kernel
theorem dX11_layer_10 : decode cX11_layer 10 = .ok (.getfield 19, 3) := by decide +kernel
theorem dX11_layer_13 : decode cX11_layer 13 = .ok (.iload_n 2, 1) := by decide +kernel
theorem dX11_layer_14 : decode cX11_layer 14 = .ok (.iload_n 3, 1) := by decide +kernel
theorem dX11_layer_15 : decode cX11_layer 15 = .ok (.iload 4, 2) := by decide +kernel
theorem dX11_layer_17 : decode cX11_layer 17 = .ok (.bipush 32, 2) := by decide +kernel
theorem dX11_layer_19 : decode cX11_layer 19 = .ok (.invokevirtual 107, 3) := by decide +kernel
theorem dX11_layer_22 : decode cX11_layer 22 = .ok (.istore 5, 2) := by decide +kernel
theorem dX11_layer_24 : decode cX11_layer 24 = .ok (.iload 5, 2) := by decide +kernel
theorem dX11_layer_26 : decode cX11_layer 26 = .ok (.ifCond .eq 6, 3) := by decide +kernel
theorem dX11_layer_29 : decode cX11_layer 29 = .ok (.iload 5, 2) := by decide +kernel
theorem dX11_layer_31 : decode cX11_layer 31 = .ok (.ireturn, 1) := by decide +kernel
theorem dX11_layer_32 : decode cX11_layer 32 = .ok (.aload_n 0, 1) := by decide +kernel
theorem dX11_layer_33 : decode cX11_layer 33 = .ok (.getfield 19, 3) := by decide +kernel
theorem dX11_layer_36 : decode cX11_layer 36 = .ok (.iload_n 2, 1) := by decide +kernel
theorem dX11_layer_37 : decode cX11_layer 37 = .ok (.iload 4, 2) := by decide +kernel
theorem dX11_layer_39 : decode cX11_layer 39 = .ok (.bipush 32, 2) := by decide +kernel
theorem dX11_layer_41 : decode cX11_layer 41 = .ok (.bipush (-99), 2) := by decide +kernel
theorem dX11_layer_43 : decode cX11_layer 43 = .ok (.bipush 99, 2) := by decide +kernel
theorem dX11_layer_45 : decode cX11_layer 45 = .ok (.invokevirtual 111, 3) := by decide +kernel
theorem dX11_layer_48 : decode cX11_layer 48 = .ok (.ifCond .ne 6, 3) := by decide +kernel
theorem dX11_layer_51 : decode cX11_layer 51 = .ok (.bipush (-2), 2) := by decide +kernel
theorem dX11_layer_53 : decode cX11_layer 53 = .ok (.ireturn, 1) := by decide +kernel
theorem dX11_layer_54 : decode cX11_layer 54 = .ok (.iconst 0, 1) := by decide +kernel
theorem dX11_layer_55 : decode cX11_layer 55 = .ok (.istore 6, 2) := by decide +kernel
theorem dX11_layer_57 : decode cX11_layer 57 = .ok (.iload 6, 2) := by decide +kernel
theorem dX11_layer_59 : decode cX11_layer 59 = .ok (.bipush 32, 2) := by decide +kernel
theorem dX11_layer_61 : decode cX11_layer 61 = .ok (.if_icmp .ge 33, 3) := by decide +kernel
theorem dX11_layer_64 : decode cX11_layer 64 = .ok (.aload_n 0, 1) := by decide +kernel
theorem dX11_layer_65 : decode cX11_layer 65 = .ok (.getfield 82, 3) := by decide +kernel
theorem dX11_layer_68 : decode cX11_layer 68 = .ok (.iload_n 1, 1) := by decide +kernel
theorem dX11_layer_69 : decode cX11_layer 69 = .ok (.iload 6, 2) := by decide +kernel
theorem dX11_layer_71 : decode cX11_layer 71 = .ok (.aload_n 0, 1) := by decide +kernel
theorem dX11_layer_72 : decode cX11_layer 72 = .ok (.getfield 19, 3) := by decide +kernel
theorem dX11_layer_75 : decode cX11_layer 75 = .ok (.iload_n 2, 1) := by decide +kernel
theorem dX11_layer_76 : decode cX11_layer 76 = .ok (.iload 4, 2) := by decide +kernel
theorem dX11_layer_78 : decode cX11_layer 78 = .ok (.iload 6, 2) := by decide +kernel
theorem dX11_layer_80 : decode cX11_layer 80 = .ok (.iadd, 1) := by decide +kernel
theorem dX11_layer_81 : decode cX11_layer 81 = .ok (.invokevirtual 115, 3) := by decide +kernel
theorem dX11_layer_84 : decode cX11_layer 84 = .ok (.invokevirtual 262, 3) := by decide +kernel
theorem dX11_layer_87 : decode cX11_layer 87 = .ok (.pop, 1) := by decide +kernel
theorem dX11_layer_88 : decode cX11_layer 88 = .ok (.iinc 6 1, 3) := by decide +kernel
theorem dX11_layer_91 : decode cX11_layer 91 = .ok (.goto (-34), 3) := by decide +kernel
theorem dX11_layer_94 : decode cX11_layer 94 = .ok (.bipush 32, 2) := by decide +kernel
theorem dX11_layer_96 : decode cX11_layer 96 = .ok (.ireturn, 1) := by decide +kernel
set_option maxRecDepth 20000 in
theorem ggX11_isSpot_X9_count : GoodIn wsX11_isSpot wsX9_count := goodIn_r _ [6, 7, 23, 24, 25, 26, 27, 28, 29] (by decide +kernel) (by decide +kernel)
set_option maxRecDepth 20000 in
theorem gX11_isSpot_X9_count : GoodIn wsX11_isSpot (wsV RX11 154 RX9 yX9_count wsX9_count) := goodIn_app (goodIn_of _ (by decide +kernel)) ggX11_isSpot_X9_count
set_option maxRecDepth 20000 in
theorem ggX11_isSpot_X11_within : GoodIn wsX11_isSpot wsX11_within := goodIn_r _ [11] (by decide +kernel) (by decide +kernel)
set_option maxRecDepth 20000 in
theorem gX11_isSpot_X11_within : GoodIn wsX11_isSpot (va_wsS RX11 86 yX11_within wsX11_within) := goodIn_app (goodIn_of _ (by decide +kernel)) ggX11_isSpot_X11_within
theorem dX11_isSpot_0 : decode cX11_isSpot 0 = .ok (.iload_n 1, 1) := by decide +kernel
theorem dX11_isSpot_1 : decode cX11_isSpot 1 = .ok (.iconst 0, 1) := by decide +kernel
theorem dX11_isSpot_2 : decode cX11_isSpot 2 = .ok (.aload_n 0, 1) := by decide +kernel
theorem dX11_isSpot_3 : decode cX11_isSpot 3 = .ok (.getfield 26, 3) := by decide +kernel
theorem dX11_isSpot_6 : decode cX11_isSpot 6 = .ok (.invokevirtual 154, 3) := by decide +kernel
theorem dX11_isSpot_9 : decode cX11_isSpot 9 = .ok (.iconst 1, 1) := by decide +kernel
theorem dX11_isSpot_10 : decode cX11_isSpot 10 = .ok (.isub, 1) := by decide +kernel
theorem dX11_isSpot_11 : decode cX11_isSpot 11 = .ok (.invokestatic 86, 3) := by decide +kernel
theorem dX11_isSpot_14 : decode cX11_isSpot 14 = .ok (.ireturn, 1) := by decide +kernel
set_option maxRecDepth 20000 in
theorem ggX11_isPart_X6_count : GoodIn wsX11_isPart wsX6_count := goodIn_r _ [6, 7, 23, 24, 25, 26] (by decide +kernel) (by decide +kernel)
set_option maxRecDepth 20000 in
theorem gX11_isPart_X6_count : GoodIn wsX11_isPart (wsV RX11 233 RX6 yX6_count wsX6_count) := goodIn_app (goodIn_of _ (by decide +kernel)) ggX11_isPart_X6_count
set_option maxRecDepth 20000 in
theorem ggX11_isPart_X11_within : GoodIn wsX11_isPart wsX11_within := goodIn_r _ [11] (by decide +kernel) (by decide +kernel)
set_option maxRecDepth 20000 in
theorem gX11_isPart_X11_within : GoodIn wsX11_isPart (va_wsS RX11 86 yX11_within wsX11_within) := goodIn_app (goodIn_of _ (by decide +kernel)) ggX11_isPart_X11_within
theorem dX11_isPart_0 : decode cX11_isPart 0 = .ok (.iload_n 1, 1) := by decide +kernel
theorem dX11_isPart_1 : decode cX11_isPart 1 = .ok (.iconst 0, 1) := by decide +kernel
theorem dX11_isPart_2 : decode cX11_isPart 2 = .ok (.aload_n 0, 1) := by decide +kernel
theorem dX11_isPart_3 : decode cX11_isPart 3 = .ok (.getfield 40, 3) := by decide +kernel
theorem dX11_isPart_6 : decode cX11_isPart 6 = .ok (.invokevirtual 233, 3) := by decide +kernel
theorem dX11_isPart_9 : decode cX11_isPart 9 = .ok (.iconst 1, 1) := by decide +kernel
theorem dX11_isPart_10 : decode cX11_isPart 10 = .ok (.isub, 1) := by decide +kernel
theorem dX11_isPart_11 : decode cX11_isPart 11 = .ok (.invokestatic 86, 3) := by decide +kernel
theorem dX11_isPart_14 : decode cX11_isPart 14 = .ok (.ireturn, 1) := by decide +kernel
set_option maxRecDepth 20000 in
theorem ggX11_findBends_X7_get : GoodIn wsX11_findBends wsX7_get := goodIn_r _ [10, 11, 149] (by decide +kernel) (by decide +kernel)
set_option maxRecDepth 20000 in
theorem gX11_findBends_X7_get : GoodIn wsX11_findBends (wsV RX11 129 RX7 yX7_get wsX7_get) := goodIn_app (goodIn_of _ (by decide +kernel)) ggX11_findBends_X7_get
set_option maxRecDepth 20000 in
theorem ggX11_findBends_X9_measure : GoodIn wsX11_findBends wsX9_measure := goodIn_r _ [16, 17, 18, 19, 20, 21, 22, 23, 15, 24, 25, 26, 27, 28, 29, 30, 31, 32, 33, 150, 151, 152, 153, 154, 155, 156] (by decide +kernel) (by decide +kernel)
set_option maxRecDepth 20000 in
theorem gX11_findBends_X9_measure : GoodIn wsX11_findBends (wsV RX11 133 RX9 yX9_measure wsX9_measure) := goodIn_app (goodIn_of _ (by decide +kernel)) ggX11_findBends_X9_measure
set_option maxRecDepth 20000 in
theorem ggX11_findBends_X0_find : GoodIn wsX11_findBends wsX0_find := goodIn_r _ [38, 39, 40, 41, 42, 43, 44, 37, 45, 46, 47, 48, 49, 50, 51, 52, 53, 54, 55, 56, 57, 58, 59, 60, 61, 62, 63, 64, 15, 65, 18, 66, 67, 68, 69, 19, 70, 71, 72, 73, 74, 75, 76, 77, 78, 79, 80, 81, 82, 83, 84, 30, 85, 86, 87, 88, 89, 90, 91, 28, 92, 93, 94, 95, 96, 97, 98, 99, 100, 101, 102, 103, 104, 105, 106, 107, 108, 109, 110, 111, 112, 113, 114, 115, 116, 117, 118, 119, 120, 121, 122, 123, 124, 125, 126, 127, 128, 129, 130, 131, 132, 133, 134, 135, 136, 137, 157, 158, 159, 160, 161, 162, 163, 164, 165, 166, 167, 168, 169, 150, 151, 152, 153, 154, 155, 156, 170, 171, 172, 173, 174, 175] (by decide +kernel) (by decide +kernel)
set_option maxRecDepth 20000 in
theorem gX11_findBends_X0_find : GoodIn wsX11_findBends (wsV RX11 296 RX0 yX0_find wsX0_find) := goodIn_app (goodIn_of _ (by decide +kernel)) ggX11_findBends_X0_find
theorem dX11_findBends_0 : decode cX11_findBends 0 = .ok (.aload_n 0, 1) := by decide +kernel
theorem dX11_findBends_1 : decode cX11_findBends 1 = .ok (.getfield 26, 3) := by decide +kernel
theorem dX11_findBends_4 : decode cX11_findBends 4 = .ok (.aload_n 0, 1) := by decide +kernel
theorem dX11_findBends_5 : decode cX11_findBends 5 = .ok (.getfield 10, 3) := by decide +kernel
theorem dX11_findBends_8 : decode cX11_findBends 8 = .ok (.iconst 0, 1) := by decide +kernel
theorem dX11_findBends_9 : decode cX11_findBends 9 = .ok (.invokevirtual 129, 3) := by decide +kernel
theorem dX11_findBends_12 : decode cX11_findBends 12 = .ok (.aload_n 0, 1) := by decide +kernel
theorem dX11_findBends_13 : decode cX11_findBends 13 = .ok (.getfield 10, 3) := by decide +kernel
theorem dX11_findBends_16 : decode cX11_findBends 16 = .ok (.iconst 1, 1) := by decide +kernel
theorem dX11_findBends_17 : decode cX11_findBends 17 = .ok (.invokevirtual 129, 3) := by decide +kernel
theorem dX11_findBends_20 : decode cX11_findBends 20 = .ok (.invokevirtual 133, 3) := by decide +kernel
theorem dX11_findBends_23 : decode cX11_findBends 23 = .ok (.aload_n 0, 1) := by decide +kernel
theorem dX11_findBends_24 : decode cX11_findBends 24 = .ok (.getfield 47, 3) := by decide +kernel
theorem dX11_findBends_27 : decode cX11_findBends 27 = .ok (.aload_n 0, 1) := by decide +kernel
theorem dX11_findBends_28 : decode cX11_findBends 28 = .ok (.getfield 26, 3) := by decide +kernel
theorem dX11_findBends_31 : decode cX11_findBends 31 = .ok (.aload_n 0, 1) := by decide +kernel
theorem dX11_findBends_32 : decode cX11_findBends 32 = .ok (.getfield 33, 3) := by decide +kernel
theorem dX11_findBends_35 : decode cX11_findBends 35 = .ok (.aload_n 0, 1) := by decide +kernel
theorem dX11_findBends_36 : decode cX11_findBends 36 = .ok (.getfield 40, 3) := by decide +kernel
theorem dX11_findBends_39 : decode cX11_findBends 39 = .ok (.invokevirtual 296, 3) := by decide +kernel
theorem dX11_findBends_42 : decode cX11_findBends 42 = .ok (.return_, 1) := by decide +kernel
set_option maxRecDepth 20000 in
theorem ggX11_fitWholes_X6_count : GoodIn wsX11_fitWholes wsX6_count := goodIn_r _ [9, 10, 79, 80, 81, 82] (by decide +kernel) (by decide +kernel)
set_option maxRecDepth 20000 in
theorem gX11_fitWholes_X6_count : GoodIn wsX11_fitWholes (wsV RX11 233 RX6 yX6_count wsX6_count) := goodIn_app (goodIn_of _ (by decide +kernel)) ggX11_fitWholes_X6_count
set_option maxRecDepth 20000 in
theorem ggX11_fitWholes_X0_rounded : GoodIn wsX11_fitWholes wsX0_rounded := goodIn_r _ [15, 16, 83, 84, 85, 86, 87, 88, 89, 90, 91] (by decide +kernel) (by decide +kernel)
set_option maxRecDepth 20000 in
theorem gX11_fitWholes_X0_rounded : GoodIn wsX11_fitWholes (wsV RX11 193 RX0 yX0_rounded wsX0_rounded) := goodIn_app (goodIn_of _ (by decide +kernel)) ggX11_fitWholes_X0_rounded
set_option maxRecDepth 20000 in
theorem ggX11_fitWholes_X2_wish : GoodIn wsX11_fitWholes wsX2_wish := goodIn_r _ [21, 22, 92, 93, 94, 95, 96, 97, 98] (by decide +kernel) (by decide +kernel)
set_option maxRecDepth 20000 in
theorem gX11_fitWholes_X2_wish : GoodIn wsX11_fitWholes (wsV RX11 300 RX2 yX2_wish wsX2_wish) := goodIn_app (goodIn_of _ (by decide +kernel)) ggX11_fitWholes_X2_wish
set_option maxRecDepth 20000 in
theorem ggX11_fitWholes_X7_get : GoodIn wsX11_fitWholes wsX7_get := goodIn_r _ [27, 28, 99] (by decide +kernel) (by decide +kernel)
set_option maxRecDepth 20000 in
theorem gX11_fitWholes_X7_get : GoodIn wsX11_fitWholes (wsV RX11 129 RX7 yX7_get wsX7_get) := goodIn_app (goodIn_of _ (by decide +kernel)) ggX11_fitWholes_X7_get
set_option maxRecDepth 20000 in
theorem ggX11_fitWholes_X2_find : GoodIn wsX11_fitWholes wsX2_find := goodIn_r _ [32, 33, 34, 35, 36, 37, 38, 39, 40, 41, 42, 43, 44, 45, 46, 47, 48, 49, 6, 7, 8, 9, 10, 50, 51, 52, 20, 53, 22, 54, 55, 56, 57, 58, 59, 60, 61, 62, 63, 64, 65, 66, 67, 92, 93, 94, 95, 96, 97, 98, 79, 80, 81, 82] (by decide +kernel) (by decide +kernel)
set_option maxRecDepth 20000 in
theorem gX11_fitWholes_X2_find : GoodIn wsX11_fitWholes (wsV RX11 303 RX2 yX2_find wsX2_find) := goodIn_app (goodIn_of _ (by decide +kernel)) ggX11_fitWholes_X2_find
theorem dX11_fitWholes_0 : decode cX11_fitWholes 0 = .ok (.iconst 0, 1) := by decide +kernel
theorem dX11_fitWholes_1 : decode cX11_fitWholes 1 = .ok (.istore_n 1, 1) := by decide +kernel
theorem dX11_fitWholes_2 : decode cX11_fitWholes 2 = .ok (.iload_n 1, 1) := by decide +kernel
theorem dX11_fitWholes_3 : decode cX11_fitWholes 3 = .ok (.aload_n 0, 1) := by decide +kernel
theorem dX11_fitWholes_4 : decode cX11_fitWholes 4 = .ok (.getfield 40, 3) := by decide +kernel
theorem dX11_fitWholes_7 : decode cX11_fitWholes 7 = .ok (.invokevirtual 233, 3) := by decide +kernel
theorem dX11_fitWholes_10 : decode cX11_fitWholes 10 = .ok (.if_icmp .ge 25, 3) := by decide +kernel
theorem dX11_fitWholes_13 : decode cX11_fitWholes 13 = .ok (.aload_n 0, 1) := by decide +kernel
theorem dX11_fitWholes_14 : decode cX11_fitWholes 14 = .ok (.getfield 54, 3) := by decide +kernel
theorem dX11_fitWholes_17 : decode cX11_fitWholes 17 = .ok (.iload_n 1, 1) := by decide +kernel
theorem dX11_fitWholes_18 : decode cX11_fitWholes 18 = .ok (.aload_n 0, 1) := by decide +kernel
theorem dX11_fitWholes_19 : decode cX11_fitWholes 19 = .ok (.getfield 47, 3) := by decide +kernel
theorem dX11_fitWholes_22 : decode cX11_fitWholes 22 = .ok (.iload_n 1, 1) := by decide +kernel
theorem dX11_fitWholes_23 : decode cX11_fitWholes 23 = .ok (.invokevirtual 193, 3) := by decide +kernel
theorem dX11_fitWholes_26 : decode cX11_fitWholes 26 = .ok (.invokevirtual 300, 3) := by decide +kernel
theorem dX11_fitWholes_29 : decode cX11_fitWholes 29 = .ok (.iinc 1 1, 3) := by decide +kernel
theorem dX11_fitWholes_32 : decode cX11_fitWholes 32 = .ok (.goto (-30), 3) := by decide +kernel
theorem dX11_fitWholes_35 : decode cX11_fitWholes 35 = .ok (.aload_n 0, 1) := by decide +kernel
theorem dX11_fitWholes_36 : decode cX11_fitWholes 36 = .ok (.getfield 54, 3) := by decide +kernel
theorem dX11_fitWholes_39 : decode cX11_fitWholes 39 = .ok (.aload_n 0, 1) := by decide +kernel
theorem dX11_fitWholes_40 : decode cX11_fitWholes 40 = .ok (.getfield 40, 3) := by decide +kernel
theorem dX11_fitWholes_43 : decode cX11_fitWholes 43 = .ok (.aload_n 0, 1) := by decide +kernel
theorem dX11_fitWholes_44 : decode cX11_fitWholes 44 = .ok (.getfield 10, 3) := by decide +kernel
theorem dX11_fitWholes_47 : decode cX11_fitWholes 47 = .ok (.iconst 4, 1) := by decide +kernel
theorem dX11_fitWholes_48 : decode cX11_fitWholes 48 = .ok (.invokevirtual 129, 3) := by decide +kernel
theorem dX11_fitWholes_51 : decode cX11_fitWholes 51 = .ok (.aload_n 0, 1) := by decide +kernel
theorem dX11_fitWholes_52 : decode cX11_fitWholes 52 = .ok (.getfield 10, 3) := by decide +kernel
theorem dX11_fitWholes_55 : decode cX11_fitWholes 55 = .ok (.iconst 5, 1) := by decide +kernel
theorem dX11_fitWholes_56 : decode cX11_fitWholes 56 = .ok (.invokevirtual 129, 3) := by decide +kernel
theorem dX11_fitWholes_59 : decode cX11_fitWholes 59 = .ok (.invokevirtual 303, 3) := by decide +kernel
theorem dX11_fitWholes_62 : decode cX11_fitWholes 62 = .ok (.return_, 1) := by decide +kernel
set_option maxRecDepth 20000 in
theorem ggX11_moveUnits_X6_count : GoodIn wsX11_moveUnits wsX6_count := goodIn_r _ [9, 10, 92, 93, 94, 95] (by decide +kernel) (by decide +kernel)
set_option maxRecDepth 20000 in
theorem gX11_moveUnits_X6_count : GoodIn wsX11_moveUnits (wsV RX11 233 RX6 yX6_count wsX6_count) := goodIn_app (goodIn_of _ (by decide +kernel)) ggX11_moveUnits_X6_count
set_option maxRecDepth 20000 in
theorem ggX11_moveUnits_X6_unitsOf : GoodIn wsX11_moveUnits wsX6_unitsOf := goodIn_r _ [14, 15, 92, 93, 94, 95] (by decide +kernel) (by decide +kernel)
set_option maxRecDepth 20000 in
theorem gX11_moveUnits_X6_unitsOf : GoodIn wsX11_moveUnits (wsV RX11 234 RX6 yX6_unitsOf wsX6_unitsOf) := goodIn_app (goodIn_of _ (by decide +kernel)) ggX11_moveUnits_X6_unitsOf
set_option maxRecDepth 20000 in
theorem ggX11_moveUnits_X7_get : GoodIn wsX11_moveUnits wsX7_get := goodIn_r _ [20, 21, 96] (by decide +kernel) (by decide +kernel)
set_option maxRecDepth 20000 in
theorem gX11_moveUnits_X7_get : GoodIn wsX11_moveUnits (wsV RX11 129 RX7 yX7_get wsX7_get) := goodIn_app (goodIn_of _ (by decide +kernel)) ggX11_moveUnits_X7_get
set_option maxRecDepth 20000 in
theorem ggX11_moveUnits_X0_rounded : GoodIn wsX11_moveUnits wsX0_rounded := goodIn_r _ [26, 27, 97, 98, 99, 100, 101, 102, 103, 104, 105] (by decide +kernel) (by decide +kernel)
set_option maxRecDepth 20000 in
theorem gX11_moveUnits_X0_rounded : GoodIn wsX11_moveUnits (wsV RX11 193 RX0 yX0_rounded wsX0_rounded) := goodIn_app (goodIn_of _ (by decide +kernel)) ggX11_moveUnits_X0_rounded
set_option maxRecDepth 20000 in
theorem ggX11_moveUnits_X2_wish : GoodIn wsX11_moveUnits wsX2_wish := goodIn_r _ [32, 33, 106, 107, 108, 109, 110, 111, 112] (by decide +kernel) (by decide +kernel)
set_option maxRecDepth 20000 in
theorem gX11_moveUnits_X2_wish : GoodIn wsX11_moveUnits (wsV RX11 300 RX2 yX2_wish wsX2_wish) := goodIn_app (goodIn_of _ (by decide +kernel)) ggX11_moveUnits_X2_wish
set_option maxRecDepth 20000 in
theorem ggX11_moveUnits_X2_find : GoodIn wsX11_moveUnits wsX2_find := goodIn_r _ [37, 38, 39, 40, 41, 42, 43, 44, 45, 46, 47, 48, 49, 50, 51, 52, 53, 54, 6, 7, 8, 9, 10, 55, 56, 57, 31, 58, 33, 59, 60, 61, 62, 63, 64, 65, 66, 67, 68, 69, 70, 71, 72, 106, 107, 108, 109, 110, 111, 112, 92, 93, 94, 95] (by decide +kernel) (by decide +kernel)
set_option maxRecDepth 20000 in
theorem gX11_moveUnits_X2_find : GoodIn wsX11_moveUnits (wsV RX11 303 RX2 yX2_find wsX2_find) := goodIn_app (goodIn_of _ (by decide +kernel)) ggX11_moveUnits_X2_find
set_option maxRecDepth 20000 in
theorem ggX11_moveUnits_X2_unitsOf : GoodIn wsX11_moveUnits wsX2_unitsOf := goodIn_r _ [76, 40, 106, 107, 108, 109, 110, 111, 112] (by decide +kernel) (by decide +kernel)
set_option maxRecDepth 20000 in
theorem gX11_moveUnits_X2_unitsOf : GoodIn wsX11_moveUnits (wsV RX11 199 RX2 yX2_unitsOf wsX2_unitsOf) := goodIn_app (goodIn_of _ (by decide +kernel)) ggX11_moveUnits_X2_unitsOf
set_option maxRecDepth 20000 in
theorem ggX11_moveUnits_X6_swapUnits : GoodIn wsX11_moveUnits wsX6_swapUnits := goodIn_r _ [80, 15, 92, 93, 94, 95] (by decide +kernel) (by decide +kernel)
set_option maxRecDepth 20000 in
theorem gX11_moveUnits_X6_swapUnits : GoodIn wsX11_moveUnits (wsV RX11 241 RX6 yX6_swapUnits wsX6_swapUnits) := goodIn_app (goodIn_of _ (by decide +kernel)) ggX11_moveUnits_X6_swapUnits
theorem dX11_moveUnits_0 : decode cX11_moveUnits 0 = .ok (.iconst 0, 1) := by decide +kernel
theorem dX11_moveUnits_1 : decode cX11_moveUnits 1 = .ok (.istore_n 1, 1) := by decide +kernel
theorem dX11_moveUnits_2 : decode cX11_moveUnits 2 = .ok (.iload_n 1, 1) := by decide +kernel
theorem dX11_moveUnits_3 : decode cX11_moveUnits 3 = .ok (.aload_n 0, 1) := by decide +kernel
theorem dX11_moveUnits_4 : decode cX11_moveUnits 4 = .ok (.getfield 40, 3) := by decide +kernel
theorem dX11_moveUnits_7 : decode cX11_moveUnits 7 = .ok (.invokevirtual 233, 3) := by decide +kernel
theorem dX11_moveUnits_10 : decode cX11_moveUnits 10 = .ok (.if_icmp .ge 46, 3) := by decide +kernel
theorem dX11_moveUnits_13 : decode cX11_moveUnits 13 = .ok (.aload_n 0, 1) := by decide +kernel
theorem dX11_moveUnits_14 : decode cX11_moveUnits 14 = .ok (.getfield 54, 3) := by decide +kernel
theorem dX11_moveUnits_17 : decode cX11_moveUnits 17 = .ok (.iload_n 1, 1) := by decide +kernel
theorem dX11_moveUnits_18 : decode cX11_moveUnits 18 = .ok (.aload_n 0, 1) := by decide +kernel
theorem dX11_moveUnits_19 : decode cX11_moveUnits 19 = .ok (.getfield 40, 3) := by decide +kernel
theorem dX11_moveUnits_22 : decode cX11_moveUnits 22 = .ok (.iload_n 1, 1) := by decide +kernel
theorem dX11_moveUnits_23 : decode cX11_moveUnits 23 = .ok (.invokevirtual 234, 3) := by decide +kernel
theorem dX11_moveUnits_26 : decode cX11_moveUnits 26 = .ok (.aload_n 0, 1) := by decide +kernel
theorem dX11_moveUnits_27 : decode cX11_moveUnits 27 = .ok (.getfield 10, 3) := by decide +kernel
theorem dX11_moveUnits_30 : decode cX11_moveUnits 30 = .ok (.iconst 3, 1) := by decide +kernel
theorem dX11_moveUnits_31 : decode cX11_moveUnits 31 = .ok (.invokevirtual 129, 3) := by decide +kernel
theorem dX11_moveUnits_34 : decode cX11_moveUnits 34 = .ok (.aload_n 0, 1) := by decide +kernel
theorem dX11_moveUnits_35 : decode cX11_moveUnits 35 = .ok (.getfield 47, 3) := by decide +kernel
theorem dX11_moveUnits_38 : decode cX11_moveUnits 38 = .ok (.iload_n 1, 1) := by decide +kernel
theorem dX11_moveUnits_39 : decode cX11_moveUnits 39 = .ok (.invokevirtual 193, 3) := by decide +kernel
theorem dX11_moveUnits_42 : decode cX11_moveUnits 42 = .ok (.imul, 1) := by decide +kernel
theorem dX11_moveUnits_43 : decode cX11_moveUnits 43 = .ok (.bipush 100, 2) := by decide +kernel
theorem dX11_moveUnits_45 : decode cX11_moveUnits 45 = .ok (.idiv, 1) := by decide +kernel
theorem dX11_moveUnits_46 : decode cX11_moveUnits 46 = .ok (.isub, 1) := by decide +kernel
theorem dX11_moveUnits_47 : decode cX11_moveUnits 47 = .ok (.invokevirtual 300, 3) := by decide +kernel
theorem dX11_moveUnits_50 : decode cX11_moveUnits 50 = .ok (.iinc 1 1, 3) := by decide +kernel
theorem dX11_moveUnits_53 : decode cX11_moveUnits 53 = .ok (.goto (-51), 3) := by decide +kernel
theorem dX11_moveUnits_56 : decode cX11_moveUnits 56 = .ok (.aload_n 0, 1) := by decide +kernel
theorem dX11_moveUnits_57 : decode cX11_moveUnits 57 = .ok (.getfield 54, 3) := by decide +kernel
theorem dX11_moveUnits_60 : decode cX11_moveUnits 60 = .ok (.aload_n 0, 1) := by decide +kernel
theorem dX11_moveUnits_61 : decode cX11_moveUnits 61 = .ok (.getfield 40, 3) := by decide +kernel
theorem dX11_moveUnits_64 : decode cX11_moveUnits 64 = .ok (.aload_n 0, 1) := by decide +kernel
theorem dX11_moveUnits_65 : decode cX11_moveUnits 65 = .ok (.getfield 10, 3) := by decide +kernel
theorem dX11_moveUnits_68 : decode cX11_moveUnits 68 = .ok (.iconst 4, 1) := by decide +kernel
theorem dX11_moveUnits_69 : decode cX11_moveUnits 69 = .ok (.invokevirtual 129, 3) := by decide +kernel
theorem dX11_moveUnits_72 : decode cX11_moveUnits 72 = .ok (.aload_n 0, 1) := by decide +kernel
theorem dX11_moveUnits_73 : decode cX11_moveUnits 73 = .ok (.getfield 10, 3) := by decide +kernel
theorem dX11_moveUnits_76 : decode cX11_moveUnits 76 = .ok (.iconst 5, 1) := by decide +kernel
theorem dX11_moveUnits_77 : decode cX11_moveUnits 77 = .ok (.invokevirtual 129, 3) := by decide +kernel
theorem dX11_moveUnits_80 : decode cX11_moveUnits 80 = .ok (.invokevirtual 303, 3) := by decide +kernel
theorem dX11_moveUnits_83 : decode cX11_moveUnits 83 = .ok (.iconst 0, 1) := by decide +kernel
theorem dX11_moveUnits_84 : decode cX11_moveUnits 84 = .ok (.istore_n 1, 1) := by decide +kernel
theorem dX11_moveUnits_85 : decode cX11_moveUnits 85 = .ok (.iconst 0, 1) := by decide +kernel
theorem dX11_moveUnits_86 : decode cX11_moveUnits 86 = .ok (.istore_n 2, 1) := by decide +kernel
theorem dX11_moveUnits_87 : decode cX11_moveUnits 87 = .ok (.iload_n 2, 1) := by decide +kernel
theorem dX11_moveUnits_88 : decode cX11_moveUnits 88 = .ok (.aload_n 0, 1) := by decide +kernel
theorem dX11_moveUnits_89 : decode cX11_moveUnits 89 = .ok (.getfield 40, 3) := by decide +kernel
theorem dX11_moveUnits_92 : decode cX11_moveUnits 92 = .ok (.invokevirtual 233, 3) := by decide +kernel
theorem dX11_moveUnits_95 : decode cX11_moveUnits 95 = .ok (.if_icmp .ge 33, 3) := by decide +kernel
theorem dX11_moveUnits_98 : decode cX11_moveUnits 98 = .ok (.aload_n 0, 1) := by decide +kernel
theorem dX11_moveUnits_99 : decode cX11_moveUnits 99 = .ok (.getfield 54, 3) := by decide +kernel
theorem dX11_moveUnits_102 : decode cX11_moveUnits 102 = .ok (.iload_n 2, 1) := by decide +kernel
theorem dX11_moveUnits_103 : decode cX11_moveUnits 103 = .ok (.invokevirtual 199, 3) := by decide +kernel
theorem dX11_moveUnits_106 : decode cX11_moveUnits 106 = .ok (.istore_n 3, 1) := by decide +kernel
theorem dX11_moveUnits_107 : decode cX11_moveUnits 107 = .ok (.aload_n 0, 1) := by decide +kernel
theorem dX11_moveUnits_108 : decode cX11_moveUnits 108 = .ok (.getfield 40, 3) := by decide +kernel
theorem dX11_moveUnits_111 : decode cX11_moveUnits 111 = .ok (.iload_n 2, 1) := by decide +kernel
theorem dX11_moveUnits_112 : decode cX11_moveUnits 112 = .ok (.iload_n 3, 1) := by decide +kernel
theorem dX11_moveUnits_113 : decode cX11_moveUnits 113 = .ok (.invokevirtual 241, 3) := by decide +kernel
theorem dX11_moveUnits_116 : decode cX11_moveUnits 116 = .ok (.iload_n 3, 1) := by decide +kernel
theorem dX11_moveUnits_117 : decode cX11_moveUnits 117 = .ok (.if_icmp .eq 5, 3) := by decide +kernel
theorem dX11_moveUnits_120 : decode cX11_moveUnits 120 = .ok (.iconst 1, 1) := by decide +kernel
theorem dX11_moveUnits_121 : decode cX11_moveUnits 121 = .ok (.istore_n 1, 1) := by decide +kernel
theorem dX11_moveUnits_122 : decode cX11_moveUnits 122 = .ok (.iinc 2 1, 3) := by decide +kernel
theorem dX11_moveUnits_125 : decode cX11_moveUnits 125 = .ok (.goto (-38), 3) := by decide +kernel
theorem dX11_moveUnits_128 : decode cX11_moveUnits 128 = .ok (.iload_n 1, 1) := by decide +kernel
theorem dX11_moveUnits_129 : decode cX11_moveUnits 129 = .ok (.ireturn, 1) := by decide +kernel
set_option maxRecDepth 20000 in
theorem ggX11_isLayer_X11_within : GoodIn wsX11_isLayer wsX11_within := goodIn_r _ [4] (by decide +kernel) (by decide +kernel)
set_option maxRecDepth 20000 in
theorem gX11_isLayer_X11_within : GoodIn wsX11_isLayer (va_wsS RX11 86 yX11_within wsX11_within) := goodIn_app (goodIn_of _ (by decide +kernel)) ggX11_isLayer_X11_within
theorem dX11_isLayer_0 : decode cX11_isLayer 0 = .ok (.iload_n 0, 1) := by decide +kernel
theorem dX11_isLayer_1 : decode cX11_isLayer 1 = .ok (.iconst 0, 1) := by decide +kernel
theorem dX11_isLayer_2 : decode cX11_isLayer 2 = .ok (.iconst 2, 1) := by decide +kernel
theorem dX11_isLayer_3 : decode cX11_isLayer 3 = .ok (.invokestatic 86, 3) := by decide +kernel
theorem dX11_isLayer_6 : decode cX11_isLayer 6 = .ok (.ireturn, 1) := by decide +kernel
set_option maxRecDepth 20000 in
theorem ggX11_isSheet_X11_within : GoodIn wsX11_isSheet wsX11_within := goodIn_r _ [4] (by decide +kernel) (by decide +kernel)
set_option maxRecDepth 20000 in
theorem gX11_isSheet_X11_within : GoodIn wsX11_isSheet (va_wsS RX11 86 yX11_within wsX11_within) := goodIn_app (goodIn_of _ (by decide +kernel)) ggX11_isSheet_X11_within
theorem dX11_isSheet_0 : decode cX11_isSheet 0 = .ok (.iload_n 0, 1) := by decide +kernel
theorem dX11_isSheet_1 : decode cX11_isSheet 1 = .ok (.iconst 0, 1) := by decide +kernel
theorem dX11_isSheet_2 : decode cX11_isSheet 2 = .ok (.iconst 3, 1) := by decide +kernel
theorem dX11_isSheet_3 : decode cX11_isSheet 3 = .ok (.invokestatic 86, 3) := by decide +kernel
theorem dX11_isSheet_6 : decode cX11_isSheet 6 = .ok (.ireturn, 1) := by decide +kernel
set_option maxRecDepth 20000 in
theorem ggX11_isLane_X11_within : GoodIn wsX11_isLane wsX11_within := goodIn_r _ [4] (by decide +kernel) (by decide +kernel)
set_option maxRecDepth 20000 in
theorem gX11_isLane_X11_within : GoodIn wsX11_isLane (va_wsS RX11 86 yX11_within wsX11_within) := goodIn_app (goodIn_of _ (by decide +kernel)) ggX11_isLane_X11_within
theorem dX11_isLane_0 : decode cX11_isLane 0 = .ok (.iload_n 0, 1) := by decide +kernel
theorem dX11_isLane_1 : decode cX11_isLane 1 = .ok (.iconst 0, 1) := by decide +kernel
theorem dX11_isLane_2 : decode cX11_isLane 2 = .ok (.iconst 2, 1) := by decide +kernel
theorem dX11_isLane_3 : decode cX11_isLane 3 = .ok (.invokestatic 86, 3) := by decide +kernel
theorem dX11_isLane_6 : decode cX11_isLane 6 = .ok (.ireturn, 1) := by decide +kernel
theorem dX11_within_0 : decode cX11_within 0 = .ok (.iload_n 0, 1) := by decide +kernel
theorem dX11_within_1 : decode cX11_within 1 = .ok (.iload_n 1, 1) := by decide +kernel
theorem dX11_within_2 : decode cX11_within 2 = .ok (.if_icmp .lt 12, 3) := by decide +kernel
theorem dX11_within_5 : decode cX11_within 5 = .ok (.iload_n 0, 1) := by decide +kernel
theorem dX11_within_6 : decode cX11_within 6 = .ok (.iload_n 2, 1) := by decide +kernel
theorem dX11_within_7 : decode cX11_within 7 = .ok (.if_icmp .gt 7, 3) := by decide +kernel
theorem dX11_within_10 : decode cX11_within 10 = .ok (.iconst 1, 1) := by decide +kernel
theorem dX11_within_11 : decode cX11_within 11 = .ok (.goto 4, 3) := by decide +kernel
theorem dX11_within_14 : decode cX11_within 14 = .ok (.iconst 0, 1) := by decide +kernel
theorem dX11_within_15 : decode cX11_within 15 = .ok (.ireturn, 1) := by decide +kernel
theorem dX11_held_0 : decode cX11_held 0 = .ok (.iload_n 1, 1) := by decide +kernel
theorem dX11_held_1 : decode cX11_held 1 = .ok (.iload_n 2, 1) := by decide +kernel
theorem dX11_held_2 : decode cX11_held 2 = .ok (.iload_n 0, 1) := by decide +kernel
theorem dX11_held_3 : decode cX11_held 3 = .ok (.invokestatic 306, 3) := by decide +kernel
theorem dX11_held_6 : decode cX11_held 6 = .ok (.invokestatic 311, 3) := by decide +kernel
theorem dX11_held_9 : decode cX11_held 9 = .ok (.ireturn, 1) := by decide +kernel
theorem dX11_cut_0 : decode cX11_cut 0 = .ok (.iload_n 1, 1) := by decide +kernel
theorem dX11_cut_1 : decode cX11_cut 1 = .ok (.ifCond .le 9, 3) := by decide +kernel
theorem dX11_cut_4 : decode cX11_cut 4 = .ok (.iload_n 0, 1) := by decide +kernel
theorem dX11_cut_5 : decode cX11_cut 5 = .ok (.iload_n 1, 1) := by decide +kernel
theorem dX11_cut_6 : decode cX11_cut 6 = .ok (.idiv, 1) := by decide +kernel
theorem dX11_cut_7 : decode cX11_cut 7 = .ok (.goto 4, 3) := by decide +kernel
theorem dX11_cut_10 : decode cX11_cut 10 = .ok (.iconst 0, 1) := by decide +kernel
theorem dX11_cut_11 : decode cX11_cut 11 = .ok (.ireturn, 1) := by decide +kernel
theorem dX11_earlier_0 : decode cX11_earlier 0 = .ok (.iload_n 0, 1) := by decide +kernel
theorem dX11_earlier_1 : decode cX11_earlier 1 = .ok (.ifCond .ne 5, 3) := by decide +kernel
theorem dX11_earlier_4 : decode cX11_earlier 4 = .ok (.iload_n 1, 1) := by decide +kernel
theorem dX11_earlier_5 : decode cX11_earlier 5 = .ok (.ireturn, 1) := by decide +kernel
theorem dX11_earlier_6 : decode cX11_earlier 6 = .ok (.iload_n 1, 1) := by decide +kernel
theorem dX11_earlier_7 : decode cX11_earlier 7 = .ok (.ifCond .ne 7, 3) := by decide +kernel
theorem dX11_earlier_10 : decode cX11_earlier 10 = .ok (.iload_n 0, 1) := by decide +kernel
theorem dX11_earlier_11 : decode cX11_earlier 11 = .ok (.goto 8, 3) := by decide +kernel
theorem dX11_earlier_14 : decode cX11_earlier 14 = .ok (.iload_n 0, 1) := by decide +kernel
theorem dX11_earlier_15 : decode cX11_earlier 15 = .ok (.iload_n 1, 1) := by decide +kernel
theorem dX11_earlier_16 : decode cX11_earlier 16 = .ok (.invokestatic 311, 3) := by decide +kernel
theorem dX11_earlier_19 : decode cX11_earlier 19 = .ok (.ireturn, 1) := by decide +kernel
theorem dX12_in_0 : decode cX12_in 0 = .ok (.lload_n 0, 1) := by decide +kernel
theorem dX12_in_1 : decode cX12_in 1 = .ok (.lload_n 2, 1) := by decide +kernel
theorem dX12_in_2 : decode cX12_in 2 = .ok (.lcmp, 1) := by decide +kernel
theorem dX12_in_3 : decode cX12_in 3 = .ok (.ifCond .lt 14, 3) := by decide +kernel
theorem dX12_in_6 : decode cX12_in 6 = .ok (.lload_n 0, 1) := by decide +kernel
theorem dX12_in_7 : decode cX12_in 7 = .ok (.lload 4, 2) := by decide +kernel
theorem dX12_in_9 : decode cX12_in 9 = .ok (.lcmp, 1) := by decide +kernel
theorem dX12_in_10 : decode cX12_in 10 = .ok (.ifCond .gt 7, 3) := by decide +kernel
theorem dX12_in_13 : decode cX12_in 13 = .ok (.iconst 1, 1) := by decide +kernel
theorem dX12_in_14 : decode cX12_in 14 = .ok (.goto 4, 3) := by decide +kernel
theorem dX12_in_17 : decode cX12_in 17 = .ok (.iconst 0, 1) := by decide +kernel
theorem dX12_in_18 : decode cX12_in 18 = .ok (.ireturn, 1) := by decide +kernel
set_option maxRecDepth 20000 in
theorem ggX12_init_X12_begin : GoodIn wsX12_init wsX12_begin := goodIn_r _ [43, 4, 5, 7, 8, 9, 13, 17, 27, 44, 45, 46, 47, 48, 49, 50, 51, 52, 53, 54, 55, 56, 57, 58, 59, 60, 61, 62, 63, 64, 65, 66, 67, 68, 69, 70, 71, 72, 73, 74, 75, 76, 77, 78, 79, 80, 81, 82, 83, 84, 85, 86, 87, 88, 89] (by decide +kernel) (by decide +kernel)
set_option maxRecDepth 20000 in
theorem gX12_init_X12_begin : GoodIn wsX12_init (wsV RX12 109 RX12 yX12_begin wsX12_begin) := goodIn_app (goodIn_of _ (by decide +kernel)) ggX12_init_X12_begin
theorem dX12_init_0 : decode cX12_init 0 = .ok (.aload_n 0, 1) := by decide +kernel
theorem dX12_init_1 : decode cX12_init 1 = .ok (.invokespecial 1, 3) := by decide +kernel
theorem dX12_init_4 : decode cX12_init 4 = .ok (.aload_n 0, 1) := by decide +kernel
theorem dX12_init_5 : decode cX12_init 5 = .ok (.iconst 4, 1) := by decide +kernel
theorem dX12_init_6 : decode cX12_init 6 = .ok (.putfield 7, 3) := by decide +kernel
theorem dX12_init_9 : decode cX12_init 9 = .ok (.aload_n 0, 1) := by decide +kernel
theorem dX12_init_10 : decode cX12_init 10 = .ok (.iconst 2, 1) := by decide +kernel
theorem dX12_init_11 : decode cX12_init 11 = .ok (.putfield 13, 3) := by decide +kernel
theorem dX12_init_14 : decode cX12_init 14 = .ok (.aload_n 0, 1) := by decide +kernel
theorem dX12_init_15 : decode cX12_init 15 = .ok (.sipush 128, 3) := by decide +kernel
theorem dX12_init_18 : decode cX12_init 18 = .ok (.newarray .int, 2) := by decide +kernel
theorem dX12_init_20 : decode cX12_init 20 = .ok (.putfield 16, 3) := by decide +kernel
theorem dX12_init_23 : decode cX12_init 23 = .ok (.aload_n 0, 1) := by decide +kernel
theorem dX12_init_24 : decode cX12_init 24 = .ok (.bipush 8, 2) := by decide +kernel
theorem dX12_init_26 : decode cX12_init 26 = .ok (.newarray .int, 2) := by decide +kernel
theorem dX12_init_28 : decode cX12_init 28 = .ok (.putfield 20, 3) := by decide +kernel
theorem dX12_init_31 : decode cX12_init 31 = .ok (.aload_n 0, 1) := by decide +kernel
theorem dX12_init_32 : decode cX12_init 32 = .ok (.bipush 40, 2) := by decide +kernel
theorem dX12_init_34 : decode cX12_init 34 = .ok (.newarray .int, 2) := by decide +kernel
theorem dX12_init_36 : decode cX12_init 36 = .ok (.putfield 23, 3) := by decide +kernel
theorem dX12_init_39 : decode cX12_init 39 = .ok (.aload_n 0, 1) := by decide +kernel
theorem dX12_init_40 : decode cX12_init 40 = .ok (.bipush 7, 2) := by decide +kernel
theorem dX12_init_42 : decode cX12_init 42 = .ok (.newarray .int, 2) := by decide +kernel
theorem dX12_init_44 : decode cX12_init 44 = .ok (.dup, 1) := by decide +kernel
theorem dX12_init_45 : decode cX12_init 45 = .ok (.iconst 0, 1) := by decide +kernel
theorem dX12_init_46 : decode cX12_init 46 = .ok (.bipush 20, 2) := by decide +kernel
theorem dX12_init_48 : decode cX12_init 48 = .ok (.iastore, 1) := by decide +kernel
theorem dX12_init_49 : decode cX12_init 49 = .ok (.dup, 1) := by decide +kernel
theorem dX12_init_50 : decode cX12_init 50 = .ok (.iconst 1, 1) := by decide +kernel
theorem dX12_init_51 : decode cX12_init 51 = .ok (.bipush 50, 2) := by decide +kernel
theorem dX12_init_53 : decode cX12_init 53 = .ok (.iastore, 1) := by decide +kernel
theorem dX12_init_54 : decode cX12_init 54 = .ok (.dup, 1) := by decide +kernel
theorem dX12_init_55 : decode cX12_init 55 = .ok (.iconst 2, 1) := by decide +kernel
theorem dX12_init_56 : decode cX12_init 56 = .ok (.iconst 1, 1) := by decide +kernel
theorem dX12_init_57 : decode cX12_init 57 = .ok (.iastore, 1) := by decide +kernel
theorem dX12_init_58 : decode cX12_init 58 = .ok (.dup, 1) := by decide +kernel
theorem dX12_init_59 : decode cX12_init 59 = .ok (.iconst 3, 1) := by decide +kernel
theorem dX12_init_60 : decode cX12_init 60 = .ok (.bipush 50, 2) := by decide +kernel
theorem dX12_init_62 : decode cX12_init 62 = .ok (.iastore, 1) := by decide +kernel
theorem dX12_init_63 : decode cX12_init 63 = .ok (.dup, 1) := by decide +kernel
theorem dX12_init_64 : decode cX12_init 64 = .ok (.iconst 4, 1) := by decide +kernel
theorem dX12_init_65 : decode cX12_init 65 = .ok (.bipush 40, 2) := by decide +kernel
theorem dX12_init_67 : decode cX12_init 67 = .ok (.iastore, 1) := by decide +kernel
theorem dX12_init_68 : decode cX12_init 68 = .ok (.dup, 1) := by decide +kernel
theorem dX12_init_69 : decode cX12_init 69 = .ok (.iconst 5, 1) := by decide +kernel
theorem dX12_init_70 : decode cX12_init 70 = .ok (.bipush 30, 2) := by decide +kernel
theorem dX12_init_72 : decode cX12_init 72 = .ok (.iastore, 1) := by decide +kernel
theorem dX12_init_73 : decode cX12_init 73 = .ok (.dup, 1) := by decide +kernel
theorem dX12_init_74 : decode cX12_init 74 = .ok (.bipush 6, 2) := by decide +kernel
theorem dX12_init_76 : decode cX12_init 76 = .ok (.iconst 4, 1) := by decide +kernel
theorem dX12_init_77 : decode cX12_init 77 = .ok (.iastore, 1) := by decide +kernel
theorem dX12_init_78 : decode cX12_init 78 = .ok (.putfield 26, 3) := by decide +kernel
theorem dX12_init_81 : decode cX12_init 81 = .ok (.aload_n 0, 1) := by decide +kernel
theorem dX12_init_82 : decode cX12_init 82 = .ok (.bipush 7, 2) := by decide +kernel
theorem dX12_init_84 : decode cX12_init 84 = .ok (.newarray .int, 2) := by decide +kernel
theorem dX12_init_86 : decode cX12_init 86 = .ok (.dup, 1) := by decide +kernel
theorem dX12_init_87 : decode cX12_init 87 = .ok (.iconst 0, 1) := by decide +kernel
theorem dX12_init_88 : decode cX12_init 88 = .ok (.iconst 0, 1) := by decide +kernel
theorem dX12_init_89 : decode cX12_init 89 = .ok (.iastore, 1) := by decide +kernel
theorem dX12_init_90 : decode cX12_init 90 = .ok (.dup, 1) := by decide +kernel
theorem dX12_init_91 : decode cX12_init 91 = .ok (.iconst 1, 1) := by decide +kernel
theorem dX12_init_92 : decode cX12_init 92 = .ok (.iconst 1, 1) := by decide +kernel
theorem dX12_init_93 : decode cX12_init 93 = .ok (.iastore, 1) := by decide +kernel
theorem dX12_init_94 : decode cX12_init 94 = .ok (.dup, 1) := by decide +kernel
theorem dX12_init_95 : decode cX12_init 95 = .ok (.iconst 2, 1) := by decide +kernel
theorem dX12_init_96 : decode cX12_init 96 = .ok (.iconst 0, 1) := by decide +kernel
theorem dX12_init_97 : decode cX12_init 97 = .ok (.iastore, 1) := by decide +kernel
theorem dX12_init_98 : decode cX12_init 98 = .ok (.dup, 1) := by decide +kernel
theorem dX12_init_99 : decode cX12_init 99 = .ok (.iconst 3, 1) := by decide +kernel
theorem dX12_init_100 : decode cX12_init 100 = .ok (.iconst 0, 1) := by decide +kernel
theorem dX12_init_101 : decode cX12_init 101 = .ok (.iastore, 1) := by decide +kernel
theorem dX12_init_102 : decode cX12_init 102 = .ok (.dup, 1) := by decide +kernel
theorem dX12_init_103 : decode cX12_init 103 = .ok (.iconst 4, 1) := by decide +kernel
theorem dX12_init_104 : decode cX12_init 104 = .ok (.iconst 1, 1) := by decide +kernel
theorem dX12_init_105 : decode cX12_init 105 = .ok (.iastore, 1) := by decide +kernel
theorem dX12_init_106 : decode cX12_init 106 = .ok (.dup, 1) := by decide +kernel
theorem dX12_init_107 : decode cX12_init 107 = .ok (.iconst 5, 1) := by decide +kernel
theorem dX12_init_108 : decode cX12_init 108 = .ok (.iconst 0, 1) := by decide +kernel
theorem dX12_init_109 : decode cX12_init 109 = .ok (.iastore, 1) := by decide +kernel
theorem dX12_init_110 : decode cX12_init 110 = .ok (.dup, 1) := by decide +kernel
theorem dX12_init_111 : decode cX12_init 111 = .ok (.bipush 6, 2) := by decide +kernel
theorem dX12_init_113 : decode cX12_init 113 = .ok (.iconst 1, 1) := by decide +kernel
theorem dX12_init_114 : decode cX12_init 114 = .ok (.iastore, 1) := by decide +kernel
theorem dX12_init_115 : decode cX12_init 115 = .ok (.putfield 29, 3) := by decide +kernel
theorem dX12_init_118 : decode cX12_init 118 = .ok (.aload_n 0, 1) := by decide +kernel
theorem dX12_init_119 : decode cX12_init 119 = .ok (.bipush 7, 2) := by decide +kernel
theorem dX12_init_121 : decode cX12_init 121 = .ok (.newarray .int, 2) := by decide +kernel
theorem dX12_init_123 : decode cX12_init 123 = .ok (.dup, 1) := by decide +kernel
theorem dX12_init_124 : decode cX12_init 124 = .ok (.iconst 0, 1) := by decide +kernel
theorem dX12_init_125 : decode cX12_init 125 = .ok (.sipush 255, 3) := by decide +kernel
theorem dX12_init_128 : decode cX12_init 128 = .ok (.iastore, 1) := by decide +kernel
theorem dX12_init_129 : decode cX12_init 129 = .ok (.dup, 1) := by decide +kernel
theorem dX12_init_130 : decode cX12_init 130 = .ok (.iconst 1, 1) := by decide +kernel
theorem dX12_init_131 : decode cX12_init 131 = .ok (.sipush 4080, 3) := by decide +kernel
theorem dX12_init_134 : decode cX12_init 134 = .ok (.iastore, 1) := by decide +kernel

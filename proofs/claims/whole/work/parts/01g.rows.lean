set_option maxRecDepth 20000 in
theorem gX11_layer_X8_allWithin : GoodIn wsX11_layer (wsV RX11 111 RX8 yX8_allWithin wsX8_allWithin) := goodIn_app (goodIn_of _ (by decide +kernel)) ggX11_layer_X8_allWithin
set_option maxRecDepth 20000 in
theorem ggX11_layer_X8_at : GoodIn wsX11_layer wsX8_at := goodIn_r _ [32, 33, 52, 53, 54] (by decide +kernel) (by decide +kernel)
set_option maxRecDepth 20000 in
theorem gX11_layer_X8_at : GoodIn wsX11_layer (wsV RX11 115 RX8 yX8_at wsX8_at) := goodIn_app (goodIn_of _ (by decide +kernel)) ggX11_layer_X8_at
set_option maxRecDepth 20000 in
theorem ggX11_layer_X4_swapCell : GoodIn wsX11_layer wsX4_swapCell := goodIn_r _ [39, 40, 55, 56] (by decide +kernel) (by decide +kernel)
set_option maxRecDepth 20000 in
theorem gX11_layer_X4_swapCell : GoodIn wsX11_layer (wsV RX11 262 RX4 yX4_swapCell wsX4_swapCell) := goodIn_app (goodIn_of _ (by decide +kernel)) ggX11_layer_X4_swapCell
theorem dX11_layer_0 : decode cX11_layer 0 = .ok (.iload_n 1, 1) := by decide +kernel
theorem dX11_layer_1 : decode cX11_layer 1 = .ok (.invokestatic 259, 3) := by decide +kernel
theorem dX11_layer_4 : decode cX11_layer 4 = .ok (.ifCond .ne 5, 3) := by decide +kernel
theorem dX11_layer_7 : decode cX11_layer 7 = .ok (.iconst (-1), 1) := by decide +kernel
theorem dX11_layer_8 : decode cX11_layer 8 = .ok (.ireturn, 1) := by decide +kernel
theorem dX11_layer_9 : decode cX11_layer 9 = .ok (.aload_n 0, 1) := by decide +kernel
theorem dX11_layer_10 : decode cX11_layer 10 = .ok (.getfield 19, 3) := by decide +kernel
theorem dX11_layer_13 : decode cX11_layer 13 = .ok (.iload_n 2, 1) := by decide +kernel
theorem dX11_layer_14 : decode cX11_layer 14 = .ok (.iload_n 3, 1) := by decide +kernel
theorem dX11_layer_15 : decode cX11_layer 15 = .ok (.iload 4, 2) := by decide +kernel
theorem dX11_layer_17 : decode cX11_layer 17 = .ok (.bipush 32, 2) := by decide +kernel
theorem dX11_layer_19 : decode cX11_layer 19 = .ok (.invokevirtual 107, 3) := by decide +kernel
theorem dX11_layer_22 : decode cX11_layer 22 = .ok (.istore 5, 2) := by decide +kernel
theorem dX11_layer_24 : decode cX11_layer 24 = .ok (.iload 5, 2) := by decide +kernel
theorem dX11_layer_26 : decode cX11_layer 26 = .ok (.ifCond .eq 6, 3) := by decide +kernel
theorem dX11_layer_29 : decode cX11_layer 29 = .ok (.iload 5, 2) := by decide +kernel
theorem dX11_layer_31 : decode cX11_layer 31 = .ok (.ireturn, 1) := by decide +kernel
theorem dX11_layer_32 : decode cX11_layer 32 = .ok (.aload_n 0, 1) := by decide +kernel
theorem dX11_layer_33 : decode cX11_layer 33 = .ok (.getfield 19, 3) := by decide +kernel
theorem dX11_layer_36 : decode cX11_layer 36 = .ok (.iload_n 2, 1) := by decide +kernel
theorem dX11_layer_37 : decode cX11_layer 37 = .ok (.iload 4, 2) := by decide +kernel
theorem dX11_layer_39 : decode cX11_layer 39 = .ok (.bipush 32, 2) := by decide +kernel
theorem dX11_layer_41 : decode cX11_layer 41 = .ok (.bipush (-99), 2) := by decide +kernel
theorem dX11_layer_43 : decode cX11_layer 43 = .ok (.bipush 99, 2) := by decide +kernel
theorem dX11_layer_45 : decode cX11_layer 45 = .ok (.invokevirtual 111, 3) := by decide +kernel
theorem dX11_layer_48 : decode cX11_layer 48 = .ok (.ifCond .ne 6, 3) := by decide +kernel
theorem dX11_layer_51 : decode cX11_layer 51 = .ok (.bipush (-2), 2) := by decide +kernel
theorem dX11_layer_53 : decode cX11_layer 53 = .ok (.ireturn, 1) := by decide +kernel
theorem dX11_layer_54 : decode cX11_layer 54 = .ok (.iconst 0, 1) := by decide +kernel
theorem dX11_layer_55 : decode cX11_layer 55 = .ok (.istore 6, 2) := by decide +kernel
theorem dX11_layer_57 : decode cX11_layer 57 = .ok (.iload 6, 2) := by decide +kernel
theorem dX11_layer_59 : decode cX11_layer 59 = .ok (.bipush 32, 2) := by decide +kernel
theorem dX11_layer_61 : decode cX11_layer 61 = .ok (.if_icmp .ge 33, 3) := by decide +kernel
theorem dX11_layer_64 : decode cX11_layer 64 = .ok (.aload_n 0, 1) := by decide +kernel
theorem dX11_layer_65 : decode cX11_layer 65 = .ok (.getfield 82, 3) := by decide +kernel
theorem dX11_layer_68 : decode cX11_layer 68 = .ok (.iload_n 1, 1) := by decide +kernel
theorem dX11_layer_69 : decode cX11_layer 69 = .ok (.iload 6, 2) := by decide +kernel
theorem dX11_layer_71 : decode cX11_layer 71 = .ok (.aload_n 0, 1) := by decide +kernel
theorem dX11_layer_72 : decode cX11_layer 72 = .ok (.getfield 19, 3) := by decide +kernel
theorem dX11_layer_75 : decode cX11_layer 75 = .ok (.iload_n 2, 1) := by decide +kernel
theorem dX11_layer_76 : decode cX11_layer 76 = .ok (.iload 4, 2) := by decide +kernel
theorem dX11_layer_78 : decode cX11_layer 78 = .ok (.iload 6, 2) := by decide +kernel
theorem dX11_layer_80 : decode cX11_layer 80 = .ok (.iadd, 1) := by decide +kernel
theorem dX11_layer_81 : decode cX11_layer 81 = .ok (.invokevirtual 115, 3) := by decide +kernel
theorem dX11_layer_84 : decode cX11_layer 84 = .ok (.invokevirtual 262, 3) := by decide +kernel
theorem dX11_layer_87 : decode cX11_layer 87 = .ok (.pop, 1) := by decide +kernel
theorem dX11_layer_88 : decode cX11_layer 88 = .ok (.iinc 6 1, 3) := by decide +kernel
theorem dX11_layer_91 : decode cX11_layer 91 = .ok (.goto (-34), 3) := by decide +kernel
theorem dX11_layer_94 : decode cX11_layer 94 = .ok (.bipush 32, 2) := by decide +kernel
theorem dX11_layer_96 : decode cX11_layer 96 = .ok (.ireturn, 1) := by decide +kernel
set_option maxRecDepth 20000 in
theorem ggX11_isSpot_X9_count : GoodIn wsX11_isSpot wsX9_count := goodIn_r _ [6, 7, 23, 24, 25, 26, 27, 28, 29] (by decide +kernel) (by decide +kernel)
set_option maxRecDepth 20000 in
theorem gX11_isSpot_X9_count : GoodIn wsX11_isSpot (wsV RX11 154 RX9 yX9_count wsX9_count) := goodIn_app (goodIn_of _ (by decide +kernel)) ggX11_isSpot_X9_count
set_option maxRecDepth 20000 in
theorem ggX11_isSpot_X11_within : GoodIn wsX11_isSpot wsX11_within := goodIn_r _ [11] (by decide +kernel) (by decide +kernel)
set_option maxRecDepth 20000 in
theorem gX11_isSpot_X11_within : GoodIn wsX11_isSpot (va_wsS RX11 86 yX11_within wsX11_within) := goodIn_app (goodIn_of _ (by decide +kernel)) ggX11_isSpot_X11_within
theorem dX11_isSpot_0 : decode cX11_isSpot 0 = .ok (.iload_n 1, 1) := by decide +kernel
theorem dX11_isSpot_1 : decode cX11_isSpot 1 = .ok (.iconst 0, 1) := by decide +kernel
theorem dX11_isSpot_2 : decode cX11_isSpot 2 = .ok (.aload_n 0, 1) := by decide +kernel
theorem dX11_isSpot_3 : decode cX11_isSpot 3 = .ok (.getfield 26, 3) := by decide +kernel
theorem dX11_isSpot_6 : decode cX11_isSpot 6 = .ok (.invokevirtual 154, 3) := by decide +kernel
theorem dX11_isSpot_9 : decode cX11_isSpot 9 = .ok (.iconst 1, 1) := by decide +kernel
theorem dX11_isSpot_10 : decode cX11_isSpot 10 = .ok (.isub, 1) := by decide +kernel
theorem dX11_isSpot_11 : decode cX11_isSpot 11 = .ok (.invokestatic 86, 3) := by decide +kernel
theorem dX11_isSpot_14 : decode cX11_isSpot 14 = .ok (.ireturn, 1) := by decide +kernel
set_option maxRecDepth 20000 in
theorem ggX11_isPart_X6_count : GoodIn wsX11_isPart wsX6_count := goodIn_r _ [6, 7, 23, 24, 25, 26] (by decide +kernel) (by decide +kernel)
set_option maxRecDepth 20000 in
theorem gX11_isPart_X6_count : GoodIn wsX11_isPart (wsV RX11 233 RX6 yX6_count wsX6_count) := goodIn_app (goodIn_of _ (by decide +kernel)) ggX11_isPart_X6_count
set_option maxRecDepth 20000 in
theorem ggX11_isPart_X11_within : GoodIn wsX11_isPart wsX11_within := goodIn_r _ [11] (by decide +kernel) (by decide +kernel)
set_option maxRecDepth 20000 in
theorem gX11_isPart_X11_within : GoodIn wsX11_isPart (va_wsS RX11 86 yX11_within wsX11_within) := goodIn_app (goodIn_of _ (by decide +kernel)) ggX11_isPart_X11_within
theorem dX11_isPart_0 : decode cX11_isPart 0 = .ok (.iload_n 1, 1) := by decide +kernel
theorem dX11_isPart_1 : decode cX11_isPart 1 = .ok (.iconst 0, 1) := by decide +kernel
theorem dX11_isPart_2 : decode cX11_isPart 2 = .ok (.aload_n 0, 1) := by decide +kernel
theorem dX11_isPart_3 : decode cX11_isPart 3 = .ok (.getfield 40, 3) := by decide +kernel
theorem dX11_isPart_6 : decode cX11_isPart 6 = .ok (.invokevirtual 233, 3) := by decide +kernel
theorem dX11_isPart_9 : decode cX11_isPart 9 = .ok (.iconst 1, 1) := by decide +kernel
theorem dX11_isPart_10 : decode cX11_isPart 10 = .ok (.isub, 1) := by decide +kernel
theorem dX11_isPart_11 : decode cX11_isPart 11 = .ok (.invokestatic 86, 3) := by decide +kernel
theorem dX11_isPart_14 : decode cX11_isPart 14 = .ok (.ireturn, 1) := by decide +kernel
set_option maxRecDepth 20000 in
theorem ggX11_findBends_X7_get : GoodIn wsX11_findBends wsX7_get := goodIn_r _ [10, 11, 149] (by decide +kernel) (by decide +kernel)
set_option maxRecDepth 20000 in
theorem gX11_findBends_X7_get : GoodIn wsX11_findBends (wsV RX11 129 RX7 yX7_get wsX7_get) := goodIn_app (goodIn_of _ (by decide +kernel)) ggX11_findBends_X7_get
set_option maxRecDepth 20000 in
theorem ggX11_findBends_X9_measure : GoodIn wsX11_findBends wsX9_measure := goodIn_r _ [16, 17, 18, 19, 20, 21, 22, 23, 15, 24, 25, 26, 27, 28, 29, 30, 31, 32, 33, 150, 151, 152, 153, 154, 155, 156] (by decide +kernel) (by decide +kernel)
set_option maxRecDepth 20000 in
theorem gX11_findBends_X9_measure : GoodIn wsX11_findBends (wsV RX11 133 RX9 yX9_measure wsX9_measure) := goodIn_app (goodIn_of _ (by decide +kernel)) ggX11_findBends_X9_measure
set_option maxRecDepth 20000 in
theorem ggX11_findBends_X0_find : GoodIn wsX11_findBends wsX0_find := goodIn_r _ [38, 39, 40, 41, 42, 43, 44, 37, 45, 46, 47, 48, 49, 50, 51, 52, 53, 54, 55, 56, 57, 58, 59, 60, 61, 62, 63, 64, 15, 65, 18, 66, 67, 68, 69, 19, 70, 71, 72, 73, 74, 75, 76, 77, 78, 79, 80, 81, 82, 83, 84, 30, 85, 86, 87, 88, 89, 90, 91, 28, 92, 93, 94, 95, 96, 97, 98, 99, 100, 101, 102, 103, 104, 105, 106, 107, 108, 109, 110, 111, 112, 113, 114, 115, 116, 117, 118, 119, 120, 121, 122, 123, 124, 125, 126, 127, 128, 129, 130, 131, 132, 133, 134, 135, 136, 137, 157, 158, 159, 160, 161, 162, 163, 164, 165, 166, 167, 168, 169, 150, 151, 152, 153, 154, 155, 156, 170, 171, 172, 173, 174, 175] (by decide +kernel) (by decide +kernel)
set_option maxRecDepth 20000 in
theorem gX11_findBends_X0_find : GoodIn wsX11_findBends (wsV RX11 296 RX0 yX0_find wsX0_find) := goodIn_app (goodIn_of _ (by decide +kernel)) ggX11_findBends_X0_find
theorem dX11_findBends_0 : decode cX11_findBends 0 = .ok (.aload_n 0, 1) := by decide +kernel
theorem dX11_findBends_1 : decode cX11_findBends 1 = .ok (.getfield 26, 3) := by decide +kernel
theorem dX11_findBends_4 : decode cX11_findBends 4 = .ok (.aload_n 0, 1) := by decide +kernel
theorem dX11_findBends_5 : decode cX11_findBends 5 = .ok (.getfield 10, 3) := by decide +kernel
theorem dX11_findBends_8 : decode cX11_findBends 8 = .ok (.iconst 0, 1) := by decide +kernel
theorem dX11_findBends_9 : decode cX11_findBends 9 = .ok (.invokevirtual 129, 3) := by decide +kernel
theorem dX11_findBends_12 : decode cX11_findBends 12 = .ok (.aload_n 0, 1) := by decide +kernel
theorem dX11_findBends_13 : decode cX11_findBends 13 = .ok (.getfield 10, 3) := by decide +kernel
theorem dX11_findBends_16 : decode cX11_findBends 16 = .ok (.iconst 1, 1) := by decide +kernel
theorem dX11_findBends_17 : decode cX11_findBends 17 = .ok (.invokevirtual 129, 3) := by decide +kernel
theorem dX11_findBends_20 : decode cX11_findBends 20 = .ok (.invokevirtual 133, 3) := by decide +kernel
theorem dX11_findBends_23 : decode cX11_findBends 23 = .ok (.aload_n 0, 1) := by decide +kernel
theorem dX11_findBends_24 : decode cX11_findBends 24 = .ok (.getfield 47, 3) := by decide +kernel
theorem dX11_findBends_27 : decode cX11_findBends 27 = .ok (.aload_n 0, 1) := by decide +kernel
theorem dX11_findBends_28 : decode cX11_findBends 28 = .ok (.getfield 26, 3) := by decide +kernel
theorem dX11_findBends_31 : decode cX11_findBends 31 = .ok (.aload_n 0, 1) := by decide +kernel
theorem dX11_findBends_32 : decode cX11_findBends 32 = .ok (.getfield 33, 3) := by decide +kernel
theorem dX11_findBends_35 : decode cX11_findBends 35 = .ok (.aload_n 0, 1) := by decide +kernel
theorem dX11_findBends_36 : decode cX11_findBends 36 = .ok (.getfield 40, 3) := by decide +kernel
theorem dX11_findBends_39 : decode cX11_findBends 39 = .ok (.invokevirtual 296, 3) := by decide +kernel
theorem dX11_findBends_42 : decode cX11_findBends 42 = .ok (.return_, 1) := by decide +kernel
set_option maxRecDepth 20000 in
theorem ggX11_fitWholes_X6_count : GoodIn wsX11_fitWholes wsX6_count := goodIn_r _ [9, 10, 79, 80, 81, 82] (by decide +kernel) (by decide +kernel)
set_option maxRecDepth 20000 in
theorem gX11_fitWholes_X6_count : GoodIn wsX11_fitWholes (wsV RX11 233 RX6 yX6_count wsX6_count) := goodIn_app (goodIn_of _ (by decide +kernel)) ggX11_fitWholes_X6_count
set_option maxRecDepth 20000 in
theorem ggX11_fitWholes_X0_rounded : GoodIn wsX11_fitWholes wsX0_rounded := goodIn_r _ [15, 16, 83, 84, 85, 86, 87, 88, 89, 90, 91] (by decide +kernel) (by decide +kernel)
set_option maxRecDepth 20000 in
theorem gX11_fitWholes_X0_rounded : GoodIn wsX11_fitWholes (wsV RX11 193 RX0 yX0_rounded wsX0_rounded) := goodIn_app (goodIn_of _ (by decide +kernel)) ggX11_fitWholes_X0_rounded
set_option maxRecDepth 20000 in
theorem ggX11_fitWholes_X2_wish : GoodIn wsX11_fitWholes wsX2_wish := goodIn_r _ [21, 22, 92, 93, 94, 95, 96, 97, 98] (by decide +kernel) (by decide +kernel)
set_option maxRecDepth 20000 in
theorem gX11_fitWholes_X2_wish : GoodIn wsX11_fitWholes (wsV RX11 300 RX2 yX2_wish wsX2_wish) := goodIn_app (goodIn_of _ (by decide +kernel)) ggX11_fitWholes_X2_wish
set_option maxRecDepth 20000 in
theorem ggX11_fitWholes_X7_get : GoodIn wsX11_fitWholes wsX7_get := goodIn_r _ [27, 28, 99] (by decide +kernel) (by decide +kernel)
set_option maxRecDepth 20000 in
theorem gX11_fitWholes_X7_get : GoodIn wsX11_fitWholes (wsV RX11 129 RX7 yX7_get wsX7_get) := goodIn_app (goodIn_of _ (by decide +kernel)) ggX11_fitWholes_X7_get
set_option maxRecDepth 20000 in
theorem ggX11_fitWholes_X2_find : GoodIn wsX11_fitWholes wsX2_find := goodIn_r _ [32, 33, 34, 35, 36, 37, 38, 39, 40, 41, 42, 43, 44, 45, 46, 47, 48, 49, 6, 7, 8, 9, 10, 50, 51, 52, 20, 53, 22, 54, 55, 56, 57, 58, 59, 60, 61, 62, 63, 64, 65, 66, 67, 92, 93, 94, 95, 96, 97, 98, 79, 80, 81, 82] (by decide +kernel) (by decide +kernel)
set_option maxRecDepth 20000 in
theorem gX11_fitWholes_X2_find : GoodIn wsX11_fitWholes (wsV RX11 303 RX2 yX2_find wsX2_find) := goodIn_app (goodIn_of _ (by decide +kernel)) ggX11_fitWholes_X2_find
theorem dX11_fitWholes_0 : decode cX11_fitWholes 0 = .ok (.iconst 0, 1) := by decide +kernel
theorem dX11_fitWholes_1 : decode cX11_fitWholes 1 = .ok (.istore_n 1, 1) := by decide +kernel
theorem dX11_fitWholes_2 : decode cX11_fitWholes 2 = .ok (.iload_n 1, 1) := by decide +kernel
theorem dX11_fitWholes_3 : decode cX11_fitWholes 3 = .ok (.aload_n 0, 1) := by decide +kernel
theorem dX11_fitWholes_4 : decode cX11_fitWholes 4 = .ok (.getfield 40, 3) := by decide +kernel
theorem dX11_fitWholes_7 : decode cX11_fitWholes 7 = .ok (.invokevirtual 233, 3) := by decide +kernel
theorem dX11_fitWholes_10 : decode cX11_fitWholes 10 = .ok (.if_icmp .ge 25, 3) := by decide +kernel
theorem dX11_fitWholes_13 : decode cX11_fitWholes 13 = .ok (.aload_n 0, 1) := by decide +kernel
theorem dX11_fitWholes_14 : decode cX11_fitWholes 14 = .ok (.getfield 54, 3) := by decide +kernel
theorem dX11_fitWholes_17 : decode cX11_fitWholes 17 = .ok (.iload_n 1, 1) := by decide +kernel
theorem dX11_fitWholes_18 : decode cX11_fitWholes 18 = .ok (.aload_n 0, 1) := by decide +kernel
theorem dX11_fitWholes_19 : decode cX11_fitWholes 19 = .ok (.getfield 47, 3) := by decide +kernel
theorem dX11_fitWholes_22 : decode cX11_fitWholes 22 = .ok (.iload_n 1, 1) := by decide +kernel
theorem dX11_fitWholes_23 : decode cX11_fitWholes 23 = .ok (.invokevirtual 193, 3) := by decide +kernel
theorem dX11_fitWholes_26 : decode cX11_fitWholes 26 = .ok (.invokevirtual 300, 3) := by decide +kernel
theorem dX11_fitWholes_29 : decode cX11_fitWholes 29 = .ok (.iinc 1 1, 3) := by decide +kernel
theorem dX11_fitWholes_32 : decode cX11_fitWholes 32 = .ok (.goto (-30), 3) := by decide +kernel
theorem dX11_fitWholes_35 : decode cX11_fitWholes 35 = .ok (.aload_n 0, 1) := by decide +kernel
theorem dX11_fitWholes_36 : decode cX11_fitWholes 36 = .ok (.getfield 54, 3) := by decide +kernel
theorem dX11_fitWholes_39 : decode cX11_fitWholes 39 = .ok (.aload_n 0, 1) := by decide +kernel
theorem dX11_fitWholes_40 : decode cX11_fitWholes 40 = .ok (.getfield 40, 3) := by decide +kernel
theorem dX11_fitWholes_43 : decode cX11_fitWholes 43 = .ok (.aload_n 0, 1) := by decide +kernel
theorem dX11_fitWholes_44 : decode cX11_fitWholes 44 = .ok (.getfield 10, 3) := by decide +kernel
theorem dX11_fitWholes_47 : decode cX11_fitWholes 47 = .ok (.iconst 4, 1) := by decide +kernel
theorem dX11_fitWholes_48 : decode cX11_fitWholes 48 = .ok (.invokevirtual 129, 3) := by decide +kernel
theorem dX11_fitWholes_51 : decode cX11_fitWholes 51 = .ok (.aload_n 0, 1) := by decide +kernel
theorem dX11_fitWholes_52 : decode cX11_fitWholes 52 = .ok (.getfield 10, 3) := by decide +kernel
theorem dX11_fitWholes_55 : decode cX11_fitWholes 55 = .ok (.iconst 5, 1) := by decide +kernel
theorem dX11_fitWholes_56 : decode cX11_fitWholes 56 = .ok (.invokevirtual 129, 3) := by decide +kernel
theorem dX11_fitWholes_59 : decode cX11_fitWholes 59 = .ok (.invokevirtual 303, 3) := by decide +kernel
theorem dX11_fitWholes_62 : decode cX11_fitWholes 62 = .ok (.return_, 1) := by decide +kernel
set_option maxRecDepth 20000 in
theorem ggX11_moveUnits_X6_count : GoodIn wsX11_moveUnits wsX6_count := goodIn_r _ [9, 10, 92, 93, 94, 95] (by decide +kernel) (by decide +kernel)
set_option maxRecDepth 20000 in
theorem gX11_moveUnits_X6_count : GoodIn wsX11_moveUnits (wsV RX11 233 RX6 yX6_count wsX6_count) := goodIn_app (goodIn_of _ (by decide +kernel)) ggX11_moveUnits_X6_count
set_option maxRecDepth 20000 in
theorem ggX11_moveUnits_X6_unitsOf : GoodIn wsX11_moveUnits wsX6_unitsOf := goodIn_r _ [14, 15, 92, 93, 94, 95] (by decide +kernel) (by decide +kernel)
set_option maxRecDepth 20000 in
theorem gX11_moveUnits_X6_unitsOf : GoodIn wsX11_moveUnits (wsV RX11 234 RX6 yX6_unitsOf wsX6_unitsOf) := goodIn_app (goodIn_of _ (by decide +kernel)) ggX11_moveUnits_X6_unitsOf
set_option maxRecDepth 20000 in
theorem ggX11_moveUnits_X7_get : GoodIn wsX11_moveUnits wsX7_get := goodIn_r _ [20, 21, 96] (by decide +kernel) (by decide +kernel)
set_option maxRecDepth 20000 in
theorem gX11_moveUnits_X7_get : GoodIn wsX11_moveUnits (wsV RX11 129 RX7 yX7_get wsX7_get) := goodIn_app (goodIn_of _ (by decide +kernel)) ggX11_moveUnits_X7_get
set_option maxRecDepth 20000 in
theorem ggX11_moveUnits_X0_rounded : GoodIn wsX11_moveUnits wsX0_rounded := goodIn_r _ [26, 27, 97, 98, 99, 100, 101, 102, 103, 104, 105] (by decide +kernel) (by decide +kernel)
set_option maxRecDepth 20000 in
theorem gX11_moveUnits_X0_rounded : GoodIn wsX11_moveUnits (wsV RX11 193 RX0 yX0_rounded wsX0_rounded) := goodIn_app (goodIn_of _ (by decide +kernel)) ggX11_moveUnits_X0_rounded
set_option maxRecDepth 20000 in
theorem ggX11_moveUnits_X2_wish : GoodIn wsX11_moveUnits wsX2_wish := goodIn_r _ [32, 33, 106, 107, 108, 109, 110, 111, 112] (by decide +kernel) (by decide +kernel)
set_option maxRecDepth 20000 in
theorem gX11_moveUnits_X2_wish : GoodIn wsX11_moveUnits (wsV RX11 300 RX2 yX2_wish wsX2_wish) := goodIn_app (goodIn_of _ (by decide +kernel)) ggX11_moveUnits_X2_wish
set_option maxRecDepth 20000 in
theorem ggX11_moveUnits_X2_find : GoodIn wsX11_moveUnits wsX2_find := goodIn_r _ [37, 38, 39, 40, 41, 42, 43, 44, 45, 46, 47, 48, 49, 50, 51, 52, 53, 54, 6, 7, 8, 9, 10, 55, 56, 57, 31, 58, 33, 59, 60, 61, 62, 63, 64, 65, 66, 67, 68, 69, 70, 71, 72, 106, 107, 108, 109, 110, 111, 112, 92, 93, 94, 95] (by decide +kernel) (by decide +kernel)
set_option maxRecDepth 20000 in
theorem gX11_moveUnits_X2_find : GoodIn wsX11_moveUnits (wsV RX11 303 RX2 yX2_find wsX2_find) := goodIn_app (goodIn_of _ (by decide +kernel)) ggX11_moveUnits_X2_find
set_option maxRecDepth 20000 in
theorem ggX11_moveUnits_X2_unitsOf : GoodIn wsX11_moveUnits wsX2_unitsOf := goodIn_r _ [76, 40, 106, 107, 108, 109, 110, 111, 112] (by decide +kernel) (by decide +kernel)
set_option maxRecDepth 20000 in
theorem gX11_moveUnits_X2_unitsOf : GoodIn wsX11_moveUnits (wsV RX11 199 RX2 yX2_unitsOf wsX2_unitsOf) := goodIn_app (goodIn_of _ (by decide +kernel)) ggX11_moveUnits_X2_unitsOf
set_option maxRecDepth 20000 in
theorem ggX11_moveUnits_X6_swapUnits : GoodIn wsX11_moveUnits wsX6_swapUnits := goodIn_r _ [80, 15, 92, 93, 94, 95] (by decide +kernel) (by decide +kernel)
set_option maxRecDepth 20000 in
theorem gX11_moveUnits_X6_swapUnits : GoodIn wsX11_moveUnits (wsV RX11 241 RX6 yX6_swapUnits wsX6_swapUnits) := goodIn_app (goodIn_of _ (by decide +kernel)) ggX11_moveUnits_X6_swapUnits
theorem dX11_moveUnits_0 : decode cX11_moveUnits 0 = .ok (.iconst 0, 1) := by decide +kernel
theorem dX11_moveUnits_1 : decode cX11_moveUnits 1 = .ok (.istore_n 1, 1) := by decide +kernel
theorem dX11_moveUnits_2 : decode cX11_moveUnits 2 = .ok (.iload_n 1, 1) := by decide +kernel
theorem dX11_moveUnits_3 : decode cX11_moveUnits 3 = .ok (.aload_n 0, 1) := by decide +kernel
theorem dX11_moveUnits_4 : decode cX11_moveUnits 4 = .ok (.getfield 40, 3) := by decide +kernel
theorem dX11_moveUnits_7 : decode cX11_moveUnits 7 = .ok (.invokevirtual 233, 3) := by decide +kernel
theorem dX11_moveUnits_10 : decode cX11_moveUnits 10 = .ok (.if_icmp .ge 46, 3) := by decide +kernel
theorem dX11_moveUnits_13 : decode cX11_moveUnits 13 = .ok (.aload_n 0, 1) := by decide +kernel
theorem dX11_moveUnits_14 : decode cX11_moveUnits 14 = .ok (.getfield 54, 3) := by decide +kernel
theorem dX11_moveUnits_17 : decode cX11_moveUnits 17 = .ok (.iload_n 1, 1) := by decide +kernel
theorem dX11_moveUnits_18 : decode cX11_moveUnits 18 = .ok (.aload_n 0, 1) := by decide +kernel
theorem dX11_moveUnits_19 : decode cX11_moveUnits 19 = .ok (.getfield 40, 3) := by decide +kernel
theorem dX11_moveUnits_22 : decode cX11_moveUnits 22 = .ok (.iload_n 1, 1) := by decide +kernel
theorem dX11_moveUnits_23 : decode cX11_moveUnits 23 = .ok (.invokevirtual 234, 3) := by decide +kernel
theorem dX11_moveUnits_26 : decode cX11_moveUnits 26 = .ok (.aload_n 0, 1) := by decide +kernel
theorem dX11_moveUnits_27 : decode cX11_moveUnits 27 = .ok (.getfield 10, 3) := by decide +kernel
theorem dX11_moveUnits_30 : decode cX11_moveUnits 30 = .ok (.iconst 3, 1) := by decide +kernel
theorem dX11_moveUnits_31 : decode cX11_moveUnits 31 = .ok (.invokevirtual 129, 3) := by decide +kernel
theorem dX11_moveUnits_34 : decode cX11_moveUnits 34 = .ok (.aload_n 0, 1) := by decide +kernel
theorem dX11_moveUnits_35 : decode cX11_moveUnits 35 = .ok (.getfield 47, 3) := by decide +kernel
theorem dX11_moveUnits_38 : decode cX11_moveUnits 38 = .ok (.iload_n 1, 1) := by decide +kernel
theorem dX11_moveUnits_39 : decode cX11_moveUnits 39 = .ok (.invokevirtual 193, 3) := by decide +kernel
theorem dX11_moveUnits_42 : decode cX11_moveUnits 42 = .ok (.imul, 1) := by decide +kernel
theorem dX11_moveUnits_43 : decode cX11_moveUnits 43 = .ok (.bipush 100, 2) := by decide +kernel
theorem dX11_moveUnits_45 : decode cX11_moveUnits 45 = .ok (.idiv, 1) := by decide +kernel
theorem dX11_moveUnits_46 : decode cX11_moveUnits 46 = .ok (.isub, 1) := by decide +kernel
theorem dX11_moveUnits_47 : decode cX11_moveUnits 47 = .ok (.invokevirtual 300, 3) := by decide +kernel
theorem dX11_moveUnits_50 : decode cX11_moveUnits 50 = .ok (.iinc 1 1, 3) := by decide +kernel
theorem dX11_moveUnits_53 : decode cX11_moveUnits 53 = .ok (.goto (-51), 3) := by decide +kernel
theorem dX11_moveUnits_56 : decode cX11_moveUnits 56 = .ok (.aload_n 0, 1) := by decide +kernel
theorem dX11_moveUnits_57 : decode cX11_moveUnits 57 = .ok (.getfield 54, 3) := by decide +kernel
theorem dX11_moveUnits_60 : decode cX11_moveUnits 60 = .ok (.aload_n 0, 1) := by decide +kernel
theorem dX11_moveUnits_61 : decode cX11_moveUnits 61 = .ok (.getfield 40, 3) := by decide +kernel
theorem dX11_moveUnits_64 : decode cX11_moveUnits 64 = .ok (.aload_n 0, 1) := by decide +kernel
theorem dX11_moveUnits_65 : decode cX11_moveUnits 65 = .ok (.getfield 10, 3) := by decide +kernel
theorem dX11_moveUnits_68 : decode cX11_moveUnits 68 = .ok (.iconst 4, 1) := by decide +kernel
theorem dX11_moveUnits_69 : decode cX11_moveUnits 69 = .ok (.invokevirtual 129, 3) := by decide +kernel
theorem dX11_moveUnits_72 : decode cX11_moveUnits 72 = .ok (.aload_n 0, 1) := by decide +kernel
theorem dX11_moveUnits_73 : decode cX11_moveUnits 73 = .ok (.getfield 10, 3) := by decide +kernel
theorem dX11_moveUnits_76 : decode cX11_moveUnits 76 = .ok (.iconst 5, 1) := by decide +kernel
theorem dX11_moveUnits_77 : decode cX11_moveUnits 77 = .ok (.invokevirtual 129, 3) := by decide +kernel
theorem dX11_moveUnits_80 : decode cX11_moveUnits 80 = .ok (.invokevirtual 303, 3) := by decide +kernel
theorem dX11_moveUnits_83 : decode cX11_moveUnits 83 = .ok (.iconst 0, 1) := by decide +kernel
theorem dX11_moveUnits_84 : decode cX11_moveUnits 84 = .ok (.istore_n 1, 1) := by decide +kernel
theorem dX11_moveUnits_85 : decode cX11_moveUnits 85 = .ok (.iconst 0, 1) := by decide +kernel
theorem dX11_moveUnits_86 : decode cX11_moveUnits 86 = .ok (.istore_n 2, 1) := by decide +kernel
theorem dX11_moveUnits_87 : decode cX11_moveUnits 87 = .ok (.iload_n 2, 1) := by decide +kernel
theorem dX11_moveUnits_88 : decode cX11_moveUnits 88 = .ok (.aload_n 0, 1) := by decide +kernel
theorem dX11_moveUnits_89 : decode cX11_moveUnits 89 = .ok (.getfield 40, 3) := by decide +kernel
theorem dX11_moveUnits_92 : decode cX11_moveUnits 92 = .ok (.invokevirtual 233, 3) := by decide +kernel
theorem dX11_moveUnits_95 : decode cX11_moveUnits 95 = .ok (.if_icmp .ge 33, 3) := by decide +kernel
theorem dX11_moveUnits_98 : decode cX11_moveUnits 98 = .ok (.aload_n 0, 1) := by decide +kernel
theorem dX11_moveUnits_99 : decode cX11_moveUnits 99 = .ok (.getfield 54, 3) := by decide +kernel
theorem dX11_moveUnits_102 : decode cX11_moveUnits 102 = .ok (.iload_n 2, 1) := by decide +kernel
theorem dX11_moveUnits_103 : decode cX11_moveUnits 103 = .ok (.invokevirtual 199, 3) := by decide +kernel
theorem dX11_moveUnits_106 : decode cX11_moveUnits 106 = .ok (.istore_n 3, 1) := by decide +kernel
theorem dX11_moveUnits_107 : decode cX11_moveUnits 107 = .ok (.aload_n 0, 1) := by decide +kernel
theorem dX11_moveUnits_108 : decode cX11_moveUnits 108 = .ok (.getfield 40, 3) := by decide +kernel
theorem dX11_moveUnits_111 : decode cX11_moveUnits 111 = .ok (.iload_n 2, 1) := by decide +kernel
theorem dX11_moveUnits_112 : decode cX11_moveUnits 112 = .ok (.iload_n 3, 1) := by decide +kernel
theorem dX11_moveUnits_113 : decode cX11_moveUnits 113 = .ok (.invokevirtual 241, 3) := by decide +kernel
theorem dX11_moveUnits_116 : decode cX11_moveUnits 116 = .ok (.iload_n 3, 1) := by decide +kernel
theorem dX11_moveUnits_117 : decode cX11_moveUnits 117 = .ok (.if_icmp .eq 5, 3) := by decide +kernel
theorem dX11_moveUnits_120 : decode cX11_moveUnits 120 = .ok (.iconst 1, 1) := by decide +kernel
theorem dX11_moveUnits_121 : decode cX11_moveUnits 121 = .ok (.istore_n 1, 1) := by decide +kernel
theorem dX11_moveUnits_122 : decode cX11_moveUnits 122 = .ok (.iinc 2 1, 3) := by decide +kernel
theorem dX11_moveUnits_125 : decode cX11_moveUnits 125 = .ok (.goto (-38), 3) := by decide +kernel
theorem dX11_moveUnits_128 : decode cX11_moveUnits 128 = .ok (.iload_n 1, 1) := by decide +kernel
theorem dX11_moveUnits_129 : decode cX11_moveUnits 129 = .ok (.ireturn, 1) := by decide +kernel
set_option maxRecDepth 20000 in
theorem ggX11_isLayer_X11_within : GoodIn wsX11_isLayer wsX11_within := goodIn_r _ [4] (by decide +kernel) (by decide +kernel)
set_option maxRecDepth 20000 in
theorem gX11_isLayer_X11_within : GoodIn wsX11_isLayer (va_wsS RX11 86 yX11_within wsX11_within) := goodIn_app (goodIn_of _ (by decide +kernel)) ggX11_isLayer_X11_within
theorem dX11_isLayer_0 : decode cX11_isLayer 0 = .ok (.iload_n 0, 1) := by decide +kernel
theorem dX11_isLayer_1 : decode cX11_isLayer 1 = .ok (.iconst 0, 1) := by decide +kernel
theorem dX11_isLayer_2 : decode cX11_isLayer 2 = .ok (.iconst 2, 1) := by decide +kernel
theorem dX11_isLayer_3 : decode cX11_isLayer 3 = .ok (.invokestatic 86, 3) := by decide +kernel
theorem dX11_isLayer_6 : decode cX11_isLayer 6 = .ok (.ireturn, 1) := by decide +kernel
set_option maxRecDepth 20000 in
theorem ggX11_isSheet_X11_within : GoodIn wsX11_isSheet wsX11_within := goodIn_r _ [4] (by decide +kernel) (by decide +kernel)
set_option maxRecDepth 20000 in
theorem gX11_isSheet_X11_within : GoodIn wsX11_isSheet (va_wsS RX11 86 yX11_within wsX11_within) := goodIn_app (goodIn_of _ (by decide +kernel)) ggX11_isSheet_X11_within
theorem dX11_isSheet_0 : decode cX11_isSheet 0 = .ok (.iload_n 0, 1) := by decide +kernel
theorem dX11_isSheet_1 : decode cX11_isSheet 1 = .ok (.iconst 0, 1) := by decide +kernel
theorem dX11_isSheet_2 : decode cX11_isSheet 2 = .ok (.iconst 3, 1) := by decide +kernel
theorem dX11_isSheet_3 : decode cX11_isSheet 3 = .ok (.invokestatic 86, 3) := by decide +kernel
theorem dX11_isSheet_6 : decode cX11_isSheet 6 = .ok (.ireturn, 1) := by decide +kernel
set_option maxRecDepth 20000 in
theorem ggX11_isLane_X11_within : GoodIn wsX11_isLane wsX11_within := goodIn_r _ [4] (by decide +kernel) (by decide +kernel)
set_option maxRecDepth 20000 in
theorem gX11_isLane_X11_within : GoodIn wsX11_isLane (va_wsS RX11 86 yX11_within wsX11_within) := goodIn_app (goodIn_of _ (by decide +kernel)) ggX11_isLane_X11_within
theorem dX11_isLane_0 : decode cX11_isLane 0 = .ok (.iload_n 0, 1) := by decide +kernel
theorem dX11_isLane_1 : decode cX11_isLane 1 = .ok (.iconst 0, 1) := by decide +kernel
theorem dX11_isLane_2 : decode cX11_isLane 2 = .ok (.iconst 2, 1) := by decide +kernel
theorem dX11_isLane_3 : decode cX11_isLane 3 = .ok (.invokestatic 86, 3) := by decide +kernel
theorem dX11_isLane_6 : decode cX11_isLane 6 = .ok (.ireturn, 1) := by decide +kernel
theorem dX11_within_0 : decode cX11_within 0 = .ok (.iload_n 0, 1) := by decide +kernel
theorem dX11_within_1 : decode cX11_within 1 = .ok (.iload_n 1, 1) := by decide +kernel
theorem dX11_within_2 : decode cX11_within 2 = .ok (.if_icmp .lt 12, 3) := by decide +kernel
theorem dX11_within_5 : decode cX11_within 5 = .ok (.iload_n 0, 1) := by decide +kernel
theorem dX11_within_6 : decode cX11_within 6 = .ok (.iload_n 2, 1) := by decide +kernel
theorem dX11_within_7 : decode cX11_within 7 = .ok (.if_icmp .gt 7, 3) := by decide +kernel
theorem dX11_within_10 : decode cX11_within 10 = .ok (.iconst 1, 1) := by decide +kernel
theorem dX11_within_11 : decode cX11_within 11 = .ok (.goto 4, 3) := by decide +kernel
theorem dX11_within_14 : decode cX11_within 14 = .ok (.iconst 0, 1) := by decide +kernel
theorem dX11_within_15 : decode cX11_within 15 = .ok (.ireturn, 1) := by decide +kernel
theorem dX11_held_0 : decode cX11_held 0 = .ok (.iload_n 1, 1) := by decide +kernel
theorem dX11_held_1 : decode cX11_held 1 = .ok (.iload_n 2, 1) := by decide +kernel
theorem dX11_held_2 : decode cX11_held 2 = .ok (.iload_n 0, 1) := by decide +kernel
theorem dX11_held_3 : decode cX11_held 3 = .ok (.invokestatic 306, 3) := by decide +kernel
theorem dX11_held_6 : decode cX11_held 6 = .ok (.invokestatic 311, 3) := by decide +kernel
theorem dX11_held_9 : decode cX11_held 9 = .ok (.ireturn, 1) := by decide +kernel
theorem dX11_cut_0 : decode cX11_cut 0 = .ok (.iload_n 1, 1) := by decide +kernel
theorem dX11_cut_1 : decode cX11_cut 1 = .ok (.ifCond .le 9, 3) := by decide +kernel
theorem dX11_cut_4 : decode cX11_cut 4 = .ok (.iload_n 0, 1) := by decide +kernel
theorem dX11_cut_5 : decode cX11_cut 5 = .ok (.iload_n 1, 1) := by decide +kernel
theorem dX11_cut_6 : decode cX11_cut 6 = .ok (.idiv, 1) := by decide +kernel
theorem dX11_cut_7 : decode cX11_cut 7 = .ok (.goto 4, 3) := by decide +kernel
theorem dX11_cut_10 : decode cX11_cut 10 = .ok (.iconst 0, 1) := by decide +kernel
theorem dX11_cut_11 : decode cX11_cut 11 = .ok (.ireturn, 1) := by decide +kernel
theorem dX11_earlier_0 : decode cX11_earlier 0 = .ok (.iload_n 0, 1) := by decide +kernel
theorem dX11_earlier_1 : decode cX11_earlier 1 = .ok (.ifCond .ne 5, 3) := by decide +kernel
theorem dX11_earlier_4 : decode cX11_earlier 4 = .ok (.iload_n 1, 1) := by decide +kernel
theorem dX11_earlier_5 : decode cX11_earlier 5 = .ok (.ireturn, 1) := by decide +kernel
theorem dX11_earlier_6 : decode cX11_earlier 6 = .ok (.iload_n 1, 1) := by decide +kernel
theorem dX11_earlier_7 : decode cX11_earlier 7 = .ok (.ifCond .ne 7, 3) := by decide +kernel
theorem dX11_earlier_10 : decode cX11_earlier 10 = .ok (.iload_n 0, 1) := by decide +kernel
theorem dX11_earlier_11 : decode cX11_earlier 11 = .ok (.goto 8, 3) := by decide +kernel
theorem dX11_earlier_14 : decode cX11_earlier 14 = .ok (.iload_n 0, 1) := by decide +kernel
theorem dX11_earlier_15 : decode cX11_earlier 15 = .ok (.iload_n 1, 1) := by decide +kernel
theorem dX11_earlier_16 : decode cX11_earlier 16 = .ok (.invokestatic 311, 3) := by decide +kernel
theorem dX11_earlier_19 : decode cX11_earlier 19 = .ok (.ireturn, 1) := by decide +kernel
theorem dX12_in_0 : decode cX12_in 0 = .ok (.lload_n 0, 1) := by decide +kernel
theorem dX12_in_1 : decode cX12_in 1 = .ok (.lload_n 2, 1) := by decide +kernel
theorem dX12_in_2 : decode cX12_in 2 = .ok (.lcmp, 1) := by decide +kernel
theorem dX12_in_3 : decode cX12_in 3 = .ok (.ifCond .lt 14, 3) := by decide +kernel
theorem dX12_in_6 : decode cX12_in 6 = .ok (.lload_n 0, 1) := by decide +kernel
theorem dX12_in_7 : decode cX12_in 7 = .ok (.lload 4, 2) := by decide +kernel
theorem dX12_in_9 : decode cX12_in 9 = .ok (.lcmp, 1) := by decide +kernel
theorem dX12_in_10 : decode cX12_in 10 = .ok (.ifCond .gt 7, 3) := by decide +kernel
theorem dX12_in_13 : decode cX12_in 13 = .ok (.iconst 1, 1) := by decide +kernel
theorem dX12_in_14 : decode cX12_in 14 = .ok (.goto 4, 3) := by decide +kernel
theorem dX12_in_17 : decode cX12_in 17 = .ok (.iconst 0, 1) := by decide +kernel
theorem dX12_in_18 : decode cX12_in 18 = .ok (.ireturn, 1) := by decide +kernel
set_option maxRecDepth 20000 in
theorem ggX12_init_X12_begin : GoodIn wsX12_init wsX12_begin := goodIn_r _ [43, 4, 5, 7, 8, 9, 13, 17, 27, 44, 45, 46, 47, 48, 49, 50, 51, 52, 53, 54, 55, 56, 57, 58, 59, 60, 61, 62, 63, 64, 65, 66, 67, 68, 69, 70, 71, 72, 73, 74, 75, 76, 77, 78, 79, 80, 81, 82, 83, 84, 85, 86, 87, 88, 89] (by decide +kernel) (by decide +kernel)
set_option maxRecDepth 20000 in
theorem gX12_init_X12_begin : GoodIn wsX12_init (wsV RX12 109 RX12 yX12_begin wsX12_begin) := goodIn_app (goodIn_of _ (by decide +kernel)) ggX12_init_X12_begin
theorem dX12_init_0 : decode cX12_init 0 = .ok (.aload_n 0, 1) := by decide +kernel
theorem dX12_init_1 : decode cX12_init 1 = .ok (.invokespecial 1, 3) := by decide +kernel
theorem dX12_init_4 : decode cX12_init 4 = .ok (.aload_n 0, 1) := by decide +kernel
theorem dX12_init_5 : decode cX12_init 5 = .ok (.iconst 4, 1) := by decide +kernel
theorem dX12_init_6 : decode cX12_init 6 = .ok (.putfield 7, 3) := by decide +kernel
theorem dX12_init_9 : decode cX12_init 9 = .ok (.aload_n 0, 1) := by decide +kernel
theorem dX12_init_10 : decode cX12_init 10 = .ok (.iconst 2, 1) := by decide +kernel
theorem dX12_init_11 : decode cX12_init 11 = .ok (.putfield 13, 3) := by decide +kernel
theorem dX12_init_14 : decode cX12_init 14 = .ok (.aload_n 0, 1) := by decide +kernel
theorem dX12_init_15 : decode cX12_init 15 = .ok (.sipush 128, 3) := by decide +kernel
theorem dX12_init_18 : decode cX12_init 18 = .ok (.newarray .int, 2) := by decide +kernel
theorem dX12_init_20 : decode cX12_init 20 = .ok (.putfield 16, 3) := by decide +kernel
theorem dX12_init_23 : decode cX12_init 23 = .ok (.aload_n 0, 1) := by decide +kernel
theorem dX12_init_24 : decode cX12_init 24 = .ok (.bipush 8, 2) := by decide +kernel
theorem dX12_init_26 : decode cX12_init 26 = .ok (.newarray .int, 2) := by decide +kernel
theorem dX12_init_28 : decode cX12_init 28 = .ok (.putfield 20, 3) := by decide +kernel
theorem dX12_init_31 : decode cX12_init 31 = .ok (.aload_n 0, 1) := by decide +kernel
theorem dX12_init_32 : decode cX12_init 32 = .ok (.bipush 40, 2) := by decide +kernel
theorem dX12_init_34 : decode cX12_init 34 = .ok (.newarray .int, 2) := by decide +kernel
theorem dX12_init_36 : decode cX12_init 36 = .ok (.putfield 23, 3) := by decide +kernel
theorem dX12_init_39 : decode cX12_init 39 = .ok (.aload_n 0, 1) := by decide +kernel
theorem dX12_init_40 : decode cX12_init 40 = .ok (.bipush 7, 2) := by decide +kernel
theorem dX12_init_42 : decode cX12_init 42 = .ok (.newarray .int, 2) := by decide +kernel
theorem dX12_init_44 : decode cX12_init 44 = .ok (.dup, 1) := by decide +kernel
theorem dX12_init_45 : decode cX12_init 45 = .ok (.iconst 0, 1) := by decide +kernel
theorem dX12_init_46 : decode cX12_init 46 = .ok (.bipush 20, 2) := by decide +kernel
theorem dX12_init_48 : decode cX12_init 48 = .ok (.iastore, 1) := by decide +kernel
theorem dX12_init_49 : decode cX12_init 49 = .ok (.dup, 1) := by decide +kernel
theorem dX12_init_50 : decode cX12_init 50 = .ok (.iconst 1, 1) := by decide +kernel
theorem dX12_init_51 : decode cX12_init 51 = .ok (.bipush 50, 2) := by decide +kernel
theorem dX12_init_53 : decode cX12_init 53 = .ok (.iastore, 1) := by decide +kernel
theorem dX12_init_54 : decode cX12_init 54 = .ok (.dup, 1) := by decide +kernel
theorem dX12_init_55 : decode cX12_init 55 = .ok (.iconst 2, 1) := by decide +kernel
theorem dX12_init_56 : decode cX12_init 56 = .ok (.iconst 1, 1) := by decide +kernel
theorem dX12_init_57 : decode cX12_init 57 = .ok (.iastore, 1) := by decide +kernel
theorem dX12_init_58 : decode cX12_init 58 = .ok (.dup, 1) := by decide +kernel
theorem dX12_init_59 : decode cX12_init 59 = .ok (.iconst 3, 1) := by decide +kernel
theorem dX12_init_60 : decode cX12_init 60 = .ok (.bipush 50, 2) := by decide +kernel
theorem dX12_init_62 : decode cX12_init 62 = .ok (.iastore, 1) := by decide +kernel
theorem dX12_init_63 : decode cX12_init 63 = .ok (.dup, 1) := by decide +kernel
theorem dX12_init_64 : decode cX12_init 64 = .ok (.iconst 4, 1) := by decide +kernel
theorem dX12_init_65 : decode cX12_init 65 = .ok (.bipush 40, 2) := by decide +kernel
theorem dX12_init_67 : decode cX12_init 67 = .ok (.iastore, 1) := by decide +kernel
theorem dX12_init_68 : decode cX12_init 68 = .ok (.dup, 1) := by decide +kernel
theorem dX12_init_69 : decode cX12_init 69 = .ok (.iconst 5, 1) := by decide +kernel
theorem dX12_init_70 : decode cX12_init 70 = .ok (.bipush 30, 2) := by decide +kernel
theorem dX12_init_72 : decode cX12_init 72 = .ok (.iastore, 1) := by decide +kernel
theorem dX12_init_73 : decode cX12_init 73 = .ok (.dup, 1) := by decide +kernel
theorem dX12_init_74 : decode cX12_init 74 = .ok (.bipush 6, 2) := by decide +kernel
theorem dX12_init_76 : decode cX12_init 76 = .ok (.iconst 4, 1) := by decide +kernel
theorem dX12_init_77 : decode cX12_init 77 = .ok (.iastore, 1) := by decide +kernel
theorem dX12_init_78 : decode cX12_init 78 = .ok (.putfield 26, 3) := by decide +kernel
theorem dX12_init_81 : decode cX12_init 81 = .ok (.aload_n 0, 1) := by decide +kernel
theorem dX12_init_82 : decode cX12_init 82 = .ok (.bipush 7, 2) := by decide +kernel
theorem dX12_init_84 : decode cX12_init 84 = .ok (.newarray .int, 2) := by decide +kernel
theorem dX12_init_86 : decode cX12_init 86 = .ok (.dup, 1) := by decide +kernel
theorem dX12_init_87 : decode cX12_init 87 = .ok (.iconst 0, 1) := by decide +kernel
theorem dX12_init_88 : decode cX12_init 88 = .ok (.iconst 0, 1) := by decide +kernel
theorem dX12_init_89 : decode cX12_init 89 = .ok (.iastore, 1) := by decide +kernel
theorem dX12_init_90 : decode cX12_init 90 = .ok (.dup, 1) := by decide +kernel
theorem dX12_init_91 : decode cX12_init 91 = .ok (.iconst 1, 1) := by decide +kernel
theorem dX12_init_92 : decode cX12_init 92 = .ok (.iconst 1, 1) := by decide +kernel
theorem dX12_init_93 : decode cX12_init 93 = .ok (.iastore, 1) := by decide +kernel
theorem dX12_init_94 : decode cX12_init 94 = .ok (.dup, 1) := by decide +kernel
theorem dX12_init_95 : decode cX12_init 95 = .ok (.iconst 2, 1) := by decide +kernel
theorem dX12_init_96 : decode cX12_init 96 = .ok (.iconst 0, 1) := by decide +kernel
theorem dX12_init_97 : decode cX12_init 97 = .ok (.iastore, 1) := by decide +kernel
theorem dX12_init_98 : decode cX12_init 98 = .ok (.dup, 1) := by decide +kernel
theorem dX12_init_99 : decode cX12_init 99 = .ok (.iconst 3, 1) := by decide +kernel
theorem dX12_init_100 : decode cX12_init 100 = .ok (.iconst 0, 1) := by decide +kernel
theorem dX12_init_101 : decode cX12_init 101 = .ok (.iastore, 1) := by decide +kernel
theorem dX12_init_102 : decode cX12_init 102 = .ok (.dup, 1) := by decide +kernel
theorem dX12_init_103 : decode cX12_init 103 = .ok (.iconst 4, 1) := by decide +kernel
theorem dX12_init_104 : decode cX12_init 104 = .ok (.iconst 1, 1) := by decide +kernel
theorem dX12_init_105 : decode cX12_init 105 = .ok (.iastore, 1) := by decide +kernel
theorem dX12_init_106 : decode cX12_init 106 = .ok (.dup, 1) := by decide +kernel
theorem dX12_init_107 : decode cX12_init 107 = .ok (.iconst 5, 1) := by decide +kernel
theorem dX12_init_108 : decode cX12_init 108 = .ok (.iconst 0, 1) := by decide +kernel
theorem dX12_init_109 : decode cX12_init 109 = .ok (.iastore, 1) := by decide +kernel
theorem dX12_init_110 : decode cX12_init 110 = .ok (.dup, 1) := by decide +kernel
theorem dX12_init_111 : decode cX12_init 111 = .ok (.bipush 6, 2) := by decide +kernel
theorem dX12_init_113 : decode cX12_init 113 = .ok (.iconst 1, 1) := by decide +kernel
theorem dX12_init_114 : decode cX12_init 114 = .ok (.iastore, 1) := by decide +kernel
theorem dX12_init_115 : decode cX12_init 115 = .ok (.putfield 29, 3) := by decide +kernel
theorem dX12_init_118 : decode cX12_init 118 = .ok (.aload_n 0, 1) := by decide +kernel
theorem dX12_init_119 : decode cX12_init 119 = .ok (.bipush 7, 2) := by decide +kernel
theorem dX12_init_121 : decode cX12_init 121 = .ok (.newarray .int, 2) := by decide +kernel
theorem dX12_init_123 : decode cX12_init 123 = .ok (.dup, 1) := by decide +kernel
theorem dX12_init_124 : decode cX12_init 124 = .ok (.iconst 0, 1) := by decide +kernel
theorem dX12_init_125 : decode cX12_init 125 = .ok (.sipush 255, 3) := by decide +kernel
theorem dX12_init_128 : decode cX12_init 128 = .ok (.iastore, 1) := by decide +kernel
theorem dX12_init_129 : decode cX12_init 129 = .ok (.dup, 1) := by decide +kernel
theorem dX12_init_130 : decode cX12_init 130 = .ok (.iconst 1, 1) := by decide +kernel
theorem dX12_init_131 : decode cX12_init 131 = .ok (.sipush 4080, 3) := by decide +kernel
theorem dX12_init_134 : decode cX12_init 134 = .ok (.iastore, 1) := by decide +kernel
theorem dX12_init_135 : decode cX12_init 135 = .ok (.dup, 1) := by decide +kernel
theorem dX12_init_136 : decode cX12_init 136 = .ok (.iconst 2, 1) := by decide +kernel
theorem dX12_init_137 : decode cX12_init 137 = .ok (.bipush 8, 2) := by decide +kernel
theorem dX12_init_139 : decode cX12_init 139 = .ok (.iastore, 1) := by decide +kernel
theorem dX12_init_140 : decode cX12_init 140 = .ok (.dup, 1) := by decide +kernel
theorem dX12_init_141 : decode cX12_init 141 = .ok (.iconst 3, 1) := by decide +kernel
theorem dX12_init_142 : decode cX12_init 142 = .ok (.sipush 200, 3) := by decide +kernel
theorem dX12_init_145 : decode cX12_init 145 = .ok (.iastore, 1) := by decide +kernel
theorem dX12_init_146 : decode cX12_init 146 = .ok (.dup, 1) := by decide +kernel
theorem dX12_init_147 : decode cX12_init 147 = .ok (.iconst 4, 1) := by decide +kernel
theorem dX12_init_148 : decode cX12_init 148 = .ok (.bipush 60, 2) := by decide +kernel
theorem dX12_init_150 : decode cX12_init 150 = .ok (.iastore, 1) := by decide +kernel
theorem dX12_init_151 : decode cX12_init 151 = .ok (.dup, 1) := by decide +kernel
theorem dX12_init_152 : decode cX12_init 152 = .ok (.iconst 5, 1) := by decide +kernel
theorem dX12_init_153 : decode cX12_init 153 = .ok (.bipush 120, 2) := by decide +kernel
theorem dX12_init_155 : decode cX12_init 155 = .ok (.iastore, 1) := by decide +kernel
theorem dX12_init_156 : decode cX12_init 156 = .ok (.dup, 1) := by decide +kernel
theorem dX12_init_157 : decode cX12_init 157 = .ok (.bipush 6, 2) := by decide +kernel
theorem dX12_init_159 : decode cX12_init 159 = .ok (.bipush 8, 2) := by decide +kernel
theorem dX12_init_161 : decode cX12_init 161 = .ok (.iastore, 1) := by decide +kernel
theorem dX12_init_162 : decode cX12_init 162 = .ok (.putfield 32, 3) := by decide +kernel
theorem dX12_init_165 : decode cX12_init 165 = .ok (.aload_n 0, 1) := by decide +kernel
theorem dX12_init_166 : decode cX12_init 166 = .ok (.iconst 5, 1) := by decide +kernel
theorem dX12_init_167 : decode cX12_init 167 = .ok (.newarray .int, 2) := by decide +kernel
theorem dX12_init_169 : decode cX12_init 169 = .ok (.putfield 35, 3) := by decide +kernel
theorem dX12_init_172 : decode cX12_init 172 = .ok (.aload_n 0, 1) := by decide +kernel
theorem dX12_init_173 : decode cX12_init 173 = .ok (.bipush 45, 2) := by decide +kernel
theorem dX12_init_175 : decode cX12_init 175 = .ok (.newarray .int, 2) := by decide +kernel
theorem dX12_init_177 : decode cX12_init 177 = .ok (.putfield 38, 3) := by decide +kernel
theorem dX12_init_180 : decode cX12_init 180 = .ok (.aload_n 0, 1) := by decide +kernel
theorem dX12_init_181 : decode cX12_init 181 = .ok (.sipush 360, 3) := by decide +kernel
theorem dX12_init_184 : decode cX12_init 184 = .ok (.newarray .int, 2) := by decide +kernel
theorem dX12_init_186 : decode cX12_init 186 = .ok (.putfield 41, 3) := by decide +kernel
theorem dX12_init_189 : decode cX12_init 189 = .ok (.aload_n 0, 1) := by decide +kernel
theorem dX12_init_190 : decode cX12_init 190 = .ok (.iconst 5, 1) := by decide +kernel
theorem dX12_init_191 : decode cX12_init 191 = .ok (.newarray .boolean, 2) := by decide +kernel
theorem dX12_init_193 : decode cX12_init 193 = .ok (.putfield 44, 3) := by decide +kernel
theorem dX12_init_196 : decode cX12_init 196 = .ok (.aload_n 0, 1) := by decide +kernel
theorem dX12_init_197 : decode cX12_init 197 = .ok (.bipush 40, 2) := by decide +kernel
theorem dX12_init_199 : decode cX12_init 199 = .ok (.newarray .long, 2) := by decide +kernel
theorem dX12_init_201 : decode cX12_init 201 = .ok (.putfield 48, 3) := by decide +kernel
theorem dX12_init_204 : decode cX12_init 204 = .ok (.aload_n 0, 1) := by decide +kernel
theorem dX12_init_205 : decode cX12_init 205 = .ok (.iconst 5, 1) := by decide +kernel
theorem dX12_init_206 : decode cX12_init 206 = .ok (.newarray .int, 2) := by decide +kernel
theorem dX12_init_208 : decode cX12_init 208 = .ok (.putfield 52, 3) := by decide +kernel
theorem dX12_init_211 : decode cX12_init 211 = .ok (.aload_n 0, 1) := by decide +kernel
theorem dX12_init_212 : decode cX12_init 212 = .ok (.bipush 30, 2) := by decide +kernel
theorem dX12_init_214 : decode cX12_init 214 = .ok (.newarray .long, 2) := by decide +kernel
theorem dX12_init_216 : decode cX12_init 216 = .ok (.putfield 55, 3) := by decide +kernel
theorem dX12_init_219 : decode cX12_init 219 = .ok (.aload_n 0, 1) := by decide +kernel
theorem dX12_init_220 : decode cX12_init 220 = .ok (.bipush 32, 2) := by decide +kernel
theorem dX12_init_222 : decode cX12_init 222 = .ok (.newarray .long, 2) := by decide +kernel
theorem dX12_init_224 : decode cX12_init 224 = .ok (.putfield 58, 3) := by decide +kernel
theorem dX12_init_227 : decode cX12_init 227 = .ok (.aload_n 0, 1) := by decide +kernel
theorem dX12_init_228 : decode cX12_init 228 = .ok (.iconst 5, 1) := by decide +kernel
theorem dX12_init_229 : decode cX12_init 229 = .ok (.newarray .int, 2) := by decide +kernel
theorem dX12_init_231 : decode cX12_init 231 = .ok (.putfield 61, 3) := by decide +kernel
theorem dX12_init_234 : decode cX12_init 234 = .ok (.aload_n 0, 1) := by decide +kernel
theorem dX12_init_235 : decode cX12_init 235 = .ok (.sipush 605, 3) := by decide +kernel
theorem dX12_init_238 : decode cX12_init 238 = .ok (.newarray .long, 2) := by decide +kernel
theorem dX12_init_240 : decode cX12_init 240 = .ok (.putfield 64, 3) := by decide +kernel
theorem dX12_init_243 : decode cX12_init 243 = .ok (.aload_n 0, 1) := by decide +kernel
theorem dX12_init_244 : decode cX12_init 244 = .ok (.iconst 5, 1) := by decide +kernel
theorem dX12_init_245 : decode cX12_init 245 = .ok (.newarray .int, 2) := by decide +kernel
theorem dX12_init_247 : decode cX12_init 247 = .ok (.putfield 67, 3) := by decide +kernel
theorem dX12_init_250 : decode cX12_init 250 = .ok (.aload_n 0, 1) := by decide +kernel
theorem dX12_init_251 : decode cX12_init 251 = .ok (.iconst 5, 1) := by decide +kernel
theorem dX12_init_252 : decode cX12_init 252 = .ok (.newarray .int, 2) := by decide +kernel
theorem dX12_init_254 : decode cX12_init 254 = .ok (.putfield 70, 3) := by decide +kernel
theorem dX12_init_257 : decode cX12_init 257 = .ok (.aload_n 0, 1) := by decide +kernel
theorem dX12_init_258 : decode cX12_init 258 = .ok (.iconst 5, 1) := by decide +kernel
theorem dX12_init_259 : decode cX12_init 259 = .ok (.newarray .int, 2) := by decide +kernel
theorem dX12_init_261 : decode cX12_init 261 = .ok (.putfield 73, 3) := by decide +kernel
theorem dX12_init_264 : decode cX12_init 264 = .ok (.aload_n 0, 1) := by decide +kernel
theorem dX12_init_265 : decode cX12_init 265 = .ok (.bipush 30, 2) := by decide +kernel
theorem dX12_init_267 : decode cX12_init 267 = .ok (.newarray .int, 2) := by decide +kernel
theorem dX12_init_269 : decode cX12_init 269 = .ok (.putfield 76, 3) := by decide +kernel
theorem dX12_init_272 : decode cX12_init 272 = .ok (.aload_n 0, 1) := by decide +kernel
theorem dX12_init_273 : decode cX12_init 273 = .ok (.bipush 30, 2) := by decide +kernel
theorem dX12_init_275 : decode cX12_init 275 = .ok (.newarray .int, 2) := by decide +kernel
theorem dX12_init_277 : decode cX12_init 277 = .ok (.putfield 79, 3) := by decide +kernel
theorem dX12_init_280 : decode cX12_init 280 = .ok (.aload_n 0, 1) := by decide +kernel
theorem dX12_init_281 : decode cX12_init 281 = .ok (.bipush 30, 2) := by decide +kernel
theorem dX12_init_283 : decode cX12_init 283 = .ok (.newarray .int, 2) := by decide +kernel
theorem dX12_init_285 : decode cX12_init 285 = .ok (.putfield 82, 3) := by decide +kernel
theorem dX12_init_288 : decode cX12_init 288 = .ok (.aload_n 0, 1) := by decide +kernel
theorem dX12_init_289 : decode cX12_init 289 = .ok (.bipush 10, 2) := by decide +kernel
theorem dX12_init_291 : decode cX12_init 291 = .ok (.newarray .int, 2) := by decide +kernel
theorem dX12_init_293 : decode cX12_init 293 = .ok (.putfield 85, 3) := by decide +kernel
theorem dX12_init_296 : decode cX12_init 296 = .ok (.aload_n 0, 1) := by decide +kernel
theorem dX12_init_297 : decode cX12_init 297 = .ok (.iconst 5, 1) := by decide +kernel
theorem dX12_init_298 : decode cX12_init 298 = .ok (.newarray .long, 2) := by decide +kernel
theorem dX12_init_300 : decode cX12_init 300 = .ok (.putfield 88, 3) := by decide +kernel
theorem dX12_init_303 : decode cX12_init 303 = .ok (.aload_n 0, 1) := by decide +kernel
theorem dX12_init_304 : decode cX12_init 304 = .ok (.iconst 5, 1) := by decide +kernel
theorem dX12_init_305 : decode cX12_init 305 = .ok (.newarray .long, 2) := by decide +kernel
theorem dX12_init_307 : decode cX12_init 307 = .ok (.putfield 91, 3) := by decide +kernel
theorem dX12_init_310 : decode cX12_init 310 = .ok (.aload_n 0, 1) := by decide +kernel
theorem dX12_init_311 : decode cX12_init 311 = .ok (.bipush 96, 2) := by decide +kernel
theorem dX12_init_313 : decode cX12_init 313 = .ok (.newarray .int, 2) := by decide +kernel
theorem dX12_init_315 : decode cX12_init 315 = .ok (.putfield 94, 3) := by decide +kernel
theorem dX12_init_318 : decode cX12_init 318 = .ok (.aload_n 0, 1) := by decide +kernel
theorem dX12_init_319 : decode cX12_init 319 = .ok (.iconst 3, 1) := by decide +kernel
theorem dX12_init_320 : decode cX12_init 320 = .ok (.newarray .int, 2) := by decide +kernel
theorem dX12_init_322 : decode cX12_init 322 = .ok (.putfield 97, 3) := by decide +kernel
theorem dX12_init_325 : decode cX12_init 325 = .ok (.aload_n 0, 1) := by decide +kernel
theorem dX12_init_326 : decode cX12_init 326 = .ok (.iconst 4, 1) := by decide +kernel
theorem dX12_init_327 : decode cX12_init 327 = .ok (.newarray .int, 2) := by decide +kernel
theorem dX12_init_329 : decode cX12_init 329 = .ok (.putfield 100, 3) := by decide +kernel
theorem dX12_init_332 : decode cX12_init 332 = .ok (.aload_n 0, 1) := by decide +kernel
theorem dX12_init_333 : decode cX12_init 333 = .ok (.iconst 4, 1) := by decide +kernel
theorem dX12_init_334 : decode cX12_init 334 = .ok (.newarray .int, 2) := by decide +kernel
theorem dX12_init_336 : decode cX12_init 336 = .ok (.putfield 103, 3) := by decide +kernel
theorem dX12_init_339 : decode cX12_init 339 = .ok (.aload_n 0, 1) := by decide +kernel
theorem dX12_init_340 : decode cX12_init 340 = .ok (.sipush 160, 3) := by decide +kernel
theorem dX12_init_343 : decode cX12_init 343 = .ok (.newarray .int, 2) := by decide +kernel
theorem dX12_init_345 : decode cX12_init 345 = .ok (.putfield 106, 3) := by decide +kernel
theorem dX12_init_348 : decode cX12_init 348 = .ok (.iconst 0, 1) := by decide +kernel
theorem dX12_init_349 : decode cX12_init 349 = .ok (.istore_n 1, 1) := by decide +kernel
theorem dX12_init_350 : decode cX12_init 350 = .ok (.iload_n 1, 1) := by decide +kernel
theorem dX12_init_351 : decode cX12_init 351 = .ok (.iconst 4, 1) := by decide +kernel
theorem dX12_init_352 : decode cX12_init 352 = .ok (.if_icmp .ge 16, 3) := by decide +kernel
theorem dX12_init_355 : decode cX12_init 355 = .ok (.aload_n 0, 1) := by decide +kernel
theorem dX12_init_356 : decode cX12_init 356 = .ok (.getfield 100, 3) := by decide +kernel
theorem dX12_init_359 : decode cX12_init 359 = .ok (.iload_n 1, 1) := by decide +kernel
theorem dX12_init_360 : decode cX12_init 360 = .ok (.iconst (-1), 1) := by decide +kernel
theorem dX12_init_361 : decode cX12_init 361 = .ok (.iastore, 1) := by decide +kernel
theorem dX12_init_362 : decode cX12_init 362 = .ok (.iinc 1 1, 3) := by decide +kernel
theorem dX12_init_365 : decode cX12_init 365 = .ok (.goto (-15), 3) := by decide +kernel
theorem dX12_init_368 : decode cX12_init 368 = .ok (.aload_n 0, 1) := by decide +kernel
theorem dX12_init_369 : decode cX12_init 369 = .ok (.getfield 85, 3) := by decide +kernel
theorem dX12_init_372 : decode cX12_init 372 = .ok (.iconst 0, 1) := by decide +kernel
theorem dX12_init_373 : decode cX12_init 373 = .ok (.iconst 1, 1) := by decide +kernel
theorem dX12_init_374 : decode cX12_init 374 = .ok (.iastore, 1) := by decide +kernel
theorem dX12_init_375 : decode cX12_init 375 = .ok (.aload_n 0, 1) := by decide +kernel
theorem dX12_init_376 : decode cX12_init 376 = .ok (.getfield 85, 3) := by decide +kernel
theorem dX12_init_379 : decode cX12_init 379 = .ok (.iconst 5, 1) := by decide +kernel
theorem dX12_init_380 : decode cX12_init 380 = .ok (.iconst 1, 1) := by decide +kernel
theorem dX12_init_381 : decode cX12_init 381 = .ok (.iastore, 1) := by decide +kernel
theorem dX12_init_382 : decode cX12_init 382 = .ok (.aload_n 0, 1) := by decide +kernel
theorem dX12_init_383 : decode cX12_init 383 = .ok (.iconst 4, 1) := by decide +kernel
theorem dX12_init_384 : decode cX12_init 384 = .ok (.iconst 2, 1) := by decide +kernel
theorem dX12_init_385 : decode cX12_init 385 = .ok (.invokevirtual 109, 3) := by decide +kernel
theorem dX12_init_388 : decode cX12_init 388 = .ok (.return_, 1) := by decide +kernel
theorem dX12_begin_0 : decode cX12_begin 0 = .ok (.aload_n 0, 1) := by decide +kernel
theorem dX12_begin_1 : decode cX12_begin 1 = .ok (.iload_n 1, 1) := by decide +kernel
theorem dX12_begin_2 : decode cX12_begin 2 = .ok (.putfield 7, 3) := by decide +kernel
theorem dX12_begin_5 : decode cX12_begin 5 = .ok (.aload_n 0, 1) := by decide +kernel
theorem dX12_begin_6 : decode cX12_begin 6 = .ok (.iload_n 2, 1) := by decide +kernel
theorem dX12_begin_7 : decode cX12_begin 7 = .ok (.putfield 13, 3) := by decide +kernel
theorem dX12_begin_10 : decode cX12_begin 10 = .ok (.iconst 0, 1) := by decide +kernel
theorem dX12_begin_11 : decode cX12_begin 11 = .ok (.istore_n 3, 1) := by decide +kernel
theorem dX12_begin_12 : decode cX12_begin 12 = .ok (.iload_n 3, 1) := by decide +kernel
theorem dX12_begin_13 : decode cX12_begin 13 = .ok (.sipush 128, 3) := by decide +kernel
theorem dX12_begin_16 : decode cX12_begin 16 = .ok (.if_icmp .ge 16, 3) := by decide +kernel
theorem dX12_begin_19 : decode cX12_begin 19 = .ok (.aload_n 0, 1) := by decide +kernel
theorem dX12_begin_20 : decode cX12_begin 20 = .ok (.getfield 16, 3) := by decide +kernel
theorem dX12_begin_23 : decode cX12_begin 23 = .ok (.iload_n 3, 1) := by decide +kernel
theorem dX12_begin_24 : decode cX12_begin 24 = .ok (.iconst 0, 1) := by decide +kernel
theorem dX12_begin_25 : decode cX12_begin 25 = .ok (.iastore, 1) := by decide +kernel
theorem dX12_begin_26 : decode cX12_begin 26 = .ok (.iinc 3 1, 3) := by decide +kernel
theorem dX12_begin_29 : decode cX12_begin 29 = .ok (.goto (-17), 3) := by decide +kernel
theorem dX12_begin_32 : decode cX12_begin 32 = .ok (.iconst 0, 1) := by decide +kernel
theorem dX12_begin_33 : decode cX12_begin 33 = .ok (.istore_n 3, 1) := by decide +kernel
theorem dX12_begin_34 : decode cX12_begin 34 = .ok (.iload_n 3, 1) := by decide +kernel
theorem dX12_begin_35 : decode cX12_begin 35 = .ok (.bipush 8, 2) := by decide +kernel
theorem dX12_begin_37 : decode cX12_begin 37 = .ok (.if_icmp .ge 18, 3) := by decide +kernel
theorem dX12_begin_40 : decode cX12_begin 40 = .ok (.aload_n 0, 1) := by decide +kernel
theorem dX12_begin_41 : decode cX12_begin 41 = .ok (.getfield 20, 3) := by decide +kernel
theorem dX12_begin_44 : decode cX12_begin 44 = .ok (.iload_n 3, 1) := by decide +kernel
theorem dX12_begin_45 : decode cX12_begin 45 = .ok (.sipush 1500, 3) := by decide +kernel
theorem dX12_begin_48 : decode cX12_begin 48 = .ok (.iastore, 1) := by decide +kernel
theorem dX12_begin_49 : decode cX12_begin 49 = .ok (.iinc 3 1, 3) := by decide +kernel
theorem dX12_begin_52 : decode cX12_begin 52 = .ok (.goto (-18), 3) := by decide +kernel
theorem dX12_begin_55 : decode cX12_begin 55 = .ok (.iconst 0, 1) := by decide +kernel
theorem dX12_begin_56 : decode cX12_begin 56 = .ok (.istore_n 3, 1) := by decide +kernel
theorem dX12_begin_57 : decode cX12_begin 57 = .ok (.iload_n 3, 1) := by decide +kernel
theorem dX12_begin_58 : decode cX12_begin 58 = .ok (.bipush 40, 2) := by decide +kernel
theorem dX12_begin_60 : decode cX12_begin 60 = .ok (.if_icmp .ge 16, 3) := by decide +kernel
theorem dX12_begin_63 : decode cX12_begin 63 = .ok (.aload_n 0, 1) := by decide +kernel
theorem dX12_begin_64 : decode cX12_begin 64 = .ok (.getfield 23, 3) := by decide +kernel
theorem dX12_begin_67 : decode cX12_begin 67 = .ok (.iload_n 3, 1) := by decide +kernel
theorem dX12_begin_68 : decode cX12_begin 68 = .ok (.iconst 0, 1) := by decide +kernel
theorem dX12_begin_69 : decode cX12_begin 69 = .ok (.iastore, 1) := by decide +kernel
theorem dX12_begin_70 : decode cX12_begin 70 = .ok (.iinc 3 1, 3) := by decide +kernel
theorem dX12_begin_73 : decode cX12_begin 73 = .ok (.goto (-16), 3) := by decide +kernel
theorem dX12_begin_76 : decode cX12_begin 76 = .ok (.iconst 0, 1) := by decide +kernel
theorem dX12_begin_77 : decode cX12_begin 77 = .ok (.istore_n 3, 1) := by decide +kernel
theorem dX12_begin_78 : decode cX12_begin 78 = .ok (.iload_n 3, 1) := by decide +kernel
theorem dX12_begin_79 : decode cX12_begin 79 = .ok (.iconst 5, 1) := by decide +kernel
theorem dX12_begin_80 : decode cX12_begin 80 = .ok (.if_icmp .ge 30, 3) := by decide +kernel
theorem dX12_begin_83 : decode cX12_begin 83 = .ok (.aload_n 0, 1) := by decide +kernel
theorem dX12_begin_84 : decode cX12_begin 84 = .ok (.getfield 35, 3) := by decide +kernel
theorem dX12_begin_87 : decode cX12_begin 87 = .ok (.iload_n 3, 1) := by decide +kernel
theorem dX12_begin_88 : decode cX12_begin 88 = .ok (.iconst 0, 1) := by decide +kernel
theorem dX12_begin_89 : decode cX12_begin 89 = .ok (.iastore, 1) := by decide +kernel
theorem dX12_begin_90 : decode cX12_begin 90 = .ok (.aload_n 0, 1) := by decide +kernel
theorem dX12_begin_91 : decode cX12_begin 91 = .ok (.getfield 44, 3) := by decide +kernel
theorem dX12_begin_94 : decode cX12_begin 94 = .ok (.iload_n 3, 1) := by decide +kernel
theorem dX12_begin_95 : decode cX12_begin 95 = .ok (.iconst 0, 1) := by decide +kernel
theorem dX12_begin_96 : decode cX12_begin 96 = .ok (.bastore, 1) := by decide +kernel
theorem dX12_begin_97 : decode cX12_begin 97 = .ok (.aload_n 0, 1) := by decide +kernel
theorem dX12_begin_98 : decode cX12_begin 98 = .ok (.getfield 73, 3) := by decide +kernel
theorem dX12_begin_101 : decode cX12_begin 101 = .ok (.iload_n 3, 1) := by decide +kernel
theorem dX12_begin_102 : decode cX12_begin 102 = .ok (.iconst 0, 1) := by decide +kernel
theorem dX12_begin_103 : decode cX12_begin 103 = .ok (.iastore, 1) := by decide +kernel
theorem dX12_begin_104 : decode cX12_begin 104 = .ok (.iinc 3 1, 3) := by decide +kernel
theorem dX12_begin_107 : decode cX12_begin 107 = .ok (.goto (-29), 3) := by decide +kernel
theorem dX12_begin_110 : decode cX12_begin 110 = .ok (.aload_n 0, 1) := by decide +kernel
theorem dX12_begin_111 : decode cX12_begin 111 = .ok (.iconst 0, 1) := by decide +kernel
theorem dX12_begin_112 : decode cX12_begin 112 = .ok (.putfield 113, 3) := by decide +kernel
theorem dX12_begin_115 : decode cX12_begin 115 = .ok (.aload_n 0, 1) := by decide +kernel
theorem dX12_begin_116 : decode cX12_begin 116 = .ok (.iconst 0, 1) := by decide +kernel
theorem dX12_begin_117 : decode cX12_begin 117 = .ok (.putfield 116, 3) := by decide +kernel
theorem dX12_begin_120 : decode cX12_begin 120 = .ok (.aload_n 0, 1) := by decide +kernel
theorem dX12_begin_121 : decode cX12_begin 121 = .ok (.iconst 0, 1) := by decide +kernel
theorem dX12_begin_122 : decode cX12_begin 122 = .ok (.putfield 119, 3) := by decide +kernel
theorem dX12_begin_125 : decode cX12_begin 125 = .ok (.aload_n 0, 1) := by decide +kernel
theorem dX12_begin_126 : decode cX12_begin 126 = .ok (.iconst 0, 1) := by decide +kernel
theorem dX12_begin_127 : decode cX12_begin 127 = .ok (.putfield 122, 3) := by decide +kernel
theorem dX12_begin_130 : decode cX12_begin 130 = .ok (.aload_n 0, 1) := by decide +kernel
theorem dX12_begin_131 : decode cX12_begin 131 = .ok (.iconst 0, 1) := by decide +kernel
theorem dX12_begin_132 : decode cX12_begin 132 = .ok (.putfield 125, 3) := by decide +kernel
theorem dX12_begin_135 : decode cX12_begin 135 = .ok (.return_, 1) := by decide +kernel
set_option maxRecDepth 20000 in
theorem ggX12_mirror_X12_in : GoodIn wsX12_mirror wsX12_in := goodIn_r _ [6] (by decide +kernel) (by decide +kernel)
set_option maxRecDepth 20000 in
theorem gX12_mirror_X12_in : GoodIn wsX12_mirror (va_wsS RX12 130 yX12_in wsX12_in) := goodIn_app (goodIn_of _ (by decide +kernel)) ggX12_mirror_X12_in
set_option maxRecDepth 20000 in
theorem ggX12_mirror_X12_begin : GoodIn wsX12_mirror wsX12_begin := goodIn_r _ [10, 11, 12, 13, 14, 15, 16, 17, 18, 19, 20, 21, 22, 23, 24, 25, 26, 27, 28, 29, 30, 31, 32, 33, 34, 35, 36, 37, 38, 39, 40, 41, 42, 43, 44, 45, 46, 47, 48, 49, 50, 51, 52, 53, 54, 55, 56, 57, 58, 59, 60, 61, 62, 63, 64] (by decide +kernel) (by decide +kernel)
set_option maxRecDepth 20000 in
theorem gX12_mirror_X12_begin : GoodIn wsX12_mirror (wsV RX12 109 RX12 yX12_begin wsX12_begin) := goodIn_app (goodIn_of _ (by decide +kernel)) ggX12_mirror_X12_begin
theorem dX12_mirror_0 : decode cX12_mirror 0 = .ok (.iload_n 1, 1) := by decide +kernel
theorem dX12_mirror_1 : decode cX12_mirror 1 = .ok (.i2l, 1) := by decide +kernel
theorem dX12_mirror_2 : decode cX12_mirror 2 = .ok (.lconst 1, 1) := by decide +kernel
theorem dX12_mirror_3 : decode cX12_mirror 3 = .ok (.ldc2_w 128, 3) := by decide +kernel
theorem dX12_mirror_6 : decode cX12_mirror 6 = .ok (.invokestatic 130, 3) := by decide +kernel
theorem dX12_mirror_9 : decode cX12_mirror 9 = .ok (.ifCond .eq 15, 3) := by decide +kernel
theorem dX12_mirror_12 : decode cX12_mirror 12 = .ok (.iload_n 2, 1) := by decide +kernel
theorem dX12_mirror_13 : decode cX12_mirror 13 = .ok (.i2l, 1) := by decide +kernel
theorem dX12_mirror_14 : decode cX12_mirror 14 = .ok (.lconst 1, 1) := by decide +kernel
theorem dX12_mirror_15 : decode cX12_mirror 15 = .ok (.ldc2_w 134, 3) := by decide +kernel
theorem dX12_mirror_18 : decode cX12_mirror 18 = .ok (.invokestatic 130, 3) := by decide +kernel
theorem dX12_mirror_21 : decode cX12_mirror 21 = .ok (.ifCond .ne 5, 3) := by decide +kernel
theorem dX12_mirror_24 : decode cX12_mirror 24 = .ok (.iconst (-1), 1) := by decide +kernel
theorem dX12_mirror_25 : decode cX12_mirror 25 = .ok (.ireturn, 1) := by decide +kernel
theorem dX12_mirror_26 : decode cX12_mirror 26 = .ok (.aload_n 0, 1) := by decide +kernel
theorem dX12_mirror_27 : decode cX12_mirror 27 = .ok (.iload_n 1, 1) := by decide +kernel
theorem dX12_mirror_28 : decode cX12_mirror 28 = .ok (.iload_n 2, 1) := by decide +kernel
theorem dX12_mirror_29 : decode cX12_mirror 29 = .ok (.invokevirtual 109, 3) := by decide +kernel
theorem dX12_mirror_32 : decode cX12_mirror 32 = .ok (.iconst 1, 1) := by decide +kernel
theorem dX12_mirror_33 : decode cX12_mirror 33 = .ok (.ireturn, 1) := by decide +kernel
set_option maxRecDepth 20000 in
theorem ggX12_isSpot_X12_in : GoodIn wsX12_isSpot wsX12_in := goodIn_r _ [5] (by decide +kernel) (by decide +kernel)
set_option maxRecDepth 20000 in
theorem gX12_isSpot_X12_in : GoodIn wsX12_isSpot (va_wsS RX12 130 yX12_in wsX12_in) := goodIn_app (goodIn_of _ (by decide +kernel)) ggX12_isSpot_X12_in
theorem dX12_isSpot_0 : decode cX12_isSpot 0 = .ok (.iload_n 1, 1) := by decide +kernel
theorem dX12_isSpot_1 : decode cX12_isSpot 1 = .ok (.i2l, 1) := by decide +kernel
theorem dX12_isSpot_2 : decode cX12_isSpot 2 = .ok (.lconst 0, 1) := by decide +kernel
theorem dX12_isSpot_3 : decode cX12_isSpot 3 = .ok (.aload_n 0, 1) := by decide +kernel
theorem dX12_isSpot_4 : decode cX12_isSpot 4 = .ok (.getfield 7, 3) := by decide +kernel
theorem dX12_isSpot_7 : decode cX12_isSpot 7 = .ok (.iconst 1, 1) := by decide +kernel
theorem dX12_isSpot_8 : decode cX12_isSpot 8 = .ok (.isub, 1) := by decide +kernel
theorem dX12_isSpot_9 : decode cX12_isSpot 9 = .ok (.i2l, 1) := by decide +kernel
theorem dX12_isSpot_10 : decode cX12_isSpot 10 = .ok (.invokestatic 130, 3) := by decide +kernel
theorem dX12_isSpot_13 : decode cX12_isSpot 13 = .ok (.ireturn, 1) := by decide +kernel
set_option maxRecDepth 20000 in
theorem ggX12_isPart_X12_in : GoodIn wsX12_isPart wsX12_in := goodIn_r _ [5] (by decide +kernel) (by decide +kernel)
set_option maxRecDepth 20000 in
theorem gX12_isPart_X12_in : GoodIn wsX12_isPart (va_wsS RX12 130 yX12_in wsX12_in) := goodIn_app (goodIn_of _ (by decide +kernel)) ggX12_isPart_X12_in
theorem dX12_isPart_0 : decode cX12_isPart 0 = .ok (.iload_n 1, 1) := by decide +kernel
theorem dX12_isPart_1 : decode cX12_isPart 1 = .ok (.i2l, 1) := by decide +kernel
theorem dX12_isPart_2 : decode cX12_isPart 2 = .ok (.lconst 0, 1) := by decide +kernel
theorem dX12_isPart_3 : decode cX12_isPart 3 = .ok (.aload_n 0, 1) := by decide +kernel
theorem dX12_isPart_4 : decode cX12_isPart 4 = .ok (.getfield 13, 3) := by decide +kernel
theorem dX12_isPart_7 : decode cX12_isPart 7 = .ok (.iconst 1, 1) := by decide +kernel
theorem dX12_isPart_8 : decode cX12_isPart 8 = .ok (.isub, 1) := by decide +kernel
theorem dX12_isPart_9 : decode cX12_isPart 9 = .ok (.i2l, 1) := by decide +kernel
theorem dX12_isPart_10 : decode cX12_isPart 10 = .ok (.invokestatic 130, 3) := by decide +kernel
theorem dX12_isPart_13 : decode cX12_isPart 13 = .ok (.ireturn, 1) := by decide +kernel
set_option maxRecDepth 20000 in
theorem ggX12_light_X12_isSpot : GoodIn wsX12_light wsX12_isSpot := goodIn_r _ [8, 9, 10, 11, 7, 12, 13, 14, 15, 16, 17, 18, 19, 20, 21, 22, 23, 24, 25, 26, 27, 28, 29, 30, 31, 32, 33, 34, 35, 36, 37, 38, 39, 40, 41, 42, 43, 44, 45, 46, 47, 48, 49, 50, 51, 52, 53] (by decide +kernel) (by decide +kernel)
set_option maxRecDepth 20000 in
theorem gX12_light_X12_isSpot : GoodIn wsX12_light (wsV RX12 136 RX12 yX12_isSpot wsX12_isSpot) := goodIn_app (goodIn_of _ (by decide +kernel)) ggX12_light_X12_isSpot
set_option maxRecDepth 20000 in
theorem ggX12_light_X12_in : GoodIn wsX12_light wsX12_in := goodIn_r _ [12] (by decide +kernel) (by decide +kernel)
set_option maxRecDepth 20000 in
theorem gX12_light_X12_in : GoodIn wsX12_light (va_wsS RX12 130 yX12_in wsX12_in) := goodIn_app (goodIn_of _ (by decide +kernel)) ggX12_light_X12_in
theorem dX12_light_0 : decode cX12_light 0 = .ok (.aload_n 0, 1) := by decide +kernel
theorem dX12_light_1 : decode cX12_light 1 = .ok (.iload_n 1, 1) := by decide +kernel
theorem dX12_light_2 : decode cX12_light 2 = .ok (.invokevirtual 136, 3) := by decide +kernel
theorem dX12_light_5 : decode cX12_light 5 = .ok (.ifCond .eq 27, 3) := by decide +kernel
theorem dX12_light_8 : decode cX12_light 8 = .ok (.iload_n 2, 1) := by decide +kernel
theorem dX12_light_9 : decode cX12_light 9 = .ok (.i2l, 1) := by decide +kernel
theorem dX12_light_10 : decode cX12_light 10 = .ok (.lconst 0, 1) := by decide +kernel
theorem dX12_light_11 : decode cX12_light 11 = .ok (.ldc2_w 140, 3) := by decide +kernel
theorem dX12_light_14 : decode cX12_light 14 = .ok (.invokestatic 130, 3) := by decide +kernel
theorem dX12_light_17 : decode cX12_light 17 = .ok (.ifCond .eq 15, 3) := by decide +kernel
theorem dX12_light_20 : decode cX12_light 20 = .ok (.iload_n 3, 1) := by decide +kernel
theorem dX12_light_21 : decode cX12_light 21 = .ok (.i2l, 1) := by decide +kernel
theorem dX12_light_22 : decode cX12_light 22 = .ok (.lconst 0, 1) := by decide +kernel
theorem dX12_light_23 : decode cX12_light 23 = .ok (.ldc2_w 142, 3) := by decide +kernel
theorem dX12_light_26 : decode cX12_light 26 = .ok (.invokestatic 130, 3) := by decide +kernel
theorem dX12_light_29 : decode cX12_light 29 = .ok (.ifCond .ne 5, 3) := by decide +kernel
theorem dX12_light_32 : decode cX12_light 32 = .ok (.iconst (-1), 1) := by decide +kernel
theorem dX12_light_33 : decode cX12_light 33 = .ok (.ireturn, 1) := by decide +kernel
theorem dX12_light_34 : decode cX12_light 34 = .ok (.aload_n 0, 1) := by decide +kernel
theorem dX12_light_35 : decode cX12_light 35 = .ok (.getfield 16, 3) := by decide +kernel
theorem dX12_light_38 : decode cX12_light 38 = .ok (.bipush 16, 2) := by decide +kernel
theorem dX12_light_40 : decode cX12_light 40 = .ok (.iload_n 1, 1) := by decide +kernel
theorem dX12_light_41 : decode cX12_light 41 = .ok (.imul, 1) := by decide +kernel
theorem dX12_light_42 : decode cX12_light 42 = .ok (.iload_n 2, 1) := by decide +kernel
theorem dX12_light_43 : decode cX12_light 43 = .ok (.iadd, 1) := by decide +kernel
theorem dX12_light_44 : decode cX12_light 44 = .ok (.iaload, 1) := by decide +kernel
theorem dX12_light_45 : decode cX12_light 45 = .ok (.istore 4, 2) := by decide +kernel
theorem dX12_light_47 : decode cX12_light 47 = .ok (.aload_n 0, 1) := by decide +kernel
theorem dX12_light_48 : decode cX12_light 48 = .ok (.getfield 16, 3) := by decide +kernel
theorem dX12_light_51 : decode cX12_light 51 = .ok (.bipush 16, 2) := by decide +kernel
theorem dX12_light_53 : decode cX12_light 53 = .ok (.iload_n 1, 1) := by decide +kernel
theorem dX12_light_54 : decode cX12_light 54 = .ok (.imul, 1) := by decide +kernel
theorem dX12_light_55 : decode cX12_light 55 = .ok (.iload_n 2, 1) := by decide +kernel
theorem dX12_light_56 : decode cX12_light 56 = .ok (.iadd, 1) := by decide +kernel
theorem dX12_light_57 : decode cX12_light 57 = .ok (.iload_n 3, 1) := by decide +kernel
theorem dX12_light_58 : decode cX12_light 58 = .ok (.iastore, 1) := by decide +kernel
theorem dX12_light_59 : decode cX12_light 59 = .ok (.iload 4, 2) := by decide +kernel
theorem dX12_light_61 : decode cX12_light 61 = .ok (.ireturn, 1) := by decide +kernel
set_option maxRecDepth 20000 in
theorem ggX12_set_X12_in : GoodIn wsX12_set wsX12_in := goodIn_r _ [8] (by decide +kernel) (by decide +kernel)
set_option maxRecDepth 20000 in
theorem gX12_set_X12_in : GoodIn wsX12_set (va_wsS RX12 130 yX12_in wsX12_in) := goodIn_app (goodIn_of _ (by decide +kernel)) ggX12_set_X12_in
theorem dX12_set_0 : decode cX12_set 0 = .ok (.iload_n 1, 1) := by decide +kernel
theorem dX12_set_1 : decode cX12_set 1 = .ok (.i2l, 1) := by decide +kernel
theorem dX12_set_2 : decode cX12_set 2 = .ok (.lconst 0, 1) := by decide +kernel
theorem dX12_set_3 : decode cX12_set 3 = .ok (.ldc2_w 144, 3) := by decide +kernel
theorem dX12_set_6 : decode cX12_set 6 = .ok (.invokestatic 130, 3) := by decide +kernel
theorem dX12_set_9 : decode cX12_set 9 = .ok (.ifCond .eq 25, 3) := by decide +kernel
theorem dX12_set_12 : decode cX12_set 12 = .ok (.iload_n 2, 1) := by decide +kernel
theorem dX12_set_13 : decode cX12_set 13 = .ok (.i2l, 1) := by decide +kernel
theorem dX12_set_14 : decode cX12_set 14 = .ok (.aload_n 0, 1) := by decide +kernel
theorem dX12_set_15 : decode cX12_set 15 = .ok (.getfield 29, 3) := by decide +kernel
theorem dX12_set_18 : decode cX12_set 18 = .ok (.iload_n 1, 1) := by decide +kernel
theorem dX12_set_19 : decode cX12_set 19 = .ok (.iaload, 1) := by decide +kernel
theorem dX12_set_20 : decode cX12_set 20 = .ok (.i2l, 1) := by decide +kernel
theorem dX12_set_21 : decode cX12_set 21 = .ok (.aload_n 0, 1) := by decide +kernel
theorem dX12_set_22 : decode cX12_set 22 = .ok (.getfield 32, 3) := by decide +kernel
theorem dX12_set_25 : decode cX12_set 25 = .ok (.iload_n 1, 1) := by decide +kernel
theorem dX12_set_26 : decode cX12_set 26 = .ok (.iaload, 1) := by decide +kernel
theorem dX12_set_27 : decode cX12_set 27 = .ok (.i2l, 1) := by decide +kernel
theorem dX12_set_28 : decode cX12_set 28 = .ok (.invokestatic 130, 3) := by decide +kernel
theorem dX12_set_31 : decode cX12_set 31 = .ok (.ifCond .ne 7, 3) := by decide +kernel
theorem dX12_set_34 : decode cX12_set 34 = .ok (.sipush (-10001), 3) := by decide +kernel
theorem dX12_set_37 : decode cX12_set 37 = .ok (.ireturn, 1) := by decide +kernel
theorem dX12_set_38 : decode cX12_set 38 = .ok (.aload_n 0, 1) := by decide +kernel
theorem dX12_set_39 : decode cX12_set 39 = .ok (.getfield 26, 3) := by decide +kernel
theorem dX12_set_42 : decode cX12_set 42 = .ok (.iload_n 1, 1) := by decide +kernel
theorem dX12_set_43 : decode cX12_set 43 = .ok (.iaload, 1) := by decide +kernel
theorem dX12_set_44 : decode cX12_set 44 = .ok (.istore_n 3, 1) := by decide +kernel
theorem dX12_set_45 : decode cX12_set 45 = .ok (.aload_n 0, 1) := by decide +kernel
theorem dX12_set_46 : decode cX12_set 46 = .ok (.getfield 26, 3) := by decide +kernel
theorem dX12_set_49 : decode cX12_set 49 = .ok (.iload_n 1, 1) := by decide +kernel
theorem dX12_set_50 : decode cX12_set 50 = .ok (.iload_n 2, 1) := by decide +kernel
theorem dX12_set_51 : decode cX12_set 51 = .ok (.iastore, 1) := by decide +kernel
theorem dX12_set_52 : decode cX12_set 52 = .ok (.iload_n 3, 1) := by decide +kernel
theorem dX12_set_53 : decode cX12_set 53 = .ok (.ireturn, 1) := by decide +kernel
set_option maxRecDepth 20000 in
theorem ggX12_rest_X12_isSpot : GoodIn wsX12_rest wsX12_isSpot := goodIn_r _ [7, 8, 9, 10, 6, 11, 12, 13, 14, 15, 16, 17, 18, 19, 20, 21, 22, 23, 24, 25, 26, 27, 28, 29, 30, 31, 32, 33, 34, 35, 36, 37, 38, 39, 40, 41, 42, 43, 44, 45, 46, 47, 48, 49, 50, 51, 52] (by decide +kernel) (by decide +kernel)
set_option maxRecDepth 20000 in
theorem gX12_rest_X12_isSpot : GoodIn wsX12_rest (wsV RX12 136 RX12 yX12_isSpot wsX12_isSpot) := goodIn_app (goodIn_of _ (by decide +kernel)) ggX12_rest_X12_isSpot
set_option maxRecDepth 20000 in
theorem ggX12_rest_X12_in : GoodIn wsX12_rest wsX12_in := goodIn_r _ [11] (by decide +kernel) (by decide +kernel)
set_option maxRecDepth 20000 in
theorem gX12_rest_X12_in : GoodIn wsX12_rest (va_wsS RX12 130 yX12_in wsX12_in) := goodIn_app (goodIn_of _ (by decide +kernel)) ggX12_rest_X12_in
theorem dX12_rest_0 : decode cX12_rest 0 = .ok (.aload_n 0, 1) := by decide +kernel
theorem dX12_rest_1 : decode cX12_rest 1 = .ok (.iload_n 1, 1) := by decide +kernel
theorem dX12_rest_2 : decode cX12_rest 2 = .ok (.invokevirtual 136, 3) := by decide +kernel
theorem dX12_rest_5 : decode cX12_rest 5 = .ok (.ifCond .eq 15, 3) := by decide +kernel
theorem dX12_rest_8 : decode cX12_rest 8 = .ok (.iload_n 2, 1) := by decide +kernel
theorem dX12_rest_9 : decode cX12_rest 9 = .ok (.i2l, 1) := by decide +kernel
theorem dX12_rest_10 : decode cX12_rest 10 = .ok (.lconst 0, 1) := by decide +kernel
theorem dX12_rest_11 : decode cX12_rest 11 = .ok (.ldc2_w 146, 3) := by decide +kernel
theorem dX12_rest_14 : decode cX12_rest 14 = .ok (.invokestatic 130, 3) := by decide +kernel
theorem dX12_rest_17 : decode cX12_rest 17 = .ok (.ifCond .ne 5, 3) := by decide +kernel
theorem dX12_rest_20 : decode cX12_rest 20 = .ok (.iconst (-1), 1) := by decide +kernel
theorem dX12_rest_21 : decode cX12_rest 21 = .ok (.ireturn, 1) := by decide +kernel
theorem dX12_rest_22 : decode cX12_rest 22 = .ok (.aload_n 0, 1) := by decide +kernel
theorem dX12_rest_23 : decode cX12_rest 23 = .ok (.getfield 20, 3) := by decide +kernel
theorem dX12_rest_26 : decode cX12_rest 26 = .ok (.iload_n 1, 1) := by decide +kernel
theorem dX12_rest_27 : decode cX12_rest 27 = .ok (.iaload, 1) := by decide +kernel
theorem dX12_rest_28 : decode cX12_rest 28 = .ok (.istore_n 3, 1) := by decide +kernel
theorem dX12_rest_29 : decode cX12_rest 29 = .ok (.aload_n 0, 1) := by decide +kernel
theorem dX12_rest_30 : decode cX12_rest 30 = .ok (.getfield 20, 3) := by decide +kernel
theorem dX12_rest_33 : decode cX12_rest 33 = .ok (.iload_n 1, 1) := by decide +kernel
theorem dX12_rest_34 : decode cX12_rest 34 = .ok (.iload_n 2, 1) := by decide +kernel
theorem dX12_rest_35 : decode cX12_rest 35 = .ok (.iastore, 1) := by decide +kernel
theorem dX12_rest_36 : decode cX12_rest 36 = .ok (.iload_n 3, 1) := by decide +kernel
theorem dX12_rest_37 : decode cX12_rest 37 = .ok (.ireturn, 1) := by decide +kernel
theorem dX12_lightOf_0 : decode cX12_lightOf 0 = .ok (.aload_n 0, 1) := by decide +kernel
theorem dX12_lightOf_1 : decode cX12_lightOf 1 = .ok (.getfield 16, 3) := by decide +kernel
theorem dX12_lightOf_4 : decode cX12_lightOf 4 = .ok (.bipush 16, 2) := by decide +kernel
theorem dX12_lightOf_6 : decode cX12_lightOf 6 = .ok (.iload_n 1, 1) := by decide +kernel
theorem dX12_lightOf_7 : decode cX12_lightOf 7 = .ok (.imul, 1) := by decide +kernel
theorem dX12_lightOf_8 : decode cX12_lightOf 8 = .ok (.iload_n 2, 1) := by decide +kernel
theorem dX12_lightOf_9 : decode cX12_lightOf 9 = .ok (.iadd, 1) := by decide +kernel
theorem dX12_lightOf_10 : decode cX12_lightOf 10 = .ok (.iaload, 1) := by decide +kernel
theorem dX12_lightOf_11 : decode cX12_lightOf 11 = .ok (.aload_n 0, 1) := by decide +kernel
theorem dX12_lightOf_12 : decode cX12_lightOf 12 = .ok (.getfield 26, 3) := by decide +kernel
theorem dX12_lightOf_15 : decode cX12_lightOf 15 = .ok (.iconst 0, 1) := by decide +kernel
theorem dX12_lightOf_16 : decode cX12_lightOf 16 = .ok (.iaload, 1) := by decide +kernel
theorem dX12_lightOf_17 : decode cX12_lightOf 17 = .ok (.isub, 1) := by decide +kernel
theorem dX12_lightOf_18 : decode cX12_lightOf 18 = .ok (.istore_n 3, 1) := by decide +kernel
theorem dX12_lightOf_19 : decode cX12_lightOf 19 = .ok (.iload_n 3, 1) := by decide +kernel
theorem dX12_lightOf_20 : decode cX12_lightOf 20 = .ok (.ifCond .le 7, 3) := by decide +kernel
theorem dX12_lightOf_23 : decode cX12_lightOf 23 = .ok (.iload_n 3, 1) := by decide +kernel
theorem dX12_lightOf_24 : decode cX12_lightOf 24 = .ok (.goto 4, 3) := by decide +kernel
theorem dX12_lightOf_27 : decode cX12_lightOf 27 = .ok (.iconst 0, 1) := by decide +kernel
theorem dX12_lightOf_28 : decode cX12_lightOf 28 = .ok (.ireturn, 1) := by decide +kernel
set_option maxRecDepth 20000 in
theorem ggX12_allLight_X12_lightOf : GoodIn wsX12_allLight wsX12_lightOf := goodIn_r _ [5, 6, 7, 8, 9, 10, 11, 12, 13, 14, 15, 16, 17, 18, 19, 20, 21, 22, 23, 24, 25, 26, 27, 28, 29, 30, 31, 32, 33, 34, 35, 36, 37, 38, 39, 40, 41, 42, 43, 44, 45, 46, 47, 48] (by decide +kernel) (by decide +kernel)
set_option maxRecDepth 20000 in
theorem gX12_allLight_X12_lightOf : GoodIn wsX12_allLight (wsV RX12 148 RX12 yX12_lightOf wsX12_lightOf) := goodIn_app (goodIn_of _ (by decide +kernel)) ggX12_allLight_X12_lightOf
theorem dX12_allLight_0 : decode cX12_allLight 0 = .ok (.iconst 0, 1) := by decide +kernel
theorem dX12_allLight_1 : decode cX12_allLight 1 = .ok (.istore_n 2, 1) := by decide +kernel
theorem dX12_allLight_2 : decode cX12_allLight 2 = .ok (.iconst 0, 1) := by decide +kernel
theorem dX12_allLight_3 : decode cX12_allLight 3 = .ok (.istore_n 3, 1) := by decide +kernel
theorem dX12_allLight_4 : decode cX12_allLight 4 = .ok (.iload_n 3, 1) := by decide +kernel
theorem dX12_allLight_5 : decode cX12_allLight 5 = .ok (.bipush 16, 2) := by decide +kernel
theorem dX12_allLight_7 : decode cX12_allLight 7 = .ok (.if_icmp .ge 18, 3) := by decide +kernel
theorem dX12_allLight_10 : decode cX12_allLight 10 = .ok (.iload_n 2, 1) := by decide +kernel
theorem dX12_allLight_11 : decode cX12_allLight 11 = .ok (.aload_n 0, 1) := by decide +kernel
theorem dX12_allLight_12 : decode cX12_allLight 12 = .ok (.iload_n 1, 1) := by decide +kernel
theorem dX12_allLight_13 : decode cX12_allLight 13 = .ok (.iload_n 3, 1) := by decide +kernel
theorem dX12_allLight_14 : decode cX12_allLight 14 = .ok (.invokevirtual 148, 3) := by decide +kernel
theorem dX12_allLight_17 : decode cX12_allLight 17 = .ok (.iadd, 1) := by decide +kernel
theorem dX12_allLight_18 : decode cX12_allLight 18 = .ok (.istore_n 2, 1) := by decide +kernel
theorem dX12_allLight_19 : decode cX12_allLight 19 = .ok (.iinc 3 1, 3) := by decide +kernel
theorem dX12_allLight_22 : decode cX12_allLight 22 = .ok (.goto (-18), 3) := by decide +kernel
theorem dX12_allLight_25 : decode cX12_allLight 25 = .ok (.iload_n 2, 1) := by decide +kernel
theorem dX12_allLight_26 : decode cX12_allLight 26 = .ok (.ireturn, 1) := by decide +kernel
set_option maxRecDepth 20000 in
theorem ggX12_isLost_X12_allLight : GoodIn wsX12_isLost wsX12_allLight := goodIn_r _ [6, 7, 8, 9, 5, 10, 11, 1, 12, 13, 14, 15, 16, 17, 18, 19, 20, 21, 22, 23, 24, 25, 26, 27, 28, 29, 30, 31, 32, 33, 34, 35, 36, 37, 38, 39, 40, 41, 42, 43, 44, 45, 46, 47, 48, 49, 50, 51, 52] (by decide +kernel) (by decide +kernel)
set_option maxRecDepth 20000 in
theorem gX12_isLost_X12_allLight : GoodIn wsX12_isLost (wsV RX12 152 RX12 yX12_allLight wsX12_allLight) := goodIn_app (goodIn_of _ (by decide +kernel)) ggX12_isLost_X12_allLight
theorem dX12_isLost_0 : decode cX12_isLost 0 = .ok (.aload_n 0, 1) := by decide +kernel
theorem dX12_isLost_1 : decode cX12_isLost 1 = .ok (.iload_n 1, 1) := by decide +kernel
theorem dX12_isLost_2 : decode cX12_isLost 2 = .ok (.invokevirtual 152, 3) := by decide +kernel
theorem dX12_isLost_5 : decode cX12_isLost 5 = .ok (.aload_n 0, 1) := by decide +kernel
theorem dX12_isLost_6 : decode cX12_isLost 6 = .ok (.getfield 26, 3) := by decide +kernel
theorem dX12_isLost_9 : decode cX12_isLost 9 = .ok (.iconst 1, 1) := by decide +kernel
theorem dX12_isLost_10 : decode cX12_isLost 10 = .ok (.iaload, 1) := by decide +kernel
theorem dX12_isLost_11 : decode cX12_isLost 11 = .ok (.if_icmp .ge 7, 3) := by decide +kernel
theorem dX12_isLost_14 : decode cX12_isLost 14 = .ok (.iconst 1, 1) := by decide +kernel
theorem dX12_isLost_15 : decode cX12_isLost 15 = .ok (.goto 4, 3) := by decide +kernel
theorem dX12_isLost_18 : decode cX12_isLost 18 = .ok (.iconst 0, 1) := by decide +kernel
theorem dX12_isLost_19 : decode cX12_isLost 19 = .ok (.ireturn, 1) := by decide +kernel
set_option maxRecDepth 20000 in
theorem ggX12_middleOf_X12_lightOf : GoodIn wsX12_middleOf wsX12_lightOf := goodIn_r _ [5, 6, 7, 12, 13, 14, 15, 16, 17, 18, 19, 20, 21, 22, 23, 24, 25, 26, 27, 28, 29, 30, 31, 32, 33, 34, 35, 36, 37, 38, 39, 40, 41, 42, 43, 44, 45, 46, 47, 48, 49, 50, 51, 52] (by decide +kernel) (by decide +kernel)
set_option maxRecDepth 20000 in
theorem gX12_middleOf_X12_lightOf : GoodIn wsX12_middleOf (wsV RX12 148 RX12 yX12_lightOf wsX12_lightOf) := goodIn_app (goodIn_of _ (by decide +kernel)) ggX12_middleOf_X12_lightOf
set_option maxRecDepth 20000 in
theorem ggX12_middleOf_X12_allLight : GoodIn wsX12_middleOf wsX12_allLight := goodIn_r _ [11, 1, 2, 3, 4, 5, 6, 7, 12, 13, 14, 15, 16, 17, 18, 19, 20, 21, 22, 23, 24, 25, 26, 27, 28, 29, 30, 31, 32, 33, 34, 35, 36, 37, 38, 39, 40, 41, 42, 43, 44, 45, 46, 47, 48, 49, 50, 51, 52] (by decide +kernel) (by decide +kernel)
set_option maxRecDepth 20000 in
theorem gX12_middleOf_X12_allLight : GoodIn wsX12_middleOf (wsV RX12 152 RX12 yX12_allLight wsX12_allLight) := goodIn_app (goodIn_of _ (by decide +kernel)) ggX12_middleOf_X12_allLight
theorem dX12_middleOf_0 : decode cX12_middleOf 0 = .ok (.iconst 0, 1) := by decide +kernel
theorem dX12_middleOf_1 : decode cX12_middleOf 1 = .ok (.istore_n 2, 1) := by decide +kernel
theorem dX12_middleOf_2 : decode cX12_middleOf 2 = .ok (.iconst 0, 1) := by decide +kernel
theorem dX12_middleOf_3 : decode cX12_middleOf 3 = .ok (.istore_n 3, 1) := by decide +kernel
theorem dX12_middleOf_4 : decode cX12_middleOf 4 = .ok (.iload_n 3, 1) := by decide +kernel
theorem dX12_middleOf_5 : decode cX12_middleOf 5 = .ok (.bipush 16, 2) := by decide +kernel
theorem dX12_middleOf_7 : decode cX12_middleOf 7 = .ok (.if_icmp .ge 34, 3) := by decide +kernel
theorem dX12_middleOf_10 : decode cX12_middleOf 10 = .ok (.iload_n 2, 1) := by decide +kernel
theorem dX12_middleOf_11 : decode cX12_middleOf 11 = .ok (.iload_n 1, 1) := by decide +kernel
theorem dX12_middleOf_12 : decode cX12_middleOf 12 = .ok (.iconst 2, 1) := by decide +kernel
theorem dX12_middleOf_13 : decode cX12_middleOf 13 = .ok (.irem, 1) := by decide +kernel
theorem dX12_middleOf_14 : decode cX12_middleOf 14 = .ok (.ifCond .ne 9, 3) := by decide +kernel
theorem dX12_middleOf_17 : decode cX12_middleOf 17 = .ok (.iload_n 3, 1) := by decide +kernel
theorem dX12_middleOf_18 : decode cX12_middleOf 18 = .ok (.iconst 4, 1) := by decide +kernel
theorem dX12_middleOf_19 : decode cX12_middleOf 19 = .ok (.irem, 1) := by decide +kernel
theorem dX12_middleOf_20 : decode cX12_middleOf 20 = .ok (.goto 6, 3) := by decide +kernel
theorem dX12_middleOf_23 : decode cX12_middleOf 23 = .ok (.iload_n 3, 1) := by decide +kernel
theorem dX12_middleOf_24 : decode cX12_middleOf 24 = .ok (.iconst 4, 1) := by decide +kernel
theorem dX12_middleOf_25 : decode cX12_middleOf 25 = .ok (.idiv, 1) := by decide +kernel
theorem dX12_middleOf_26 : decode cX12_middleOf 26 = .ok (.aload_n 0, 1) := by decide +kernel
theorem dX12_middleOf_27 : decode cX12_middleOf 27 = .ok (.iload_n 1, 1) := by decide +kernel
theorem dX12_middleOf_28 : decode cX12_middleOf 28 = .ok (.iload_n 3, 1) := by decide +kernel
theorem dX12_middleOf_29 : decode cX12_middleOf 29 = .ok (.invokevirtual 148, 3) := by decide +kernel
theorem dX12_middleOf_32 : decode cX12_middleOf 32 = .ok (.imul, 1) := by decide +kernel
theorem dX12_middleOf_33 : decode cX12_middleOf 33 = .ok (.iadd, 1) := by decide +kernel
theorem dX12_middleOf_34 : decode cX12_middleOf 34 = .ok (.istore_n 2, 1) := by decide +kernel
theorem dX12_middleOf_35 : decode cX12_middleOf 35 = .ok (.iinc 3 1, 3) := by decide +kernel
theorem dX12_middleOf_38 : decode cX12_middleOf 38 = .ok (.goto (-34), 3) := by decide +kernel
theorem dX12_middleOf_41 : decode cX12_middleOf 41 = .ok (.sipush 1000, 3) := by decide +kernel
theorem dX12_middleOf_44 : decode cX12_middleOf 44 = .ok (.iload_n 2, 1) := by decide +kernel
theorem dX12_middleOf_45 : decode cX12_middleOf 45 = .ok (.imul, 1) := by decide +kernel
theorem dX12_middleOf_46 : decode cX12_middleOf 46 = .ok (.aload_n 0, 1) := by decide +kernel
theorem dX12_middleOf_47 : decode cX12_middleOf 47 = .ok (.iload_n 1, 1) := by decide +kernel
theorem dX12_middleOf_48 : decode cX12_middleOf 48 = .ok (.invokevirtual 152, 3) := by decide +kernel
theorem dX12_middleOf_51 : decode cX12_middleOf 51 = .ok (.idiv, 1) := by decide +kernel
theorem dX12_middleOf_52 : decode cX12_middleOf 52 = .ok (.ireturn, 1) := by decide +kernel
set_option maxRecDepth 20000 in
theorem ggX12_slopeOf_X12_middleOf : GoodIn wsX12_slopeOf wsX12_middleOf := goodIn_r _ [6, 7, 8, 9, 5, 10, 11, 12, 13, 14, 15, 16, 17, 18, 19, 20, 21, 22, 23, 24, 25, 26, 27, 28, 29, 30, 31, 32, 33, 34, 35, 36, 37, 38, 39, 40, 41, 42, 43, 44, 45, 46, 47, 48, 49, 50, 51, 52, 53, 54, 55, 56, 57] (by decide +kernel) (by decide +kernel)
set_option maxRecDepth 20000 in
theorem gX12_slopeOf_X12_middleOf : GoodIn wsX12_slopeOf (wsV RX12 156 RX12 yX12_middleOf wsX12_middleOf) := goodIn_app (goodIn_of _ (by decide +kernel)) ggX12_slopeOf_X12_middleOf
theorem dX12_slopeOf_0 : decode cX12_slopeOf 0 = .ok (.aload_n 0, 1) := by decide +kernel
theorem dX12_slopeOf_1 : decode cX12_slopeOf 1 = .ok (.iload_n 1, 1) := by decide +kernel
theorem dX12_slopeOf_2 : decode cX12_slopeOf 2 = .ok (.invokevirtual 156, 3) := by decide +kernel
theorem dX12_slopeOf_5 : decode cX12_slopeOf 5 = .ok (.aload_n 0, 1) := by decide +kernel
theorem dX12_slopeOf_6 : decode cX12_slopeOf 6 = .ok (.getfield 20, 3) := by decide +kernel
theorem dX12_slopeOf_9 : decode cX12_slopeOf 9 = .ok (.iload_n 1, 1) := by decide +kernel
theorem dX12_slopeOf_10 : decode cX12_slopeOf 10 = .ok (.iaload, 1) := by decide +kernel
theorem dX12_slopeOf_11 : decode cX12_slopeOf 11 = .ok (.isub, 1) := by decide +kernel
theorem dX12_slopeOf_12 : decode cX12_slopeOf 12 = .ok (.ireturn, 1) := by decide +kernel
set_option maxRecDepth 20000 in
theorem ggX12_spot_X12_isSpot : GoodIn wsX12_spot wsX12_isSpot := goodIn_r _ [6, 7, 8, 9, 5, 10, 34, 35, 36, 37, 38, 39, 40, 41, 42, 43, 44, 45, 46, 47, 48, 49, 50, 51, 52, 53, 54, 55, 56, 57, 58, 59, 60, 61, 62, 63, 64, 65, 66, 67, 68, 69, 70, 71, 72, 73, 74] (by decide +kernel) (by decide +kernel)
set_option maxRecDepth 20000 in
theorem gX12_spot_X12_isSpot : GoodIn wsX12_spot (wsV RX12 136 RX12 yX12_isSpot wsX12_isSpot) := goodIn_app (goodIn_of _ (by decide +kernel)) ggX12_spot_X12_isSpot
set_option maxRecDepth 20000 in
theorem ggX12_spot_X12_in : GoodIn wsX12_spot wsX12_in := goodIn_r _ [10] (by decide +kernel) (by decide +kernel)
set_option maxRecDepth 20000 in
theorem gX12_spot_X12_in : GoodIn wsX12_spot (va_wsS RX12 130 yX12_in wsX12_in) := goodIn_app (goodIn_of _ (by decide +kernel)) ggX12_spot_X12_in
set_option maxRecDepth 20000 in
theorem ggX12_spot_X12_allLight : GoodIn wsX12_spot wsX12_allLight := goodIn_r _ [14, 15, 16, 17, 5, 18, 19, 20, 34, 35, 36, 37, 38, 39, 40, 41, 42, 43, 44, 45, 46, 47, 48, 49, 50, 51, 52, 53, 54, 55, 56, 57, 58, 59, 60, 61, 62, 63, 64, 65, 66, 67, 68, 69, 70, 71, 72, 73, 74] (by decide +kernel) (by decide +kernel)
set_option maxRecDepth 20000 in
theorem gX12_spot_X12_allLight : GoodIn wsX12_spot (wsV RX12 152 RX12 yX12_allLight wsX12_allLight) := goodIn_app (goodIn_of _ (by decide +kernel)) ggX12_spot_X12_allLight
set_option maxRecDepth 20000 in
theorem ggX12_spot_X12_isLost : GoodIn wsX12_spot wsX12_isLost := goodIn_r _ [24, 20, 11, 12, 13, 5, 14, 15, 16, 17, 18, 19, 34, 35, 36, 37, 38, 39, 40, 41, 42, 43, 44, 45, 46, 47, 48, 49, 50, 51, 52, 53, 54, 55, 56, 57, 58, 59, 60, 61, 62, 63, 64, 65, 66, 67, 68, 69, 70, 71, 72, 73, 74] (by decide +kernel) (by decide +kernel)
set_option maxRecDepth 20000 in
theorem gX12_spot_X12_isLost : GoodIn wsX12_spot (wsV RX12 161 RX12 yX12_isLost wsX12_isLost) := goodIn_app (goodIn_of _ (by decide +kernel)) ggX12_spot_X12_isLost
set_option maxRecDepth 20000 in
theorem ggX12_spot_X12_middleOf : GoodIn wsX12_spot wsX12_middleOf := goodIn_r _ [28, 15, 16, 17, 5, 18, 19, 20, 11, 12, 13, 14, 34, 35, 36, 37, 38, 39, 40, 41, 42, 43, 44, 45, 46, 47, 48, 49, 50, 51, 52, 53, 54, 55, 56, 57, 58, 59, 60, 61, 62, 63, 64, 65, 66, 67, 68, 69, 70, 71, 72, 73, 74] (by decide +kernel) (by decide +kernel)
set_option maxRecDepth 20000 in
theorem gX12_spot_X12_middleOf : GoodIn wsX12_spot (wsV RX12 156 RX12 yX12_middleOf wsX12_middleOf) := goodIn_app (goodIn_of _ (by decide +kernel)) ggX12_spot_X12_middleOf
set_option maxRecDepth 20000 in
theorem ggX12_spot_X12_slopeOf : GoodIn wsX12_spot wsX12_slopeOf := goodIn_r _ [32, 33, 25, 26, 27, 5, 28, 15, 16, 17, 18, 19, 20, 11, 12, 13, 14, 34, 35, 36, 37, 38, 39, 40, 41, 42, 43, 44, 45, 46, 47, 48, 49, 50, 51, 52, 53, 54, 55, 56, 57, 58, 59, 60, 61, 62, 63, 64, 65, 66, 67, 68, 69, 70, 71, 72, 73, 74] (by decide +kernel) (by decide +kernel)
set_option maxRecDepth 20000 in
theorem gX12_spot_X12_slopeOf : GoodIn wsX12_spot (wsV RX12 164 RX12 yX12_slopeOf wsX12_slopeOf) := goodIn_app (goodIn_of _ (by decide +kernel)) ggX12_spot_X12_slopeOf
theorem dX12_spot_0 : decode cX12_spot 0 = .ok (.aload_n 0, 1) := by decide +kernel
theorem dX12_spot_1 : decode cX12_spot 1 = .ok (.iload_n 1, 1) := by decide +kernel
theorem dX12_spot_2 : decode cX12_spot 2 = .ok (.invokevirtual 136, 3) := by decide +kernel
theorem dX12_spot_5 : decode cX12_spot 5 = .ok (.ifCond .eq 15, 3) := by decide +kernel
theorem dX12_spot_8 : decode cX12_spot 8 = .ok (.iload_n 2, 1) := by decide +kernel
theorem dX12_spot_9 : decode cX12_spot 9 = .ok (.i2l, 1) := by decide +kernel
theorem dX12_spot_10 : decode cX12_spot 10 = .ok (.lconst 0, 1) := by decide +kernel
theorem dX12_spot_11 : decode cX12_spot 11 = .ok (.ldc2_w 159, 3) := by decide +kernel
theorem dX12_spot_14 : decode cX12_spot 14 = .ok (.invokestatic 130, 3) := by decide +kernel
theorem dX12_spot_17 : decode cX12_spot 17 = .ok (.ifCond .ne 7, 3) := by decide +kernel
theorem dX12_spot_20 : decode cX12_spot 20 = .ok (.sipush (-10001), 3) := by decide +kernel
theorem dX12_spot_23 : decode cX12_spot 23 = .ok (.ireturn, 1) := by decide +kernel
theorem dX12_spot_24 : decode cX12_spot 24 = .ok (.iload_n 2, 1) := by decide +kernel
theorem dX12_spot_25 : decode cX12_spot 25 = .ok (.iconst 2, 1) := by decide +kernel
theorem dX12_spot_26 : decode cX12_spot 26 = .ok (.if_icmp .ge 29, 3) := by decide +kernel
theorem dX12_spot_29 : decode cX12_spot 29 = .ok (.iload_n 2, 1) := by decide +kernel
theorem dX12_spot_30 : decode cX12_spot 30 = .ok (.ifCond .ne 11, 3) := by decide +kernel
theorem dX12_spot_33 : decode cX12_spot 33 = .ok (.aload_n 0, 1) := by decide +kernel
theorem dX12_spot_34 : decode cX12_spot 34 = .ok (.iload_n 1, 1) := by decide +kernel
theorem dX12_spot_35 : decode cX12_spot 35 = .ok (.invokevirtual 152, 3) := by decide +kernel
theorem dX12_spot_38 : decode cX12_spot 38 = .ok (.goto 16, 3) := by decide +kernel
theorem dX12_spot_41 : decode cX12_spot 41 = .ok (.aload_n 0, 1) := by decide +kernel
theorem dX12_spot_42 : decode cX12_spot 42 = .ok (.iload_n 1, 1) := by decide +kernel
theorem dX12_spot_43 : decode cX12_spot 43 = .ok (.invokevirtual 161, 3) := by decide +kernel
theorem dX12_spot_46 : decode cX12_spot 46 = .ok (.ifCond .eq 7, 3) := by decide +kernel
theorem dX12_spot_49 : decode cX12_spot 49 = .ok (.iconst 1, 1) := by decide +kernel
theorem dX12_spot_50 : decode cX12_spot 50 = .ok (.goto 4, 3) := by decide +kernel
theorem dX12_spot_53 : decode cX12_spot 53 = .ok (.iconst 0, 1) := by decide +kernel
theorem dX12_spot_54 : decode cX12_spot 54 = .ok (.ireturn, 1) := by decide +kernel
theorem dX12_spot_55 : decode cX12_spot 55 = .ok (.iload_n 2, 1) := by decide +kernel
theorem dX12_spot_56 : decode cX12_spot 56 = .ok (.iconst 2, 1) := by decide +kernel
theorem dX12_spot_57 : decode cX12_spot 57 = .ok (.if_icmp .ne 24, 3) := by decide +kernel
theorem dX12_spot_60 : decode cX12_spot 60 = .ok (.aload_n 0, 1) := by decide +kernel
theorem dX12_spot_61 : decode cX12_spot 61 = .ok (.iload_n 1, 1) := by decide +kernel
theorem dX12_spot_62 : decode cX12_spot 62 = .ok (.invokevirtual 161, 3) := by decide +kernel
theorem dX12_spot_65 : decode cX12_spot 65 = .ok (.ifCond .eq 8, 3) := by decide +kernel
theorem dX12_spot_68 : decode cX12_spot 68 = .ok (.bipush (-4), 2) := by decide +kernel
theorem dX12_spot_70 : decode cX12_spot 70 = .ok (.goto 30, 3) := by decide +kernel
theorem dX12_spot_73 : decode cX12_spot 73 = .ok (.aload_n 0, 1) := by decide +kernel
theorem dX12_spot_74 : decode cX12_spot 74 = .ok (.iload_n 1, 1) := by decide +kernel
theorem dX12_spot_75 : decode cX12_spot 75 = .ok (.invokevirtual 156, 3) := by decide +kernel
theorem dX12_spot_78 : decode cX12_spot 78 = .ok (.goto 22, 3) := by decide +kernel
theorem dX12_spot_81 : decode cX12_spot 81 = .ok (.aload_n 0, 1) := by decide +kernel
theorem dX12_spot_82 : decode cX12_spot 82 = .ok (.iload_n 1, 1) := by decide +kernel
theorem dX12_spot_83 : decode cX12_spot 83 = .ok (.invokevirtual 161, 3) := by decide +kernel
theorem dX12_spot_86 : decode cX12_spot 86 = .ok (.ifCond .eq 9, 3) := by decide +kernel
theorem dX12_spot_89 : decode cX12_spot 89 = .ok (.sipush (-10002), 3) := by decide +kernel
theorem dX12_spot_92 : decode cX12_spot 92 = .ok (.goto 8, 3) := by decide +kernel
theorem dX12_spot_95 : decode cX12_spot 95 = .ok (.aload_n 0, 1) := by decide +kernel
theorem dX12_spot_96 : decode cX12_spot 96 = .ok (.iload_n 1, 1) := by decide +kernel
theorem dX12_spot_97 : decode cX12_spot 97 = .ok (.invokevirtual 164, 3) := by decide +kernel
theorem dX12_spot_100 : decode cX12_spot 100 = .ok (.ireturn, 1) := by decide +kernel
set_option maxRecDepth 20000 in
theorem ggX12_table_X12_isSpot : GoodIn wsX12_table wsX12_isSpot := goodIn_r _ [9, 10, 11, 12, 8, 13, 19, 20, 21, 22, 23, 24, 25, 26, 27, 28, 29, 30, 31, 32, 33, 34, 35, 36, 37, 38, 39, 40, 41, 42, 43, 44, 45, 46, 47, 48, 49, 50, 51, 52, 53, 54, 55, 56, 57, 58, 59] (by decide +kernel) (by decide +kernel)
set_option maxRecDepth 20000 in
theorem gX12_table_X12_isSpot : GoodIn wsX12_table (wsV RX12 136 RX12 yX12_isSpot wsX12_isSpot) := goodIn_app (goodIn_of _ (by decide +kernel)) ggX12_table_X12_isSpot
set_option maxRecDepth 20000 in
theorem ggX12_table_X12_isPart : GoodIn wsX12_table wsX12_isPart := goodIn_r _ [17, 18, 11, 12, 8, 13, 19, 20, 21, 22, 23, 24, 25, 26, 27, 28, 29, 30, 31, 32, 33, 34, 35, 36, 37, 38, 39, 40, 41, 42, 43, 44, 45, 46, 47, 48, 49, 50, 51, 52, 53, 54, 55, 56, 57, 58, 59] (by decide +kernel) (by decide +kernel)
set_option maxRecDepth 20000 in
theorem gX12_table_X12_isPart : GoodIn wsX12_table (wsV RX12 167 RX12 yX12_isPart wsX12_isPart) := goodIn_app (goodIn_of _ (by decide +kernel)) ggX12_table_X12_isPart
set_option maxRecDepth 20000 in
theorem ggX12_table_X12_in : GoodIn wsX12_table wsX12_in := goodIn_r _ [13] (by decide +kernel) (by decide +kernel)
set_option maxRecDepth 20000 in
theorem gX12_table_X12_in : GoodIn wsX12_table (va_wsS RX12 130 yX12_in wsX12_in) := goodIn_app (goodIn_of _ (by decide +kernel)) ggX12_table_X12_in
theorem dX12_table_0 : decode cX12_table 0 = .ok (.aload_n 0, 1) := by decide +kernel
theorem dX12_table_1 : decode cX12_table 1 = .ok (.iload_n 1, 1) := by decide +kernel
theorem dX12_table_2 : decode cX12_table 2 = .ok (.invokevirtual 136, 3) := by decide +kernel
theorem dX12_table_5 : decode cX12_table 5 = .ok (.ifCond .eq 25, 3) := by decide +kernel
theorem dX12_table_8 : decode cX12_table 8 = .ok (.aload_n 0, 1) := by decide +kernel
theorem dX12_table_9 : decode cX12_table 9 = .ok (.iload_n 2, 1) := by decide +kernel
theorem dX12_table_10 : decode cX12_table 10 = .ok (.invokevirtual 167, 3) := by decide +kernel
theorem dX12_table_13 : decode cX12_table 13 = .ok (.ifCond .eq 17, 3) := by decide +kernel
theorem dX12_table_16 : decode cX12_table 16 = .ok (.iload_n 3, 1) := by decide +kernel
theorem dX12_table_17 : decode cX12_table 17 = .ok (.i2l, 1) := by decide +kernel
theorem dX12_table_18 : decode cX12_table 18 = .ok (.ldc2_w 170, 3) := by decide +kernel
theorem dX12_table_21 : decode cX12_table 21 = .ok (.ldc2_w 172, 3) := by decide +kernel
theorem dX12_table_24 : decode cX12_table 24 = .ok (.invokestatic 130, 3) := by decide +kernel
theorem dX12_table_27 : decode cX12_table 27 = .ok (.ifCond .ne 7, 3) := by decide +kernel
theorem dX12_table_30 : decode cX12_table 30 = .ok (.sipush (-10001), 3) := by decide +kernel
theorem dX12_table_33 : decode cX12_table 33 = .ok (.ireturn, 1) := by decide +kernel
theorem dX12_table_34 : decode cX12_table 34 = .ok (.aload_n 0, 1) := by decide +kernel
theorem dX12_table_35 : decode cX12_table 35 = .ok (.getfield 23, 3) := by decide +kernel
theorem dX12_table_38 : decode cX12_table 38 = .ok (.iconst 5, 1) := by decide +kernel
theorem dX12_table_39 : decode cX12_table 39 = .ok (.iload_n 1, 1) := by decide +kernel
theorem dX12_table_40 : decode cX12_table 40 = .ok (.imul, 1) := by decide +kernel
theorem dX12_table_41 : decode cX12_table 41 = .ok (.iload_n 2, 1) := by decide +kernel
theorem dX12_table_42 : decode cX12_table 42 = .ok (.iadd, 1) := by decide +kernel
theorem dX12_table_43 : decode cX12_table 43 = .ok (.iaload, 1) := by decide +kernel
theorem dX12_table_44 : decode cX12_table 44 = .ok (.istore 4, 2) := by decide +kernel
theorem dX12_table_46 : decode cX12_table 46 = .ok (.aload_n 0, 1) := by decide +kernel
theorem dX12_table_47 : decode cX12_table 47 = .ok (.getfield 23, 3) := by decide +kernel
theorem dX12_table_50 : decode cX12_table 50 = .ok (.iconst 5, 1) := by decide +kernel
theorem dX12_table_51 : decode cX12_table 51 = .ok (.iload_n 1, 1) := by decide +kernel
theorem dX12_table_52 : decode cX12_table 52 = .ok (.imul, 1) := by decide +kernel
theorem dX12_table_53 : decode cX12_table 53 = .ok (.iload_n 2, 1) := by decide +kernel
theorem dX12_table_54 : decode cX12_table 54 = .ok (.iadd, 1) := by decide +kernel
theorem dX12_table_55 : decode cX12_table 55 = .ok (.iload_n 3, 1) := by decide +kernel
theorem dX12_table_56 : decode cX12_table 56 = .ok (.iastore, 1) := by decide +kernel
theorem dX12_table_57 : decode cX12_table 57 = .ok (.aload_n 0, 1) := by decide +kernel
theorem dX12_table_58 : decode cX12_table 58 = .ok (.getfield 35, 3) := by decide +kernel
theorem dX12_table_61 : decode cX12_table 61 = .ok (.iload_n 2, 1) := by decide +kernel
theorem dX12_table_62 : decode cX12_table 62 = .ok (.iconst 0, 1) := by decide +kernel
theorem dX12_table_63 : decode cX12_table 63 = .ok (.iastore, 1) := by decide +kernel
theorem dX12_table_64 : decode cX12_table 64 = .ok (.iload 4, 2) := by decide +kernel
theorem dX12_table_66 : decode cX12_table 66 = .ok (.ireturn, 1) := by decide +kernel
theorem dX12_changeOf_0 : decode cX12_changeOf 0 = .ok (.aload_n 0, 1) := by decide +kernel
theorem dX12_changeOf_1 : decode cX12_changeOf 1 = .ok (.getfield 41, 3) := by decide +kernel
theorem dX12_changeOf_4 : decode cX12_changeOf 4 = .ok (.bipush 8, 2) := by decide +kernel
theorem dX12_changeOf_6 : decode cX12_changeOf 6 = .ok (.bipush 9, 2) := by decide +kernel
theorem dX12_changeOf_8 : decode cX12_changeOf 8 = .ok (.iload_n 1, 1) := by decide +kernel
theorem dX12_changeOf_9 : decode cX12_changeOf 9 = .ok (.imul, 1) := by decide +kernel
theorem dX12_changeOf_10 : decode cX12_changeOf 10 = .ok (.iload_n 2, 1) := by decide +kernel
theorem dX12_changeOf_11 : decode cX12_changeOf 11 = .ok (.iadd, 1) := by decide +kernel
theorem dX12_changeOf_12 : decode cX12_changeOf 12 = .ok (.imul, 1) := by decide +kernel
theorem dX12_changeOf_13 : decode cX12_changeOf 13 = .ok (.iload_n 3, 1) := by decide +kernel
theorem dX12_changeOf_14 : decode cX12_changeOf 14 = .ok (.iadd, 1) := by decide +kernel
theorem dX12_changeOf_15 : decode cX12_changeOf 15 = .ok (.iaload, 1) := by decide +kernel
theorem dX12_changeOf_16 : decode cX12_changeOf 16 = .ok (.ireturn, 1) := by decide +kernel
set_option maxRecDepth 20000 in
theorem ggX12_tabulate_X12_changeOf : GoodIn wsX12_tabulate wsX12_changeOf := goodIn_r _ [9, 10, 11, 12, 13, 14, 15, 16, 17, 18, 19, 20, 21, 22, 23, 24, 25, 26, 27, 28, 29, 30, 31, 32, 33, 34, 35, 36, 37, 38, 39, 40, 41, 42, 43, 44, 45, 46, 47, 48, 49, 50, 51] (by decide +kernel) (by decide +kernel)
set_option maxRecDepth 20000 in
theorem gX12_tabulate_X12_changeOf : GoodIn wsX12_tabulate (wsV RX12 174 RX12 yX12_changeOf wsX12_changeOf) := goodIn_app (goodIn_of _ (by decide +kernel)) ggX12_tabulate_X12_changeOf
theorem dX12_tabulate_0 : decode cX12_tabulate 0 = .ok (.iconst 0, 1) := by decide +kernel
theorem dX12_tabulate_1 : decode cX12_tabulate 1 = .ok (.istore_n 2, 1) := by decide +kernel
theorem dX12_tabulate_2 : decode cX12_tabulate 2 = .ok (.iconst 0, 1) := by decide +kernel
theorem dX12_tabulate_3 : decode cX12_tabulate 3 = .ok (.istore_n 3, 1) := by decide +kernel
theorem dX12_tabulate_4 : decode cX12_tabulate 4 = .ok (.iload_n 3, 1) := by decide +kernel
theorem dX12_tabulate_5 : decode cX12_tabulate 5 = .ok (.aload_n 0, 1) := by decide +kernel
theorem dX12_tabulate_6 : decode cX12_tabulate 6 = .ok (.getfield 35, 3) := by decide +kernel
theorem dX12_tabulate_9 : decode cX12_tabulate 9 = .ok (.iload_n 1, 1) := by decide +kernel
theorem dX12_tabulate_10 : decode cX12_tabulate 10 = .ok (.iaload, 1) := by decide +kernel
theorem dX12_tabulate_11 : decode cX12_tabulate 11 = .ok (.if_icmp .ge 23, 3) := by decide +kernel
theorem dX12_tabulate_14 : decode cX12_tabulate 14 = .ok (.iload_n 2, 1) := by decide +kernel
theorem dX12_tabulate_15 : decode cX12_tabulate 15 = .ok (.aload_n 0, 1) := by decide +kernel
theorem dX12_tabulate_16 : decode cX12_tabulate 16 = .ok (.getfield 38, 3) := by decide +kernel
theorem dX12_tabulate_19 : decode cX12_tabulate 19 = .ok (.bipush 9, 2) := by decide +kernel
theorem dX12_tabulate_21 : decode cX12_tabulate 21 = .ok (.iload_n 1, 1) := by decide +kernel
theorem dX12_tabulate_22 : decode cX12_tabulate 22 = .ok (.imul, 1) := by decide +kernel
theorem dX12_tabulate_23 : decode cX12_tabulate 23 = .ok (.iload_n 3, 1) := by decide +kernel
theorem dX12_tabulate_24 : decode cX12_tabulate 24 = .ok (.iadd, 1) := by decide +kernel
theorem dX12_tabulate_25 : decode cX12_tabulate 25 = .ok (.iaload, 1) := by decide +kernel
theorem dX12_tabulate_26 : decode cX12_tabulate 26 = .ok (.iadd, 1) := by decide +kernel
theorem dX12_tabulate_27 : decode cX12_tabulate 27 = .ok (.istore_n 2, 1) := by decide +kernel
theorem dX12_tabulate_28 : decode cX12_tabulate 28 = .ok (.iinc 3 1, 3) := by decide +kernel
theorem dX12_tabulate_31 : decode cX12_tabulate 31 = .ok (.goto (-27), 3) := by decide +kernel
theorem dX12_tabulate_34 : decode cX12_tabulate 34 = .ok (.iconst 0, 1) := by decide +kernel
theorem dX12_tabulate_35 : decode cX12_tabulate 35 = .ok (.istore_n 3, 1) := by decide +kernel
theorem dX12_tabulate_36 : decode cX12_tabulate 36 = .ok (.iload_n 3, 1) := by decide +kernel
theorem dX12_tabulate_37 : decode cX12_tabulate 37 = .ok (.aload_n 0, 1) := by decide +kernel
theorem dX12_tabulate_38 : decode cX12_tabulate 38 = .ok (.getfield 7, 3) := by decide +kernel
theorem dX12_tabulate_41 : decode cX12_tabulate 41 = .ok (.if_icmp .ge 87, 3) := by decide +kernel
theorem dX12_tabulate_44 : decode cX12_tabulate 44 = .ok (.iconst 0, 1) := by decide +kernel
theorem dX12_tabulate_45 : decode cX12_tabulate 45 = .ok (.istore 4, 2) := by decide +kernel
theorem dX12_tabulate_47 : decode cX12_tabulate 47 = .ok (.iconst 0, 1) := by decide +kernel
theorem dX12_tabulate_48 : decode cX12_tabulate 48 = .ok (.istore 5, 2) := by decide +kernel
theorem dX12_tabulate_50 : decode cX12_tabulate 50 = .ok (.iload 5, 2) := by decide +kernel
theorem dX12_tabulate_52 : decode cX12_tabulate 52 = .ok (.aload_n 0, 1) := by decide +kernel
theorem dX12_tabulate_53 : decode cX12_tabulate 53 = .ok (.getfield 35, 3) := by decide +kernel
theorem dX12_tabulate_56 : decode cX12_tabulate 56 = .ok (.iload_n 1, 1) := by decide +kernel
theorem dX12_tabulate_57 : decode cX12_tabulate 57 = .ok (.iaload, 1) := by decide +kernel
theorem dX12_tabulate_58 : decode cX12_tabulate 58 = .ok (.if_icmp .ge 22, 3) := by decide +kernel
theorem dX12_tabulate_61 : decode cX12_tabulate 61 = .ok (.iload 4, 2) := by decide +kernel
theorem dX12_tabulate_63 : decode cX12_tabulate 63 = .ok (.aload_n 0, 1) := by decide +kernel
theorem dX12_tabulate_64 : decode cX12_tabulate 64 = .ok (.iload_n 1, 1) := by decide +kernel
theorem dX12_tabulate_65 : decode cX12_tabulate 65 = .ok (.iload 5, 2) := by decide +kernel
theorem dX12_tabulate_67 : decode cX12_tabulate 67 = .ok (.iload_n 3, 1) := by decide +kernel
theorem dX12_tabulate_68 : decode cX12_tabulate 68 = .ok (.invokevirtual 174, 3) := by decide +kernel
theorem dX12_tabulate_71 : decode cX12_tabulate 71 = .ok (.iadd, 1) := by decide +kernel
theorem dX12_tabulate_72 : decode cX12_tabulate 72 = .ok (.istore 4, 2) := by decide +kernel
theorem dX12_tabulate_74 : decode cX12_tabulate 74 = .ok (.iinc 5 1, 3) := by decide +kernel
theorem dX12_tabulate_77 : decode cX12_tabulate 77 = .ok (.goto (-27), 3) := by decide +kernel
theorem dX12_tabulate_80 : decode cX12_tabulate 80 = .ok (.iload 4, 2) := by decide +kernel
theorem dX12_tabulate_82 : decode cX12_tabulate 82 = .ok (.iload_n 2, 1) := by decide +kernel
theorem dX12_tabulate_83 : decode cX12_tabulate 83 = .ok (.idiv, 1) := by decide +kernel
theorem dX12_tabulate_84 : decode cX12_tabulate 84 = .ok (.istore 5, 2) := by decide +kernel
theorem dX12_tabulate_86 : decode cX12_tabulate 86 = .ok (.aload_n 0, 1) := by decide +kernel
theorem dX12_tabulate_87 : decode cX12_tabulate 87 = .ok (.getfield 23, 3) := by decide +kernel
theorem dX12_tabulate_90 : decode cX12_tabulate 90 = .ok (.iconst 5, 1) := by decide +kernel
theorem dX12_tabulate_91 : decode cX12_tabulate 91 = .ok (.iload_n 3, 1) := by decide +kernel
theorem dX12_tabulate_92 : decode cX12_tabulate 92 = .ok (.imul, 1) := by decide +kernel
theorem dX12_tabulate_93 : decode cX12_tabulate 93 = .ok (.iload_n 1, 1) := by decide +kernel
theorem dX12_tabulate_94 : decode cX12_tabulate 94 = .ok (.iadd, 1) := by decide +kernel
theorem dX12_tabulate_95 : decode cX12_tabulate 95 = .ok (.iload 5, 2) := by decide +kernel
theorem dX12_tabulate_97 : decode cX12_tabulate 97 = .ok (.bipush 9, 2) := by decide +kernel
theorem dX12_tabulate_99 : decode cX12_tabulate 99 = .ok (.if_icmp .le 8, 3) := by decide +kernel
theorem dX12_tabulate_102 : decode cX12_tabulate 102 = .ok (.bipush 9, 2) := by decide +kernel
theorem dX12_tabulate_104 : decode cX12_tabulate 104 = .ok (.goto 17, 3) := by decide +kernel
theorem dX12_tabulate_107 : decode cX12_tabulate 107 = .ok (.iload 5, 2) := by decide +kernel
theorem dX12_tabulate_109 : decode cX12_tabulate 109 = .ok (.bipush (-9), 2) := by decide +kernel
theorem dX12_tabulate_111 : decode cX12_tabulate 111 = .ok (.if_icmp .ge 8, 3) := by decide +kernel
theorem dX12_tabulate_114 : decode cX12_tabulate 114 = .ok (.bipush (-9), 2) := by decide +kernel
theorem dX12_tabulate_116 : decode cX12_tabulate 116 = .ok (.goto 5, 3) := by decide +kernel
theorem dX12_tabulate_119 : decode cX12_tabulate 119 = .ok (.iload 5, 2) := by decide +kernel
theorem dX12_tabulate_121 : decode cX12_tabulate 121 = .ok (.iastore, 1) := by decide +kernel
theorem dX12_tabulate_122 : decode cX12_tabulate 122 = .ok (.iinc 3 1, 3) := by decide +kernel
theorem dX12_tabulate_125 : decode cX12_tabulate 125 = .ok (.goto (-89), 3) := by decide +kernel
theorem dX12_tabulate_128 : decode cX12_tabulate 128 = .ok (.return_, 1) := by decide +kernel
set_option maxRecDepth 20000 in
theorem ggX12_poke_X12_isPart : GoodIn wsX12_poke wsX12_isPart := goodIn_r _ [13, 14, 15, 16, 12, 17, 38, 39, 40, 41, 42, 43, 44, 45, 46, 47, 48, 49, 50, 51, 52, 53, 54, 55, 56, 57, 58, 59, 60, 61, 62, 63, 64, 65, 66, 67, 68, 69, 70, 71, 72, 73, 74, 75, 76, 77, 78] (by decide +kernel) (by decide +kernel)
set_option maxRecDepth 20000 in
theorem gX12_poke_X12_isPart : GoodIn wsX12_poke (wsV RX12 167 RX12 yX12_isPart wsX12_isPart) := goodIn_app (goodIn_of _ (by decide +kernel)) ggX12_poke_X12_isPart
set_option maxRecDepth 20000 in
theorem ggX12_poke_X12_in : GoodIn wsX12_poke wsX12_in := goodIn_r _ [17] (by decide +kernel) (by decide +kernel)
set_option maxRecDepth 20000 in
theorem gX12_poke_X12_in : GoodIn wsX12_poke (va_wsS RX12 130 yX12_in wsX12_in) := goodIn_app (goodIn_of _ (by decide +kernel)) ggX12_poke_X12_in
set_option maxRecDepth 20000 in
theorem ggX12_poke_X12_isSheet : GoodIn wsX12_poke wsX12_isSheet := goodIn_r _ [20, 21, 22, 15, 16, 12, 17] (by decide +kernel) (by decide +kernel)
set_option maxRecDepth 20000 in
theorem gX12_poke_X12_isSheet : GoodIn wsX12_poke (va_wsS RX12 180 yX12_isSheet wsX12_isSheet) := goodIn_app (goodIn_of _ (by decide +kernel)) ggX12_poke_X12_isSheet
set_option maxRecDepth 20000 in
theorem ggX12_poke_X12_against : GoodIn wsX12_poke wsX12_against := goodIn_r _ [26, 27, 28, 15, 16, 12, 17, 38, 39, 40, 41, 42, 43, 44, 45, 46, 47, 48, 49, 50, 51, 52, 53, 54, 55, 56, 57, 58, 59, 60, 61, 62, 63, 64, 65, 66, 67, 68, 69, 70, 71, 72, 73, 74, 75, 76, 77, 78] (by decide +kernel) (by decide +kernel)
set_option maxRecDepth 20000 in
theorem gX12_poke_X12_against : GoodIn wsX12_poke (wsV RX12 184 RX12 yX12_against wsX12_against) := goodIn_app (goodIn_of _ (by decide +kernel)) ggX12_poke_X12_against
set_option maxRecDepth 20000 in
theorem ggX12_poke_X12_tabulate : GoodIn wsX12_poke wsX12_tabulate := goodIn_r _ [32, 6, 7, 2, 33, 34, 35, 36, 12, 37, 8, 38, 39, 40, 41, 42, 43, 44, 45, 46, 47, 48, 49, 50, 51, 52, 53, 54, 55, 56, 57, 58, 59, 60, 61, 62, 63, 64, 65, 66, 67, 68, 69, 70, 71, 72, 73, 74, 75, 76, 77, 78] (by decide +kernel) (by decide +kernel)
set_option maxRecDepth 20000 in
theorem gX12_poke_X12_tabulate : GoodIn wsX12_poke (wsV RX12 192 RX12 yX12_tabulate wsX12_tabulate) := goodIn_app (goodIn_of _ (by decide +kernel)) ggX12_poke_X12_tabulate
theorem dX12_poke_0 : decode cX12_poke 0 = .ok (.aload_n 0, 1) := by decide +kernel
theorem dX12_poke_1 : decode cX12_poke 1 = .ok (.iload_n 1, 1) := by decide +kernel
theorem dX12_poke_2 : decode cX12_poke 2 = .ok (.invokevirtual 167, 3) := by decide +kernel
theorem dX12_poke_5 : decode cX12_poke 5 = .ok (.ifCond .eq 24, 3) := by decide +kernel
theorem dX12_poke_8 : decode cX12_poke 8 = .ok (.iload_n 2, 1) := by decide +kernel
theorem dX12_poke_9 : decode cX12_poke 9 = .ok (.i2l, 1) := by decide +kernel
theorem dX12_poke_10 : decode cX12_poke 10 = .ok (.lconst 1, 1) := by decide +kernel
theorem dX12_poke_11 : decode cX12_poke 11 = .ok (.ldc2_w 178, 3) := by decide +kernel
theorem dX12_poke_14 : decode cX12_poke 14 = .ok (.invokestatic 130, 3) := by decide +kernel
theorem dX12_poke_17 : decode cX12_poke 17 = .ok (.ifCond .eq 12, 3) := by decide +kernel
theorem dX12_poke_20 : decode cX12_poke 20 = .ok (.iload_n 3, 1) := by decide +kernel
theorem dX12_poke_21 : decode cX12_poke 21 = .ok (.iload 4, 2) := by decide +kernel
theorem dX12_poke_23 : decode cX12_poke 23 = .ok (.invokestatic 180, 3) := by decide +kernel
theorem dX12_poke_26 : decode cX12_poke 26 = .ok (.ifCond .ne 5, 3) := by decide +kernel
theorem dX12_poke_29 : decode cX12_poke 29 = .ok (.iconst (-1), 1) := by decide +kernel
theorem dX12_poke_30 : decode cX12_poke 30 = .ok (.ireturn, 1) := by decide +kernel
theorem dX12_poke_31 : decode cX12_poke 31 = .ok (.aload_n 0, 1) := by decide +kernel
theorem dX12_poke_32 : decode cX12_poke 32 = .ok (.iload_n 3, 1) := by decide +kernel
theorem dX12_poke_33 : decode cX12_poke 33 = .ok (.iload 4, 2) := by decide +kernel
theorem dX12_poke_35 : decode cX12_poke 35 = .ok (.iload 5, 2) := by decide +kernel
theorem dX12_poke_37 : decode cX12_poke 37 = .ok (.aload_n 0, 1) := by decide +kernel
theorem dX12_poke_38 : decode cX12_poke 38 = .ok (.getfield 7, 3) := by decide +kernel
theorem dX12_poke_41 : decode cX12_poke 41 = .ok (.invokevirtual 184, 3) := by decide +kernel
theorem dX12_poke_44 : decode cX12_poke 44 = .ok (.istore 6, 2) := by decide +kernel
theorem dX12_poke_46 : decode cX12_poke 46 = .ok (.iload 6, 2) := by decide +kernel
theorem dX12_poke_48 : decode cX12_poke 48 = .ok (.ifCond .ge 6, 3) := by decide +kernel
theorem dX12_poke_51 : decode cX12_poke 51 = .ok (.iload 6, 2) := by decide +kernel
theorem dX12_poke_53 : decode cX12_poke 53 = .ok (.ireturn, 1) := by decide +kernel
theorem dX12_poke_54 : decode cX12_poke 54 = .ok (.bipush 40, 2) := by decide +kernel
theorem dX12_poke_56 : decode cX12_poke 56 = .ok (.iload_n 3, 1) := by decide +kernel
theorem dX12_poke_57 : decode cX12_poke 57 = .ok (.imul, 1) := by decide +kernel
theorem dX12_poke_58 : decode cX12_poke 58 = .ok (.iload 5, 2) := by decide +kernel
theorem dX12_poke_60 : decode cX12_poke 60 = .ok (.iadd, 1) := by decide +kernel
theorem dX12_poke_61 : decode cX12_poke 61 = .ok (.istore 7, 2) := by decide +kernel
theorem dX12_poke_63 : decode cX12_poke 63 = .ok (.iconst 0, 1) := by decide +kernel
theorem dX12_poke_64 : decode cX12_poke 64 = .ok (.istore 8, 2) := by decide +kernel
theorem dX12_poke_66 : decode cX12_poke 66 = .ok (.iload 8, 2) := by decide +kernel
theorem dX12_poke_68 : decode cX12_poke 68 = .ok (.aload_n 0, 1) := by decide +kernel
theorem dX12_poke_69 : decode cX12_poke 69 = .ok (.getfield 7, 3) := by decide +kernel
theorem dX12_poke_72 : decode cX12_poke 72 = .ok (.if_icmp .ge 35, 3) := by decide +kernel
theorem dX12_poke_75 : decode cX12_poke 75 = .ok (.aload_n 0, 1) := by decide +kernel
theorem dX12_poke_76 : decode cX12_poke 76 = .ok (.getfield 106, 3) := by decide +kernel
theorem dX12_poke_79 : decode cX12_poke 79 = .ok (.iload 7, 2) := by decide +kernel
theorem dX12_poke_81 : decode cX12_poke 81 = .ok (.iload 8, 2) := by decide +kernel
theorem dX12_poke_83 : decode cX12_poke 83 = .ok (.iadd, 1) := by decide +kernel
theorem dX12_poke_84 : decode cX12_poke 84 = .ok (.iaload, 1) := by decide +kernel
theorem dX12_poke_85 : decode cX12_poke 85 = .ok (.i2l, 1) := by decide +kernel
theorem dX12_poke_86 : decode cX12_poke 86 = .ok (.ldc2_w 188, 3) := by decide +kernel
theorem dX12_poke_89 : decode cX12_poke 89 = .ok (.ldc2_w 190, 3) := by decide +kernel
theorem dX12_poke_92 : decode cX12_poke 92 = .ok (.invokestatic 130, 3) := by decide +kernel
theorem dX12_poke_95 : decode cX12_poke 95 = .ok (.ifCond .ne 6, 3) := by decide +kernel
theorem dX12_poke_98 : decode cX12_poke 98 = .ok (.bipush (-2), 2) := by decide +kernel
theorem dX12_poke_100 : decode cX12_poke 100 = .ok (.ireturn, 1) := by decide +kernel
theorem dX12_poke_101 : decode cX12_poke 101 = .ok (.iinc 8 1, 3) := by decide +kernel
theorem dX12_poke_104 : decode cX12_poke 104 = .ok (.goto (-38), 3) := by decide +kernel
theorem dX12_poke_107 : decode cX12_poke 107 = .ok (.aload_n 0, 1) := by decide +kernel
theorem dX12_poke_108 : decode cX12_poke 108 = .ok (.getfield 35, 3) := by decide +kernel
theorem dX12_poke_111 : decode cX12_poke 111 = .ok (.iload_n 1, 1) := by decide +kernel
theorem dX12_poke_112 : decode cX12_poke 112 = .ok (.iaload, 1) := by decide +kernel
theorem dX12_poke_113 : decode cX12_poke 113 = .ok (.bipush 9, 2) := by decide +kernel
theorem dX12_poke_115 : decode cX12_poke 115 = .ok (.if_icmp .ne 6, 3) := by decide +kernel
theorem dX12_poke_118 : decode cX12_poke 118 = .ok (.bipush (-3), 2) := by decide +kernel
theorem dX12_poke_120 : decode cX12_poke 120 = .ok (.ireturn, 1) := by decide +kernel
theorem dX12_poke_121 : decode cX12_poke 121 = .ok (.bipush 9, 2) := by decide +kernel
theorem dX12_poke_123 : decode cX12_poke 123 = .ok (.iload_n 1, 1) := by decide +kernel
theorem dX12_poke_124 : decode cX12_poke 124 = .ok (.imul, 1) := by decide +kernel
theorem dX12_poke_125 : decode cX12_poke 125 = .ok (.aload_n 0, 1) := by decide +kernel
theorem dX12_poke_126 : decode cX12_poke 126 = .ok (.getfield 35, 3) := by decide +kernel
theorem dX12_poke_129 : decode cX12_poke 129 = .ok (.iload_n 1, 1) := by decide +kernel
theorem dX12_poke_130 : decode cX12_poke 130 = .ok (.iaload, 1) := by decide +kernel
theorem dX12_poke_131 : decode cX12_poke 131 = .ok (.iadd, 1) := by decide +kernel
theorem dX12_poke_132 : decode cX12_poke 132 = .ok (.istore 8, 2) := by decide +kernel
theorem dX12_poke_134 : decode cX12_poke 134 = .ok (.aload_n 0, 1) := by decide +kernel
theorem dX12_poke_135 : decode cX12_poke 135 = .ok (.getfield 38, 3) := by decide +kernel
theorem dX12_poke_138 : decode cX12_poke 138 = .ok (.iload 8, 2) := by decide +kernel
theorem dX12_poke_140 : decode cX12_poke 140 = .ok (.iload_n 2, 1) := by decide +kernel
theorem dX12_poke_141 : decode cX12_poke 141 = .ok (.iastore, 1) := by decide +kernel
theorem dX12_poke_142 : decode cX12_poke 142 = .ok (.iconst 0, 1) := by decide +kernel
theorem dX12_poke_143 : decode cX12_poke 143 = .ok (.istore 9, 2) := by decide +kernel
theorem dX12_poke_145 : decode cX12_poke 145 = .ok (.iload 9, 2) := by decide +kernel
theorem dX12_poke_147 : decode cX12_poke 147 = .ok (.aload_n 0, 1) := by decide +kernel
theorem dX12_poke_148 : decode cX12_poke 148 = .ok (.getfield 7, 3) := by decide +kernel
theorem dX12_poke_151 : decode cX12_poke 151 = .ok (.if_icmp .ge 32, 3) := by decide +kernel
theorem dX12_poke_154 : decode cX12_poke 154 = .ok (.aload_n 0, 1) := by decide +kernel
theorem dX12_poke_155 : decode cX12_poke 155 = .ok (.getfield 41, 3) := by decide +kernel
theorem dX12_poke_158 : decode cX12_poke 158 = .ok (.bipush 8, 2) := by decide +kernel
theorem dX12_poke_160 : decode cX12_poke 160 = .ok (.iload 8, 2) := by decide +kernel
theorem dX12_poke_162 : decode cX12_poke 162 = .ok (.imul, 1) := by decide +kernel
theorem dX12_poke_163 : decode cX12_poke 163 = .ok (.iload 9, 2) := by decide +kernel
theorem dX12_poke_165 : decode cX12_poke 165 = .ok (.iadd, 1) := by decide +kernel
theorem dX12_poke_166 : decode cX12_poke 166 = .ok (.aload_n 0, 1) := by decide +kernel
theorem dX12_poke_167 : decode cX12_poke 167 = .ok (.getfield 106, 3) := by decide +kernel
theorem dX12_poke_170 : decode cX12_poke 170 = .ok (.iload 7, 2) := by decide +kernel
theorem dX12_poke_172 : decode cX12_poke 172 = .ok (.iload 9, 2) := by decide +kernel
theorem dX12_poke_174 : decode cX12_poke 174 = .ok (.iadd, 1) := by decide +kernel

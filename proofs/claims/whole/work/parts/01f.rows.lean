theorem dX11_light_12 : decode cX11_light 12 = .ok (.invokestatic 86, 3) := by decide +kernel
theorem dX11_light_15 : decode cX11_light 15 = .ok (.ifCond .eq 14, 3) := by decide +kernel
theorem dX11_light_18 : decode cX11_light 18 = .ok (.iload_n 3, 1) := by decide +kernel
theorem dX11_light_19 : decode cX11_light 19 = .ok (.iconst 0, 1) := by decide +kernel
theorem dX11_light_20 : decode cX11_light 20 = .ok (.sipush 255, 3) := by decide +kernel
theorem dX11_light_23 : decode cX11_light 23 = .ok (.invokestatic 86, 3) := by decide +kernel
theorem dX11_light_26 : decode cX11_light 26 = .ok (.ifCond .ne 5, 3) := by decide +kernel
theorem dX11_light_29 : decode cX11_light 29 = .ok (.iconst (-1), 1) := by decide +kernel
theorem dX11_light_30 : decode cX11_light 30 = .ok (.ireturn, 1) := by decide +kernel
theorem dX11_light_31 : decode cX11_light 31 = .ok (.aload_n 0, 1) := by decide +kernel
theorem dX11_light_32 : decode cX11_light 32 = .ok (.getfield 26, 3) := by decide +kernel
theorem dX11_light_35 : decode cX11_light 35 = .ok (.iload_n 1, 1) := by decide +kernel
theorem dX11_light_36 : decode cX11_light 36 = .ok (.iload_n 2, 1) := by decide +kernel
theorem dX11_light_37 : decode cX11_light 37 = .ok (.iload_n 3, 1) := by decide +kernel
theorem dX11_light_38 : decode cX11_light 38 = .ok (.invokevirtual 103, 3) := by decide +kernel
theorem dX11_light_41 : decode cX11_light 41 = .ok (.ireturn, 1) := by decide +kernel
set_option maxRecDepth 20000 in
theorem ggX11_board_X11_isSpot : GoodIn wsX11_board wsX11_isSpot := goodIn_r _ [7, 2, 8, 9, 10, 11, 12, 13, 14, 15, 6, 16, 47, 48, 49, 50, 51, 52, 53, 54, 55, 56, 57, 58, 59, 60, 61, 62, 63, 64] (by decide +kernel) (by decide +kernel)
set_option maxRecDepth 20000 in
theorem gX11_board_X11_isSpot : GoodIn wsX11_board (wsV RX11 99 RX11 yX11_isSpot wsX11_isSpot) := goodIn_app (goodIn_of _ (by decide +kernel)) ggX11_board_X11_isSpot
set_option maxRecDepth 20000 in
theorem ggX11_board_X8_refusal : GoodIn wsX11_board wsX8_refusal := goodIn_r _ [21, 22, 23, 24, 6, 25, 14, 15, 16, 26, 27, 28, 29, 30, 20, 31, 65, 66, 67] (by decide +kernel) (by decide +kernel)
set_option maxRecDepth 20000 in
theorem gX11_board_X8_refusal : GoodIn wsX11_board (wsV RX11 107 RX8 yX8_refusal wsX8_refusal) := goodIn_app (goodIn_of _ (by decide +kernel)) ggX11_board_X8_refusal
set_option maxRecDepth 20000 in
theorem ggX11_board_X8_allWithin : GoodIn wsX11_board wsX8_allWithin := goodIn_r _ [35, 36, 37, 38, 20, 39, 40, 15, 6, 16, 65, 66, 67] (by decide +kernel) (by decide +kernel)
set_option maxRecDepth 20000 in
theorem gX11_board_X8_allWithin : GoodIn wsX11_board (wsV RX11 111 RX8 yX8_allWithin wsX8_allWithin) := goodIn_app (goodIn_of _ (by decide +kernel)) ggX11_board_X8_allWithin
set_option maxRecDepth 20000 in
theorem ggX11_board_X8_at : GoodIn wsX11_board wsX8_at := goodIn_r _ [39, 40, 65, 66, 67] (by decide +kernel) (by decide +kernel)
set_option maxRecDepth 20000 in
theorem gX11_board_X8_at : GoodIn wsX11_board (wsV RX11 115 RX8 yX8_at wsX8_at) := goodIn_app (goodIn_of _ (by decide +kernel)) ggX11_board_X8_at
set_option maxRecDepth 20000 in
theorem ggX11_board_X9_swapLight : GoodIn wsX11_board wsX9_swapLight := goodIn_r _ [45, 46, 58, 59, 60, 61, 62, 63, 64] (by decide +kernel) (by decide +kernel)
set_option maxRecDepth 20000 in
theorem gX11_board_X9_swapLight : GoodIn wsX11_board (wsV RX11 103 RX9 yX9_swapLight wsX9_swapLight) := goodIn_app (goodIn_of _ (by decide +kernel)) ggX11_board_X9_swapLight
theorem dX11_board_0 : decode cX11_board 0 = .ok (.aload_n 0, 1) := by decide +kernel
theorem dX11_board_1 : decode cX11_board 1 = .ok (.iload_n 1, 1) := by decide +kernel
theorem dX11_board_2 : decode cX11_board 2 = .ok (.invokevirtual 99, 3) := by decide +kernel
theorem dX11_board_5 : decode cX11_board 5 = .ok (.ifCond .ne 5, 3) := by decide +kernel
theorem dX11_board_8 : decode cX11_board 8 = .ok (.iconst (-1), 1) := by decide +kernel
theorem dX11_board_9 : decode cX11_board 9 = .ok (.ireturn, 1) := by decide +kernel
theorem dX11_board_10 : decode cX11_board 10 = .ok (.aload_n 0, 1) := by decide +kernel
theorem dX11_board_11 : decode cX11_board 11 = .ok (.getfield 19, 3) := by decide +kernel
theorem dX11_board_14 : decode cX11_board 14 = .ok (.iload_n 2, 1) := by decide +kernel
theorem dX11_board_15 : decode cX11_board 15 = .ok (.iload_n 3, 1) := by decide +kernel
theorem dX11_board_16 : decode cX11_board 16 = .ok (.iload 4, 2) := by decide +kernel
theorem dX11_board_18 : decode cX11_board 18 = .ok (.bipush 16, 2) := by decide +kernel
theorem dX11_board_20 : decode cX11_board 20 = .ok (.invokevirtual 107, 3) := by decide +kernel
theorem dX11_board_23 : decode cX11_board 23 = .ok (.istore 5, 2) := by decide +kernel
theorem dX11_board_25 : decode cX11_board 25 = .ok (.iload 5, 2) := by decide +kernel
theorem dX11_board_27 : decode cX11_board 27 = .ok (.ifCond .eq 6, 3) := by decide +kernel
theorem dX11_board_30 : decode cX11_board 30 = .ok (.iload 5, 2) := by decide +kernel
theorem dX11_board_32 : decode cX11_board 32 = .ok (.ireturn, 1) := by decide +kernel
theorem dX11_board_33 : decode cX11_board 33 = .ok (.iload_n 3, 1) := by decide +kernel
theorem dX11_board_34 : decode cX11_board 34 = .ok (.ifCond .eq 25, 3) := by decide +kernel
theorem dX11_board_37 : decode cX11_board 37 = .ok (.aload_n 0, 1) := by decide +kernel
theorem dX11_board_38 : decode cX11_board 38 = .ok (.getfield 19, 3) := by decide +kernel
theorem dX11_board_41 : decode cX11_board 41 = .ok (.iload_n 2, 1) := by decide +kernel
theorem dX11_board_42 : decode cX11_board 42 = .ok (.iload 4, 2) := by decide +kernel
theorem dX11_board_44 : decode cX11_board 44 = .ok (.bipush 16, 2) := by decide +kernel
theorem dX11_board_46 : decode cX11_board 46 = .ok (.iconst 0, 1) := by decide +kernel
theorem dX11_board_47 : decode cX11_board 47 = .ok (.sipush 255, 3) := by decide +kernel
theorem dX11_board_50 : decode cX11_board 50 = .ok (.invokevirtual 111, 3) := by decide +kernel
theorem dX11_board_53 : decode cX11_board 53 = .ok (.ifCond .ne 6, 3) := by decide +kernel
theorem dX11_board_56 : decode cX11_board 56 = .ok (.bipush (-2), 2) := by decide +kernel
theorem dX11_board_58 : decode cX11_board 58 = .ok (.ireturn, 1) := by decide +kernel
theorem dX11_board_59 : decode cX11_board 59 = .ok (.iconst 0, 1) := by decide +kernel
theorem dX11_board_60 : decode cX11_board 60 = .ok (.istore 6, 2) := by decide +kernel
theorem dX11_board_62 : decode cX11_board 62 = .ok (.iload 6, 2) := by decide +kernel
theorem dX11_board_64 : decode cX11_board 64 = .ok (.bipush 16, 2) := by decide +kernel
theorem dX11_board_66 : decode cX11_board 66 = .ok (.if_icmp .ge 37, 3) := by decide +kernel
theorem dX11_board_69 : decode cX11_board 69 = .ok (.aload_n 0, 1) := by decide +kernel
theorem dX11_board_70 : decode cX11_board 70 = .ok (.getfield 26, 3) := by decide +kernel
theorem dX11_board_73 : decode cX11_board 73 = .ok (.iload_n 1, 1) := by decide +kernel
theorem dX11_board_74 : decode cX11_board 74 = .ok (.iload 6, 2) := by decide +kernel
theorem dX11_board_76 : decode cX11_board 76 = .ok (.aload_n 0, 1) := by decide +kernel
theorem dX11_board_77 : decode cX11_board 77 = .ok (.getfield 19, 3) := by decide +kernel
theorem dX11_board_80 : decode cX11_board 80 = .ok (.iload_n 2, 1) := by decide +kernel
theorem dX11_board_81 : decode cX11_board 81 = .ok (.iload 4, 2) := by decide +kernel
theorem dX11_board_83 : decode cX11_board 83 = .ok (.iload 6, 2) := by decide +kernel
theorem dX11_board_85 : decode cX11_board 85 = .ok (.iadd, 1) := by decide +kernel
theorem dX11_board_86 : decode cX11_board 86 = .ok (.invokevirtual 115, 3) := by decide +kernel
theorem dX11_board_89 : decode cX11_board 89 = .ok (.sipush 255, 3) := by decide +kernel
theorem dX11_board_92 : decode cX11_board 92 = .ok (.iand, 1) := by decide +kernel
theorem dX11_board_93 : decode cX11_board 93 = .ok (.invokevirtual 103, 3) := by decide +kernel
theorem dX11_board_96 : decode cX11_board 96 = .ok (.pop, 1) := by decide +kernel
theorem dX11_board_97 : decode cX11_board 97 = .ok (.iinc 6 1, 3) := by decide +kernel
theorem dX11_board_100 : decode cX11_board 100 = .ok (.goto (-38), 3) := by decide +kernel
theorem dX11_board_103 : decode cX11_board 103 = .ok (.iconst 1, 1) := by decide +kernel
theorem dX11_board_104 : decode cX11_board 104 = .ok (.ireturn, 1) := by decide +kernel
set_option maxRecDepth 20000 in
theorem ggX11_set_X7_takes : GoodIn wsX11_set wsX7_takes := goodIn_r _ [6, 7, 8, 9, 10, 11] (by decide +kernel) (by decide +kernel)
set_option maxRecDepth 20000 in
theorem gX11_set_X7_takes : GoodIn wsX11_set (wsV RX11 119 RX7 yX7_takes wsX7_takes) := goodIn_app (goodIn_of _ (by decide +kernel)) ggX11_set_X7_takes
set_option maxRecDepth 20000 in
theorem ggX11_set_X7_swap : GoodIn wsX11_set wsX7_swap := goodIn_r _ [15, 16, 28] (by decide +kernel) (by decide +kernel)
set_option maxRecDepth 20000 in
theorem gX11_set_X7_swap : GoodIn wsX11_set (wsV RX11 123 RX7 yX7_swap wsX7_swap) := goodIn_app (goodIn_of _ (by decide +kernel)) ggX11_set_X7_swap
theorem dX11_set_0 : decode cX11_set 0 = .ok (.aload_n 0, 1) := by decide +kernel
theorem dX11_set_1 : decode cX11_set 1 = .ok (.getfield 10, 3) := by decide +kernel
theorem dX11_set_4 : decode cX11_set 4 = .ok (.iload_n 1, 1) := by decide +kernel
theorem dX11_set_5 : decode cX11_set 5 = .ok (.iload_n 2, 1) := by decide +kernel
theorem dX11_set_6 : decode cX11_set 6 = .ok (.invokevirtual 119, 3) := by decide +kernel
theorem dX11_set_9 : decode cX11_set 9 = .ok (.ifCond .ne 7, 3) := by decide +kernel
theorem dX11_set_12 : decode cX11_set 12 = .ok (.sipush (-10001), 3) := by decide +kernel
theorem dX11_set_15 : decode cX11_set 15 = .ok (.ireturn, 1) := by decide +kernel
theorem dX11_set_16 : decode cX11_set 16 = .ok (.aload_n 0, 1) := by decide +kernel
theorem dX11_set_17 : decode cX11_set 17 = .ok (.getfield 10, 3) := by decide +kernel
theorem dX11_set_20 : decode cX11_set 20 = .ok (.iload_n 1, 1) := by decide +kernel
theorem dX11_set_21 : decode cX11_set 21 = .ok (.iload_n 2, 1) := by decide +kernel
theorem dX11_set_22 : decode cX11_set 22 = .ok (.invokevirtual 123, 3) := by decide +kernel
theorem dX11_set_25 : decode cX11_set 25 = .ok (.ireturn, 1) := by decide +kernel
set_option maxRecDepth 20000 in
theorem ggX11_rest_X11_isSpot : GoodIn wsX11_rest wsX11_isSpot := goodIn_r _ [6, 1, 7, 8, 9, 10, 11, 12, 13, 14, 5, 15, 21, 22, 23, 24, 25, 26, 27, 28, 29, 30, 31, 32, 33, 34, 35, 36, 37, 38] (by decide +kernel) (by decide +kernel)
set_option maxRecDepth 20000 in
theorem gX11_rest_X11_isSpot : GoodIn wsX11_rest (wsV RX11 99 RX11 yX11_isSpot wsX11_isSpot) := goodIn_app (goodIn_of _ (by decide +kernel)) ggX11_rest_X11_isSpot
set_option maxRecDepth 20000 in
theorem ggX11_rest_X11_within : GoodIn wsX11_rest wsX11_within := goodIn_r _ [15] (by decide +kernel) (by decide +kernel)
set_option maxRecDepth 20000 in
theorem gX11_rest_X11_within : GoodIn wsX11_rest (va_wsS RX11 86 yX11_within wsX11_within) := goodIn_app (goodIn_of _ (by decide +kernel)) ggX11_rest_X11_within
set_option maxRecDepth 20000 in
theorem ggX11_rest_X9_swapRest : GoodIn wsX11_rest wsX9_swapRest := goodIn_r _ [19, 20, 32, 33, 34, 35, 36, 37, 38] (by decide +kernel) (by decide +kernel)
set_option maxRecDepth 20000 in
theorem gX11_rest_X9_swapRest : GoodIn wsX11_rest (wsV RX11 126 RX9 yX9_swapRest wsX9_swapRest) := goodIn_app (goodIn_of _ (by decide +kernel)) ggX11_rest_X9_swapRest
theorem dX11_rest_0 : decode cX11_rest 0 = .ok (.aload_n 0, 1) := by decide +kernel
theorem dX11_rest_1 : decode cX11_rest 1 = .ok (.iload_n 1, 1) := by decide +kernel
theorem dX11_rest_2 : decode cX11_rest 2 = .ok (.invokevirtual 99, 3) := by decide +kernel
theorem dX11_rest_5 : decode cX11_rest 5 = .ok (.ifCond .eq 14, 3) := by decide +kernel
theorem dX11_rest_8 : decode cX11_rest 8 = .ok (.iload_n 2, 1) := by decide +kernel
theorem dX11_rest_9 : decode cX11_rest 9 = .ok (.iconst 0, 1) := by decide +kernel
theorem dX11_rest_10 : decode cX11_rest 10 = .ok (.sipush 3000, 3) := by decide +kernel
theorem dX11_rest_13 : decode cX11_rest 13 = .ok (.invokestatic 86, 3) := by decide +kernel
theorem dX11_rest_16 : decode cX11_rest 16 = .ok (.ifCond .ne 5, 3) := by decide +kernel
theorem dX11_rest_19 : decode cX11_rest 19 = .ok (.iconst (-1), 1) := by decide +kernel
theorem dX11_rest_20 : decode cX11_rest 20 = .ok (.ireturn, 1) := by decide +kernel
theorem dX11_rest_21 : decode cX11_rest 21 = .ok (.aload_n 0, 1) := by decide +kernel
theorem dX11_rest_22 : decode cX11_rest 22 = .ok (.getfield 26, 3) := by decide +kernel
theorem dX11_rest_25 : decode cX11_rest 25 = .ok (.iload_n 1, 1) := by decide +kernel
theorem dX11_rest_26 : decode cX11_rest 26 = .ok (.iload_n 2, 1) := by decide +kernel
theorem dX11_rest_27 : decode cX11_rest 27 = .ok (.invokevirtual 126, 3) := by decide +kernel
theorem dX11_rest_30 : decode cX11_rest 30 = .ok (.ireturn, 1) := by decide +kernel
set_option maxRecDepth 20000 in
theorem ggX11_spot_X11_isSpot : GoodIn wsX11_spot wsX11_isSpot := goodIn_r _ [7, 1, 8, 9, 10, 11, 12, 13, 14, 15, 6, 16, 59, 60, 61, 62, 63, 64, 65, 66, 67, 68, 69, 70, 71, 72, 73, 74, 75, 76] (by decide +kernel) (by decide +kernel)
set_option maxRecDepth 20000 in
theorem gX11_spot_X11_isSpot : GoodIn wsX11_spot (wsV RX11 99 RX11 yX11_isSpot wsX11_isSpot) := goodIn_app (goodIn_of _ (by decide +kernel)) ggX11_spot_X11_isSpot
set_option maxRecDepth 20000 in
theorem ggX11_spot_X11_within : GoodIn wsX11_spot wsX11_within := goodIn_r _ [16] (by decide +kernel) (by decide +kernel)
set_option maxRecDepth 20000 in
theorem gX11_spot_X11_within : GoodIn wsX11_spot (va_wsS RX11 86 yX11_within wsX11_within) := goodIn_app (goodIn_of _ (by decide +kernel)) ggX11_spot_X11_within
set_option maxRecDepth 20000 in
theorem ggX11_spot_X7_get : GoodIn wsX11_spot wsX7_get := goodIn_r _ [21, 22, 77] (by decide +kernel) (by decide +kernel)
set_option maxRecDepth 20000 in
theorem gX11_spot_X7_get : GoodIn wsX11_spot (wsV RX11 129 RX7 yX7_get wsX7_get) := goodIn_app (goodIn_of _ (by decide +kernel)) ggX11_spot_X7_get
set_option maxRecDepth 20000 in
theorem ggX11_spot_X9_measure : GoodIn wsX11_spot wsX9_measure := goodIn_r _ [26, 27, 13, 28, 29, 30, 31, 32, 11, 33, 34, 35, 36, 37, 38, 39, 40, 6, 41, 70, 71, 72, 73, 74, 75, 76] (by decide +kernel) (by decide +kernel)
set_option maxRecDepth 20000 in
theorem gX11_spot_X9_measure : GoodIn wsX11_spot (wsV RX11 133 RX9 yX9_measure wsX9_measure) := goodIn_app (goodIn_of _ (by decide +kernel)) ggX11_spot_X9_measure
set_option maxRecDepth 20000 in
theorem ggX11_spot_X9_isLost : GoodIn wsX11_spot wsX9_isLost := goodIn_r _ [45, 28, 70, 71, 72, 73, 74, 75, 76] (by decide +kernel) (by decide +kernel)
set_option maxRecDepth 20000 in
theorem gX11_spot_X9_isLost : GoodIn wsX11_spot (wsV RX11 137 RX9 yX9_isLost wsX9_isLost) := goodIn_app (goodIn_of _ (by decide +kernel)) ggX11_spot_X9_isLost
set_option maxRecDepth 20000 in
theorem ggX11_spot_X9_lightOf : GoodIn wsX11_spot wsX9_lightOf := goodIn_r _ [49, 29, 70, 71, 72, 73, 74, 75, 76] (by decide +kernel) (by decide +kernel)
set_option maxRecDepth 20000 in
theorem gX11_spot_X9_lightOf : GoodIn wsX11_spot (wsV RX11 140 RX9 yX9_lightOf wsX9_lightOf) := goodIn_app (goodIn_of _ (by decide +kernel)) ggX11_spot_X9_lightOf
set_option maxRecDepth 20000 in
theorem ggX11_spot_X9_middleOf : GoodIn wsX11_spot wsX9_middleOf := goodIn_r _ [53, 39, 70, 71, 72, 73, 74, 75, 76] (by decide +kernel) (by decide +kernel)
set_option maxRecDepth 20000 in
theorem gX11_spot_X9_middleOf : GoodIn wsX11_spot (wsV RX11 143 RX9 yX9_middleOf wsX9_middleOf) := goodIn_app (goodIn_of _ (by decide +kernel)) ggX11_spot_X9_middleOf
set_option maxRecDepth 20000 in
theorem ggX11_spot_X9_slopeOf : GoodIn wsX11_spot wsX9_slopeOf := goodIn_r _ [57, 39, 58, 70, 71, 72, 73, 74, 75, 76] (by decide +kernel) (by decide +kernel)
set_option maxRecDepth 20000 in
theorem gX11_spot_X9_slopeOf : GoodIn wsX11_spot (wsV RX11 146 RX9 yX9_slopeOf wsX9_slopeOf) := goodIn_app (goodIn_of _ (by decide +kernel)) ggX11_spot_X9_slopeOf
theorem dX11_spot_0 : decode cX11_spot 0 = .ok (.aload_n 0, 1) := by decide +kernel
theorem dX11_spot_1 : decode cX11_spot 1 = .ok (.iload_n 1, 1) := by decide +kernel
theorem dX11_spot_2 : decode cX11_spot 2 = .ok (.invokevirtual 99, 3) := by decide +kernel
theorem dX11_spot_5 : decode cX11_spot 5 = .ok (.ifCond .eq 12, 3) := by decide +kernel
theorem dX11_spot_8 : decode cX11_spot 8 = .ok (.iload_n 2, 1) := by decide +kernel
theorem dX11_spot_9 : decode cX11_spot 9 = .ok (.iconst 0, 1) := by decide +kernel
theorem dX11_spot_10 : decode cX11_spot 10 = .ok (.iconst 3, 1) := by decide +kernel
theorem dX11_spot_11 : decode cX11_spot 11 = .ok (.invokestatic 86, 3) := by decide +kernel
theorem dX11_spot_14 : decode cX11_spot 14 = .ok (.ifCond .ne 7, 3) := by decide +kernel
theorem dX11_spot_17 : decode cX11_spot 17 = .ok (.sipush (-10001), 3) := by decide +kernel
theorem dX11_spot_20 : decode cX11_spot 20 = .ok (.ireturn, 1) := by decide +kernel
theorem dX11_spot_21 : decode cX11_spot 21 = .ok (.aload_n 0, 1) := by decide +kernel
theorem dX11_spot_22 : decode cX11_spot 22 = .ok (.getfield 26, 3) := by decide +kernel
theorem dX11_spot_25 : decode cX11_spot 25 = .ok (.aload_n 0, 1) := by decide +kernel
theorem dX11_spot_26 : decode cX11_spot 26 = .ok (.getfield 10, 3) := by decide +kernel
theorem dX11_spot_29 : decode cX11_spot 29 = .ok (.iconst 0, 1) := by decide +kernel
theorem dX11_spot_30 : decode cX11_spot 30 = .ok (.invokevirtual 129, 3) := by decide +kernel
theorem dX11_spot_33 : decode cX11_spot 33 = .ok (.aload_n 0, 1) := by decide +kernel
theorem dX11_spot_34 : decode cX11_spot 34 = .ok (.getfield 10, 3) := by decide +kernel
theorem dX11_spot_37 : decode cX11_spot 37 = .ok (.iconst 1, 1) := by decide +kernel
theorem dX11_spot_38 : decode cX11_spot 38 = .ok (.invokevirtual 129, 3) := by decide +kernel
theorem dX11_spot_41 : decode cX11_spot 41 = .ok (.invokevirtual 133, 3) := by decide +kernel
theorem dX11_spot_44 : decode cX11_spot 44 = .ok (.aload_n 0, 1) := by decide +kernel
theorem dX11_spot_45 : decode cX11_spot 45 = .ok (.getfield 26, 3) := by decide +kernel
theorem dX11_spot_48 : decode cX11_spot 48 = .ok (.iload_n 1, 1) := by decide +kernel
theorem dX11_spot_49 : decode cX11_spot 49 = .ok (.invokevirtual 137, 3) := by decide +kernel
theorem dX11_spot_52 : decode cX11_spot 52 = .ok (.istore_n 3, 1) := by decide +kernel
theorem dX11_spot_53 : decode cX11_spot 53 = .ok (.iload_n 2, 1) := by decide +kernel
theorem dX11_spot_54 : decode cX11_spot 54 = .ok (.tableswitch 63 0 2 #[26, 35, 45], 26) := by decide +kernel
theorem dX11_spot_80 : decode cX11_spot 80 = .ok (.aload_n 0, 1) := by decide +kernel
theorem dX11_spot_81 : decode cX11_spot 81 = .ok (.getfield 26, 3) := by decide +kernel
theorem dX11_spot_84 : decode cX11_spot 84 = .ok (.iload_n 1, 1) := by decide +kernel
theorem dX11_spot_85 : decode cX11_spot 85 = .ok (.invokevirtual 140, 3) := by decide +kernel
theorem dX11_spot_88 : decode cX11_spot 88 = .ok (.ireturn, 1) := by decide +kernel
theorem dX11_spot_89 : decode cX11_spot 89 = .ok (.iload_n 3, 1) := by decide +kernel
theorem dX11_spot_90 : decode cX11_spot 90 = .ok (.ifCond .eq 7, 3) := by decide +kernel
theorem dX11_spot_93 : decode cX11_spot 93 = .ok (.iconst 1, 1) := by decide +kernel
theorem dX11_spot_94 : decode cX11_spot 94 = .ok (.goto 4, 3) := by decide +kernel
theorem dX11_spot_97 : decode cX11_spot 97 = .ok (.iconst 0, 1) := by decide +kernel
theorem dX11_spot_98 : decode cX11_spot 98 = .ok (.ireturn, 1) := by decide +kernel
theorem dX11_spot_99 : decode cX11_spot 99 = .ok (.iload_n 3, 1) := by decide +kernel
theorem dX11_spot_100 : decode cX11_spot 100 = .ok (.ifCond .eq 8, 3) := by decide +kernel
theorem dX11_spot_103 : decode cX11_spot 103 = .ok (.bipush (-4), 2) := by decide +kernel
theorem dX11_spot_105 : decode cX11_spot 105 = .ok (.goto 11, 3) := by decide +kernel
theorem dX11_spot_108 : decode cX11_spot 108 = .ok (.aload_n 0, 1) := by decide +kernel
theorem dX11_spot_109 : decode cX11_spot 109 = .ok (.getfield 26, 3) := by decide +kernel
theorem dX11_spot_112 : decode cX11_spot 112 = .ok (.iload_n 1, 1) := by decide +kernel
theorem dX11_spot_113 : decode cX11_spot 113 = .ok (.invokevirtual 143, 3) := by decide +kernel
theorem dX11_spot_116 : decode cX11_spot 116 = .ok (.ireturn, 1) := by decide +kernel
theorem dX11_spot_117 : decode cX11_spot 117 = .ok (.iload_n 3, 1) := by decide +kernel
theorem dX11_spot_118 : decode cX11_spot 118 = .ok (.ifCond .eq 9, 3) := by decide +kernel
theorem dX11_spot_121 : decode cX11_spot 121 = .ok (.sipush (-10002), 3) := by decide +kernel
theorem dX11_spot_124 : decode cX11_spot 124 = .ok (.goto 11, 3) := by decide +kernel
theorem dX11_spot_127 : decode cX11_spot 127 = .ok (.aload_n 0, 1) := by decide +kernel
theorem dX11_spot_128 : decode cX11_spot 128 = .ok (.getfield 26, 3) := by decide +kernel
theorem dX11_spot_131 : decode cX11_spot 131 = .ok (.iload_n 1, 1) := by decide +kernel
theorem dX11_spot_132 : decode cX11_spot 132 = .ok (.invokevirtual 146, 3) := by decide +kernel
theorem dX11_spot_135 : decode cX11_spot 135 = .ok (.ireturn, 1) := by decide +kernel
set_option maxRecDepth 20000 in
theorem ggX11_table_X11_isSpot : GoodIn wsX11_table wsX11_isSpot := goodIn_r _ [6, 7, 8, 9, 10, 11, 12, 13, 14, 15, 5, 16, 35, 36, 37, 38, 39, 40, 41, 42, 43, 44, 45, 46, 47, 48, 49, 50, 51, 52] (by decide +kernel) (by decide +kernel)
set_option maxRecDepth 20000 in
theorem gX11_table_X11_isSpot : GoodIn wsX11_table (wsV RX11 99 RX11 yX11_isSpot wsX11_isSpot) := goodIn_app (goodIn_of _ (by decide +kernel)) ggX11_table_X11_isSpot
set_option maxRecDepth 20000 in
theorem ggX11_table_X11_isPart : GoodIn wsX11_table wsX11_isPart := goodIn_r _ [20, 21, 22, 23, 24, 25, 26, 27, 14, 15, 5, 16, 35, 36, 37, 38, 39, 40, 41, 42, 43, 44, 45, 53, 54, 55, 56] (by decide +kernel) (by decide +kernel)
set_option maxRecDepth 20000 in
theorem gX11_table_X11_isPart : GoodIn wsX11_table (wsV RX11 149 RX11 yX11_isPart wsX11_isPart) := goodIn_app (goodIn_of _ (by decide +kernel)) ggX11_table_X11_isPart
set_option maxRecDepth 20000 in
theorem ggX11_table_X11_within : GoodIn wsX11_table wsX11_within := goodIn_r _ [16] (by decide +kernel) (by decide +kernel)
set_option maxRecDepth 20000 in
theorem gX11_table_X11_within : GoodIn wsX11_table (va_wsS RX11 86 yX11_within wsX11_within) := goodIn_app (goodIn_of _ (by decide +kernel)) ggX11_table_X11_within
set_option maxRecDepth 20000 in
theorem ggX11_table_X10_swap : GoodIn wsX11_table wsX10_swap := goodIn_r _ [32, 33, 34, 57, 58, 59, 60, 61, 62] (by decide +kernel) (by decide +kernel)
set_option maxRecDepth 20000 in
theorem gX11_table_X10_swap : GoodIn wsX11_table (wsV RX11 152 RX10 yX10_swap wsX10_swap) := goodIn_app (goodIn_of _ (by decide +kernel)) ggX11_table_X10_swap
theorem dX11_table_0 : decode cX11_table 0 = .ok (.aload_n 0, 1) := by decide +kernel
theorem dX11_table_1 : decode cX11_table 1 = .ok (.iload_n 1, 1) := by decide +kernel
theorem dX11_table_2 : decode cX11_table 2 = .ok (.invokevirtual 99, 3) := by decide +kernel
theorem dX11_table_5 : decode cX11_table 5 = .ok (.ifCond .eq 22, 3) := by decide +kernel
theorem dX11_table_8 : decode cX11_table 8 = .ok (.aload_n 0, 1) := by decide +kernel
theorem dX11_table_9 : decode cX11_table 9 = .ok (.iload_n 2, 1) := by decide +kernel
theorem dX11_table_10 : decode cX11_table 10 = .ok (.invokevirtual 149, 3) := by decide +kernel
theorem dX11_table_13 : decode cX11_table 13 = .ok (.ifCond .eq 14, 3) := by decide +kernel
theorem dX11_table_16 : decode cX11_table 16 = .ok (.iload_n 3, 1) := by decide +kernel
theorem dX11_table_17 : decode cX11_table 17 = .ok (.bipush (-9), 2) := by decide +kernel
theorem dX11_table_19 : decode cX11_table 19 = .ok (.bipush 9, 2) := by decide +kernel
theorem dX11_table_21 : decode cX11_table 21 = .ok (.invokestatic 86, 3) := by decide +kernel
theorem dX11_table_24 : decode cX11_table 24 = .ok (.ifCond .ne 7, 3) := by decide +kernel
theorem dX11_table_27 : decode cX11_table 27 = .ok (.sipush (-10001), 3) := by decide +kernel
theorem dX11_table_30 : decode cX11_table 30 = .ok (.ireturn, 1) := by decide +kernel
theorem dX11_table_31 : decode cX11_table 31 = .ok (.aload_n 0, 1) := by decide +kernel
theorem dX11_table_32 : decode cX11_table 32 = .ok (.getfield 33, 3) := by decide +kernel
theorem dX11_table_35 : decode cX11_table 35 = .ok (.iload_n 1, 1) := by decide +kernel
theorem dX11_table_36 : decode cX11_table 36 = .ok (.iload_n 2, 1) := by decide +kernel
theorem dX11_table_37 : decode cX11_table 37 = .ok (.iload_n 3, 1) := by decide +kernel
theorem dX11_table_38 : decode cX11_table 38 = .ok (.invokevirtual 152, 3) := by decide +kernel
theorem dX11_table_41 : decode cX11_table 41 = .ok (.ireturn, 1) := by decide +kernel
set_option maxRecDepth 20000 in
theorem ggX11_poke_X11_isPart : GoodIn wsX11_poke wsX11_isPart := goodIn_r _ [8, 9, 10, 11, 12, 13, 14, 15, 16, 17, 7, 18, 82, 83, 84, 85, 86, 87, 88, 89, 90, 91, 92, 93, 94, 95, 96] (by decide +kernel) (by decide +kernel)
set_option maxRecDepth 20000 in
theorem gX11_poke_X11_isPart : GoodIn wsX11_poke (wsV RX11 149 RX11 yX11_isPart wsX11_isPart) := goodIn_app (goodIn_of _ (by decide +kernel)) ggX11_poke_X11_isPart
set_option maxRecDepth 20000 in
theorem ggX11_poke_X11_within : GoodIn wsX11_poke wsX11_within := goodIn_r _ [18] (by decide +kernel) (by decide +kernel)
set_option maxRecDepth 20000 in
theorem gX11_poke_X11_within : GoodIn wsX11_poke (va_wsS RX11 86 yX11_within wsX11_within) := goodIn_app (goodIn_of _ (by decide +kernel)) ggX11_poke_X11_within
set_option maxRecDepth 20000 in
theorem ggX11_poke_X9_count : GoodIn wsX11_poke wsX9_count := goodIn_r _ [23, 24, 97, 98, 99, 100, 101, 102, 103] (by decide +kernel) (by decide +kernel)
set_option maxRecDepth 20000 in
theorem gX11_poke_X9_count : GoodIn wsX11_poke (wsV RX11 154 RX9 yX9_count wsX9_count) := goodIn_app (goodIn_of _ (by decide +kernel)) ggX11_poke_X9_count
set_option maxRecDepth 20000 in
theorem ggX11_poke_X8_refusal : GoodIn wsX11_poke wsX8_refusal := goodIn_r _ [29, 30, 31, 32, 7, 33, 16, 17, 18, 34, 35, 36, 37, 38, 28, 39, 104, 105, 106] (by decide +kernel) (by decide +kernel)
set_option maxRecDepth 20000 in
theorem gX11_poke_X8_refusal : GoodIn wsX11_poke (wsV RX11 107 RX8 yX8_refusal wsX8_refusal) := goodIn_app (goodIn_of _ (by decide +kernel)) ggX11_poke_X8_refusal
set_option maxRecDepth 20000 in
theorem ggX11_poke_X8_allWithin : GoodIn wsX11_poke wsX8_allWithin := goodIn_r _ [43, 44, 45, 46, 28, 47, 48, 17, 7, 18, 104, 105, 106] (by decide +kernel) (by decide +kernel)
set_option maxRecDepth 20000 in
theorem gX11_poke_X8_allWithin : GoodIn wsX11_poke (wsV RX11 111 RX8 yX8_allWithin wsX8_allWithin) := goodIn_app (goodIn_of _ (by decide +kernel)) ggX11_poke_X8_allWithin
set_option maxRecDepth 20000 in
theorem ggX11_poke_X10_pokesOf : GoodIn wsX11_poke wsX10_pokesOf := goodIn_r _ [53, 54, 107, 108, 109, 110, 111, 112] (by decide +kernel) (by decide +kernel)
set_option maxRecDepth 20000 in
theorem gX11_poke_X10_pokesOf : GoodIn wsX11_poke (wsV RX11 158 RX10 yX10_pokesOf wsX10_pokesOf) := goodIn_app (goodIn_of _ (by decide +kernel)) ggX11_poke_X10_pokesOf
set_option maxRecDepth 20000 in
theorem ggX11_poke_X10_begin : GoodIn wsX11_poke wsX10_begin := goodIn_r _ [58, 59, 54, 107, 108, 109, 110, 111, 112] (by decide +kernel) (by decide +kernel)
set_option maxRecDepth 20000 in
theorem gX11_poke_X10_begin : GoodIn wsX11_poke (wsV RX11 161 RX10 yX10_begin wsX10_begin) := goodIn_app (goodIn_of _ (by decide +kernel)) ggX11_poke_X10_begin
set_option maxRecDepth 20000 in
theorem ggX11_poke_X8_at : GoodIn wsX11_poke wsX8_at := goodIn_r _ [47, 48, 104, 105, 106] (by decide +kernel) (by decide +kernel)
set_option maxRecDepth 20000 in
theorem gX11_poke_X8_at : GoodIn wsX11_poke (wsV RX11 115 RX8 yX8_at wsX8_at) := goodIn_app (goodIn_of _ (by decide +kernel)) ggX11_poke_X8_at
set_option maxRecDepth 20000 in
theorem ggX11_poke_X10_add : GoodIn wsX11_poke wsX10_add := goodIn_r _ [64, 54, 65, 66, 67, 68, 69, 70, 71, 72, 73, 74, 75, 59, 76, 7, 77, 78, 79, 80, 81, 107, 108, 109, 110, 111, 112] (by decide +kernel) (by decide +kernel)
set_option maxRecDepth 20000 in
theorem gX11_poke_X10_add : GoodIn wsX11_poke (wsV RX11 164 RX10 yX10_add wsX10_add) := goodIn_app (goodIn_of _ (by decide +kernel)) ggX11_poke_X10_add
theorem dX11_poke_0 : decode cX11_poke 0 = .ok (.aload_n 0, 1) := by decide +kernel
theorem dX11_poke_1 : decode cX11_poke 1 = .ok (.iload_n 1, 1) := by decide +kernel
theorem dX11_poke_2 : decode cX11_poke 2 = .ok (.invokevirtual 149, 3) := by decide +kernel
theorem dX11_poke_5 : decode cX11_poke 5 = .ok (.ifCond .eq 13, 3) := by decide +kernel
theorem dX11_poke_8 : decode cX11_poke 8 = .ok (.iload_n 2, 1) := by decide +kernel
theorem dX11_poke_9 : decode cX11_poke 9 = .ok (.iconst 1, 1) := by decide +kernel
theorem dX11_poke_10 : decode cX11_poke 10 = .ok (.bipush 99, 2) := by decide +kernel
theorem dX11_poke_12 : decode cX11_poke 12 = .ok (.invokestatic 86, 3) := by decide +kernel
theorem dX11_poke_15 : decode cX11_poke 15 = .ok (.ifCond .ne 5, 3) := by decide +kernel
theorem dX11_poke_18 : decode cX11_poke 18 = .ok (.iconst (-1), 1) := by decide +kernel
theorem dX11_poke_19 : decode cX11_poke 19 = .ok (.ireturn, 1) := by decide +kernel
theorem dX11_poke_20 : decode cX11_poke 20 = .ok (.aload_n 0, 1) := by decide +kernel
theorem dX11_poke_21 : decode cX11_poke 21 = .ok (.getfield 19, 3) := by decide +kernel
theorem dX11_poke_24 : decode cX11_poke 24 = .ok (.iload_n 3, 1) := by decide +kernel
theorem dX11_poke_25 : decode cX11_poke 25 = .ok (.iload 4, 2) := by decide +kernel
theorem dX11_poke_27 : decode cX11_poke 27 = .ok (.iload 5, 2) := by decide +kernel
theorem dX11_poke_29 : decode cX11_poke 29 = .ok (.aload_n 0, 1) := by decide +kernel
theorem dX11_poke_30 : decode cX11_poke 30 = .ok (.getfield 26, 3) := by decide +kernel
theorem dX11_poke_33 : decode cX11_poke 33 = .ok (.invokevirtual 154, 3) := by decide +kernel
theorem dX11_poke_36 : decode cX11_poke 36 = .ok (.invokevirtual 107, 3) := by decide +kernel
theorem dX11_poke_39 : decode cX11_poke 39 = .ok (.istore 6, 2) := by decide +kernel
theorem dX11_poke_41 : decode cX11_poke 41 = .ok (.iload 6, 2) := by decide +kernel
theorem dX11_poke_43 : decode cX11_poke 43 = .ok (.ifCond .eq 6, 3) := by decide +kernel
theorem dX11_poke_46 : decode cX11_poke 46 = .ok (.iload 6, 2) := by decide +kernel
theorem dX11_poke_48 : decode cX11_poke 48 = .ok (.ireturn, 1) := by decide +kernel
theorem dX11_poke_49 : decode cX11_poke 49 = .ok (.aload_n 0, 1) := by decide +kernel
theorem dX11_poke_50 : decode cX11_poke 50 = .ok (.getfield 19, 3) := by decide +kernel
theorem dX11_poke_53 : decode cX11_poke 53 = .ok (.iload_n 3, 1) := by decide +kernel
theorem dX11_poke_54 : decode cX11_poke 54 = .ok (.iload 5, 2) := by decide +kernel
theorem dX11_poke_56 : decode cX11_poke 56 = .ok (.aload_n 0, 1) := by decide +kernel
theorem dX11_poke_57 : decode cX11_poke 57 = .ok (.getfield 26, 3) := by decide +kernel
theorem dX11_poke_60 : decode cX11_poke 60 = .ok (.invokevirtual 154, 3) := by decide +kernel
theorem dX11_poke_63 : decode cX11_poke 63 = .ok (.sipush (-999), 3) := by decide +kernel
theorem dX11_poke_66 : decode cX11_poke 66 = .ok (.sipush 999, 3) := by decide +kernel
theorem dX11_poke_69 : decode cX11_poke 69 = .ok (.invokevirtual 111, 3) := by decide +kernel
theorem dX11_poke_72 : decode cX11_poke 72 = .ok (.ifCond .ne 6, 3) := by decide +kernel
theorem dX11_poke_75 : decode cX11_poke 75 = .ok (.bipush (-2), 2) := by decide +kernel
theorem dX11_poke_77 : decode cX11_poke 77 = .ok (.ireturn, 1) := by decide +kernel
theorem dX11_poke_78 : decode cX11_poke 78 = .ok (.aload_n 0, 1) := by decide +kernel
theorem dX11_poke_79 : decode cX11_poke 79 = .ok (.getfield 33, 3) := by decide +kernel
theorem dX11_poke_82 : decode cX11_poke 82 = .ok (.iload_n 1, 1) := by decide +kernel
theorem dX11_poke_83 : decode cX11_poke 83 = .ok (.invokevirtual 158, 3) := by decide +kernel
theorem dX11_poke_86 : decode cX11_poke 86 = .ok (.bipush 9, 2) := by decide +kernel
theorem dX11_poke_88 : decode cX11_poke 88 = .ok (.if_icmp .lt 6, 3) := by decide +kernel
theorem dX11_poke_91 : decode cX11_poke 91 = .ok (.bipush (-3), 2) := by decide +kernel
theorem dX11_poke_93 : decode cX11_poke 93 = .ok (.ireturn, 1) := by decide +kernel
theorem dX11_poke_94 : decode cX11_poke 94 = .ok (.aload_n 0, 1) := by decide +kernel
theorem dX11_poke_95 : decode cX11_poke 95 = .ok (.getfield 33, 3) := by decide +kernel
theorem dX11_poke_98 : decode cX11_poke 98 = .ok (.iload_n 1, 1) := by decide +kernel
theorem dX11_poke_99 : decode cX11_poke 99 = .ok (.iload_n 2, 1) := by decide +kernel
theorem dX11_poke_100 : decode cX11_poke 100 = .ok (.invokevirtual 161, 3) := by decide +kernel
theorem dX11_poke_103 : decode cX11_poke 103 = .ok (.iconst 0, 1) := by decide +kernel
theorem dX11_poke_104 : decode cX11_poke 104 = .ok (.istore 7, 2) := by decide +kernel
theorem dX11_poke_106 : decode cX11_poke 106 = .ok (.iload 7, 2) := by decide +kernel
theorem dX11_poke_108 : decode cX11_poke 108 = .ok (.aload_n 0, 1) := by decide +kernel
theorem dX11_poke_109 : decode cX11_poke 109 = .ok (.getfield 26, 3) := by decide +kernel
theorem dX11_poke_112 : decode cX11_poke 112 = .ok (.invokevirtual 154, 3) := by decide +kernel
theorem dX11_poke_115 : decode cX11_poke 115 = .ok (.if_icmp .ge 33, 3) := by decide +kernel
theorem dX11_poke_118 : decode cX11_poke 118 = .ok (.aload_n 0, 1) := by decide +kernel
theorem dX11_poke_119 : decode cX11_poke 119 = .ok (.getfield 33, 3) := by decide +kernel
theorem dX11_poke_122 : decode cX11_poke 122 = .ok (.iload 7, 2) := by decide +kernel
theorem dX11_poke_124 : decode cX11_poke 124 = .ok (.iload_n 1, 1) := by decide +kernel
theorem dX11_poke_125 : decode cX11_poke 125 = .ok (.iload_n 2, 1) := by decide +kernel
theorem dX11_poke_126 : decode cX11_poke 126 = .ok (.aload_n 0, 1) := by decide +kernel
theorem dX11_poke_127 : decode cX11_poke 127 = .ok (.getfield 19, 3) := by decide +kernel
theorem dX11_poke_130 : decode cX11_poke 130 = .ok (.iload_n 3, 1) := by decide +kernel
theorem dX11_poke_131 : decode cX11_poke 131 = .ok (.iload 5, 2) := by decide +kernel
theorem dX11_poke_133 : decode cX11_poke 133 = .ok (.iload 7, 2) := by decide +kernel
theorem dX11_poke_135 : decode cX11_poke 135 = .ok (.iadd, 1) := by decide +kernel
theorem dX11_poke_136 : decode cX11_poke 136 = .ok (.invokevirtual 115, 3) := by decide +kernel
theorem dX11_poke_139 : decode cX11_poke 139 = .ok (.invokevirtual 164, 3) := by decide +kernel
theorem dX11_poke_142 : decode cX11_poke 142 = .ok (.iinc 7 1, 3) := by decide +kernel
theorem dX11_poke_145 : decode cX11_poke 145 = .ok (.goto (-39), 3) := by decide +kernel
theorem dX11_poke_148 : decode cX11_poke 148 = .ok (.aload_n 0, 1) := by decide +kernel
theorem dX11_poke_149 : decode cX11_poke 149 = .ok (.getfield 33, 3) := by decide +kernel
theorem dX11_poke_152 : decode cX11_poke 152 = .ok (.iload_n 1, 1) := by decide +kernel
theorem dX11_poke_153 : decode cX11_poke 153 = .ok (.invokevirtual 158, 3) := by decide +kernel
theorem dX11_poke_156 : decode cX11_poke 156 = .ok (.ireturn, 1) := by decide +kernel
set_option maxRecDepth 20000 in
theorem ggX11_told_X11_isSpot : GoodIn wsX11_told wsX11_isSpot := goodIn_r _ [6, 7, 8, 9, 10, 11, 12, 13, 14, 15, 5, 16, 45, 46, 47, 48, 49, 50, 51, 52, 53, 54, 55, 56, 57, 58, 59, 60, 61, 62] (by decide +kernel) (by decide +kernel)
set_option maxRecDepth 20000 in
theorem gX11_told_X11_isSpot : GoodIn wsX11_told (wsV RX11 99 RX11 yX11_isSpot wsX11_isSpot) := goodIn_app (goodIn_of _ (by decide +kernel)) ggX11_told_X11_isSpot
set_option maxRecDepth 20000 in
theorem ggX11_told_X11_isPart : GoodIn wsX11_told wsX11_isPart := goodIn_r _ [20, 21, 22, 23, 24, 25, 26, 27, 14, 15, 5, 16, 45, 46, 47, 48, 49, 50, 51, 52, 53, 54, 55, 63, 64, 65, 66] (by decide +kernel) (by decide +kernel)
set_option maxRecDepth 20000 in
theorem gX11_told_X11_isPart : GoodIn wsX11_told (wsV RX11 149 RX11 yX11_isPart wsX11_isPart) := goodIn_app (goodIn_of _ (by decide +kernel)) ggX11_told_X11_isPart
set_option maxRecDepth 20000 in
theorem ggX11_told_X11_within : GoodIn wsX11_told wsX11_within := goodIn_r _ [16] (by decide +kernel) (by decide +kernel)
set_option maxRecDepth 20000 in
theorem gX11_told_X11_within : GoodIn wsX11_told (va_wsS RX11 86 yX11_within wsX11_within) := goodIn_app (goodIn_of _ (by decide +kernel)) ggX11_told_X11_within
set_option maxRecDepth 20000 in
theorem ggX11_told_X10_number : GoodIn wsX11_told wsX10_number := goodIn_r _ [32, 33, 67, 68, 69, 70, 71, 72] (by decide +kernel) (by decide +kernel)
set_option maxRecDepth 20000 in
theorem gX11_told_X10_number : GoodIn wsX11_told (wsV RX11 168 RX10 yX10_number wsX10_number) := goodIn_app (goodIn_of _ (by decide +kernel)) ggX11_told_X10_number
set_option maxRecDepth 20000 in
theorem ggX11_told_X10_pokesOf : GoodIn wsX11_told wsX10_pokesOf := goodIn_r _ [37, 38, 67, 68, 69, 70, 71, 72] (by decide +kernel) (by decide +kernel)
set_option maxRecDepth 20000 in
theorem gX11_told_X10_pokesOf : GoodIn wsX11_told (wsV RX11 158 RX10 yX10_pokesOf wsX10_pokesOf) := goodIn_app (goodIn_of _ (by decide +kernel)) ggX11_told_X10_pokesOf
set_option maxRecDepth 20000 in
theorem ggX11_told_X10_doubt : GoodIn wsX11_told wsX10_doubt := goodIn_r _ [42, 43, 44, 67, 68, 69, 70, 71, 72] (by decide +kernel) (by decide +kernel)
set_option maxRecDepth 20000 in
theorem gX11_told_X10_doubt : GoodIn wsX11_told (wsV RX11 171 RX10 yX10_doubt wsX10_doubt) := goodIn_app (goodIn_of _ (by decide +kernel)) ggX11_told_X10_doubt
theorem dX11_told_0 : decode cX11_told 0 = .ok (.aload_n 0, 1) := by decide +kernel
theorem dX11_told_1 : decode cX11_told 1 = .ok (.iload_n 1, 1) := by decide +kernel
theorem dX11_told_2 : decode cX11_told 2 = .ok (.invokevirtual 99, 3) := by decide +kernel
theorem dX11_told_5 : decode cX11_told 5 = .ok (.ifCond .eq 20, 3) := by decide +kernel
theorem dX11_told_8 : decode cX11_told 8 = .ok (.aload_n 0, 1) := by decide +kernel
theorem dX11_told_9 : decode cX11_told 9 = .ok (.iload_n 2, 1) := by decide +kernel
theorem dX11_told_10 : decode cX11_told 10 = .ok (.invokevirtual 149, 3) := by decide +kernel
theorem dX11_told_13 : decode cX11_told 13 = .ok (.ifCond .eq 12, 3) := by decide +kernel
theorem dX11_told_16 : decode cX11_told 16 = .ok (.iload_n 3, 1) := by decide +kernel
theorem dX11_told_17 : decode cX11_told 17 = .ok (.iconst 0, 1) := by decide +kernel
theorem dX11_told_18 : decode cX11_told 18 = .ok (.iconst 1, 1) := by decide +kernel
theorem dX11_told_19 : decode cX11_told 19 = .ok (.invokestatic 86, 3) := by decide +kernel
theorem dX11_told_22 : decode cX11_told 22 = .ok (.ifCond .ne 7, 3) := by decide +kernel
theorem dX11_told_25 : decode cX11_told 25 = .ok (.sipush (-10001), 3) := by decide +kernel
theorem dX11_told_28 : decode cX11_told 28 = .ok (.ireturn, 1) := by decide +kernel
theorem dX11_told_29 : decode cX11_told 29 = .ok (.iload_n 3, 1) := by decide +kernel
theorem dX11_told_30 : decode cX11_told 30 = .ok (.ifCond .ne 13, 3) := by decide +kernel
theorem dX11_told_33 : decode cX11_told 33 = .ok (.aload_n 0, 1) := by decide +kernel
theorem dX11_told_34 : decode cX11_told 34 = .ok (.getfield 33, 3) := by decide +kernel
theorem dX11_told_37 : decode cX11_told 37 = .ok (.iload_n 1, 1) := by decide +kernel
theorem dX11_told_38 : decode cX11_told 38 = .ok (.iload_n 2, 1) := by decide +kernel
theorem dX11_told_39 : decode cX11_told 39 = .ok (.invokevirtual 168, 3) := by decide +kernel
theorem dX11_told_42 : decode cX11_told 42 = .ok (.ireturn, 1) := by decide +kernel
theorem dX11_told_43 : decode cX11_told 43 = .ok (.aload_n 0, 1) := by decide +kernel
theorem dX11_told_44 : decode cX11_told 44 = .ok (.getfield 33, 3) := by decide +kernel
theorem dX11_told_47 : decode cX11_told 47 = .ok (.iload_n 2, 1) := by decide +kernel
theorem dX11_told_48 : decode cX11_told 48 = .ok (.invokevirtual 158, 3) := by decide +kernel
theorem dX11_told_51 : decode cX11_told 51 = .ok (.ifCond .ne 9, 3) := by decide +kernel
theorem dX11_told_54 : decode cX11_told 54 = .ok (.sipush (-10004), 3) := by decide +kernel
theorem dX11_told_57 : decode cX11_told 57 = .ok (.goto 12, 3) := by decide +kernel
theorem dX11_told_60 : decode cX11_told 60 = .ok (.aload_n 0, 1) := by decide +kernel
theorem dX11_told_61 : decode cX11_told 61 = .ok (.getfield 33, 3) := by decide +kernel
theorem dX11_told_64 : decode cX11_told 64 = .ok (.iload_n 1, 1) := by decide +kernel
theorem dX11_told_65 : decode cX11_told 65 = .ok (.iload_n 2, 1) := by decide +kernel
theorem dX11_told_66 : decode cX11_told 66 = .ok (.invokevirtual 171, 3) := by decide +kernel
theorem dX11_told_69 : decode cX11_told 69 = .ok (.ireturn, 1) := by decide +kernel
set_option maxRecDepth 20000 in
theorem ggX11_dead_X11_isPart : GoodIn wsX11_dead wsX11_isPart := goodIn_r _ [6, 1, 7, 8, 9, 10, 11, 12, 13, 14, 5, 15, 21, 22, 23, 24, 25, 26, 27, 28, 29, 30, 31, 32, 33, 34, 35] (by decide +kernel) (by decide +kernel)
set_option maxRecDepth 20000 in
theorem gX11_dead_X11_isPart : GoodIn wsX11_dead (wsV RX11 149 RX11 yX11_isPart wsX11_isPart) := goodIn_app (goodIn_of _ (by decide +kernel)) ggX11_dead_X11_isPart
set_option maxRecDepth 20000 in
theorem ggX11_dead_X6_swapDead : GoodIn wsX11_dead wsX6_swapDead := goodIn_r _ [19, 20, 32, 33, 34, 35] (by decide +kernel) (by decide +kernel)
set_option maxRecDepth 20000 in
theorem gX11_dead_X6_swapDead : GoodIn wsX11_dead (wsV RX11 174 RX6 yX6_swapDead wsX6_swapDead) := goodIn_app (goodIn_of _ (by decide +kernel)) ggX11_dead_X6_swapDead
theorem dX11_dead_0 : decode cX11_dead 0 = .ok (.aload_n 0, 1) := by decide +kernel
theorem dX11_dead_1 : decode cX11_dead 1 = .ok (.iload_n 1, 1) := by decide +kernel
theorem dX11_dead_2 : decode cX11_dead 2 = .ok (.invokevirtual 149, 3) := by decide +kernel
theorem dX11_dead_5 : decode cX11_dead 5 = .ok (.ifCond .eq 7, 3) := by decide +kernel
theorem dX11_dead_8 : decode cX11_dead 8 = .ok (.iload_n 1, 1) := by decide +kernel
theorem dX11_dead_9 : decode cX11_dead 9 = .ok (.ifCond .ne 5, 3) := by decide +kernel
theorem dX11_dead_12 : decode cX11_dead 12 = .ok (.iconst (-1), 1) := by decide +kernel
theorem dX11_dead_13 : decode cX11_dead 13 = .ok (.ireturn, 1) := by decide +kernel
theorem dX11_dead_14 : decode cX11_dead 14 = .ok (.aload_n 0, 1) := by decide +kernel
theorem dX11_dead_15 : decode cX11_dead 15 = .ok (.getfield 40, 3) := by decide +kernel
theorem dX11_dead_18 : decode cX11_dead 18 = .ok (.iload_n 1, 1) := by decide +kernel
theorem dX11_dead_19 : decode cX11_dead 19 = .ok (.iload_n 2, 1) := by decide +kernel
theorem dX11_dead_20 : decode cX11_dead 20 = .ok (.invokevirtual 174, 3) := by decide +kernel
theorem dX11_dead_23 : decode cX11_dead 23 = .ok (.ifCond .eq 7, 3) := by decide +kernel
theorem dX11_dead_26 : decode cX11_dead 26 = .ok (.iconst 1, 1) := by decide +kernel
theorem dX11_dead_27 : decode cX11_dead 27 = .ok (.goto 4, 3) := by decide +kernel
theorem dX11_dead_30 : decode cX11_dead 30 = .ok (.iconst 0, 1) := by decide +kernel
theorem dX11_dead_31 : decode cX11_dead 31 = .ok (.ireturn, 1) := by decide +kernel
set_option maxRecDepth 20000 in
theorem ggX11_seen_X11_findBends : GoodIn wsX11_seen wsX11_findBends := goodIn_r _ [6, 7, 8, 1, 9, 10, 11, 12, 13, 14, 15, 16, 17, 18, 19, 20, 21, 22, 23, 24, 25, 26, 27, 28, 29, 30, 31, 32, 33, 34, 35, 36, 5, 37, 38, 39, 40, 41, 42, 43, 44, 45, 46, 47, 48, 49, 50, 51, 52, 53, 54, 55, 56, 57, 58, 59, 60, 61, 62, 63, 64, 65, 66, 67, 68, 69, 70, 71, 72, 73, 74, 75, 76, 77, 78, 79, 80, 81, 82, 83, 84, 85, 86, 87, 88, 89, 90, 91, 92, 93, 94, 95, 96, 97, 98, 99, 100, 101, 102, 103, 104, 105, 106, 107, 108, 109, 110, 111, 112, 113, 114, 115, 116, 117, 118, 119, 120, 121, 122, 123, 124, 125, 126, 127, 128, 129, 130, 131, 132, 133, 134, 135, 136, 137, 138, 139, 140, 141, 146, 147, 148, 149, 150, 151, 152, 153, 154, 155, 156, 157, 158, 159, 160, 161, 162, 163, 164, 165, 166, 167, 168, 169, 170, 171, 172, 173, 174, 175, 176, 177, 178, 179, 180, 181, 182, 183] (by decide +kernel) (by decide +kernel)
set_option maxRecDepth 20000 in
theorem gX11_seen_X11_findBends : GoodIn wsX11_seen (wsV RX11 178 RX11 yX11_findBends wsX11_findBends) := goodIn_app (goodIn_of _ (by decide +kernel)) ggX11_seen_X11_findBends
set_option maxRecDepth 20000 in
theorem ggX11_seen_X0_seenBits : GoodIn wsX11_seen wsX0_seenBits := goodIn_r _ [145, 43, 112, 165, 166, 167, 168, 169, 170, 171, 172, 173] (by decide +kernel) (by decide +kernel)
set_option maxRecDepth 20000 in
theorem gX11_seen_X0_seenBits : GoodIn wsX11_seen (wsV RX11 181 RX0 yX0_seenBits wsX0_seenBits) := goodIn_app (goodIn_of _ (by decide +kernel)) ggX11_seen_X0_seenBits
theorem dX11_seen_0 : decode cX11_seen 0 = .ok (.aload_n 0, 1) := by decide +kernel
theorem dX11_seen_1 : decode cX11_seen 1 = .ok (.invokevirtual 178, 3) := by decide +kernel
theorem dX11_seen_4 : decode cX11_seen 4 = .ok (.aload_n 0, 1) := by decide +kernel
theorem dX11_seen_5 : decode cX11_seen 5 = .ok (.getfield 47, 3) := by decide +kernel
theorem dX11_seen_8 : decode cX11_seen 8 = .ok (.invokevirtual 181, 3) := by decide +kernel
theorem dX11_seen_11 : decode cX11_seen 11 = .ok (.ireturn, 1) := by decide +kernel
set_option maxRecDepth 20000 in
theorem ggX11_bend_X11_isPart : GoodIn wsX11_bend wsX11_isPart := goodIn_r _ [7, 8, 9, 10, 11, 12, 13, 14, 15, 16, 6, 17, 159, 160, 161, 162, 163, 164, 165, 166, 167, 168, 169, 170, 171, 172, 173] (by decide +kernel) (by decide +kernel)
set_option maxRecDepth 20000 in
theorem gX11_bend_X11_isPart : GoodIn wsX11_bend (wsV RX11 149 RX11 yX11_isPart wsX11_isPart) := goodIn_app (goodIn_of _ (by decide +kernel)) ggX11_bend_X11_isPart
set_option maxRecDepth 20000 in
theorem ggX11_bend_X11_within : GoodIn wsX11_bend wsX11_within := goodIn_r _ [17] (by decide +kernel) (by decide +kernel)
set_option maxRecDepth 20000 in
theorem gX11_bend_X11_within : GoodIn wsX11_bend (va_wsS RX11 86 yX11_within wsX11_within) := goodIn_app (goodIn_of _ (by decide +kernel)) ggX11_bend_X11_within
set_option maxRecDepth 20000 in
theorem ggX11_bend_X11_findBends : GoodIn wsX11_bend wsX11_findBends := goodIn_r _ [21, 22, 23, 2, 24, 8, 25, 26, 27, 28, 29, 30, 31, 32, 33, 34, 35, 36, 37, 38, 39, 40, 41, 42, 43, 44, 45, 46, 47, 48, 49, 50, 6, 51, 52, 53, 54, 55, 56, 57, 58, 59, 60, 61, 62, 63, 64, 65, 66, 67, 68, 69, 10, 11, 12, 13, 14, 70, 71, 72, 73, 74, 75, 76, 77, 78, 79, 80, 81, 82, 83, 84, 85, 86, 87, 88, 89, 90, 91, 92, 93, 94, 95, 96, 97, 98, 99, 100, 101, 102, 103, 104, 105, 106, 107, 108, 109, 110, 111, 112, 113, 114, 115, 116, 117, 118, 119, 120, 121, 122, 123, 124, 125, 126, 127, 128, 129, 130, 131, 132, 133, 134, 135, 136, 137, 138, 139, 140, 141, 142, 143, 144, 145, 146, 147, 148, 149, 150, 159, 160, 161, 162, 163, 164, 165, 166, 167, 168, 169, 174, 175, 176, 177, 178, 179, 180, 181, 182, 183, 184, 185, 186, 187, 188, 189, 190, 170, 171, 172, 173, 191, 192, 193, 194, 195, 196] (by decide +kernel) (by decide +kernel)
set_option maxRecDepth 20000 in
theorem gX11_bend_X11_findBends : GoodIn wsX11_bend (wsV RX11 178 RX11 yX11_findBends wsX11_findBends) := goodIn_app (goodIn_of _ (by decide +kernel)) ggX11_bend_X11_findBends
set_option maxRecDepth 20000 in
theorem ggX11_bend_X0_above : GoodIn wsX11_bend wsX0_above := goodIn_r _ [154, 58, 182, 183, 184, 185, 186, 187, 188, 189, 190] (by decide +kernel) (by decide +kernel)
set_option maxRecDepth 20000 in
theorem gX11_bend_X0_above : GoodIn wsX11_bend (wsV RX11 186 RX0 yX0_above wsX0_above) := goodIn_app (goodIn_of _ (by decide +kernel)) ggX11_bend_X0_above
set_option maxRecDepth 20000 in
theorem ggX11_bend_X0_below : GoodIn wsX11_bend wsX0_below := goodIn_r _ [158, 59, 182, 183, 184, 185, 186, 187, 188, 189, 190] (by decide +kernel) (by decide +kernel)
set_option maxRecDepth 20000 in
theorem gX11_bend_X0_below : GoodIn wsX11_bend (wsV RX11 190 RX0 yX0_below wsX0_below) := goodIn_app (goodIn_of _ (by decide +kernel)) ggX11_bend_X0_below
theorem dX11_bend_0 : decode cX11_bend 0 = .ok (.aload_n 0, 1) := by decide +kernel
theorem dX11_bend_1 : decode cX11_bend 1 = .ok (.iload_n 1, 1) := by decide +kernel
theorem dX11_bend_2 : decode cX11_bend 2 = .ok (.invokevirtual 149, 3) := by decide +kernel
theorem dX11_bend_5 : decode cX11_bend 5 = .ok (.ifCond .eq 12, 3) := by decide +kernel
theorem dX11_bend_8 : decode cX11_bend 8 = .ok (.iload_n 2, 1) := by decide +kernel
theorem dX11_bend_9 : decode cX11_bend 9 = .ok (.iconst 0, 1) := by decide +kernel
theorem dX11_bend_10 : decode cX11_bend 10 = .ok (.iconst 1, 1) := by decide +kernel
theorem dX11_bend_11 : decode cX11_bend 11 = .ok (.invokestatic 86, 3) := by decide +kernel
theorem dX11_bend_14 : decode cX11_bend 14 = .ok (.ifCond .ne 7, 3) := by decide +kernel
theorem dX11_bend_17 : decode cX11_bend 17 = .ok (.ldc2_w 184, 3) := by decide +kernel
theorem dX11_bend_20 : decode cX11_bend 20 = .ok (.lreturn, 1) := by decide +kernel
theorem dX11_bend_21 : decode cX11_bend 21 = .ok (.aload_n 0, 1) := by decide +kernel
theorem dX11_bend_22 : decode cX11_bend 22 = .ok (.invokevirtual 178, 3) := by decide +kernel
theorem dX11_bend_25 : decode cX11_bend 25 = .ok (.iload_n 2, 1) := by decide +kernel
theorem dX11_bend_26 : decode cX11_bend 26 = .ok (.ifCond .ne 14, 3) := by decide +kernel
theorem dX11_bend_29 : decode cX11_bend 29 = .ok (.aload_n 0, 1) := by decide +kernel
theorem dX11_bend_30 : decode cX11_bend 30 = .ok (.getfield 47, 3) := by decide +kernel
theorem dX11_bend_33 : decode cX11_bend 33 = .ok (.iload_n 1, 1) := by decide +kernel
theorem dX11_bend_34 : decode cX11_bend 34 = .ok (.invokevirtual 186, 3) := by decide +kernel
theorem dX11_bend_37 : decode cX11_bend 37 = .ok (.goto 11, 3) := by decide +kernel
theorem dX11_bend_40 : decode cX11_bend 40 = .ok (.aload_n 0, 1) := by decide +kernel
theorem dX11_bend_41 : decode cX11_bend 41 = .ok (.getfield 47, 3) := by decide +kernel
theorem dX11_bend_44 : decode cX11_bend 44 = .ok (.iload_n 1, 1) := by decide +kernel
theorem dX11_bend_45 : decode cX11_bend 45 = .ok (.invokevirtual 190, 3) := by decide +kernel
theorem dX11_bend_48 : decode cX11_bend 48 = .ok (.lreturn, 1) := by decide +kernel
set_option maxRecDepth 20000 in
theorem ggX11_whole_X11_isPart : GoodIn wsX11_whole wsX11_isPart := goodIn_r _ [6, 7, 8, 9, 10, 11, 12, 13, 14, 15, 5, 16, 154, 155, 156, 157, 158, 159, 160, 161, 162, 163, 164, 165, 166, 167, 168] (by decide +kernel) (by decide +kernel)
set_option maxRecDepth 20000 in
theorem gX11_whole_X11_isPart : GoodIn wsX11_whole (wsV RX11 149 RX11 yX11_isPart wsX11_isPart) := goodIn_app (goodIn_of _ (by decide +kernel)) ggX11_whole_X11_isPart
set_option maxRecDepth 20000 in
theorem ggX11_whole_X11_findBends : GoodIn wsX11_whole wsX11_findBends := goodIn_r _ [20, 21, 22, 1, 23, 7, 24, 25, 26, 27, 28, 29, 30, 31, 32, 33, 34, 35, 36, 37, 38, 39, 40, 41, 42, 43, 44, 45, 46, 47, 48, 49, 5, 50, 51, 52, 53, 54, 55, 56, 57, 58, 59, 60, 61, 62, 63, 64, 65, 66, 67, 68, 9, 10, 11, 12, 13, 69, 70, 71, 72, 73, 74, 75, 76, 77, 78, 79, 80, 81, 82, 83, 84, 85, 86, 87, 88, 89, 90, 91, 92, 93, 94, 95, 96, 97, 98, 99, 100, 101, 102, 103, 104, 105, 106, 107, 108, 109, 110, 111, 112, 113, 114, 115, 116, 117, 118, 119, 120, 121, 122, 123, 124, 125, 126, 127, 128, 129, 130, 131, 132, 133, 134, 135, 136, 137, 138, 139, 140, 141, 142, 143, 144, 145, 146, 147, 148, 149, 154, 155, 156, 157, 158, 159, 160, 161, 162, 163, 164, 169, 170, 171, 172, 173, 174, 175, 176, 177, 178, 179, 180, 181, 182, 183, 184, 185, 165, 166, 167, 168, 186, 187, 188, 189, 190, 191] (by decide +kernel) (by decide +kernel)
set_option maxRecDepth 20000 in
theorem gX11_whole_X11_findBends : GoodIn wsX11_whole (wsV RX11 178 RX11 yX11_findBends wsX11_findBends) := goodIn_app (goodIn_of _ (by decide +kernel)) ggX11_whole_X11_findBends
set_option maxRecDepth 20000 in
theorem ggX11_whole_X0_rounded : GoodIn wsX11_whole wsX0_rounded := goodIn_r _ [153, 105, 177, 178, 179, 180, 181, 182, 183, 184, 185] (by decide +kernel) (by decide +kernel)
set_option maxRecDepth 20000 in
theorem gX11_whole_X0_rounded : GoodIn wsX11_whole (wsV RX11 193 RX0 yX0_rounded wsX0_rounded) := goodIn_app (goodIn_of _ (by decide +kernel)) ggX11_whole_X0_rounded
theorem dX11_whole_0 : decode cX11_whole 0 = .ok (.aload_n 0, 1) := by decide +kernel
theorem dX11_whole_1 : decode cX11_whole 1 = .ok (.iload_n 1, 1) := by decide +kernel
theorem dX11_whole_2 : decode cX11_whole 2 = .ok (.invokevirtual 149, 3) := by decide +kernel
theorem dX11_whole_5 : decode cX11_whole 5 = .ok (.ifCond .ne 7, 3) := by decide +kernel
theorem dX11_whole_8 : decode cX11_whole 8 = .ok (.sipush (-10001), 3) := by decide +kernel
theorem dX11_whole_11 : decode cX11_whole 11 = .ok (.ireturn, 1) := by decide +kernel
theorem dX11_whole_12 : decode cX11_whole 12 = .ok (.aload_n 0, 1) := by decide +kernel
theorem dX11_whole_13 : decode cX11_whole 13 = .ok (.invokevirtual 178, 3) := by decide +kernel
theorem dX11_whole_16 : decode cX11_whole 16 = .ok (.aload_n 0, 1) := by decide +kernel
theorem dX11_whole_17 : decode cX11_whole 17 = .ok (.getfield 47, 3) := by decide +kernel
theorem dX11_whole_20 : decode cX11_whole 20 = .ok (.iload_n 1, 1) := by decide +kernel
theorem dX11_whole_21 : decode cX11_whole 21 = .ok (.invokevirtual 193, 3) := by decide +kernel
theorem dX11_whole_24 : decode cX11_whole 24 = .ok (.ireturn, 1) := by decide +kernel
set_option maxRecDepth 20000 in
theorem ggX11_nearest_X11_isPart : GoodIn wsX11_nearest wsX11_isPart := goodIn_r _ [6, 7, 8, 9, 10, 11, 12, 13, 14, 15, 5, 16, 200, 201, 202, 203, 204, 205, 206, 207, 208, 209, 210, 211, 212, 213, 214] (by decide +kernel) (by decide +kernel)
set_option maxRecDepth 20000 in
theorem gX11_nearest_X11_isPart : GoodIn wsX11_nearest (wsV RX11 149 RX11 yX11_isPart wsX11_isPart) := goodIn_app (goodIn_of _ (by decide +kernel)) ggX11_nearest_X11_isPart
set_option maxRecDepth 20000 in
theorem ggX11_nearest_X11_findBends : GoodIn wsX11_nearest wsX11_findBends := goodIn_r _ [20, 21, 22, 23, 24, 7, 25, 26, 27, 28, 29, 30, 31, 32, 33, 34, 35, 36, 37, 38, 39, 40, 41, 42, 43, 44, 45, 46, 47, 48, 49, 50, 5, 51, 52, 53, 54, 55, 56, 57, 58, 59, 60, 61, 62, 63, 64, 65, 66, 67, 68, 69, 9, 10, 11, 12, 13, 70, 71, 72, 73, 74, 75, 76, 77, 78, 79, 80, 81, 82, 83, 84, 85, 86, 87, 88, 89, 90, 91, 92, 93, 94, 95, 96, 97, 98, 99, 100, 101, 102, 103, 104, 105, 106, 107, 108, 109, 110, 111, 112, 113, 114, 115, 116, 117, 118, 119, 120, 121, 122, 123, 124, 125, 126, 127, 128, 129, 130, 131, 132, 133, 134, 135, 136, 137, 138, 139, 140, 141, 142, 143, 144, 145, 146, 147, 148, 149, 150, 200, 201, 202, 203, 204, 205, 206, 207, 208, 209, 210, 215, 216, 217, 218, 219, 220, 221, 222, 223, 224, 225, 226, 227, 228, 229, 230, 231, 211, 212, 213, 214, 232, 233, 234, 235, 236, 237] (by decide +kernel) (by decide +kernel)
set_option maxRecDepth 20000 in
theorem gX11_nearest_X11_findBends : GoodIn wsX11_nearest (wsV RX11 178 RX11 yX11_findBends wsX11_findBends) := goodIn_app (goodIn_of _ (by decide +kernel)) ggX11_nearest_X11_findBends
set_option maxRecDepth 20000 in
theorem ggX11_nearest_X11_fitWholes : GoodIn wsX11_nearest wsX11_fitWholes := goodIn_r _ [154, 7, 1, 23, 22, 8, 9, 10, 11, 12, 13, 155, 156, 157, 55, 158, 106, 159, 160, 161, 162, 163, 164, 25, 26, 27, 28, 29, 30, 165, 166, 167, 168, 169, 170, 171, 172, 173, 174, 175, 5, 176, 177, 178, 47, 179, 180, 46, 48, 181, 182, 183, 184, 185, 186, 187, 188, 189, 190, 191, 192, 71, 72, 73, 74, 193, 194, 195, 200, 201, 202, 203, 204, 205, 206, 207, 208, 209, 210, 211, 212, 213, 214, 223, 224, 225, 226, 227, 228, 229, 230, 231, 238, 239, 240, 241, 242, 243, 244, 215] (by decide +kernel) (by decide +kernel)
set_option maxRecDepth 20000 in
theorem gX11_nearest_X11_fitWholes : GoodIn wsX11_nearest (wsV RX11 196 RX11 yX11_fitWholes wsX11_fitWholes) := goodIn_app (goodIn_of _ (by decide +kernel)) ggX11_nearest_X11_fitWholes
set_option maxRecDepth 20000 in
theorem ggX11_nearest_X2_unitsOf : GoodIn wsX11_nearest wsX2_unitsOf := goodIn_r _ [199, 171, 238, 239, 240, 241, 242, 243, 244] (by decide +kernel) (by decide +kernel)
set_option maxRecDepth 20000 in
theorem gX11_nearest_X2_unitsOf : GoodIn wsX11_nearest (wsV RX11 199 RX2 yX2_unitsOf wsX2_unitsOf) := goodIn_app (goodIn_of _ (by decide +kernel)) ggX11_nearest_X2_unitsOf
theorem dX11_nearest_0 : decode cX11_nearest 0 = .ok (.aload_n 0, 1) := by decide +kernel
theorem dX11_nearest_1 : decode cX11_nearest 1 = .ok (.iload_n 1, 1) := by decide +kernel
theorem dX11_nearest_2 : decode cX11_nearest 2 = .ok (.invokevirtual 149, 3) := by decide +kernel
theorem dX11_nearest_5 : decode cX11_nearest 5 = .ok (.ifCond .ne 7, 3) := by decide +kernel
theorem dX11_nearest_8 : decode cX11_nearest 8 = .ok (.sipush (-10001), 3) := by decide +kernel
theorem dX11_nearest_11 : decode cX11_nearest 11 = .ok (.ireturn, 1) := by decide +kernel
theorem dX11_nearest_12 : decode cX11_nearest 12 = .ok (.aload_n 0, 1) := by decide +kernel
theorem dX11_nearest_13 : decode cX11_nearest 13 = .ok (.invokevirtual 178, 3) := by decide +kernel
theorem dX11_nearest_16 : decode cX11_nearest 16 = .ok (.aload_n 0, 1) := by decide +kernel
theorem dX11_nearest_17 : decode cX11_nearest 17 = .ok (.invokevirtual 196, 3) := by decide +kernel
theorem dX11_nearest_20 : decode cX11_nearest 20 = .ok (.aload_n 0, 1) := by decide +kernel
theorem dX11_nearest_21 : decode cX11_nearest 21 = .ok (.getfield 54, 3) := by decide +kernel
theorem dX11_nearest_24 : decode cX11_nearest 24 = .ok (.iload_n 1, 1) := by decide +kernel
theorem dX11_nearest_25 : decode cX11_nearest 25 = .ok (.invokevirtual 199, 3) := by decide +kernel
theorem dX11_nearest_28 : decode cX11_nearest 28 = .ok (.ireturn, 1) := by decide +kernel
set_option maxRecDepth 20000 in
theorem ggX11_off_X11_findBends : GoodIn wsX11_off wsX11_findBends := goodIn_r _ [6, 7, 8, 9, 10, 11, 12, 13, 14, 15, 16, 17, 18, 19, 20, 21, 22, 23, 24, 25, 26, 27, 28, 29, 30, 31, 32, 33, 34, 35, 36, 37, 5, 38, 39, 40, 41, 42, 43, 44, 45, 46, 47, 48, 49, 50, 51, 52, 53, 54, 55, 56, 57, 58, 59, 60, 61, 62, 63, 64, 65, 66, 67, 68, 69, 70, 71, 72, 73, 74, 75, 76, 77, 78, 79, 80, 81, 82, 83, 84, 85, 86, 87, 88, 89, 90, 91, 92, 93, 94, 95, 96, 97, 98, 99, 100, 101, 102, 103, 104, 105, 106, 107, 108, 109, 110, 111, 112, 113, 114, 115, 116, 117, 118, 119, 120, 121, 122, 123, 124, 125, 126, 127, 128, 129, 130, 131, 132, 133, 134, 135, 136, 137, 138, 139, 140, 141, 142, 193, 194, 195, 196, 197, 198, 199, 200, 201, 202, 203, 204, 205, 206, 207, 208, 209, 210, 211, 212, 213, 214, 215, 216, 217, 218, 219, 220, 221, 222, 223, 224, 225, 226, 227, 228, 229, 230] (by decide +kernel) (by decide +kernel)
set_option maxRecDepth 20000 in
theorem gX11_off_X11_findBends : GoodIn wsX11_off (wsV RX11 178 RX11 yX11_findBends wsX11_findBends) := goodIn_app (goodIn_of _ (by decide +kernel)) ggX11_off_X11_findBends
set_option maxRecDepth 20000 in
theorem ggX11_off_X11_fitWholes : GoodIn wsX11_off wsX11_fitWholes := goodIn_r _ [146, 11, 1, 9, 8, 147, 57, 58, 59, 60, 61, 148, 149, 150, 42, 151, 98, 152, 153, 154, 155, 156, 157, 12, 13, 14, 15, 16, 17, 158, 159, 160, 161, 162, 163, 164, 165, 166, 167, 168, 5, 169, 170, 171, 34, 172, 173, 33, 35, 174, 175, 176, 177, 178, 179, 180, 181, 182, 183, 184, 185, 63, 64, 65, 66, 186, 187, 188, 193, 194, 195, 196, 197, 198, 199, 200, 201, 202, 203, 221, 222, 223, 224, 212, 213, 214, 215, 216, 217, 218, 219, 220, 231, 232, 233, 234, 235, 236, 237, 204] (by decide +kernel) (by decide +kernel)
set_option maxRecDepth 20000 in
theorem gX11_off_X11_fitWholes : GoodIn wsX11_off (wsV RX11 196 RX11 yX11_fitWholes wsX11_fitWholes) := goodIn_app (goodIn_of _ (by decide +kernel)) ggX11_off_X11_fitWholes
set_option maxRecDepth 20000 in
theorem ggX11_off_X2_squares : GoodIn wsX11_off wsX2_squares := goodIn_r _ [192, 167, 231, 232, 233, 234, 235, 236, 237] (by decide +kernel) (by decide +kernel)
set_option maxRecDepth 20000 in
theorem gX11_off_X2_squares : GoodIn wsX11_off (wsV RX11 202 RX2 yX2_squares wsX2_squares) := goodIn_app (goodIn_of _ (by decide +kernel)) ggX11_off_X2_squares
theorem dX11_off_0 : decode cX11_off 0 = .ok (.aload_n 0, 1) := by decide +kernel
theorem dX11_off_1 : decode cX11_off 1 = .ok (.invokevirtual 178, 3) := by decide +kernel
theorem dX11_off_4 : decode cX11_off 4 = .ok (.aload_n 0, 1) := by decide +kernel
theorem dX11_off_5 : decode cX11_off 5 = .ok (.invokevirtual 196, 3) := by decide +kernel
theorem dX11_off_8 : decode cX11_off 8 = .ok (.aload_n 0, 1) := by decide +kernel
theorem dX11_off_9 : decode cX11_off 9 = .ok (.getfield 54, 3) := by decide +kernel
theorem dX11_off_12 : decode cX11_off 12 = .ok (.invokevirtual 202, 3) := by decide +kernel
theorem dX11_off_15 : decode cX11_off 15 = .ok (.lreturn, 1) := by decide +kernel
set_option maxRecDepth 20000 in
theorem ggX11_start_X3_now : GoodIn wsX11_start wsX3_now := goodIn_r _ [6, 7, 25, 26, 27, 28] (by decide +kernel) (by decide +kernel)
set_option maxRecDepth 20000 in
theorem gX11_start_X3_now : GoodIn wsX11_start (wsV RX11 206 RX3 yX3_now wsX3_now) := goodIn_app (goodIn_of _ (by decide +kernel)) ggX11_start_X3_now
set_option maxRecDepth 20000 in
theorem ggX11_start_X3_enter : GoodIn wsX11_start wsX3_enter := goodIn_r _ [11, 7, 12, 13, 25, 26, 27, 28] (by decide +kernel) (by decide +kernel)
set_option maxRecDepth 20000 in
theorem gX11_start_X3_enter : GoodIn wsX11_start (wsV RX11 209 RX3 yX3_enter wsX3_enter) := goodIn_app (goodIn_of _ (by decide +kernel)) ggX11_start_X3_enter
theorem dX11_start_0 : decode cX11_start 0 = .ok (.aload_n 0, 1) := by decide +kernel
theorem dX11_start_1 : decode cX11_start 1 = .ok (.getfield 61, 3) := by decide +kernel
theorem dX11_start_4 : decode cX11_start 4 = .ok (.invokevirtual 206, 3) := by decide +kernel
theorem dX11_start_7 : decode cX11_start 7 = .ok (.ifCond .eq 6, 3) := by decide +kernel
theorem dX11_start_10 : decode cX11_start 10 = .ok (.bipush (-2), 2) := by decide +kernel
theorem dX11_start_12 : decode cX11_start 12 = .ok (.ireturn, 1) := by decide +kernel
theorem dX11_start_13 : decode cX11_start 13 = .ok (.aload_n 0, 1) := by decide +kernel
theorem dX11_start_14 : decode cX11_start 14 = .ok (.getfield 61, 3) := by decide +kernel
theorem dX11_start_17 : decode cX11_start 17 = .ok (.iconst 1, 1) := by decide +kernel
theorem dX11_start_18 : decode cX11_start 18 = .ok (.invokevirtual 209, 3) := by decide +kernel
theorem dX11_start_21 : decode cX11_start 21 = .ok (.iconst 1, 1) := by decide +kernel
theorem dX11_start_22 : decode cX11_start 22 = .ok (.ireturn, 1) := by decide +kernel
set_option maxRecDepth 20000 in
theorem ggX11_stop_X3_now : GoodIn wsX11_stop wsX3_now := goodIn_r _ [6, 7, 25, 26, 27, 28] (by decide +kernel) (by decide +kernel)
set_option maxRecDepth 20000 in
theorem gX11_stop_X3_now : GoodIn wsX11_stop (wsV RX11 206 RX3 yX3_now wsX3_now) := goodIn_app (goodIn_of _ (by decide +kernel)) ggX11_stop_X3_now
set_option maxRecDepth 20000 in
theorem ggX11_stop_X3_enter : GoodIn wsX11_stop wsX3_enter := goodIn_r _ [11, 7, 12, 13, 25, 26, 27, 28] (by decide +kernel) (by decide +kernel)
set_option maxRecDepth 20000 in
theorem gX11_stop_X3_enter : GoodIn wsX11_stop (wsV RX11 209 RX3 yX3_enter wsX3_enter) := goodIn_app (goodIn_of _ (by decide +kernel)) ggX11_stop_X3_enter
theorem dX11_stop_0 : decode cX11_stop 0 = .ok (.aload_n 0, 1) := by decide +kernel
theorem dX11_stop_1 : decode cX11_stop 1 = .ok (.getfield 61, 3) := by decide +kernel
theorem dX11_stop_4 : decode cX11_stop 4 = .ok (.invokevirtual 206, 3) := by decide +kernel
theorem dX11_stop_7 : decode cX11_stop 7 = .ok (.istore_n 1, 1) := by decide +kernel
theorem dX11_stop_8 : decode cX11_stop 8 = .ok (.aload_n 0, 1) := by decide +kernel
theorem dX11_stop_9 : decode cX11_stop 9 = .ok (.getfield 61, 3) := by decide +kernel
theorem dX11_stop_12 : decode cX11_stop 12 = .ok (.iconst 0, 1) := by decide +kernel
theorem dX11_stop_13 : decode cX11_stop 13 = .ok (.invokevirtual 209, 3) := by decide +kernel
theorem dX11_stop_16 : decode cX11_stop 16 = .ok (.iload_n 1, 1) := by decide +kernel
theorem dX11_stop_17 : decode cX11_stop 17 = .ok (.ireturn, 1) := by decide +kernel
set_option maxRecDepth 20000 in
theorem ggX11_frames_X11_within : GoodIn wsX11_frames wsX11_within := goodIn_r _ [9] (by decide +kernel) (by decide +kernel)
set_option maxRecDepth 20000 in
theorem gX11_frames_X11_within : GoodIn wsX11_frames (va_wsS RX11 86 yX11_within wsX11_within) := goodIn_app (goodIn_of _ (by decide +kernel)) ggX11_frames_X11_within
set_option maxRecDepth 20000 in
theorem ggX11_frames_X11_findBends : GoodIn wsX11_frames wsX11_findBends := goodIn_r _ [13, 1, 2, 14, 15, 4, 16, 17, 18, 19, 20, 21, 22, 23, 24, 25, 26, 27, 28, 29, 30, 31, 32, 33, 34, 35, 36, 37, 38, 39, 40, 41, 8, 42, 43, 44, 45, 46, 47, 48, 49, 50, 51, 52, 53, 54, 55, 56, 57, 58, 59, 60, 61, 62, 63, 64, 65, 66, 67, 68, 69, 70, 71, 72, 73, 74, 75, 76, 77, 78, 79, 80, 81, 82, 83, 84, 85, 86, 87, 88, 89, 90, 91, 92, 93, 94, 95, 96, 97, 98, 99, 100, 101, 102, 103, 104, 105, 106, 107, 108, 109, 110, 111, 112, 113, 114, 115, 116, 117, 118, 119, 120, 121, 122, 123, 124, 125, 126, 127, 128, 129, 130, 131, 132, 133, 134, 135, 136, 137, 138, 139, 140, 141, 142, 143, 144, 145, 146, 250, 251, 252, 253, 254, 255, 256, 257, 258, 259, 260, 261, 262, 263, 264, 265, 266, 267, 268, 269, 270, 271, 272, 273, 274, 275, 276, 277, 278, 279, 280, 281, 282, 283, 284, 285, 286, 287] (by decide +kernel) (by decide +kernel)
set_option maxRecDepth 20000 in
theorem gX11_frames_X11_findBends : GoodIn wsX11_frames (wsV RX11 178 RX11 yX11_findBends wsX11_findBends) := goodIn_app (goodIn_of _ (by decide +kernel)) ggX11_frames_X11_findBends
set_option maxRecDepth 20000 in
theorem ggX11_frames_X9_lostOnes : GoodIn wsX11_frames wsX9_lostOnes := goodIn_r _ [150, 27, 262, 263, 264, 265, 266, 267, 268] (by decide +kernel) (by decide +kernel)
set_option maxRecDepth 20000 in
theorem gX11_frames_X9_lostOnes : GoodIn wsX11_frames (wsV RX11 212 RX9 yX9_lostOnes wsX9_lostOnes) := goodIn_app (goodIn_of _ (by decide +kernel)) ggX11_frames_X9_lostOnes
set_option maxRecDepth 20000 in
theorem ggX11_frames_X7_get : GoodIn wsX11_frames wsX7_get := goodIn_r _ [20, 21, 261] (by decide +kernel) (by decide +kernel)
set_option maxRecDepth 20000 in
theorem gX11_frames_X7_get : GoodIn wsX11_frames (wsV RX11 129 RX7 yX7_get wsX7_get) := goodIn_app (goodIn_of _ (by decide +kernel)) ggX11_frames_X7_get
set_option maxRecDepth 20000 in
theorem ggX11_frames_X3_now : GoodIn wsX11_frames wsX3_now := goodIn_r _ [155, 156, 288, 289, 290, 291] (by decide +kernel) (by decide +kernel)
set_option maxRecDepth 20000 in
theorem gX11_frames_X3_now : GoodIn wsX11_frames (wsV RX11 206 RX3 yX3_now wsX3_now) := goodIn_app (goodIn_of _ (by decide +kernel)) ggX11_frames_X3_now
set_option maxRecDepth 20000 in
theorem ggX11_frames_X3_pass : GoodIn wsX11_frames wsX3_pass := goodIn_r _ [160, 161, 162, 156, 163, 164, 165, 154, 166, 167, 168, 169, 170, 171, 288, 289, 290, 291] (by decide +kernel) (by decide +kernel)
set_option maxRecDepth 20000 in
theorem gX11_frames_X3_pass : GoodIn wsX11_frames (wsV RX11 215 RX3 yX3_pass wsX3_pass) := goodIn_app (goodIn_of _ (by decide +kernel)) ggX11_frames_X3_pass
set_option maxRecDepth 20000 in
theorem ggX11_frames_X6_level : GoodIn wsX11_frames wsX6_level := goodIn_r _ [175, 176, 177, 57, 58, 59, 278, 279, 280, 281] (by decide +kernel) (by decide +kernel)
set_option maxRecDepth 20000 in
theorem gX11_frames_X6_level : GoodIn wsX11_frames (wsV RX11 219 RX6 yX6_level wsX6_level) := goodIn_app (goodIn_of _ (by decide +kernel)) ggX11_frames_X6_level
set_option maxRecDepth 20000 in
theorem ggX11_frames_X11_moveUnits : GoodIn wsX11_frames wsX11_moveUnits := goodIn_r _ [181, 4, 182, 2, 14, 183, 61, 62, 63, 64, 65, 184, 185, 186, 187, 176, 16, 17, 18, 19, 20, 21, 188, 189, 190, 46, 191, 102, 192, 193, 194, 195, 196, 197, 198, 199, 200, 201, 202, 203, 204, 205, 206, 207, 208, 8, 209, 210, 211, 38, 212, 213, 37, 39, 214, 215, 216, 217, 218, 219, 220, 221, 222, 223, 224, 225, 67, 68, 69, 70, 226, 227, 228, 229, 230, 231, 232, 233, 234, 235, 236, 250, 251, 252, 253, 254, 255, 256, 257, 258, 259, 260, 278, 279, 280, 281, 261, 269, 270, 271, 272, 273, 274, 275, 276, 277, 292, 293, 294, 295, 296, 297, 298] (by decide +kernel) (by decide +kernel)
set_option maxRecDepth 20000 in
theorem gX11_frames_X11_moveUnits : GoodIn wsX11_frames (wsV RX11 222 RX11 yX11_moveUnits wsX11_moveUnits) := goodIn_app (goodIn_of _ (by decide +kernel)) ggX11_frames_X11_moveUnits
set_option maxRecDepth 20000 in
theorem ggX11_frames_X6_sum : GoodIn wsX11_frames wsX6_sum := goodIn_r _ [240, 65, 176, 278, 279, 280, 281] (by decide +kernel) (by decide +kernel)
set_option maxRecDepth 20000 in
theorem gX11_frames_X6_sum : GoodIn wsX11_frames (wsV RX11 226 RX6 yX6_sum wsX6_sum) := goodIn_app (goodIn_of _ (by decide +kernel)) ggX11_frames_X6_sum
set_option maxRecDepth 20000 in
theorem ggX11_frames_X1_note : GoodIn wsX11_frames wsX1_note := goodIn_r _ [245, 246, 247, 248, 249, 211, 38, 212, 299, 300, 301] (by decide +kernel) (by decide +kernel)
set_option maxRecDepth 20000 in
theorem gX11_frames_X1_note : GoodIn wsX11_frames (wsV RX11 229 RX1 yX1_note wsX1_note) := goodIn_app (goodIn_of _ (by decide +kernel)) ggX11_frames_X1_note
theorem dX11_frames_0 : decode cX11_frames 0 = .ok (.iload_n 1, 1) := by decide +kernel
theorem dX11_frames_1 : decode cX11_frames 1 = .ok (.iconst 1, 1) := by decide +kernel
theorem dX11_frames_2 : decode cX11_frames 2 = .ok (.bipush 100, 2) := by decide +kernel
theorem dX11_frames_4 : decode cX11_frames 4 = .ok (.invokestatic 86, 3) := by decide +kernel
theorem dX11_frames_7 : decode cX11_frames 7 = .ok (.ifCond .ne 5, 3) := by decide +kernel
theorem dX11_frames_10 : decode cX11_frames 10 = .ok (.iconst (-1), 1) := by decide +kernel
theorem dX11_frames_11 : decode cX11_frames 11 = .ok (.ireturn, 1) := by decide +kernel
theorem dX11_frames_12 : decode cX11_frames 12 = .ok (.aload_n 0, 1) := by decide +kernel
theorem dX11_frames_13 : decode cX11_frames 13 = .ok (.invokevirtual 178, 3) := by decide +kernel
theorem dX11_frames_16 : decode cX11_frames 16 = .ok (.aload_n 0, 1) := by decide +kernel
theorem dX11_frames_17 : decode cX11_frames 17 = .ok (.getfield 26, 3) := by decide +kernel
theorem dX11_frames_20 : decode cX11_frames 20 = .ok (.invokevirtual 212, 3) := by decide +kernel
theorem dX11_frames_23 : decode cX11_frames 23 = .ok (.aload_n 0, 1) := by decide +kernel
theorem dX11_frames_24 : decode cX11_frames 24 = .ok (.getfield 10, 3) := by decide +kernel
theorem dX11_frames_27 : decode cX11_frames 27 = .ok (.iconst 2, 1) := by decide +kernel
theorem dX11_frames_28 : decode cX11_frames 28 = .ok (.invokevirtual 129, 3) := by decide +kernel
theorem dX11_frames_31 : decode cX11_frames 31 = .ok (.if_icmp .gt 7, 3) := by decide +kernel
theorem dX11_frames_34 : decode cX11_frames 34 = .ok (.iconst 1, 1) := by decide +kernel
theorem dX11_frames_35 : decode cX11_frames 35 = .ok (.goto 4, 3) := by decide +kernel
theorem dX11_frames_38 : decode cX11_frames 38 = .ok (.iconst 0, 1) := by decide +kernel
theorem dX11_frames_39 : decode cX11_frames 39 = .ok (.istore_n 2, 1) := by decide +kernel
theorem dX11_frames_40 : decode cX11_frames 40 = .ok (.iconst 1, 1) := by decide +kernel
theorem dX11_frames_41 : decode cX11_frames 41 = .ok (.istore_n 3, 1) := by decide +kernel
theorem dX11_frames_42 : decode cX11_frames 42 = .ok (.iconst 0, 1) := by decide +kernel
theorem dX11_frames_43 : decode cX11_frames 43 = .ok (.istore 4, 2) := by decide +kernel
theorem dX11_frames_45 : decode cX11_frames 45 = .ok (.iload 4, 2) := by decide +kernel
theorem dX11_frames_47 : decode cX11_frames 47 = .ok (.iload_n 1, 1) := by decide +kernel
theorem dX11_frames_48 : decode cX11_frames 48 = .ok (.if_icmp .ge 83, 3) := by decide +kernel
theorem dX11_frames_51 : decode cX11_frames 51 = .ok (.aload_n 0, 1) := by decide +kernel
theorem dX11_frames_52 : decode cX11_frames 52 = .ok (.getfield 61, 3) := by decide +kernel
theorem dX11_frames_55 : decode cX11_frames 55 = .ok (.invokevirtual 206, 3) := by decide +kernel
theorem dX11_frames_58 : decode cX11_frames 58 = .ok (.istore 5, 2) := by decide +kernel
theorem dX11_frames_60 : decode cX11_frames 60 = .ok (.aload_n 0, 1) := by decide +kernel
theorem dX11_frames_61 : decode cX11_frames 61 = .ok (.getfield 61, 3) := by decide +kernel
theorem dX11_frames_64 : decode cX11_frames 64 = .ok (.iload_n 2, 1) := by decide +kernel
theorem dX11_frames_65 : decode cX11_frames 65 = .ok (.invokevirtual 215, 3) := by decide +kernel
theorem dX11_frames_68 : decode cX11_frames 68 = .ok (.ifCond .eq 10, 3) := by decide +kernel
theorem dX11_frames_71 : decode cX11_frames 71 = .ok (.aload_n 0, 1) := by decide +kernel
theorem dX11_frames_72 : decode cX11_frames 72 = .ok (.getfield 40, 3) := by decide +kernel
theorem dX11_frames_75 : decode cX11_frames 75 = .ok (.invokevirtual 219, 3) := by decide +kernel
theorem dX11_frames_78 : decode cX11_frames 78 = .ok (.iload 5, 2) := by decide +kernel
theorem dX11_frames_80 : decode cX11_frames 80 = .ok (.iconst 2, 1) := by decide +kernel
theorem dX11_frames_81 : decode cX11_frames 81 = .ok (.if_icmp .ne 16, 3) := by decide +kernel
theorem dX11_frames_84 : decode cX11_frames 84 = .ok (.iload_n 2, 1) := by decide +kernel
theorem dX11_frames_85 : decode cX11_frames 85 = .ok (.ifCond .eq 12, 3) := by decide +kernel
theorem dX11_frames_88 : decode cX11_frames 88 = .ok (.iload_n 3, 1) := by decide +kernel
theorem dX11_frames_89 : decode cX11_frames 89 = .ok (.ifCond .eq 8, 3) := by decide +kernel
theorem dX11_frames_92 : decode cX11_frames 92 = .ok (.aload_n 0, 1) := by decide +kernel
theorem dX11_frames_93 : decode cX11_frames 93 = .ok (.invokevirtual 222, 3) := by decide +kernel
theorem dX11_frames_96 : decode cX11_frames 96 = .ok (.istore_n 3, 1) := by decide +kernel
theorem dX11_frames_97 : decode cX11_frames 97 = .ok (.aload_n 0, 1) := by decide +kernel
theorem dX11_frames_98 : decode cX11_frames 98 = .ok (.getfield 68, 3) := by decide +kernel
theorem dX11_frames_101 : decode cX11_frames 101 = .ok (.aload_n 0, 1) := by decide +kernel
theorem dX11_frames_102 : decode cX11_frames 102 = .ok (.getfield 61, 3) := by decide +kernel
theorem dX11_frames_105 : decode cX11_frames 105 = .ok (.invokevirtual 206, 3) := by decide +kernel
theorem dX11_frames_108 : decode cX11_frames 108 = .ok (.aload_n 0, 1) := by decide +kernel
theorem dX11_frames_109 : decode cX11_frames 109 = .ok (.getfield 26, 3) := by decide +kernel
theorem dX11_frames_112 : decode cX11_frames 112 = .ok (.invokevirtual 212, 3) := by decide +kernel
theorem dX11_frames_115 : decode cX11_frames 115 = .ok (.aload_n 0, 1) := by decide +kernel
theorem dX11_frames_116 : decode cX11_frames 116 = .ok (.getfield 40, 3) := by decide +kernel
theorem dX11_frames_119 : decode cX11_frames 119 = .ok (.invokevirtual 226, 3) := by decide +kernel
theorem dX11_frames_122 : decode cX11_frames 122 = .ok (.invokevirtual 229, 3) := by decide +kernel
theorem dX11_frames_125 : decode cX11_frames 125 = .ok (.iinc 4 1, 3) := by decide +kernel
theorem dX11_frames_128 : decode cX11_frames 128 = .ok (.goto (-83), 3) := by decide +kernel
theorem dX11_frames_131 : decode cX11_frames 131 = .ok (.aload_n 0, 1) := by decide +kernel
theorem dX11_frames_132 : decode cX11_frames 132 = .ok (.getfield 61, 3) := by decide +kernel
theorem dX11_frames_135 : decode cX11_frames 135 = .ok (.invokevirtual 206, 3) := by decide +kernel
theorem dX11_frames_138 : decode cX11_frames 138 = .ok (.ireturn, 1) := by decide +kernel
set_option maxRecDepth 20000 in
theorem ggX11_state_X6_count : GoodIn wsX11_state wsX6_count := goodIn_r _ [7, 8, 45, 46, 47, 48] (by decide +kernel) (by decide +kernel)
set_option maxRecDepth 20000 in
theorem gX11_state_X6_count : GoodIn wsX11_state (wsV RX11 233 RX6 yX6_count wsX6_count) := goodIn_app (goodIn_of _ (by decide +kernel)) ggX11_state_X6_count
set_option maxRecDepth 20000 in
theorem ggX11_state_X11_within : GoodIn wsX11_state wsX11_within := goodIn_r _ [12] (by decide +kernel) (by decide +kernel)
set_option maxRecDepth 20000 in
theorem gX11_state_X11_within : GoodIn wsX11_state (va_wsS RX11 86 yX11_within wsX11_within) := goodIn_app (goodIn_of _ (by decide +kernel)) ggX11_state_X11_within
set_option maxRecDepth 20000 in
theorem ggX11_state_X6_unitsOf : GoodIn wsX11_state wsX6_unitsOf := goodIn_r _ [16, 17, 45, 46, 47, 48] (by decide +kernel) (by decide +kernel)
set_option maxRecDepth 20000 in
theorem gX11_state_X6_unitsOf : GoodIn wsX11_state (wsV RX11 234 RX6 yX6_unitsOf wsX6_unitsOf) := goodIn_app (goodIn_of _ (by decide +kernel)) ggX11_state_X6_unitsOf
set_option maxRecDepth 20000 in
theorem ggX11_state_X6_tip : GoodIn wsX11_state wsX6_tip := goodIn_r _ [21, 22, 45, 46, 47, 48] (by decide +kernel) (by decide +kernel)
set_option maxRecDepth 20000 in
theorem gX11_state_X6_tip : GoodIn wsX11_state (wsV RX11 235 RX6 yX6_tip wsX6_tip) := goodIn_app (goodIn_of _ (by decide +kernel)) ggX11_state_X6_tip
set_option maxRecDepth 20000 in
theorem ggX11_state_X3_now : GoodIn wsX11_state wsX3_now := goodIn_r _ [27, 28, 49, 50, 51, 52] (by decide +kernel) (by decide +kernel)
set_option maxRecDepth 20000 in
theorem gX11_state_X3_now : GoodIn wsX11_state (wsV RX11 206 RX3 yX3_now wsX3_now) := goodIn_app (goodIn_of _ (by decide +kernel)) ggX11_state_X3_now
set_option maxRecDepth 20000 in
theorem ggX11_state_X3_done : GoodIn wsX11_state wsX3_done := goodIn_r _ [32, 33, 49, 50, 51, 52] (by decide +kernel) (by decide +kernel)
set_option maxRecDepth 20000 in
theorem gX11_state_X3_done : GoodIn wsX11_state (wsV RX11 238 RX3 yX3_done wsX3_done) := goodIn_app (goodIn_of _ (by decide +kernel)) ggX11_state_X3_done
theorem dX11_state_0 : decode cX11_state 0 = .ok (.aload_n 0, 1) := by decide +kernel
theorem dX11_state_1 : decode cX11_state 1 = .ok (.getfield 40, 3) := by decide +kernel
theorem dX11_state_4 : decode cX11_state 4 = .ok (.invokevirtual 233, 3) := by decide +kernel
theorem dX11_state_7 : decode cX11_state 7 = .ok (.istore_n 2, 1) := by decide +kernel
theorem dX11_state_8 : decode cX11_state 8 = .ok (.iload_n 1, 1) := by decide +kernel
theorem dX11_state_9 : decode cX11_state 9 = .ok (.iconst 0, 1) := by decide +kernel
theorem dX11_state_10 : decode cX11_state 10 = .ok (.iload_n 2, 1) := by decide +kernel
theorem dX11_state_11 : decode cX11_state 11 = .ok (.iconst 2, 1) := by decide +kernel
theorem dX11_state_12 : decode cX11_state 12 = .ok (.iadd, 1) := by decide +kernel
theorem dX11_state_13 : decode cX11_state 13 = .ok (.invokestatic 86, 3) := by decide +kernel
theorem dX11_state_16 : decode cX11_state 16 = .ok (.ifCond .ne 7, 3) := by decide +kernel
theorem dX11_state_19 : decode cX11_state 19 = .ok (.sipush (-10001), 3) := by decide +kernel
theorem dX11_state_22 : decode cX11_state 22 = .ok (.ireturn, 1) := by decide +kernel
theorem dX11_state_23 : decode cX11_state 23 = .ok (.iload_n 1, 1) := by decide +kernel
theorem dX11_state_24 : decode cX11_state 24 = .ok (.iload_n 2, 1) := by decide +kernel
theorem dX11_state_25 : decode cX11_state 25 = .ok (.if_icmp .ge 12, 3) := by decide +kernel
theorem dX11_state_28 : decode cX11_state 28 = .ok (.aload_n 0, 1) := by decide +kernel
theorem dX11_state_29 : decode cX11_state 29 = .ok (.getfield 40, 3) := by decide +kernel
theorem dX11_state_32 : decode cX11_state 32 = .ok (.iload_n 1, 1) := by decide +kernel
theorem dX11_state_33 : decode cX11_state 33 = .ok (.invokevirtual 234, 3) := by decide +kernel
theorem dX11_state_36 : decode cX11_state 36 = .ok (.ireturn, 1) := by decide +kernel
theorem dX11_state_37 : decode cX11_state 37 = .ok (.iload_n 1, 1) := by decide +kernel
theorem dX11_state_38 : decode cX11_state 38 = .ok (.iload_n 2, 1) := by decide +kernel
theorem dX11_state_39 : decode cX11_state 39 = .ok (.if_icmp .ne 11, 3) := by decide +kernel
theorem dX11_state_42 : decode cX11_state 42 = .ok (.aload_n 0, 1) := by decide +kernel
theorem dX11_state_43 : decode cX11_state 43 = .ok (.getfield 40, 3) := by decide +kernel
theorem dX11_state_46 : decode cX11_state 46 = .ok (.invokevirtual 235, 3) := by decide +kernel
theorem dX11_state_49 : decode cX11_state 49 = .ok (.ireturn, 1) := by decide +kernel
theorem dX11_state_50 : decode cX11_state 50 = .ok (.iload_n 1, 1) := by decide +kernel
theorem dX11_state_51 : decode cX11_state 51 = .ok (.iload_n 2, 1) := by decide +kernel
theorem dX11_state_52 : decode cX11_state 52 = .ok (.iconst 1, 1) := by decide +kernel
theorem dX11_state_53 : decode cX11_state 53 = .ok (.iadd, 1) := by decide +kernel
theorem dX11_state_54 : decode cX11_state 54 = .ok (.if_icmp .ne 13, 3) := by decide +kernel
theorem dX11_state_57 : decode cX11_state 57 = .ok (.aload_n 0, 1) := by decide +kernel
theorem dX11_state_58 : decode cX11_state 58 = .ok (.getfield 61, 3) := by decide +kernel
theorem dX11_state_61 : decode cX11_state 61 = .ok (.invokevirtual 206, 3) := by decide +kernel
theorem dX11_state_64 : decode cX11_state 64 = .ok (.goto 10, 3) := by decide +kernel
theorem dX11_state_67 : decode cX11_state 67 = .ok (.aload_n 0, 1) := by decide +kernel
theorem dX11_state_68 : decode cX11_state 68 = .ok (.getfield 61, 3) := by decide +kernel
theorem dX11_state_71 : decode cX11_state 71 = .ok (.invokevirtual 238, 3) := by decide +kernel
theorem dX11_state_74 : decode cX11_state 74 = .ok (.ireturn, 1) := by decide +kernel
set_option maxRecDepth 20000 in
theorem ggX11_units_X7_get : GoodIn wsX11_units wsX7_get := goodIn_r _ [7, 8, 39] (by decide +kernel) (by decide +kernel)
set_option maxRecDepth 20000 in
theorem gX11_units_X7_get : GoodIn wsX11_units (wsV RX11 129 RX7 yX7_get wsX7_get) := goodIn_app (goodIn_of _ (by decide +kernel)) ggX11_units_X7_get
set_option maxRecDepth 20000 in
theorem ggX11_units_X11_isPart : GoodIn wsX11_units wsX11_isPart := goodIn_r _ [13, 2, 14, 15, 16, 17, 18, 19, 20, 21, 12, 22, 28, 29, 30, 31, 32, 33, 34, 35, 36, 37, 38, 40, 41, 42, 43] (by decide +kernel) (by decide +kernel)
set_option maxRecDepth 20000 in
theorem gX11_units_X11_isPart : GoodIn wsX11_units (wsV RX11 149 RX11 yX11_isPart wsX11_isPart) := goodIn_app (goodIn_of _ (by decide +kernel)) ggX11_units_X11_isPart
set_option maxRecDepth 20000 in
theorem ggX11_units_X11_within : GoodIn wsX11_units wsX11_within := goodIn_r _ [22] (by decide +kernel) (by decide +kernel)
set_option maxRecDepth 20000 in
theorem gX11_units_X11_within : GoodIn wsX11_units (va_wsS RX11 86 yX11_within wsX11_within) := goodIn_app (goodIn_of _ (by decide +kernel)) ggX11_units_X11_within
set_option maxRecDepth 20000 in
theorem ggX11_units_X6_swapUnits : GoodIn wsX11_units wsX6_swapUnits := goodIn_r _ [26, 27, 40, 41, 42, 43] (by decide +kernel) (by decide +kernel)
set_option maxRecDepth 20000 in
theorem gX11_units_X6_swapUnits : GoodIn wsX11_units (wsV RX11 241 RX6 yX6_swapUnits wsX6_swapUnits) := goodIn_app (goodIn_of _ (by decide +kernel)) ggX11_units_X6_swapUnits
theorem dX11_units_0 : decode cX11_units 0 = .ok (.aload_n 0, 1) := by decide +kernel
theorem dX11_units_1 : decode cX11_units 1 = .ok (.getfield 10, 3) := by decide +kernel
theorem dX11_units_4 : decode cX11_units 4 = .ok (.iconst 4, 1) := by decide +kernel
theorem dX11_units_5 : decode cX11_units 5 = .ok (.invokevirtual 129, 3) := by decide +kernel
theorem dX11_units_8 : decode cX11_units 8 = .ok (.istore_n 3, 1) := by decide +kernel
theorem dX11_units_9 : decode cX11_units 9 = .ok (.aload_n 0, 1) := by decide +kernel
theorem dX11_units_10 : decode cX11_units 10 = .ok (.iload_n 1, 1) := by decide +kernel
theorem dX11_units_11 : decode cX11_units 11 = .ok (.invokevirtual 149, 3) := by decide +kernel
theorem dX11_units_14 : decode cX11_units 14 = .ok (.ifCond .eq 13, 3) := by decide +kernel
theorem dX11_units_17 : decode cX11_units 17 = .ok (.iload_n 2, 1) := by decide +kernel
theorem dX11_units_18 : decode cX11_units 18 = .ok (.iload_n 3, 1) := by decide +kernel
theorem dX11_units_19 : decode cX11_units 19 = .ok (.ineg, 1) := by decide +kernel
theorem dX11_units_20 : decode cX11_units 20 = .ok (.iload_n 3, 1) := by decide +kernel
theorem dX11_units_21 : decode cX11_units 21 = .ok (.invokestatic 86, 3) := by decide +kernel
theorem dX11_units_24 : decode cX11_units 24 = .ok (.ifCond .ne 7, 3) := by decide +kernel
theorem dX11_units_27 : decode cX11_units 27 = .ok (.sipush (-10001), 3) := by decide +kernel
theorem dX11_units_30 : decode cX11_units 30 = .ok (.ireturn, 1) := by decide +kernel
theorem dX11_units_31 : decode cX11_units 31 = .ok (.aload_n 0, 1) := by decide +kernel
theorem dX11_units_32 : decode cX11_units 32 = .ok (.getfield 40, 3) := by decide +kernel
theorem dX11_units_35 : decode cX11_units 35 = .ok (.iload_n 1, 1) := by decide +kernel
theorem dX11_units_36 : decode cX11_units 36 = .ok (.iload_n 2, 1) := by decide +kernel
theorem dX11_units_37 : decode cX11_units 37 = .ok (.invokevirtual 241, 3) := by decide +kernel
theorem dX11_units_40 : decode cX11_units 40 = .ok (.ireturn, 1) := by decide +kernel
set_option maxRecDepth 20000 in
theorem ggX11_shed_X6_giveToTip : GoodIn wsX11_shed wsX6_giveToTip := goodIn_r _ [6, 7, 8, 9, 10, 11, 12, 5, 13, 14, 15, 16, 28, 29, 30, 31] (by decide +kernel) (by decide +kernel)
set_option maxRecDepth 20000 in
theorem gX11_shed_X6_giveToTip : GoodIn wsX11_shed (wsV RX11 244 RX6 yX6_giveToTip wsX6_giveToTip) := goodIn_app (goodIn_of _ (by decide +kernel)) ggX11_shed_X6_giveToTip
theorem dX11_shed_0 : decode cX11_shed 0 = .ok (.aload_n 0, 1) := by decide +kernel
theorem dX11_shed_1 : decode cX11_shed 1 = .ok (.getfield 40, 3) := by decide +kernel
theorem dX11_shed_4 : decode cX11_shed 4 = .ok (.invokevirtual 244, 3) := by decide +kernel
theorem dX11_shed_7 : decode cX11_shed 7 = .ok (.ireturn, 1) := by decide +kernel
set_option maxRecDepth 20000 in
theorem ggX11_log_X1_has : GoodIn wsX11_log wsX1_has := goodIn_r _ [6, 7, 8, 9, 10, 33, 34, 35] (by decide +kernel) (by decide +kernel)
set_option maxRecDepth 20000 in
theorem gX11_log_X1_has : GoodIn wsX11_log (wsV RX11 247 RX1 yX1_has wsX1_has) := goodIn_app (goodIn_of _ (by decide +kernel)) ggX11_log_X1_has
set_option maxRecDepth 20000 in
theorem ggX11_log_X11_within : GoodIn wsX11_log wsX11_within := goodIn_r _ [10] (by decide +kernel) (by decide +kernel)
set_option maxRecDepth 20000 in
theorem gX11_log_X11_within : GoodIn wsX11_log (va_wsS RX11 86 yX11_within wsX11_within) := goodIn_app (goodIn_of _ (by decide +kernel)) ggX11_log_X11_within
set_option maxRecDepth 20000 in
theorem ggX11_log_X1_read : GoodIn wsX11_log wsX1_read := goodIn_r _ [15, 16, 17, 18, 19, 20, 21, 33, 34, 35] (by decide +kernel) (by decide +kernel)
set_option maxRecDepth 20000 in
theorem gX11_log_X1_read : GoodIn wsX11_log (wsV RX11 250 RX1 yX1_read wsX1_read) := goodIn_app (goodIn_of _ (by decide +kernel)) ggX11_log_X1_read
theorem dX11_log_0 : decode cX11_log 0 = .ok (.aload_n 0, 1) := by decide +kernel
theorem dX11_log_1 : decode cX11_log 1 = .ok (.getfield 68, 3) := by decide +kernel
theorem dX11_log_4 : decode cX11_log 4 = .ok (.iload_n 1, 1) := by decide +kernel
theorem dX11_log_5 : decode cX11_log 5 = .ok (.invokevirtual 247, 3) := by decide +kernel
theorem dX11_log_8 : decode cX11_log 8 = .ok (.ifCond .eq 12, 3) := by decide +kernel
theorem dX11_log_11 : decode cX11_log 11 = .ok (.iload_n 2, 1) := by decide +kernel
theorem dX11_log_12 : decode cX11_log 12 = .ok (.iconst 0, 1) := by decide +kernel
theorem dX11_log_13 : decode cX11_log 13 = .ok (.iconst 2, 1) := by decide +kernel
theorem dX11_log_14 : decode cX11_log 14 = .ok (.invokestatic 86, 3) := by decide +kernel
theorem dX11_log_17 : decode cX11_log 17 = .ok (.ifCond .ne 7, 3) := by decide +kernel
theorem dX11_log_20 : decode cX11_log 20 = .ok (.sipush (-10001), 3) := by decide +kernel
theorem dX11_log_23 : decode cX11_log 23 = .ok (.ireturn, 1) := by decide +kernel
theorem dX11_log_24 : decode cX11_log 24 = .ok (.aload_n 0, 1) := by decide +kernel
theorem dX11_log_25 : decode cX11_log 25 = .ok (.getfield 68, 3) := by decide +kernel
theorem dX11_log_28 : decode cX11_log 28 = .ok (.iload_n 1, 1) := by decide +kernel
theorem dX11_log_29 : decode cX11_log 29 = .ok (.iload_n 2, 1) := by decide +kernel
theorem dX11_log_30 : decode cX11_log 30 = .ok (.invokevirtual 250, 3) := by decide +kernel
theorem dX11_log_33 : decode cX11_log 33 = .ok (.ireturn, 1) := by decide +kernel
set_option maxRecDepth 20000 in
theorem ggX11_loop_X11_within : GoodIn wsX11_loop wsX11_within := goodIn_r _ [6] (by decide +kernel) (by decide +kernel)
set_option maxRecDepth 20000 in
theorem gX11_loop_X11_within : GoodIn wsX11_loop (va_wsS RX11 86 yX11_within wsX11_within) := goodIn_app (goodIn_of _ (by decide +kernel)) ggX11_loop_X11_within
set_option maxRecDepth 20000 in
theorem ggX11_loop_X8_refusal : GoodIn wsX11_loop wsX8_refusal := goodIn_r _ [11, 12, 13, 14, 5, 15, 3, 4, 6, 16, 17, 18, 19, 20, 10, 21, 49, 50, 51] (by decide +kernel) (by decide +kernel)
set_option maxRecDepth 20000 in
theorem gX11_loop_X8_refusal : GoodIn wsX11_loop (wsV RX11 107 RX8 yX8_refusal wsX8_refusal) := goodIn_app (goodIn_of _ (by decide +kernel)) ggX11_loop_X8_refusal
set_option maxRecDepth 20000 in
theorem ggX11_loop_X8_allWithin : GoodIn wsX11_loop wsX8_allWithin := goodIn_r _ [25, 26, 27, 28, 10, 29, 30, 4, 5, 6, 49, 50, 51] (by decide +kernel) (by decide +kernel)
set_option maxRecDepth 20000 in
theorem gX11_loop_X8_allWithin : GoodIn wsX11_loop (wsV RX11 111 RX8 yX8_allWithin wsX8_allWithin) := goodIn_app (goodIn_of _ (by decide +kernel)) ggX11_loop_X8_allWithin
set_option maxRecDepth 20000 in
theorem ggX11_loop_X8_at : GoodIn wsX11_loop wsX8_at := goodIn_r _ [29, 30, 49, 50, 51] (by decide +kernel) (by decide +kernel)
set_option maxRecDepth 20000 in
theorem gX11_loop_X8_at : GoodIn wsX11_loop (wsV RX11 115 RX8 yX8_at wsX8_at) := goodIn_app (goodIn_of _ (by decide +kernel)) ggX11_loop_X8_at
set_option maxRecDepth 20000 in
theorem ggX11_loop_X5_setTerm : GoodIn wsX11_loop wsX5_setTerm := goodIn_r _ [36, 37, 52, 53, 54] (by decide +kernel) (by decide +kernel)
set_option maxRecDepth 20000 in
theorem gX11_loop_X5_setTerm : GoodIn wsX11_loop (wsV RX11 253 RX5 yX5_setTerm wsX5_setTerm) := goodIn_app (goodIn_of _ (by decide +kernel)) ggX11_loop_X5_setTerm
theorem dX11_loop_0 : decode cX11_loop 0 = .ok (.iload_n 1, 1) := by decide +kernel
theorem dX11_loop_1 : decode cX11_loop 1 = .ok (.iconst 0, 1) := by decide +kernel
theorem dX11_loop_2 : decode cX11_loop 2 = .ok (.iconst 1, 1) := by decide +kernel
theorem dX11_loop_3 : decode cX11_loop 3 = .ok (.invokestatic 86, 3) := by decide +kernel
theorem dX11_loop_6 : decode cX11_loop 6 = .ok (.ifCond .eq 13, 3) := by decide +kernel
theorem dX11_loop_9 : decode cX11_loop 9 = .ok (.iload 5, 2) := by decide +kernel
theorem dX11_loop_11 : decode cX11_loop 11 = .ok (.iconst 1, 1) := by decide +kernel
theorem dX11_loop_12 : decode cX11_loop 12 = .ok (.iconst 5, 1) := by decide +kernel
theorem dX11_loop_13 : decode cX11_loop 13 = .ok (.invokestatic 86, 3) := by decide +kernel
theorem dX11_loop_16 : decode cX11_loop 16 = .ok (.ifCond .ne 5, 3) := by decide +kernel
theorem dX11_loop_19 : decode cX11_loop 19 = .ok (.iconst (-1), 1) := by decide +kernel
theorem dX11_loop_20 : decode cX11_loop 20 = .ok (.ireturn, 1) := by decide +kernel
theorem dX11_loop_21 : decode cX11_loop 21 = .ok (.aload_n 0, 1) := by decide +kernel
theorem dX11_loop_22 : decode cX11_loop 22 = .ok (.getfield 19, 3) := by decide +kernel
theorem dX11_loop_25 : decode cX11_loop 25 = .ok (.iload_n 2, 1) := by decide +kernel
theorem dX11_loop_26 : decode cX11_loop 26 = .ok (.iload_n 3, 1) := by decide +kernel
theorem dX11_loop_27 : decode cX11_loop 27 = .ok (.iload 4, 2) := by decide +kernel
theorem dX11_loop_29 : decode cX11_loop 29 = .ok (.iload 5, 2) := by decide +kernel
theorem dX11_loop_31 : decode cX11_loop 31 = .ok (.invokevirtual 107, 3) := by decide +kernel
theorem dX11_loop_34 : decode cX11_loop 34 = .ok (.istore 6, 2) := by decide +kernel
theorem dX11_loop_36 : decode cX11_loop 36 = .ok (.iload 6, 2) := by decide +kernel
theorem dX11_loop_38 : decode cX11_loop 38 = .ok (.ifCond .eq 6, 3) := by decide +kernel
theorem dX11_loop_41 : decode cX11_loop 41 = .ok (.iload 6, 2) := by decide +kernel
theorem dX11_loop_43 : decode cX11_loop 43 = .ok (.ireturn, 1) := by decide +kernel
theorem dX11_loop_44 : decode cX11_loop 44 = .ok (.aload_n 0, 1) := by decide +kernel
theorem dX11_loop_45 : decode cX11_loop 45 = .ok (.getfield 19, 3) := by decide +kernel
theorem dX11_loop_48 : decode cX11_loop 48 = .ok (.iload_n 2, 1) := by decide +kernel
theorem dX11_loop_49 : decode cX11_loop 49 = .ok (.iload 4, 2) := by decide +kernel
theorem dX11_loop_51 : decode cX11_loop 51 = .ok (.iload 5, 2) := by decide +kernel
theorem dX11_loop_53 : decode cX11_loop 53 = .ok (.bipush (-50), 2) := by decide +kernel
theorem dX11_loop_55 : decode cX11_loop 55 = .ok (.bipush 50, 2) := by decide +kernel
theorem dX11_loop_57 : decode cX11_loop 57 = .ok (.invokevirtual 111, 3) := by decide +kernel
theorem dX11_loop_60 : decode cX11_loop 60 = .ok (.ifCond .ne 6, 3) := by decide +kernel
theorem dX11_loop_63 : decode cX11_loop 63 = .ok (.bipush (-2), 2) := by decide +kernel
theorem dX11_loop_65 : decode cX11_loop 65 = .ok (.ireturn, 1) := by decide +kernel
theorem dX11_loop_66 : decode cX11_loop 66 = .ok (.iconst 0, 1) := by decide +kernel
theorem dX11_loop_67 : decode cX11_loop 67 = .ok (.istore 7, 2) := by decide +kernel
theorem dX11_loop_69 : decode cX11_loop 69 = .ok (.iload 7, 2) := by decide +kernel
theorem dX11_loop_71 : decode cX11_loop 71 = .ok (.iconst 5, 1) := by decide +kernel
theorem dX11_loop_72 : decode cX11_loop 72 = .ok (.if_icmp .ge 43, 3) := by decide +kernel
theorem dX11_loop_75 : decode cX11_loop 75 = .ok (.aload_n 0, 1) := by decide +kernel
theorem dX11_loop_76 : decode cX11_loop 76 = .ok (.getfield 75, 3) := by decide +kernel
theorem dX11_loop_79 : decode cX11_loop 79 = .ok (.iload_n 1, 1) := by decide +kernel
theorem dX11_loop_80 : decode cX11_loop 80 = .ok (.iload 7, 2) := by decide +kernel
theorem dX11_loop_82 : decode cX11_loop 82 = .ok (.iload 7, 2) := by decide +kernel
theorem dX11_loop_84 : decode cX11_loop 84 = .ok (.iload 5, 2) := by decide +kernel
theorem dX11_loop_86 : decode cX11_loop 86 = .ok (.if_icmp .ge 19, 3) := by decide +kernel
theorem dX11_loop_89 : decode cX11_loop 89 = .ok (.aload_n 0, 1) := by decide +kernel
theorem dX11_loop_90 : decode cX11_loop 90 = .ok (.getfield 19, 3) := by decide +kernel
theorem dX11_loop_93 : decode cX11_loop 93 = .ok (.iload_n 2, 1) := by decide +kernel
theorem dX11_loop_94 : decode cX11_loop 94 = .ok (.iload 4, 2) := by decide +kernel
theorem dX11_loop_96 : decode cX11_loop 96 = .ok (.iload 7, 2) := by decide +kernel
theorem dX11_loop_98 : decode cX11_loop 98 = .ok (.iadd, 1) := by decide +kernel
theorem dX11_loop_99 : decode cX11_loop 99 = .ok (.invokevirtual 115, 3) := by decide +kernel
theorem dX11_loop_102 : decode cX11_loop 102 = .ok (.goto 4, 3) := by decide +kernel
theorem dX11_loop_105 : decode cX11_loop 105 = .ok (.iconst 0, 1) := by decide +kernel
theorem dX11_loop_106 : decode cX11_loop 106 = .ok (.invokevirtual 253, 3) := by decide +kernel
theorem dX11_loop_109 : decode cX11_loop 109 = .ok (.iinc 7 1, 3) := by decide +kernel
theorem dX11_loop_112 : decode cX11_loop 112 = .ok (.goto (-43), 3) := by decide +kernel
theorem dX11_loop_115 : decode cX11_loop 115 = .ok (.iload 5, 2) := by decide +kernel
theorem dX11_loop_117 : decode cX11_loop 117 = .ok (.ireturn, 1) := by decide +kernel
set_option maxRecDepth 20000 in
theorem ggX11_steady_X11_within : GoodIn wsX11_steady wsX11_within := goodIn_r _ [5] (by decide +kernel) (by decide +kernel)
set_option maxRecDepth 20000 in
theorem gX11_steady_X11_within : GoodIn wsX11_steady (va_wsS RX11 86 yX11_within wsX11_within) := goodIn_app (goodIn_of _ (by decide +kernel)) ggX11_steady_X11_within
set_option maxRecDepth 20000 in
theorem ggX11_steady_X5_isSteady : GoodIn wsX11_steady wsX5_isSteady := goodIn_r _ [10, 11, 12, 13, 14, 15, 16, 9, 17, 18, 19, 20, 21, 22, 23, 24, 25, 26, 27, 28, 29, 30, 31, 32, 33, 34, 46, 47, 48] (by decide +kernel) (by decide +kernel)
set_option maxRecDepth 20000 in
theorem gX11_steady_X5_isSteady : GoodIn wsX11_steady (wsV RX11 256 RX5 yX5_isSteady wsX5_isSteady) := goodIn_app (goodIn_of _ (by decide +kernel)) ggX11_steady_X5_isSteady
theorem dX11_steady_0 : decode cX11_steady 0 = .ok (.iload_n 1, 1) := by decide +kernel
theorem dX11_steady_1 : decode cX11_steady 1 = .ok (.iconst 0, 1) := by decide +kernel
theorem dX11_steady_2 : decode cX11_steady 2 = .ok (.bipush 100, 2) := by decide +kernel
theorem dX11_steady_4 : decode cX11_steady 4 = .ok (.invokestatic 86, 3) := by decide +kernel
theorem dX11_steady_7 : decode cX11_steady 7 = .ok (.ifCond .ne 5, 3) := by decide +kernel
theorem dX11_steady_10 : decode cX11_steady 10 = .ok (.iconst (-1), 1) := by decide +kernel
theorem dX11_steady_11 : decode cX11_steady 11 = .ok (.ireturn, 1) := by decide +kernel
theorem dX11_steady_12 : decode cX11_steady 12 = .ok (.aload_n 0, 1) := by decide +kernel
theorem dX11_steady_13 : decode cX11_steady 13 = .ok (.getfield 75, 3) := by decide +kernel
theorem dX11_steady_16 : decode cX11_steady 16 = .ok (.iload_n 1, 1) := by decide +kernel
theorem dX11_steady_17 : decode cX11_steady 17 = .ok (.invokevirtual 256, 3) := by decide +kernel
theorem dX11_steady_20 : decode cX11_steady 20 = .ok (.ifCond .eq 7, 3) := by decide +kernel
theorem dX11_steady_23 : decode cX11_steady 23 = .ok (.iconst 1, 1) := by decide +kernel
theorem dX11_steady_24 : decode cX11_steady 24 = .ok (.goto 4, 3) := by decide +kernel
theorem dX11_steady_27 : decode cX11_steady 27 = .ok (.iconst 0, 1) := by decide +kernel
theorem dX11_steady_28 : decode cX11_steady 28 = .ok (.ireturn, 1) := by decide +kernel
set_option maxRecDepth 20000 in
theorem ggX11_unsteady_X11_within : GoodIn wsX11_unsteady wsX11_within := goodIn_r _ [5] (by decide +kernel) (by decide +kernel)
set_option maxRecDepth 20000 in
theorem gX11_unsteady_X11_within : GoodIn wsX11_unsteady (va_wsS RX11 86 yX11_within wsX11_within) := goodIn_app (goodIn_of _ (by decide +kernel)) ggX11_unsteady_X11_within
set_option maxRecDepth 20000 in
theorem ggX11_unsteady_X5_isSteady : GoodIn wsX11_unsteady wsX5_isSteady := goodIn_r _ [10, 11, 12, 13, 14, 15, 16, 9, 17, 18, 19, 20, 21, 22, 23, 24, 25, 26, 27, 28, 29, 30, 31, 32, 33, 34, 46, 47, 48] (by decide +kernel) (by decide +kernel)
set_option maxRecDepth 20000 in
theorem gX11_unsteady_X5_isSteady : GoodIn wsX11_unsteady (wsV RX11 256 RX5 yX5_isSteady wsX5_isSteady) := goodIn_app (goodIn_of _ (by decide +kernel)) ggX11_unsteady_X5_isSteady
theorem dX11_unsteady_0 : decode cX11_unsteady 0 = .ok (.iload_n 1, 1) := by decide +kernel
theorem dX11_unsteady_1 : decode cX11_unsteady 1 = .ok (.iconst 0, 1) := by decide +kernel
theorem dX11_unsteady_2 : decode cX11_unsteady 2 = .ok (.bipush 100, 2) := by decide +kernel
theorem dX11_unsteady_4 : decode cX11_unsteady 4 = .ok (.invokestatic 86, 3) := by decide +kernel
theorem dX11_unsteady_7 : decode cX11_unsteady 7 = .ok (.ifCond .eq 13, 3) := by decide +kernel
theorem dX11_unsteady_10 : decode cX11_unsteady 10 = .ok (.iload_n 2, 1) := by decide +kernel
theorem dX11_unsteady_11 : decode cX11_unsteady 11 = .ok (.iload_n 1, 1) := by decide +kernel
theorem dX11_unsteady_12 : decode cX11_unsteady 12 = .ok (.bipush 100, 2) := by decide +kernel
theorem dX11_unsteady_14 : decode cX11_unsteady 14 = .ok (.invokestatic 86, 3) := by decide +kernel
theorem dX11_unsteady_17 : decode cX11_unsteady 17 = .ok (.ifCond .ne 5, 3) := by decide +kernel
theorem dX11_unsteady_20 : decode cX11_unsteady 20 = .ok (.iconst (-1), 1) := by decide +kernel
theorem dX11_unsteady_21 : decode cX11_unsteady 21 = .ok (.ireturn, 1) := by decide +kernel
theorem dX11_unsteady_22 : decode cX11_unsteady 22 = .ok (.iload_n 1, 1) := by decide +kernel
theorem dX11_unsteady_23 : decode cX11_unsteady 23 = .ok (.istore_n 3, 1) := by decide +kernel
theorem dX11_unsteady_24 : decode cX11_unsteady 24 = .ok (.iload_n 3, 1) := by decide +kernel
theorem dX11_unsteady_25 : decode cX11_unsteady 25 = .ok (.iload_n 2, 1) := by decide +kernel
theorem dX11_unsteady_26 : decode cX11_unsteady 26 = .ok (.if_icmp .gt 22, 3) := by decide +kernel
theorem dX11_unsteady_29 : decode cX11_unsteady 29 = .ok (.aload_n 0, 1) := by decide +kernel
theorem dX11_unsteady_30 : decode cX11_unsteady 30 = .ok (.getfield 75, 3) := by decide +kernel
theorem dX11_unsteady_33 : decode cX11_unsteady 33 = .ok (.iload_n 3, 1) := by decide +kernel
theorem dX11_unsteady_34 : decode cX11_unsteady 34 = .ok (.invokevirtual 256, 3) := by decide +kernel
theorem dX11_unsteady_37 : decode cX11_unsteady 37 = .ok (.ifCond .ne 5, 3) := by decide +kernel
theorem dX11_unsteady_40 : decode cX11_unsteady 40 = .ok (.iload_n 3, 1) := by decide +kernel
theorem dX11_unsteady_41 : decode cX11_unsteady 41 = .ok (.ireturn, 1) := by decide +kernel
theorem dX11_unsteady_42 : decode cX11_unsteady 42 = .ok (.iinc 3 1, 3) := by decide +kernel
theorem dX11_unsteady_45 : decode cX11_unsteady 45 = .ok (.goto (-21), 3) := by decide +kernel
theorem dX11_unsteady_48 : decode cX11_unsteady 48 = .ok (.bipush (-4), 2) := by decide +kernel
theorem dX11_unsteady_50 : decode cX11_unsteady 50 = .ok (.ireturn, 1) := by decide +kernel
set_option maxRecDepth 20000 in
theorem ggX11_cell_X11_isLayer : GoodIn wsX11_cell wsX11_isLayer := goodIn_r _ [5, 6, 7, 4, 8] (by decide +kernel) (by decide +kernel)
set_option maxRecDepth 20000 in
theorem gX11_cell_X11_isLayer : GoodIn wsX11_cell (va_wsS RX11 259 yX11_isLayer wsX11_isLayer) := goodIn_app (goodIn_of _ (by decide +kernel)) ggX11_cell_X11_isLayer
set_option maxRecDepth 20000 in
theorem ggX11_cell_X11_within : GoodIn wsX11_cell wsX11_within := goodIn_r _ [8] (by decide +kernel) (by decide +kernel)
set_option maxRecDepth 20000 in
theorem gX11_cell_X11_within : GoodIn wsX11_cell (va_wsS RX11 86 yX11_within wsX11_within) := goodIn_app (goodIn_of _ (by decide +kernel)) ggX11_cell_X11_within
set_option maxRecDepth 20000 in
theorem ggX11_cell_X4_swapCell : GoodIn wsX11_cell wsX4_swapCell := goodIn_r _ [13, 14, 26, 27] (by decide +kernel) (by decide +kernel)
set_option maxRecDepth 20000 in
theorem gX11_cell_X4_swapCell : GoodIn wsX11_cell (wsV RX11 262 RX4 yX4_swapCell wsX4_swapCell) := goodIn_app (goodIn_of _ (by decide +kernel)) ggX11_cell_X4_swapCell
theorem dX11_cell_0 : decode cX11_cell 0 = .ok (.iload_n 1, 1) := by decide +kernel
theorem dX11_cell_1 : decode cX11_cell 1 = .ok (.invokestatic 259, 3) := by decide +kernel
theorem dX11_cell_4 : decode cX11_cell 4 = .ok (.ifCond .eq 24, 3) := by decide +kernel
theorem dX11_cell_7 : decode cX11_cell 7 = .ok (.iload_n 2, 1) := by decide +kernel
theorem dX11_cell_8 : decode cX11_cell 8 = .ok (.iconst 0, 1) := by decide +kernel
theorem dX11_cell_9 : decode cX11_cell 9 = .ok (.bipush 31, 2) := by decide +kernel
theorem dX11_cell_11 : decode cX11_cell 11 = .ok (.invokestatic 86, 3) := by decide +kernel
theorem dX11_cell_14 : decode cX11_cell 14 = .ok (.ifCond .eq 14, 3) := by decide +kernel
theorem dX11_cell_17 : decode cX11_cell 17 = .ok (.iload_n 3, 1) := by decide +kernel
theorem dX11_cell_18 : decode cX11_cell 18 = .ok (.bipush (-99), 2) := by decide +kernel
theorem dX11_cell_20 : decode cX11_cell 20 = .ok (.bipush 99, 2) := by decide +kernel
theorem dX11_cell_22 : decode cX11_cell 22 = .ok (.invokestatic 86, 3) := by decide +kernel
theorem dX11_cell_25 : decode cX11_cell 25 = .ok (.ifCond .ne 7, 3) := by decide +kernel
theorem dX11_cell_28 : decode cX11_cell 28 = .ok (.sipush (-10001), 3) := by decide +kernel
theorem dX11_cell_31 : decode cX11_cell 31 = .ok (.ireturn, 1) := by decide +kernel
theorem dX11_cell_32 : decode cX11_cell 32 = .ok (.aload_n 0, 1) := by decide +kernel
theorem dX11_cell_33 : decode cX11_cell 33 = .ok (.getfield 82, 3) := by decide +kernel
theorem dX11_cell_36 : decode cX11_cell 36 = .ok (.iload_n 1, 1) := by decide +kernel
theorem dX11_cell_37 : decode cX11_cell 37 = .ok (.iload_n 2, 1) := by decide +kernel
theorem dX11_cell_38 : decode cX11_cell 38 = .ok (.iload_n 3, 1) := by decide +kernel
theorem dX11_cell_39 : decode cX11_cell 39 = .ok (.invokevirtual 262, 3) := by decide +kernel
theorem dX11_cell_42 : decode cX11_cell 42 = .ok (.ireturn, 1) := by decide +kernel
set_option maxRecDepth 20000 in
theorem ggX11_wind_X11_isLayer : GoodIn wsX11_wind wsX11_isLayer := goodIn_r _ [5, 6, 7, 4, 8] (by decide +kernel) (by decide +kernel)
set_option maxRecDepth 20000 in
theorem gX11_wind_X11_isLayer : GoodIn wsX11_wind (va_wsS RX11 259 yX11_isLayer wsX11_isLayer) := goodIn_app (goodIn_of _ (by decide +kernel)) ggX11_wind_X11_isLayer
set_option maxRecDepth 20000 in
theorem ggX11_wind_X11_within : GoodIn wsX11_wind wsX11_within := goodIn_r _ [8] (by decide +kernel) (by decide +kernel)
set_option maxRecDepth 20000 in
theorem gX11_wind_X11_within : GoodIn wsX11_wind (va_wsS RX11 86 yX11_within wsX11_within) := goodIn_app (goodIn_of _ (by decide +kernel)) ggX11_wind_X11_within
set_option maxRecDepth 20000 in
theorem ggX11_wind_X4_swapWind : GoodIn wsX11_wind wsX4_swapWind := goodIn_r _ [13, 14, 26, 27] (by decide +kernel) (by decide +kernel)
set_option maxRecDepth 20000 in
theorem gX11_wind_X4_swapWind : GoodIn wsX11_wind (wsV RX11 265 RX4 yX4_swapWind wsX4_swapWind) := goodIn_app (goodIn_of _ (by decide +kernel)) ggX11_wind_X4_swapWind
theorem dX11_wind_0 : decode cX11_wind 0 = .ok (.iload_n 1, 1) := by decide +kernel
theorem dX11_wind_1 : decode cX11_wind 1 = .ok (.invokestatic 259, 3) := by decide +kernel
theorem dX11_wind_4 : decode cX11_wind 4 = .ok (.ifCond .eq 14, 3) := by decide +kernel
theorem dX11_wind_7 : decode cX11_wind 7 = .ok (.iload_n 2, 1) := by decide +kernel
theorem dX11_wind_8 : decode cX11_wind 8 = .ok (.bipush (-31), 2) := by decide +kernel
theorem dX11_wind_10 : decode cX11_wind 10 = .ok (.bipush 31, 2) := by decide +kernel
theorem dX11_wind_12 : decode cX11_wind 12 = .ok (.invokestatic 86, 3) := by decide +kernel
theorem dX11_wind_15 : decode cX11_wind 15 = .ok (.ifCond .ne 7, 3) := by decide +kernel
theorem dX11_wind_18 : decode cX11_wind 18 = .ok (.sipush (-10001), 3) := by decide +kernel
theorem dX11_wind_21 : decode cX11_wind 21 = .ok (.ireturn, 1) := by decide +kernel
theorem dX11_wind_22 : decode cX11_wind 22 = .ok (.aload_n 0, 1) := by decide +kernel
theorem dX11_wind_23 : decode cX11_wind 23 = .ok (.getfield 82, 3) := by decide +kernel
theorem dX11_wind_26 : decode cX11_wind 26 = .ok (.iload_n 1, 1) := by decide +kernel
theorem dX11_wind_27 : decode cX11_wind 27 = .ok (.iload_n 2, 1) := by decide +kernel
theorem dX11_wind_28 : decode cX11_wind 28 = .ok (.invokevirtual 265, 3) := by decide +kernel
theorem dX11_wind_31 : decode cX11_wind 31 = .ok (.ireturn, 1) := by decide +kernel
set_option maxRecDepth 20000 in
theorem ggX11_foretell_X11_isSpot : GoodIn wsX11_foretell wsX11_isSpot := goodIn_r _ [7, 8, 9, 10, 11, 12, 13, 14, 15, 16, 6, 17, 35, 36, 37, 38, 39, 40, 41, 42, 43, 44, 45, 46, 47, 48, 49, 50, 51, 52] (by decide +kernel) (by decide +kernel)
set_option maxRecDepth 20000 in
theorem gX11_foretell_X11_isSpot : GoodIn wsX11_foretell (wsV RX11 99 RX11 yX11_isSpot wsX11_isSpot) := goodIn_app (goodIn_of _ (by decide +kernel)) ggX11_foretell_X11_isSpot
set_option maxRecDepth 20000 in
theorem ggX11_foretell_X11_within : GoodIn wsX11_foretell wsX11_within := goodIn_r _ [17] (by decide +kernel) (by decide +kernel)
set_option maxRecDepth 20000 in
theorem gX11_foretell_X11_within : GoodIn wsX11_foretell (va_wsS RX11 86 yX11_within wsX11_within) := goodIn_app (goodIn_of _ (by decide +kernel)) ggX11_foretell_X11_within
set_option maxRecDepth 20000 in
theorem ggX11_foretell_X7_get : GoodIn wsX11_foretell wsX7_get := goodIn_r _ [22, 23, 53] (by decide +kernel) (by decide +kernel)
set_option maxRecDepth 20000 in
theorem gX11_foretell_X7_get : GoodIn wsX11_foretell (wsV RX11 129 RX7 yX7_get wsX7_get) := goodIn_app (goodIn_of _ (by decide +kernel)) ggX11_foretell_X7_get
set_option maxRecDepth 20000 in
theorem ggX11_foretell_X4_foretold : GoodIn wsX11_foretell wsX4_foretold := goodIn_r _ [28, 29, 30, 31, 32, 33, 34, 54, 55] (by decide +kernel) (by decide +kernel)
set_option maxRecDepth 20000 in
theorem gX11_foretell_X4_foretold : GoodIn wsX11_foretell (wsV RX11 268 RX4 yX4_foretold wsX4_foretold) := goodIn_app (goodIn_of _ (by decide +kernel)) ggX11_foretell_X4_foretold
theorem dX11_foretell_0 : decode cX11_foretell 0 = .ok (.aload_n 0, 1) := by decide +kernel
theorem dX11_foretell_1 : decode cX11_foretell 1 = .ok (.iload_n 1, 1) := by decide +kernel
theorem dX11_foretell_2 : decode cX11_foretell 2 = .ok (.invokevirtual 99, 3) := by decide +kernel
theorem dX11_foretell_5 : decode cX11_foretell 5 = .ok (.ifCond .eq 14, 3) := by decide +kernel
theorem dX11_foretell_8 : decode cX11_foretell 8 = .ok (.iload_n 2, 1) := by decide +kernel
theorem dX11_foretell_9 : decode cX11_foretell 9 = .ok (.iconst 0, 1) := by decide +kernel
theorem dX11_foretell_10 : decode cX11_foretell 10 = .ok (.sipush 9999, 3) := by decide +kernel
theorem dX11_foretell_13 : decode cX11_foretell 13 = .ok (.invokestatic 86, 3) := by decide +kernel
theorem dX11_foretell_16 : decode cX11_foretell 16 = .ok (.ifCond .ne 7, 3) := by decide +kernel
theorem dX11_foretell_19 : decode cX11_foretell 19 = .ok (.sipush (-10001), 3) := by decide +kernel
theorem dX11_foretell_22 : decode cX11_foretell 22 = .ok (.ireturn, 1) := by decide +kernel
theorem dX11_foretell_23 : decode cX11_foretell 23 = .ok (.aload_n 0, 1) := by decide +kernel
theorem dX11_foretell_24 : decode cX11_foretell 24 = .ok (.getfield 82, 3) := by decide +kernel
theorem dX11_foretell_27 : decode cX11_foretell 27 = .ok (.aload_n 0, 1) := by decide +kernel
theorem dX11_foretell_28 : decode cX11_foretell 28 = .ok (.getfield 10, 3) := by decide +kernel
theorem dX11_foretell_31 : decode cX11_foretell 31 = .ok (.bipush 6, 2) := by decide +kernel
theorem dX11_foretell_33 : decode cX11_foretell 33 = .ok (.invokevirtual 129, 3) := by decide +kernel
theorem dX11_foretell_36 : decode cX11_foretell 36 = .ok (.iload_n 1, 1) := by decide +kernel
theorem dX11_foretell_37 : decode cX11_foretell 37 = .ok (.imul, 1) := by decide +kernel
theorem dX11_foretell_38 : decode cX11_foretell 38 = .ok (.iload_n 2, 1) := by decide +kernel
theorem dX11_foretell_39 : decode cX11_foretell 39 = .ok (.invokevirtual 268, 3) := by decide +kernel
theorem dX11_foretell_42 : decode cX11_foretell 42 = .ok (.ireturn, 1) := by decide +kernel
set_option maxRecDepth 20000 in
theorem ggX11_guess_X8_refusal : GoodIn wsX11_guess wsX8_refusal := goodIn_r _ [6, 7, 8, 9, 10, 11, 12, 13, 14, 15, 16, 17, 18, 19, 5, 20, 51, 52, 53] (by decide +kernel) (by decide +kernel)
set_option maxRecDepth 20000 in
theorem gX11_guess_X8_refusal : GoodIn wsX11_guess (wsV RX11 107 RX8 yX8_refusal wsX8_refusal) := goodIn_app (goodIn_of _ (by decide +kernel)) ggX11_guess_X8_refusal
set_option maxRecDepth 20000 in
theorem ggX11_guess_X11_earlier : GoodIn wsX11_guess wsX11_earlier := goodIn_r _ [23, 24, 25, 26, 27] (by decide +kernel) (by decide +kernel)
set_option maxRecDepth 20000 in
theorem gX11_guess_X11_earlier : GoodIn wsX11_guess (va_wsS RX11 271 yX11_earlier wsX11_earlier) := goodIn_app (goodIn_of _ (by decide +kernel)) ggX11_guess_X11_earlier
set_option maxRecDepth 20000 in
theorem ggX11_guess_X8_apart : GoodIn wsX11_guess wsX8_apart := goodIn_r _ [31, 32, 33, 26, 34, 35, 36, 37, 5, 38, 39, 51, 52, 53] (by decide +kernel) (by decide +kernel)
set_option maxRecDepth 20000 in
theorem gX11_guess_X8_apart : GoodIn wsX11_guess (wsV RX11 274 RX8 yX8_apart wsX8_apart) := goodIn_app (goodIn_of _ (by decide +kernel)) ggX11_guess_X8_apart
theorem dX11_guess_0 : decode cX11_guess 0 = .ok (.aload_n 0, 1) := by decide +kernel
theorem dX11_guess_1 : decode cX11_guess 1 = .ok (.getfield 19, 3) := by decide +kernel
theorem dX11_guess_4 : decode cX11_guess 4 = .ok (.iload_n 1, 1) := by decide +kernel
theorem dX11_guess_5 : decode cX11_guess 5 = .ok (.iload_n 3, 1) := by decide +kernel
theorem dX11_guess_6 : decode cX11_guess 6 = .ok (.iconst 0, 1) := by decide +kernel
theorem dX11_guess_7 : decode cX11_guess 7 = .ok (.bipush 32, 2) := by decide +kernel
theorem dX11_guess_9 : decode cX11_guess 9 = .ok (.invokevirtual 107, 3) := by decide +kernel
theorem dX11_guess_12 : decode cX11_guess 12 = .ok (.aload_n 0, 1) := by decide +kernel
theorem dX11_guess_13 : decode cX11_guess 13 = .ok (.getfield 19, 3) := by decide +kernel
theorem dX11_guess_16 : decode cX11_guess 16 = .ok (.iload_n 2, 1) := by decide +kernel
theorem dX11_guess_17 : decode cX11_guess 17 = .ok (.iload_n 3, 1) := by decide +kernel
theorem dX11_guess_18 : decode cX11_guess 18 = .ok (.iconst 0, 1) := by decide +kernel
theorem dX11_guess_19 : decode cX11_guess 19 = .ok (.bipush 32, 2) := by decide +kernel
theorem dX11_guess_21 : decode cX11_guess 21 = .ok (.invokevirtual 107, 3) := by decide +kernel
theorem dX11_guess_24 : decode cX11_guess 24 = .ok (.invokestatic 271, 3) := by decide +kernel
theorem dX11_guess_27 : decode cX11_guess 27 = .ok (.istore 4, 2) := by decide +kernel
theorem dX11_guess_29 : decode cX11_guess 29 = .ok (.iload 4, 2) := by decide +kernel
theorem dX11_guess_31 : decode cX11_guess 31 = .ok (.ifCond .eq 6, 3) := by decide +kernel
theorem dX11_guess_34 : decode cX11_guess 34 = .ok (.iload 4, 2) := by decide +kernel
theorem dX11_guess_36 : decode cX11_guess 36 = .ok (.ireturn, 1) := by decide +kernel
theorem dX11_guess_37 : decode cX11_guess 37 = .ok (.iconst 0, 1) := by decide +kernel
theorem dX11_guess_38 : decode cX11_guess 38 = .ok (.istore 5, 2) := by decide +kernel
theorem dX11_guess_40 : decode cX11_guess 40 = .ok (.aload_n 0, 1) := by decide +kernel
theorem dX11_guess_41 : decode cX11_guess 41 = .ok (.getfield 19, 3) := by decide +kernel
theorem dX11_guess_44 : decode cX11_guess 44 = .ok (.iload_n 1, 1) := by decide +kernel
theorem dX11_guess_45 : decode cX11_guess 45 = .ok (.iload_n 2, 1) := by decide +kernel
theorem dX11_guess_46 : decode cX11_guess 46 = .ok (.iconst 0, 1) := by decide +kernel
theorem dX11_guess_47 : decode cX11_guess 47 = .ok (.invokevirtual 274, 3) := by decide +kernel
theorem dX11_guess_50 : decode cX11_guess 50 = .ok (.lstore 6, 2) := by decide +kernel
theorem dX11_guess_52 : decode cX11_guess 52 = .ok (.iconst 1, 1) := by decide +kernel
theorem dX11_guess_53 : decode cX11_guess 53 = .ok (.istore 8, 2) := by decide +kernel
theorem dX11_guess_55 : decode cX11_guess 55 = .ok (.iload 8, 2) := by decide +kernel
theorem dX11_guess_57 : decode cX11_guess 57 = .ok (.bipush 32, 2) := by decide +kernel
theorem dX11_guess_59 : decode cX11_guess 59 = .ok (.if_icmp .ge 38, 3) := by decide +kernel
theorem dX11_guess_62 : decode cX11_guess 62 = .ok (.aload_n 0, 1) := by decide +kernel
theorem dX11_guess_63 : decode cX11_guess 63 = .ok (.getfield 19, 3) := by decide +kernel
theorem dX11_guess_66 : decode cX11_guess 66 = .ok (.iload_n 1, 1) := by decide +kernel
theorem dX11_guess_67 : decode cX11_guess 67 = .ok (.iload_n 2, 1) := by decide +kernel
theorem dX11_guess_68 : decode cX11_guess 68 = .ok (.iload 8, 2) := by decide +kernel
theorem dX11_guess_70 : decode cX11_guess 70 = .ok (.invokevirtual 274, 3) := by decide +kernel
theorem dX11_guess_73 : decode cX11_guess 73 = .ok (.lstore 9, 2) := by decide +kernel
theorem dX11_guess_75 : decode cX11_guess 75 = .ok (.lload 9, 2) := by decide +kernel
theorem dX11_guess_77 : decode cX11_guess 77 = .ok (.lload 6, 2) := by decide +kernel
theorem dX11_guess_79 : decode cX11_guess 79 = .ok (.lcmp, 1) := by decide +kernel
theorem dX11_guess_80 : decode cX11_guess 80 = .ok (.ifCond .ge 11, 3) := by decide +kernel
theorem dX11_guess_83 : decode cX11_guess 83 = .ok (.lload 9, 2) := by decide +kernel
theorem dX11_guess_85 : decode cX11_guess 85 = .ok (.lstore 6, 2) := by decide +kernel
theorem dX11_guess_87 : decode cX11_guess 87 = .ok (.iload 8, 2) := by decide +kernel
theorem dX11_guess_89 : decode cX11_guess 89 = .ok (.istore 5, 2) := by decide +kernel
theorem dX11_guess_91 : decode cX11_guess 91 = .ok (.iinc 8 1, 3) := by decide +kernel
theorem dX11_guess_94 : decode cX11_guess 94 = .ok (.goto (-39), 3) := by decide +kernel
theorem dX11_guess_97 : decode cX11_guess 97 = .ok (.iload 5, 2) := by decide +kernel
theorem dX11_guess_99 : decode cX11_guess 99 = .ok (.ireturn, 1) := by decide +kernel
set_option maxRecDepth 20000 in
theorem ggX11_sheet_X11_isSheet : GoodIn wsX11_sheet wsX11_isSheet := goodIn_r _ [5, 6, 7, 4, 8] (by decide +kernel) (by decide +kernel)
set_option maxRecDepth 20000 in
theorem gX11_sheet_X11_isSheet : GoodIn wsX11_sheet (va_wsS RX11 278 yX11_isSheet wsX11_isSheet) := goodIn_app (goodIn_of _ (by decide +kernel)) ggX11_sheet_X11_isSheet
set_option maxRecDepth 20000 in
theorem ggX11_sheet_X11_isLane : GoodIn wsX11_sheet wsX11_isLane := goodIn_r _ [11, 6, 7, 4, 8] (by decide +kernel) (by decide +kernel)
set_option maxRecDepth 20000 in
theorem gX11_sheet_X11_isLane : GoodIn wsX11_sheet (va_wsS RX11 281 yX11_isLane wsX11_isLane) := goodIn_app (goodIn_of _ (by decide +kernel)) ggX11_sheet_X11_isLane
set_option maxRecDepth 20000 in
theorem ggX11_sheet_X8_lay : GoodIn wsX11_sheet wsX8_lay := goodIn_r _ [16, 17, 18, 19, 31, 32, 33] (by decide +kernel) (by decide +kernel)
set_option maxRecDepth 20000 in
theorem gX11_sheet_X8_lay : GoodIn wsX11_sheet (wsV RX11 284 RX8 yX8_lay wsX8_lay) := goodIn_app (goodIn_of _ (by decide +kernel)) ggX11_sheet_X8_lay
theorem dX11_sheet_0 : decode cX11_sheet 0 = .ok (.iload_n 1, 1) := by decide +kernel
theorem dX11_sheet_1 : decode cX11_sheet 1 = .ok (.invokestatic 278, 3) := by decide +kernel
theorem dX11_sheet_4 : decode cX11_sheet 4 = .ok (.ifCond .eq 16, 3) := by decide +kernel
theorem dX11_sheet_7 : decode cX11_sheet 7 = .ok (.iload_n 2, 1) := by decide +kernel
theorem dX11_sheet_8 : decode cX11_sheet 8 = .ok (.invokestatic 281, 3) := by decide +kernel
theorem dX11_sheet_11 : decode cX11_sheet 11 = .ok (.ifCond .eq 9, 3) := by decide +kernel
theorem dX11_sheet_14 : decode cX11_sheet 14 = .ok (.iload_n 3, 1) := by decide +kernel
theorem dX11_sheet_15 : decode cX11_sheet 15 = .ok (.bipush 40, 2) := by decide +kernel
theorem dX11_sheet_17 : decode cX11_sheet 17 = .ok (.if_icmp .le 5, 3) := by decide +kernel
theorem dX11_sheet_20 : decode cX11_sheet 20 = .ok (.iconst (-1), 1) := by decide +kernel
theorem dX11_sheet_21 : decode cX11_sheet 21 = .ok (.ireturn, 1) := by decide +kernel
theorem dX11_sheet_22 : decode cX11_sheet 22 = .ok (.iload_n 3, 1) := by decide +kernel
theorem dX11_sheet_23 : decode cX11_sheet 23 = .ok (.ifCond .ge 6, 3) := by decide +kernel
theorem dX11_sheet_26 : decode cX11_sheet 26 = .ok (.bipush (-14), 2) := by decide +kernel
theorem dX11_sheet_28 : decode cX11_sheet 28 = .ok (.ireturn, 1) := by decide +kernel
theorem dX11_sheet_29 : decode cX11_sheet 29 = .ok (.aload_n 0, 1) := by decide +kernel
theorem dX11_sheet_30 : decode cX11_sheet 30 = .ok (.getfield 19, 3) := by decide +kernel
theorem dX11_sheet_33 : decode cX11_sheet 33 = .ok (.iload_n 1, 1) := by decide +kernel
theorem dX11_sheet_34 : decode cX11_sheet 34 = .ok (.iload_n 2, 1) := by decide +kernel
theorem dX11_sheet_35 : decode cX11_sheet 35 = .ok (.iload_n 3, 1) := by decide +kernel
theorem dX11_sheet_36 : decode cX11_sheet 36 = .ok (.invokevirtual 284, 3) := by decide +kernel
theorem dX11_sheet_39 : decode cX11_sheet 39 = .ok (.iload_n 3, 1) := by decide +kernel
theorem dX11_sheet_40 : decode cX11_sheet 40 = .ok (.ireturn, 1) := by decide +kernel
set_option maxRecDepth 20000 in
theorem ggX11_drop_X11_isSheet : GoodIn wsX11_drop wsX11_isSheet := goodIn_r _ [5, 6, 7, 4, 8] (by decide +kernel) (by decide +kernel)
set_option maxRecDepth 20000 in
theorem gX11_drop_X11_isSheet : GoodIn wsX11_drop (va_wsS RX11 278 yX11_isSheet wsX11_isSheet) := goodIn_app (goodIn_of _ (by decide +kernel)) ggX11_drop_X11_isSheet
set_option maxRecDepth 20000 in
theorem ggX11_drop_X8_holds : GoodIn wsX11_drop wsX8_holds := goodIn_r _ [13, 14, 30, 31, 32] (by decide +kernel) (by decide +kernel)
set_option maxRecDepth 20000 in
theorem gX11_drop_X8_holds : GoodIn wsX11_drop (wsV RX11 287 RX8 yX8_holds wsX8_holds) := goodIn_app (goodIn_of _ (by decide +kernel)) ggX11_drop_X8_holds
set_option maxRecDepth 20000 in
theorem ggX11_drop_X8_takeAway : GoodIn wsX11_drop wsX8_takeAway := goodIn_r _ [18, 14, 30, 31, 32] (by decide +kernel) (by decide +kernel)
set_option maxRecDepth 20000 in
theorem gX11_drop_X8_takeAway : GoodIn wsX11_drop (wsV RX11 290 RX8 yX8_takeAway wsX8_takeAway) := goodIn_app (goodIn_of _ (by decide +kernel)) ggX11_drop_X8_takeAway
theorem dX11_drop_0 : decode cX11_drop 0 = .ok (.iload_n 1, 1) := by decide +kernel
theorem dX11_drop_1 : decode cX11_drop 1 = .ok (.invokestatic 278, 3) := by decide +kernel
theorem dX11_drop_4 : decode cX11_drop 4 = .ok (.ifCond .ne 5, 3) := by decide +kernel
theorem dX11_drop_7 : decode cX11_drop 7 = .ok (.iconst (-1), 1) := by decide +kernel
theorem dX11_drop_8 : decode cX11_drop 8 = .ok (.ireturn, 1) := by decide +kernel
theorem dX11_drop_9 : decode cX11_drop 9 = .ok (.aload_n 0, 1) := by decide +kernel
theorem dX11_drop_10 : decode cX11_drop 10 = .ok (.getfield 19, 3) := by decide +kernel
theorem dX11_drop_13 : decode cX11_drop 13 = .ok (.iload_n 1, 1) := by decide +kernel
theorem dX11_drop_14 : decode cX11_drop 14 = .ok (.invokevirtual 287, 3) := by decide +kernel
theorem dX11_drop_17 : decode cX11_drop 17 = .ok (.ifCond .ne 6, 3) := by decide +kernel
theorem dX11_drop_20 : decode cX11_drop 20 = .ok (.bipush (-11), 2) := by decide +kernel
theorem dX11_drop_22 : decode cX11_drop 22 = .ok (.ireturn, 1) := by decide +kernel
theorem dX11_drop_23 : decode cX11_drop 23 = .ok (.aload_n 0, 1) := by decide +kernel
theorem dX11_drop_24 : decode cX11_drop 24 = .ok (.getfield 19, 3) := by decide +kernel
theorem dX11_drop_27 : decode cX11_drop 27 = .ok (.iload_n 1, 1) := by decide +kernel
theorem dX11_drop_28 : decode cX11_drop 28 = .ok (.invokevirtual 290, 3) := by decide +kernel
theorem dX11_drop_31 : decode cX11_drop 31 = .ok (.ireturn, 1) := by decide +kernel
set_option maxRecDepth 20000 in
theorem ggX11_item_X8_refusal : GoodIn wsX11_item wsX8_refusal := goodIn_r _ [6, 7, 8, 9, 10, 11, 12, 13, 14, 15, 16, 17, 18, 19, 5, 20, 37, 38, 39] (by decide +kernel) (by decide +kernel)
set_option maxRecDepth 20000 in
theorem gX11_item_X8_refusal : GoodIn wsX11_item (wsV RX11 107 RX8 yX8_refusal wsX8_refusal) := goodIn_app (goodIn_of _ (by decide +kernel)) ggX11_item_X8_refusal
set_option maxRecDepth 20000 in
theorem ggX11_item_X8_put : GoodIn wsX11_item wsX8_put := goodIn_r _ [24, 7, 25, 37, 38, 39] (by decide +kernel) (by decide +kernel)
set_option maxRecDepth 20000 in
theorem gX11_item_X8_put : GoodIn wsX11_item (wsV RX11 293 RX8 yX8_put wsX8_put) := goodIn_app (goodIn_of _ (by decide +kernel)) ggX11_item_X8_put
theorem dX11_item_0 : decode cX11_item 0 = .ok (.aload_n 0, 1) := by decide +kernel
theorem dX11_item_1 : decode cX11_item 1 = .ok (.getfield 19, 3) := by decide +kernel
theorem dX11_item_4 : decode cX11_item 4 = .ok (.iload_n 1, 1) := by decide +kernel
theorem dX11_item_5 : decode cX11_item 5 = .ok (.iload_n 2, 1) := by decide +kernel
theorem dX11_item_6 : decode cX11_item 6 = .ok (.iload_n 3, 1) := by decide +kernel
theorem dX11_item_7 : decode cX11_item 7 = .ok (.iconst 1, 1) := by decide +kernel
theorem dX11_item_8 : decode cX11_item 8 = .ok (.invokevirtual 107, 3) := by decide +kernel
theorem dX11_item_11 : decode cX11_item 11 = .ok (.istore 5, 2) := by decide +kernel
theorem dX11_item_13 : decode cX11_item 13 = .ok (.iload 5, 2) := by decide +kernel
theorem dX11_item_15 : decode cX11_item 15 = .ok (.ifCond .eq 6, 3) := by decide +kernel
theorem dX11_item_18 : decode cX11_item 18 = .ok (.iload 5, 2) := by decide +kernel
theorem dX11_item_20 : decode cX11_item 20 = .ok (.ireturn, 1) := by decide +kernel
theorem dX11_item_21 : decode cX11_item 21 = .ok (.aload_n 0, 1) := by decide +kernel
theorem dX11_item_22 : decode cX11_item 22 = .ok (.getfield 19, 3) := by decide +kernel
theorem dX11_item_25 : decode cX11_item 25 = .ok (.iload_n 1, 1) := by decide +kernel
theorem dX11_item_26 : decode cX11_item 26 = .ok (.iload_n 3, 1) := by decide +kernel
theorem dX11_item_27 : decode cX11_item 27 = .ok (.iload 4, 2) := by decide +kernel
theorem dX11_item_29 : decode cX11_item 29 = .ok (.invokevirtual 293, 3) := by decide +kernel
theorem dX11_item_32 : decode cX11_item 32 = .ok (.iconst 1, 1) := by decide +kernel
theorem dX11_item_33 : decode cX11_item 33 = .ok (.ireturn, 1) := by decide +kernel
set_option maxRecDepth 20000 in
theorem ggX11_layer_X11_isLayer : GoodIn wsX11_layer wsX11_isLayer := goodIn_r _ [6, 7, 8, 5, 9] (by decide +kernel) (by decide +kernel)
set_option maxRecDepth 20000 in
theorem gX11_layer_X11_isLayer : GoodIn wsX11_layer (va_wsS RX11 259 yX11_isLayer wsX11_isLayer) := goodIn_app (goodIn_of _ (by decide +kernel)) ggX11_layer_X11_isLayer
set_option maxRecDepth 20000 in
theorem ggX11_layer_X8_refusal : GoodIn wsX11_layer wsX8_refusal := goodIn_r _ [14, 15, 16, 17, 5, 18, 7, 8, 9, 19, 20, 21, 22, 23, 13, 24, 52, 53, 54] (by decide +kernel) (by decide +kernel)
set_option maxRecDepth 20000 in
theorem gX11_layer_X8_refusal : GoodIn wsX11_layer (wsV RX11 107 RX8 yX8_refusal wsX8_refusal) := goodIn_app (goodIn_of _ (by decide +kernel)) ggX11_layer_X8_refusal
set_option maxRecDepth 20000 in
theorem ggX11_layer_X8_allWithin : GoodIn wsX11_layer wsX8_allWithin := goodIn_r _ [28, 29, 30, 31, 13, 32, 33, 8, 5, 9, 52, 53, 54] (by decide +kernel) (by decide +kernel)

theorem dX5_isSteady_30 : decode cX5_isSteady 30 = .ok (.iload_n 2, 1) := by decide +kernel
theorem dX5_isSteady_31 : decode cX5_isSteady 31 = .ok (.iadd, 1) := by decide +kernel
theorem dX5_isSteady_32 : decode cX5_isSteady 32 = .ok (.iaload, 1) := by decide +kernel
theorem dX5_isSteady_33 : decode cX5_isSteady 33 = .ok (.i2l, 1) := by decide +kernel
theorem dX5_isSteady_34 : decode cX5_isSteady 34 = .ok (.lmul, 1) := by decide +kernel
theorem dX5_isSteady_35 : decode cX5_isSteady 35 = .ok (.ladd, 1) := by decide +kernel
theorem dX5_isSteady_36 : decode cX5_isSteady 36 = .ok (.lastore, 1) := by decide +kernel
theorem dX5_isSteady_37 : decode cX5_isSteady 37 = .ok (.iinc 2 1, 3) := by decide +kernel
theorem dX5_isSteady_40 : decode cX5_isSteady 40 = .ok (.goto (-38), 3) := by decide +kernel
theorem dX5_isSteady_43 : decode cX5_isSteady 43 = .ok (.iconst 4, 1) := by decide +kernel
theorem dX5_isSteady_44 : decode cX5_isSteady 44 = .ok (.istore_n 2, 1) := by decide +kernel
theorem dX5_isSteady_45 : decode cX5_isSteady 45 = .ok (.iload_n 2, 1) := by decide +kernel
theorem dX5_isSteady_46 : decode cX5_isSteady 46 = .ok (.ifCond .lt 20, 3) := by decide +kernel
theorem dX5_isSteady_49 : decode cX5_isSteady 49 = .ok (.aload_n 0, 1) := by decide +kernel
theorem dX5_isSteady_50 : decode cX5_isSteady 50 = .ok (.getfield 15, 3) := by decide +kernel
theorem dX5_isSteady_53 : decode cX5_isSteady 53 = .ok (.iload_n 2, 1) := by decide +kernel
theorem dX5_isSteady_54 : decode cX5_isSteady 54 = .ok (.laload, 1) := by decide +kernel
theorem dX5_isSteady_55 : decode cX5_isSteady 55 = .ok (.lconst 0, 1) := by decide +kernel
theorem dX5_isSteady_56 : decode cX5_isSteady 56 = .ok (.lcmp, 1) := by decide +kernel
theorem dX5_isSteady_57 : decode cX5_isSteady 57 = .ok (.ifCond .ne 9, 3) := by decide +kernel
theorem dX5_isSteady_60 : decode cX5_isSteady 60 = .ok (.iinc 2 (-1), 3) := by decide +kernel
theorem dX5_isSteady_63 : decode cX5_isSteady 63 = .ok (.goto (-18), 3) := by decide +kernel
theorem dX5_isSteady_66 : decode cX5_isSteady 66 = .ok (.iload_n 2, 1) := by decide +kernel
theorem dX5_isSteady_67 : decode cX5_isSteady 67 = .ok (.ifCond .lt 15, 3) := by decide +kernel
theorem dX5_isSteady_70 : decode cX5_isSteady 70 = .ok (.aload_n 0, 1) := by decide +kernel
theorem dX5_isSteady_71 : decode cX5_isSteady 71 = .ok (.iload_n 2, 1) := by decide +kernel
theorem dX5_isSteady_72 : decode cX5_isSteady 72 = .ok (.invokevirtual 24, 3) := by decide +kernel
theorem dX5_isSteady_75 : decode cX5_isSteady 75 = .ok (.ifCond .eq 7, 3) := by decide +kernel
theorem dX5_isSteady_78 : decode cX5_isSteady 78 = .ok (.iconst 1, 1) := by decide +kernel
theorem dX5_isSteady_79 : decode cX5_isSteady 79 = .ok (.goto 4, 3) := by decide +kernel
theorem dX5_isSteady_82 : decode cX5_isSteady 82 = .ok (.iconst 0, 1) := by decide +kernel
theorem dX5_isSteady_83 : decode cX5_isSteady 83 = .ok (.ireturn, 1) := by decide +kernel
set_option maxRecDepth 20000 in
theorem ggX5_zerosWithin_X5_lastIsLess : GoodIn wsX5_zerosWithin wsX5_lastIsLess := goodIn_r _ [10, 1, 2, 3, 4, 5, 20, 21, 22] (by decide +kernel) (by decide +kernel)
set_option maxRecDepth 20000 in
theorem gX5_zerosWithin_X5_lastIsLess : GoodIn wsX5_zerosWithin (wsV RX5 28 RX5 yX5_lastIsLess wsX5_lastIsLess) := goodIn_app (goodIn_of _ (by decide +kernel)) ggX5_zerosWithin_X5_lastIsLess
set_option maxRecDepth 20000 in
theorem ggX5_zerosWithin_X5_lower : GoodIn wsX5_zerosWithin wsX5_lower := goodIn_r _ [14, 15, 1, 16, 17, 18, 19, 20, 21, 22] (by decide +kernel) (by decide +kernel)
set_option maxRecDepth 20000 in
theorem gX5_zerosWithin_X5_lower : GoodIn wsX5_zerosWithin (wsV RX5 31 RX5 yX5_lower wsX5_lower) := goodIn_app (goodIn_of _ (by decide +kernel)) ggX5_zerosWithin_X5_lower
theorem dX5_zerosWithin_0 : decode cX5_zerosWithin 0 = .ok (.iload_n 1, 1) := by decide +kernel
theorem dX5_zerosWithin_1 : decode cX5_zerosWithin 1 = .ok (.istore_n 2, 1) := by decide +kernel
theorem dX5_zerosWithin_2 : decode cX5_zerosWithin 2 = .ok (.iload_n 2, 1) := by decide +kernel
theorem dX5_zerosWithin_3 : decode cX5_zerosWithin 3 = .ok (.iconst 2, 1) := by decide +kernel
theorem dX5_zerosWithin_4 : decode cX5_zerosWithin 4 = .ok (.if_icmp .le 24, 3) := by decide +kernel
theorem dX5_zerosWithin_7 : decode cX5_zerosWithin 7 = .ok (.aload_n 0, 1) := by decide +kernel
theorem dX5_zerosWithin_8 : decode cX5_zerosWithin 8 = .ok (.iload_n 2, 1) := by decide +kernel
theorem dX5_zerosWithin_9 : decode cX5_zerosWithin 9 = .ok (.invokevirtual 28, 3) := by decide +kernel
theorem dX5_zerosWithin_12 : decode cX5_zerosWithin 12 = .ok (.ifCond .ne 5, 3) := by decide +kernel
theorem dX5_zerosWithin_15 : decode cX5_zerosWithin 15 = .ok (.iconst 0, 1) := by decide +kernel
theorem dX5_zerosWithin_16 : decode cX5_zerosWithin 16 = .ok (.ireturn, 1) := by decide +kernel
theorem dX5_zerosWithin_17 : decode cX5_zerosWithin 17 = .ok (.aload_n 0, 1) := by decide +kernel
theorem dX5_zerosWithin_18 : decode cX5_zerosWithin 18 = .ok (.iload_n 2, 1) := by decide +kernel
theorem dX5_zerosWithin_19 : decode cX5_zerosWithin 19 = .ok (.invokevirtual 31, 3) := by decide +kernel
theorem dX5_zerosWithin_22 : decode cX5_zerosWithin 22 = .ok (.iinc 2 (-1), 3) := by decide +kernel
theorem dX5_zerosWithin_25 : decode cX5_zerosWithin 25 = .ok (.goto (-23), 3) := by decide +kernel
theorem dX5_zerosWithin_28 : decode cX5_zerosWithin 28 = .ok (.iload_n 2, 1) := by decide +kernel
theorem dX5_zerosWithin_29 : decode cX5_zerosWithin 29 = .ok (.iconst 2, 1) := by decide +kernel
theorem dX5_zerosWithin_30 : decode cX5_zerosWithin 30 = .ok (.if_icmp .ne 46, 3) := by decide +kernel
theorem dX5_zerosWithin_33 : decode cX5_zerosWithin 33 = .ok (.aload_n 0, 1) := by decide +kernel
theorem dX5_zerosWithin_34 : decode cX5_zerosWithin 34 = .ok (.iconst 2, 1) := by decide +kernel
theorem dX5_zerosWithin_35 : decode cX5_zerosWithin 35 = .ok (.invokevirtual 28, 3) := by decide +kernel
theorem dX5_zerosWithin_38 : decode cX5_zerosWithin 38 = .ok (.ifCond .eq 36, 3) := by decide +kernel
theorem dX5_zerosWithin_41 : decode cX5_zerosWithin 41 = .ok (.aload_n 0, 1) := by decide +kernel
theorem dX5_zerosWithin_42 : decode cX5_zerosWithin 42 = .ok (.getfield 15, 3) := by decide +kernel
theorem dX5_zerosWithin_45 : decode cX5_zerosWithin 45 = .ok (.iconst 1, 1) := by decide +kernel
theorem dX5_zerosWithin_46 : decode cX5_zerosWithin 46 = .ok (.laload, 1) := by decide +kernel
theorem dX5_zerosWithin_47 : decode cX5_zerosWithin 47 = .ok (.invokestatic 35, 3) := by decide +kernel
theorem dX5_zerosWithin_50 : decode cX5_zerosWithin 50 = .ok (.aload_n 0, 1) := by decide +kernel
theorem dX5_zerosWithin_51 : decode cX5_zerosWithin 51 = .ok (.getfield 15, 3) := by decide +kernel
theorem dX5_zerosWithin_54 : decode cX5_zerosWithin 54 = .ok (.iconst 2, 1) := by decide +kernel
theorem dX5_zerosWithin_55 : decode cX5_zerosWithin 55 = .ok (.laload, 1) := by decide +kernel
theorem dX5_zerosWithin_56 : decode cX5_zerosWithin 56 = .ok (.aload_n 0, 1) := by decide +kernel
theorem dX5_zerosWithin_57 : decode cX5_zerosWithin 57 = .ok (.getfield 15, 3) := by decide +kernel
theorem dX5_zerosWithin_60 : decode cX5_zerosWithin 60 = .ok (.iconst 0, 1) := by decide +kernel
theorem dX5_zerosWithin_61 : decode cX5_zerosWithin 61 = .ok (.laload, 1) := by decide +kernel
theorem dX5_zerosWithin_62 : decode cX5_zerosWithin 62 = .ok (.ladd, 1) := by decide +kernel
theorem dX5_zerosWithin_63 : decode cX5_zerosWithin 63 = .ok (.invokestatic 35, 3) := by decide +kernel
theorem dX5_zerosWithin_66 : decode cX5_zerosWithin 66 = .ok (.lcmp, 1) := by decide +kernel
theorem dX5_zerosWithin_67 : decode cX5_zerosWithin 67 = .ok (.ifCond .ge 7, 3) := by decide +kernel
theorem dX5_zerosWithin_70 : decode cX5_zerosWithin 70 = .ok (.iconst 1, 1) := by decide +kernel
theorem dX5_zerosWithin_71 : decode cX5_zerosWithin 71 = .ok (.goto 4, 3) := by decide +kernel
theorem dX5_zerosWithin_74 : decode cX5_zerosWithin 74 = .ok (.iconst 0, 1) := by decide +kernel
theorem dX5_zerosWithin_75 : decode cX5_zerosWithin 75 = .ok (.ireturn, 1) := by decide +kernel
theorem dX5_zerosWithin_76 : decode cX5_zerosWithin 76 = .ok (.iload_n 2, 1) := by decide +kernel
theorem dX5_zerosWithin_77 : decode cX5_zerosWithin 77 = .ok (.ifCond .eq 11, 3) := by decide +kernel
theorem dX5_zerosWithin_80 : decode cX5_zerosWithin 80 = .ok (.aload_n 0, 1) := by decide +kernel
theorem dX5_zerosWithin_81 : decode cX5_zerosWithin 81 = .ok (.iload_n 2, 1) := by decide +kernel
theorem dX5_zerosWithin_82 : decode cX5_zerosWithin 82 = .ok (.invokevirtual 28, 3) := by decide +kernel
theorem dX5_zerosWithin_85 : decode cX5_zerosWithin 85 = .ok (.ifCond .eq 7, 3) := by decide +kernel
theorem dX5_zerosWithin_88 : decode cX5_zerosWithin 88 = .ok (.iconst 1, 1) := by decide +kernel
theorem dX5_zerosWithin_89 : decode cX5_zerosWithin 89 = .ok (.goto 4, 3) := by decide +kernel
theorem dX5_zerosWithin_92 : decode cX5_zerosWithin 92 = .ok (.iconst 0, 1) := by decide +kernel
theorem dX5_zerosWithin_93 : decode cX5_zerosWithin 93 = .ok (.ireturn, 1) := by decide +kernel
theorem dX5_lastIsLess_0 : decode cX5_lastIsLess 0 = .ok (.aload_n 0, 1) := by decide +kernel
theorem dX5_lastIsLess_1 : decode cX5_lastIsLess 1 = .ok (.getfield 15, 3) := by decide +kernel
theorem dX5_lastIsLess_4 : decode cX5_lastIsLess 4 = .ok (.iconst 0, 1) := by decide +kernel
theorem dX5_lastIsLess_5 : decode cX5_lastIsLess 5 = .ok (.laload, 1) := by decide +kernel
theorem dX5_lastIsLess_6 : decode cX5_lastIsLess 6 = .ok (.invokestatic 35, 3) := by decide +kernel
theorem dX5_lastIsLess_9 : decode cX5_lastIsLess 9 = .ok (.aload_n 0, 1) := by decide +kernel
theorem dX5_lastIsLess_10 : decode cX5_lastIsLess 10 = .ok (.getfield 15, 3) := by decide +kernel
theorem dX5_lastIsLess_13 : decode cX5_lastIsLess 13 = .ok (.iload_n 1, 1) := by decide +kernel
theorem dX5_lastIsLess_14 : decode cX5_lastIsLess 14 = .ok (.laload, 1) := by decide +kernel
theorem dX5_lastIsLess_15 : decode cX5_lastIsLess 15 = .ok (.invokestatic 35, 3) := by decide +kernel
theorem dX5_lastIsLess_18 : decode cX5_lastIsLess 18 = .ok (.lcmp, 1) := by decide +kernel
theorem dX5_lastIsLess_19 : decode cX5_lastIsLess 19 = .ok (.ifCond .ge 7, 3) := by decide +kernel
theorem dX5_lastIsLess_22 : decode cX5_lastIsLess 22 = .ok (.iconst 1, 1) := by decide +kernel
theorem dX5_lastIsLess_23 : decode cX5_lastIsLess 23 = .ok (.goto 4, 3) := by decide +kernel
theorem dX5_lastIsLess_26 : decode cX5_lastIsLess 26 = .ok (.iconst 0, 1) := by decide +kernel
theorem dX5_lastIsLess_27 : decode cX5_lastIsLess 27 = .ok (.ireturn, 1) := by decide +kernel
theorem dX5_lower_0 : decode cX5_lower 0 = .ok (.iconst 0, 1) := by decide +kernel
theorem dX5_lower_1 : decode cX5_lower 1 = .ok (.istore_n 2, 1) := by decide +kernel
theorem dX5_lower_2 : decode cX5_lower 2 = .ok (.iload_n 2, 1) := by decide +kernel
theorem dX5_lower_3 : decode cX5_lower 3 = .ok (.iload_n 1, 1) := by decide +kernel
theorem dX5_lower_4 : decode cX5_lower 4 = .ok (.if_icmp .ge 48, 3) := by decide +kernel
theorem dX5_lower_7 : decode cX5_lower 7 = .ok (.aload_n 0, 1) := by decide +kernel
theorem dX5_lower_8 : decode cX5_lower 8 = .ok (.getfield 19, 3) := by decide +kernel
theorem dX5_lower_11 : decode cX5_lower 11 = .ok (.iload_n 2, 1) := by decide +kernel
theorem dX5_lower_12 : decode cX5_lower 12 = .ok (.aload_n 0, 1) := by decide +kernel
theorem dX5_lower_13 : decode cX5_lower 13 = .ok (.getfield 15, 3) := by decide +kernel
theorem dX5_lower_16 : decode cX5_lower 16 = .ok (.iload_n 1, 1) := by decide +kernel
theorem dX5_lower_17 : decode cX5_lower 17 = .ok (.laload, 1) := by decide +kernel
theorem dX5_lower_18 : decode cX5_lower 18 = .ok (.aload_n 0, 1) := by decide +kernel
theorem dX5_lower_19 : decode cX5_lower 19 = .ok (.getfield 15, 3) := by decide +kernel
theorem dX5_lower_22 : decode cX5_lower 22 = .ok (.iload_n 2, 1) := by decide +kernel
theorem dX5_lower_23 : decode cX5_lower 23 = .ok (.iconst 1, 1) := by decide +kernel
theorem dX5_lower_24 : decode cX5_lower 24 = .ok (.iadd, 1) := by decide +kernel
theorem dX5_lower_25 : decode cX5_lower 25 = .ok (.laload, 1) := by decide +kernel
theorem dX5_lower_26 : decode cX5_lower 26 = .ok (.lmul, 1) := by decide +kernel
theorem dX5_lower_27 : decode cX5_lower 27 = .ok (.aload_n 0, 1) := by decide +kernel
theorem dX5_lower_28 : decode cX5_lower 28 = .ok (.getfield 15, 3) := by decide +kernel
theorem dX5_lower_31 : decode cX5_lower 31 = .ok (.iconst 0, 1) := by decide +kernel
theorem dX5_lower_32 : decode cX5_lower 32 = .ok (.laload, 1) := by decide +kernel
theorem dX5_lower_33 : decode cX5_lower 33 = .ok (.aload_n 0, 1) := by decide +kernel
theorem dX5_lower_34 : decode cX5_lower 34 = .ok (.getfield 15, 3) := by decide +kernel
theorem dX5_lower_37 : decode cX5_lower 37 = .ok (.iload_n 1, 1) := by decide +kernel
theorem dX5_lower_38 : decode cX5_lower 38 = .ok (.iconst 1, 1) := by decide +kernel
theorem dX5_lower_39 : decode cX5_lower 39 = .ok (.isub, 1) := by decide +kernel
theorem dX5_lower_40 : decode cX5_lower 40 = .ok (.iload_n 2, 1) := by decide +kernel
theorem dX5_lower_41 : decode cX5_lower 41 = .ok (.isub, 1) := by decide +kernel
theorem dX5_lower_42 : decode cX5_lower 42 = .ok (.laload, 1) := by decide +kernel
theorem dX5_lower_43 : decode cX5_lower 43 = .ok (.lmul, 1) := by decide +kernel
theorem dX5_lower_44 : decode cX5_lower 44 = .ok (.lsub, 1) := by decide +kernel
theorem dX5_lower_45 : decode cX5_lower 45 = .ok (.lastore, 1) := by decide +kernel
theorem dX5_lower_46 : decode cX5_lower 46 = .ok (.iinc 2 1, 3) := by decide +kernel
theorem dX5_lower_49 : decode cX5_lower 49 = .ok (.goto (-47), 3) := by decide +kernel
theorem dX5_lower_52 : decode cX5_lower 52 = .ok (.aload_n 0, 1) := by decide +kernel
theorem dX5_lower_53 : decode cX5_lower 53 = .ok (.getfield 19, 3) := by decide +kernel
theorem dX5_lower_56 : decode cX5_lower 56 = .ok (.iconst 0, 1) := by decide +kernel
theorem dX5_lower_57 : decode cX5_lower 57 = .ok (.aload_n 0, 1) := by decide +kernel
theorem dX5_lower_58 : decode cX5_lower 58 = .ok (.getfield 15, 3) := by decide +kernel
theorem dX5_lower_61 : decode cX5_lower 61 = .ok (.iconst 0, 1) := by decide +kernel
theorem dX5_lower_62 : decode cX5_lower 62 = .ok (.iload_n 1, 1) := by decide +kernel
theorem dX5_lower_63 : decode cX5_lower 63 = .ok (.invokestatic 41, 3) := by decide +kernel
theorem dX5_lower_66 : decode cX5_lower 66 = .ok (.return_, 1) := by decide +kernel
theorem dX6_init_0 : decode cX6_init 0 = .ok (.aload_n 0, 1) := by decide +kernel
theorem dX6_init_1 : decode cX6_init 1 = .ok (.invokespecial 3, 3) := by decide +kernel
theorem dX6_init_4 : decode cX6_init 4 = .ok (.aload_n 0, 1) := by decide +kernel
theorem dX6_init_5 : decode cX6_init 5 = .ok (.iconst 5, 1) := by decide +kernel
theorem dX6_init_6 : decode cX6_init 6 = .ok (.newarray .boolean, 2) := by decide +kernel
theorem dX6_init_8 : decode cX6_init 8 = .ok (.putfield 9, 3) := by decide +kernel
theorem dX6_init_11 : decode cX6_init 11 = .ok (.aload_n 0, 1) := by decide +kernel
theorem dX6_init_12 : decode cX6_init 12 = .ok (.iconst 5, 1) := by decide +kernel
theorem dX6_init_13 : decode cX6_init 13 = .ok (.newarray .int, 2) := by decide +kernel
theorem dX6_init_15 : decode cX6_init 15 = .ok (.putfield 15, 3) := by decide +kernel
theorem dX6_init_18 : decode cX6_init 18 = .ok (.aload_n 0, 1) := by decide +kernel
theorem dX6_init_19 : decode cX6_init 19 = .ok (.iconst 2, 1) := by decide +kernel
theorem dX6_init_20 : decode cX6_init 20 = .ok (.putfield 19, 3) := by decide +kernel
theorem dX6_init_23 : decode cX6_init 23 = .ok (.aload_n 0, 1) := by decide +kernel
theorem dX6_init_24 : decode cX6_init 24 = .ok (.iconst 0, 1) := by decide +kernel
theorem dX6_init_25 : decode cX6_init 25 = .ok (.putfield 23, 3) := by decide +kernel
theorem dX6_init_28 : decode cX6_init 28 = .ok (.return_, 1) := by decide +kernel
set_option maxRecDepth 20000 in
theorem ggX6_renew_X6_level : GoodIn wsX6_renew wsX6_level := goodIn_r _ [8, 9, 10, 11, 12, 13, 14, 15, 16, 17] (by decide +kernel) (by decide +kernel)
set_option maxRecDepth 20000 in
theorem gX6_renew_X6_level : GoodIn wsX6_renew (wsV RX6 26 RX6 yX6_level wsX6_level) := goodIn_app (goodIn_of _ (by decide +kernel)) ggX6_renew_X6_level
theorem dX6_renew_0 : decode cX6_renew 0 = .ok (.aload_n 0, 1) := by decide +kernel
theorem dX6_renew_1 : decode cX6_renew 1 = .ok (.iload_n 1, 1) := by decide +kernel
theorem dX6_renew_2 : decode cX6_renew 2 = .ok (.putfield 19, 3) := by decide +kernel
theorem dX6_renew_5 : decode cX6_renew 5 = .ok (.aload_n 0, 1) := by decide +kernel
theorem dX6_renew_6 : decode cX6_renew 6 = .ok (.iconst 0, 1) := by decide +kernel
theorem dX6_renew_7 : decode cX6_renew 7 = .ok (.putfield 23, 3) := by decide +kernel
theorem dX6_renew_10 : decode cX6_renew 10 = .ok (.iconst 0, 1) := by decide +kernel
theorem dX6_renew_11 : decode cX6_renew 11 = .ok (.istore_n 2, 1) := by decide +kernel
theorem dX6_renew_12 : decode cX6_renew 12 = .ok (.iload_n 2, 1) := by decide +kernel
theorem dX6_renew_13 : decode cX6_renew 13 = .ok (.iconst 5, 1) := by decide +kernel
theorem dX6_renew_14 : decode cX6_renew 14 = .ok (.if_icmp .ge 16, 3) := by decide +kernel
theorem dX6_renew_17 : decode cX6_renew 17 = .ok (.aload_n 0, 1) := by decide +kernel
theorem dX6_renew_18 : decode cX6_renew 18 = .ok (.getfield 9, 3) := by decide +kernel
theorem dX6_renew_21 : decode cX6_renew 21 = .ok (.iload_n 2, 1) := by decide +kernel
theorem dX6_renew_22 : decode cX6_renew 22 = .ok (.iconst 0, 1) := by decide +kernel
theorem dX6_renew_23 : decode cX6_renew 23 = .ok (.bastore, 1) := by decide +kernel
theorem dX6_renew_24 : decode cX6_renew 24 = .ok (.iinc 2 1, 3) := by decide +kernel
theorem dX6_renew_27 : decode cX6_renew 27 = .ok (.goto (-15), 3) := by decide +kernel
theorem dX6_renew_30 : decode cX6_renew 30 = .ok (.aload_n 0, 1) := by decide +kernel
theorem dX6_renew_31 : decode cX6_renew 31 = .ok (.invokevirtual 26, 3) := by decide +kernel
theorem dX6_renew_34 : decode cX6_renew 34 = .ok (.return_, 1) := by decide +kernel
theorem dX6_count_0 : decode cX6_count 0 = .ok (.aload_n 0, 1) := by decide +kernel
theorem dX6_count_1 : decode cX6_count 1 = .ok (.getfield 19, 3) := by decide +kernel
theorem dX6_count_4 : decode cX6_count 4 = .ok (.ireturn, 1) := by decide +kernel
theorem dX6_tip_0 : decode cX6_tip 0 = .ok (.aload_n 0, 1) := by decide +kernel
theorem dX6_tip_1 : decode cX6_tip 1 = .ok (.getfield 23, 3) := by decide +kernel
theorem dX6_tip_4 : decode cX6_tip 4 = .ok (.ireturn, 1) := by decide +kernel
theorem dX6_isDead_0 : decode cX6_isDead 0 = .ok (.aload_n 0, 1) := by decide +kernel
theorem dX6_isDead_1 : decode cX6_isDead 1 = .ok (.getfield 9, 3) := by decide +kernel
theorem dX6_isDead_4 : decode cX6_isDead 4 = .ok (.iload_n 1, 1) := by decide +kernel
theorem dX6_isDead_5 : decode cX6_isDead 5 = .ok (.baload, 1) := by decide +kernel
theorem dX6_isDead_6 : decode cX6_isDead 6 = .ok (.ireturn, 1) := by decide +kernel
theorem dX6_swapDead_0 : decode cX6_swapDead 0 = .ok (.aload_n 0, 1) := by decide +kernel
theorem dX6_swapDead_1 : decode cX6_swapDead 1 = .ok (.getfield 9, 3) := by decide +kernel
theorem dX6_swapDead_4 : decode cX6_swapDead 4 = .ok (.iload_n 1, 1) := by decide +kernel
theorem dX6_swapDead_5 : decode cX6_swapDead 5 = .ok (.baload, 1) := by decide +kernel
theorem dX6_swapDead_6 : decode cX6_swapDead 6 = .ok (.istore_n 3, 1) := by decide +kernel
theorem dX6_swapDead_7 : decode cX6_swapDead 7 = .ok (.aload_n 0, 1) := by decide +kernel
theorem dX6_swapDead_8 : decode cX6_swapDead 8 = .ok (.getfield 9, 3) := by decide +kernel
theorem dX6_swapDead_11 : decode cX6_swapDead 11 = .ok (.iload_n 1, 1) := by decide +kernel
theorem dX6_swapDead_12 : decode cX6_swapDead 12 = .ok (.iload_n 2, 1) := by decide +kernel
theorem dX6_swapDead_13 : decode cX6_swapDead 13 = .ok (.bastore, 1) := by decide +kernel
theorem dX6_swapDead_14 : decode cX6_swapDead 14 = .ok (.iload_n 3, 1) := by decide +kernel
theorem dX6_swapDead_15 : decode cX6_swapDead 15 = .ok (.ireturn, 1) := by decide +kernel
theorem dX6_unitsOf_0 : decode cX6_unitsOf 0 = .ok (.aload_n 0, 1) := by decide +kernel
theorem dX6_unitsOf_1 : decode cX6_unitsOf 1 = .ok (.getfield 15, 3) := by decide +kernel
theorem dX6_unitsOf_4 : decode cX6_unitsOf 4 = .ok (.iload_n 1, 1) := by decide +kernel
theorem dX6_unitsOf_5 : decode cX6_unitsOf 5 = .ok (.iaload, 1) := by decide +kernel
theorem dX6_unitsOf_6 : decode cX6_unitsOf 6 = .ok (.ireturn, 1) := by decide +kernel
theorem dX6_swapUnits_0 : decode cX6_swapUnits 0 = .ok (.aload_n 0, 1) := by decide +kernel
theorem dX6_swapUnits_1 : decode cX6_swapUnits 1 = .ok (.getfield 15, 3) := by decide +kernel
theorem dX6_swapUnits_4 : decode cX6_swapUnits 4 = .ok (.iload_n 1, 1) := by decide +kernel
theorem dX6_swapUnits_5 : decode cX6_swapUnits 5 = .ok (.iaload, 1) := by decide +kernel
theorem dX6_swapUnits_6 : decode cX6_swapUnits 6 = .ok (.istore_n 3, 1) := by decide +kernel
theorem dX6_swapUnits_7 : decode cX6_swapUnits 7 = .ok (.aload_n 0, 1) := by decide +kernel
theorem dX6_swapUnits_8 : decode cX6_swapUnits 8 = .ok (.getfield 15, 3) := by decide +kernel
theorem dX6_swapUnits_11 : decode cX6_swapUnits 11 = .ok (.iload_n 1, 1) := by decide +kernel
theorem dX6_swapUnits_12 : decode cX6_swapUnits 12 = .ok (.iload_n 2, 1) := by decide +kernel
theorem dX6_swapUnits_13 : decode cX6_swapUnits 13 = .ok (.iastore, 1) := by decide +kernel
theorem dX6_swapUnits_14 : decode cX6_swapUnits 14 = .ok (.iload_n 3, 1) := by decide +kernel
theorem dX6_swapUnits_15 : decode cX6_swapUnits 15 = .ok (.ireturn, 1) := by decide +kernel
set_option maxRecDepth 20000 in
theorem ggX6_level_J7_fill_53178 : GoodIn wsX6_level wsJ7_fill_53178 := goodIn_r _ [5] (by decide +kernel) (by decide +kernel)
set_option maxRecDepth 20000 in
theorem gX6_level_J7_fill_53178 : GoodIn wsX6_level (va_wsS RX6 29 yJ7_fill_53178 wsJ7_fill_53178) := goodIn_app (goodIn_of _ (by decide +kernel)) ggX6_level_J7_fill_53178
theorem dX6_level_0 : decode cX6_level 0 = .ok (.aload_n 0, 1) := by decide +kernel
theorem dX6_level_1 : decode cX6_level 1 = .ok (.getfield 15, 3) := by decide +kernel
theorem dX6_level_4 : decode cX6_level 4 = .ok (.iconst 0, 1) := by decide +kernel
theorem dX6_level_5 : decode cX6_level 5 = .ok (.invokestatic 29, 3) := by decide +kernel
theorem dX6_level_8 : decode cX6_level 8 = .ok (.return_, 1) := by decide +kernel
theorem dX6_sum_0 : decode cX6_sum 0 = .ok (.iconst 0, 1) := by decide +kernel
theorem dX6_sum_1 : decode cX6_sum 1 = .ok (.istore_n 1, 1) := by decide +kernel
theorem dX6_sum_2 : decode cX6_sum 2 = .ok (.iconst 0, 1) := by decide +kernel
theorem dX6_sum_3 : decode cX6_sum 3 = .ok (.istore_n 2, 1) := by decide +kernel
theorem dX6_sum_4 : decode cX6_sum 4 = .ok (.iload_n 2, 1) := by decide +kernel
theorem dX6_sum_5 : decode cX6_sum 5 = .ok (.aload_n 0, 1) := by decide +kernel
theorem dX6_sum_6 : decode cX6_sum 6 = .ok (.getfield 19, 3) := by decide +kernel
theorem dX6_sum_9 : decode cX6_sum 9 = .ok (.if_icmp .ge 18, 3) := by decide +kernel
theorem dX6_sum_12 : decode cX6_sum 12 = .ok (.iload_n 1, 1) := by decide +kernel
theorem dX6_sum_13 : decode cX6_sum 13 = .ok (.aload_n 0, 1) := by decide +kernel
theorem dX6_sum_14 : decode cX6_sum 14 = .ok (.getfield 15, 3) := by decide +kernel
theorem dX6_sum_17 : decode cX6_sum 17 = .ok (.iload_n 2, 1) := by decide +kernel
theorem dX6_sum_18 : decode cX6_sum 18 = .ok (.iaload, 1) := by decide +kernel
theorem dX6_sum_19 : decode cX6_sum 19 = .ok (.iadd, 1) := by decide +kernel
theorem dX6_sum_20 : decode cX6_sum 20 = .ok (.istore_n 1, 1) := by decide +kernel
theorem dX6_sum_21 : decode cX6_sum 21 = .ok (.iinc 2 1, 3) := by decide +kernel
theorem dX6_sum_24 : decode cX6_sum 24 = .ok (.goto (-20), 3) := by decide +kernel
theorem dX6_sum_27 : decode cX6_sum 27 = .ok (.iload_n 1, 1) := by decide +kernel
theorem dX6_sum_28 : decode cX6_sum 28 = .ok (.ireturn, 1) := by decide +kernel
set_option maxRecDepth 20000 in
theorem ggX6_giveToTip_X6_sum : GoodIn wsX6_giveToTip wsX6_sum := goodIn_r _ [8, 1, 2, 12, 13, 14, 15] (by decide +kernel) (by decide +kernel)
set_option maxRecDepth 20000 in
theorem gX6_giveToTip_X6_sum : GoodIn wsX6_giveToTip (wsV RX6 35 RX6 yX6_sum wsX6_sum) := goodIn_app (goodIn_of _ (by decide +kernel)) ggX6_giveToTip_X6_sum
set_option maxRecDepth 20000 in
theorem ggX6_giveToTip_X11_cut : GoodIn wsX6_giveToTip wsX11_cut := goodIn_r _ [11] (by decide +kernel) (by decide +kernel)
set_option maxRecDepth 20000 in
theorem gX6_giveToTip_X11_cut_n39 : GoodIn wsX6_giveToTip (wsX11_cut) := ggX6_giveToTip_X11_cut
theorem dX6_giveToTip_0 : decode cX6_giveToTip 0 = .ok (.aload_n 0, 1) := by decide +kernel
theorem dX6_giveToTip_1 : decode cX6_giveToTip 1 = .ok (.invokevirtual 35, 3) := by decide +kernel
theorem dX6_giveToTip_4 : decode cX6_giveToTip 4 = .ok (.aload_n 0, 1) := by decide +kernel
theorem dX6_giveToTip_5 : decode cX6_giveToTip 5 = .ok (.getfield 19, 3) := by decide +kernel
theorem dX6_giveToTip_8 : decode cX6_giveToTip 8 = .ok (.invokestatic 39, 3) := by decide +kernel
theorem dX6_giveToTip_11 : decode cX6_giveToTip 11 = .ok (.istore_n 1, 1) := by decide +kernel
theorem dX6_giveToTip_12 : decode cX6_giveToTip 12 = .ok (.iconst 0, 1) := by decide +kernel
theorem dX6_giveToTip_13 : decode cX6_giveToTip 13 = .ok (.istore_n 2, 1) := by decide +kernel
theorem dX6_giveToTip_14 : decode cX6_giveToTip 14 = .ok (.iload_n 2, 1) := by decide +kernel
theorem dX6_giveToTip_15 : decode cX6_giveToTip 15 = .ok (.aload_n 0, 1) := by decide +kernel
theorem dX6_giveToTip_16 : decode cX6_giveToTip 16 = .ok (.getfield 19, 3) := by decide +kernel
theorem dX6_giveToTip_19 : decode cX6_giveToTip 19 = .ok (.if_icmp .ge 19, 3) := by decide +kernel
theorem dX6_giveToTip_22 : decode cX6_giveToTip 22 = .ok (.aload_n 0, 1) := by decide +kernel
theorem dX6_giveToTip_23 : decode cX6_giveToTip 23 = .ok (.getfield 15, 3) := by decide +kernel
theorem dX6_giveToTip_26 : decode cX6_giveToTip 26 = .ok (.iload_n 2, 1) := by decide +kernel
theorem dX6_giveToTip_27 : decode cX6_giveToTip 27 = .ok (.dup2, 1) := by decide +kernel
theorem dX6_giveToTip_28 : decode cX6_giveToTip 28 = .ok (.iaload, 1) := by decide +kernel
theorem dX6_giveToTip_29 : decode cX6_giveToTip 29 = .ok (.iload_n 1, 1) := by decide +kernel
theorem dX6_giveToTip_30 : decode cX6_giveToTip 30 = .ok (.isub, 1) := by decide +kernel
theorem dX6_giveToTip_31 : decode cX6_giveToTip 31 = .ok (.iastore, 1) := by decide +kernel
theorem dX6_giveToTip_32 : decode cX6_giveToTip 32 = .ok (.iinc 2 1, 3) := by decide +kernel
theorem dX6_giveToTip_35 : decode cX6_giveToTip 35 = .ok (.goto (-21), 3) := by decide +kernel
theorem dX6_giveToTip_38 : decode cX6_giveToTip 38 = .ok (.aload_n 0, 1) := by decide +kernel
theorem dX6_giveToTip_39 : decode cX6_giveToTip 39 = .ok (.dup, 1) := by decide +kernel
theorem dX6_giveToTip_40 : decode cX6_giveToTip 40 = .ok (.getfield 23, 3) := by decide +kernel
theorem dX6_giveToTip_43 : decode cX6_giveToTip 43 = .ok (.iload_n 1, 1) := by decide +kernel
theorem dX6_giveToTip_44 : decode cX6_giveToTip 44 = .ok (.iadd, 1) := by decide +kernel
theorem dX6_giveToTip_45 : decode cX6_giveToTip 45 = .ok (.putfield 23, 3) := by decide +kernel
theorem dX6_giveToTip_48 : decode cX6_giveToTip 48 = .ok (.iload_n 1, 1) := by decide +kernel
theorem dX6_giveToTip_49 : decode cX6_giveToTip 49 = .ok (.ireturn, 1) := by decide +kernel
theorem dX7_init_0 : decode cX7_init 0 = .ok (.aload_n 0, 1) := by decide +kernel
theorem dX7_init_1 : decode cX7_init 1 = .ok (.invokespecial 3, 3) := by decide +kernel
theorem dX7_init_4 : decode cX7_init 4 = .ok (.aload_n 0, 1) := by decide +kernel
theorem dX7_init_5 : decode cX7_init 5 = .ok (.bipush 7, 2) := by decide +kernel
theorem dX7_init_7 : decode cX7_init 7 = .ok (.newarray .int, 2) := by decide +kernel
theorem dX7_init_9 : decode cX7_init 9 = .ok (.dup, 1) := by decide +kernel
theorem dX7_init_10 : decode cX7_init 10 = .ok (.iconst 0, 1) := by decide +kernel
theorem dX7_init_11 : decode cX7_init 11 = .ok (.bipush 20, 2) := by decide +kernel
theorem dX7_init_13 : decode cX7_init 13 = .ok (.iastore, 1) := by decide +kernel
theorem dX7_init_14 : decode cX7_init 14 = .ok (.dup, 1) := by decide +kernel
theorem dX7_init_15 : decode cX7_init 15 = .ok (.iconst 1, 1) := by decide +kernel
theorem dX7_init_16 : decode cX7_init 16 = .ok (.bipush 50, 2) := by decide +kernel
theorem dX7_init_18 : decode cX7_init 18 = .ok (.iastore, 1) := by decide +kernel
theorem dX7_init_19 : decode cX7_init 19 = .ok (.dup, 1) := by decide +kernel
theorem dX7_init_20 : decode cX7_init 20 = .ok (.iconst 2, 1) := by decide +kernel
theorem dX7_init_21 : decode cX7_init 21 = .ok (.iconst 1, 1) := by decide +kernel
theorem dX7_init_22 : decode cX7_init 22 = .ok (.iastore, 1) := by decide +kernel
theorem dX7_init_23 : decode cX7_init 23 = .ok (.dup, 1) := by decide +kernel
theorem dX7_init_24 : decode cX7_init 24 = .ok (.iconst 3, 1) := by decide +kernel
theorem dX7_init_25 : decode cX7_init 25 = .ok (.bipush 50, 2) := by decide +kernel
theorem dX7_init_27 : decode cX7_init 27 = .ok (.iastore, 1) := by decide +kernel
theorem dX7_init_28 : decode cX7_init 28 = .ok (.dup, 1) := by decide +kernel
theorem dX7_init_29 : decode cX7_init 29 = .ok (.iconst 4, 1) := by decide +kernel
theorem dX7_init_30 : decode cX7_init 30 = .ok (.bipush 40, 2) := by decide +kernel
theorem dX7_init_32 : decode cX7_init 32 = .ok (.iastore, 1) := by decide +kernel
theorem dX7_init_33 : decode cX7_init 33 = .ok (.dup, 1) := by decide +kernel
theorem dX7_init_34 : decode cX7_init 34 = .ok (.iconst 5, 1) := by decide +kernel
theorem dX7_init_35 : decode cX7_init 35 = .ok (.bipush 30, 2) := by decide +kernel
theorem dX7_init_37 : decode cX7_init 37 = .ok (.iastore, 1) := by decide +kernel
theorem dX7_init_38 : decode cX7_init 38 = .ok (.dup, 1) := by decide +kernel
theorem dX7_init_39 : decode cX7_init 39 = .ok (.bipush 6, 2) := by decide +kernel
theorem dX7_init_41 : decode cX7_init 41 = .ok (.iconst 4, 1) := by decide +kernel
theorem dX7_init_42 : decode cX7_init 42 = .ok (.iastore, 1) := by decide +kernel
theorem dX7_init_43 : decode cX7_init 43 = .ok (.putfield 9, 3) := by decide +kernel
theorem dX7_init_46 : decode cX7_init 46 = .ok (.return_, 1) := by decide +kernel
set_option maxRecDepth 20000 in
theorem ggX7_takes_X11_within : GoodIn wsX7_takes wsX11_within := goodIn_r _ [5] (by decide +kernel) (by decide +kernel)
set_option maxRecDepth 20000 in
theorem gX7_takes_X11_within_n15 : GoodIn wsX7_takes (wsX11_within) := ggX7_takes_X11_within
theorem dX7_takes_0 : decode cX7_takes 0 = .ok (.iload_n 1, 1) := by decide +kernel
theorem dX7_takes_1 : decode cX7_takes 1 = .ok (.iconst 0, 1) := by decide +kernel
theorem dX7_takes_2 : decode cX7_takes 2 = .ok (.bipush 6, 2) := by decide +kernel
theorem dX7_takes_4 : decode cX7_takes 4 = .ok (.invokestatic 15, 3) := by decide +kernel
theorem dX7_takes_7 : decode cX7_takes 7 = .ok (.ifCond .eq 24, 3) := by decide +kernel
theorem dX7_takes_10 : decode cX7_takes 10 = .ok (.iload_n 2, 1) := by decide +kernel
theorem dX7_takes_11 : decode cX7_takes 11 = .ok (.getstatic 19, 3) := by decide +kernel
theorem dX7_takes_14 : decode cX7_takes 14 = .ok (.iload_n 1, 1) := by decide +kernel
theorem dX7_takes_15 : decode cX7_takes 15 = .ok (.iaload, 1) := by decide +kernel
theorem dX7_takes_16 : decode cX7_takes 16 = .ok (.getstatic 22, 3) := by decide +kernel
theorem dX7_takes_19 : decode cX7_takes 19 = .ok (.iload_n 1, 1) := by decide +kernel
theorem dX7_takes_20 : decode cX7_takes 20 = .ok (.iaload, 1) := by decide +kernel
theorem dX7_takes_21 : decode cX7_takes 21 = .ok (.invokestatic 15, 3) := by decide +kernel
theorem dX7_takes_24 : decode cX7_takes 24 = .ok (.ifCond .eq 7, 3) := by decide +kernel
theorem dX7_takes_27 : decode cX7_takes 27 = .ok (.iconst 1, 1) := by decide +kernel
theorem dX7_takes_28 : decode cX7_takes 28 = .ok (.goto 4, 3) := by decide +kernel
theorem dX7_takes_31 : decode cX7_takes 31 = .ok (.iconst 0, 1) := by decide +kernel
theorem dX7_takes_32 : decode cX7_takes 32 = .ok (.ireturn, 1) := by decide +kernel
theorem dX7_swap_0 : decode cX7_swap 0 = .ok (.aload_n 0, 1) := by decide +kernel
theorem dX7_swap_1 : decode cX7_swap 1 = .ok (.getfield 9, 3) := by decide +kernel
theorem dX7_swap_4 : decode cX7_swap 4 = .ok (.iload_n 1, 1) := by decide +kernel
theorem dX7_swap_5 : decode cX7_swap 5 = .ok (.iaload, 1) := by decide +kernel
theorem dX7_swap_6 : decode cX7_swap 6 = .ok (.istore_n 3, 1) := by decide +kernel
theorem dX7_swap_7 : decode cX7_swap 7 = .ok (.aload_n 0, 1) := by decide +kernel
theorem dX7_swap_8 : decode cX7_swap 8 = .ok (.getfield 9, 3) := by decide +kernel
theorem dX7_swap_11 : decode cX7_swap 11 = .ok (.iload_n 1, 1) := by decide +kernel
theorem dX7_swap_12 : decode cX7_swap 12 = .ok (.iload_n 2, 1) := by decide +kernel
theorem dX7_swap_13 : decode cX7_swap 13 = .ok (.iastore, 1) := by decide +kernel
theorem dX7_swap_14 : decode cX7_swap 14 = .ok (.iload_n 3, 1) := by decide +kernel
theorem dX7_swap_15 : decode cX7_swap 15 = .ok (.ireturn, 1) := by decide +kernel
theorem dX7_get_0 : decode cX7_get 0 = .ok (.aload_n 0, 1) := by decide +kernel
theorem dX7_get_1 : decode cX7_get 1 = .ok (.getfield 9, 3) := by decide +kernel
theorem dX7_get_4 : decode cX7_get 4 = .ok (.iload_n 1, 1) := by decide +kernel
theorem dX7_get_5 : decode cX7_get 5 = .ok (.iaload, 1) := by decide +kernel
theorem dX7_get_6 : decode cX7_get 6 = .ok (.ireturn, 1) := by decide +kernel
theorem dX8_init_0 : decode cX8_init 0 = .ok (.aload_n 0, 1) := by decide +kernel
theorem dX8_init_1 : decode cX8_init 1 = .ok (.invokespecial 3, 3) := by decide +kernel
theorem dX8_init_4 : decode cX8_init 4 = .ok (.aload_n 0, 1) := by decide +kernel
theorem dX8_init_5 : decode cX8_init 5 = .ok (.iconst 4, 1) := by decide +kernel
theorem dX8_init_6 : decode cX8_init 6 = .ok (.newarray .int, 2) := by decide +kernel
theorem dX8_init_8 : decode cX8_init 8 = .ok (.putfield 9, 3) := by decide +kernel
theorem dX8_init_11 : decode cX8_init 11 = .ok (.aload_n 0, 1) := by decide +kernel
theorem dX8_init_12 : decode cX8_init 12 = .ok (.iconst 4, 1) := by decide +kernel
theorem dX8_init_13 : decode cX8_init 13 = .ok (.newarray .int, 2) := by decide +kernel
theorem dX8_init_15 : decode cX8_init 15 = .ok (.dup, 1) := by decide +kernel
theorem dX8_init_16 : decode cX8_init 16 = .ok (.iconst 0, 1) := by decide +kernel
theorem dX8_init_17 : decode cX8_init 17 = .ok (.iconst (-1), 1) := by decide +kernel
theorem dX8_init_18 : decode cX8_init 18 = .ok (.iastore, 1) := by decide +kernel
theorem dX8_init_19 : decode cX8_init 19 = .ok (.dup, 1) := by decide +kernel
theorem dX8_init_20 : decode cX8_init 20 = .ok (.iconst 1, 1) := by decide +kernel
theorem dX8_init_21 : decode cX8_init 21 = .ok (.iconst (-1), 1) := by decide +kernel
theorem dX8_init_22 : decode cX8_init 22 = .ok (.iastore, 1) := by decide +kernel
theorem dX8_init_23 : decode cX8_init 23 = .ok (.dup, 1) := by decide +kernel
theorem dX8_init_24 : decode cX8_init 24 = .ok (.iconst 2, 1) := by decide +kernel
theorem dX8_init_25 : decode cX8_init 25 = .ok (.iconst (-1), 1) := by decide +kernel
theorem dX8_init_26 : decode cX8_init 26 = .ok (.iastore, 1) := by decide +kernel
theorem dX8_init_27 : decode cX8_init 27 = .ok (.dup, 1) := by decide +kernel
theorem dX8_init_28 : decode cX8_init 28 = .ok (.iconst 3, 1) := by decide +kernel
theorem dX8_init_29 : decode cX8_init 29 = .ok (.iconst (-1), 1) := by decide +kernel
theorem dX8_init_30 : decode cX8_init 30 = .ok (.iastore, 1) := by decide +kernel
theorem dX8_init_31 : decode cX8_init 31 = .ok (.putfield 15, 3) := by decide +kernel
theorem dX8_init_34 : decode cX8_init 34 = .ok (.aload_n 0, 1) := by decide +kernel
theorem dX8_init_35 : decode cX8_init 35 = .ok (.sipush 160, 3) := by decide +kernel
theorem dX8_init_38 : decode cX8_init 38 = .ok (.newarray .int, 2) := by decide +kernel
theorem dX8_init_40 : decode cX8_init 40 = .ok (.putfield 18, 3) := by decide +kernel
theorem dX8_init_43 : decode cX8_init 43 = .ok (.return_, 1) := by decide +kernel
theorem dX8_holds_0 : decode cX8_holds 0 = .ok (.aload_n 0, 1) := by decide +kernel
theorem dX8_holds_1 : decode cX8_holds 1 = .ok (.getfield 15, 3) := by decide +kernel
theorem dX8_holds_4 : decode cX8_holds 4 = .ok (.iload_n 1, 1) := by decide +kernel
theorem dX8_holds_5 : decode cX8_holds 5 = .ok (.iaload, 1) := by decide +kernel
theorem dX8_holds_6 : decode cX8_holds 6 = .ok (.iconst (-1), 1) := by decide +kernel
theorem dX8_holds_7 : decode cX8_holds 7 = .ok (.if_icmp .eq 7, 3) := by decide +kernel
theorem dX8_holds_10 : decode cX8_holds 10 = .ok (.iconst 1, 1) := by decide +kernel
theorem dX8_holds_11 : decode cX8_holds 11 = .ok (.goto 4, 3) := by decide +kernel
theorem dX8_holds_14 : decode cX8_holds 14 = .ok (.iconst 0, 1) := by decide +kernel
theorem dX8_holds_15 : decode cX8_holds 15 = .ok (.ireturn, 1) := by decide +kernel
theorem dX8_lay_0 : decode cX8_lay 0 = .ok (.aload_n 0, 1) := by decide +kernel
theorem dX8_lay_1 : decode cX8_lay 1 = .ok (.getfield 9, 3) := by decide +kernel
theorem dX8_lay_4 : decode cX8_lay 4 = .ok (.iload_n 1, 1) := by decide +kernel
theorem dX8_lay_5 : decode cX8_lay 5 = .ok (.iload_n 2, 1) := by decide +kernel
theorem dX8_lay_6 : decode cX8_lay 6 = .ok (.iastore, 1) := by decide +kernel
theorem dX8_lay_7 : decode cX8_lay 7 = .ok (.aload_n 0, 1) := by decide +kernel
theorem dX8_lay_8 : decode cX8_lay 8 = .ok (.getfield 15, 3) := by decide +kernel
theorem dX8_lay_11 : decode cX8_lay 11 = .ok (.iload_n 1, 1) := by decide +kernel
theorem dX8_lay_12 : decode cX8_lay 12 = .ok (.iload_n 3, 1) := by decide +kernel
theorem dX8_lay_13 : decode cX8_lay 13 = .ok (.iastore, 1) := by decide +kernel
theorem dX8_lay_14 : decode cX8_lay 14 = .ok (.iconst 0, 1) := by decide +kernel
theorem dX8_lay_15 : decode cX8_lay 15 = .ok (.istore 4, 2) := by decide +kernel
theorem dX8_lay_17 : decode cX8_lay 17 = .ok (.iload 4, 2) := by decide +kernel
theorem dX8_lay_19 : decode cX8_lay 19 = .ok (.iload_n 3, 1) := by decide +kernel
theorem dX8_lay_20 : decode cX8_lay 20 = .ok (.if_icmp .ge 22, 3) := by decide +kernel
theorem dX8_lay_23 : decode cX8_lay 23 = .ok (.aload_n 0, 1) := by decide +kernel
theorem dX8_lay_24 : decode cX8_lay 24 = .ok (.getfield 18, 3) := by decide +kernel
theorem dX8_lay_27 : decode cX8_lay 27 = .ok (.iload_n 1, 1) := by decide +kernel
theorem dX8_lay_28 : decode cX8_lay 28 = .ok (.bipush 40, 2) := by decide +kernel
theorem dX8_lay_30 : decode cX8_lay 30 = .ok (.imul, 1) := by decide +kernel
theorem dX8_lay_31 : decode cX8_lay 31 = .ok (.iload 4, 2) := by decide +kernel
theorem dX8_lay_33 : decode cX8_lay 33 = .ok (.iadd, 1) := by decide +kernel
theorem dX8_lay_34 : decode cX8_lay 34 = .ok (.iconst 0, 1) := by decide +kernel
theorem dX8_lay_35 : decode cX8_lay 35 = .ok (.iastore, 1) := by decide +kernel
theorem dX8_lay_36 : decode cX8_lay 36 = .ok (.iinc 4 1, 3) := by decide +kernel
theorem dX8_lay_39 : decode cX8_lay 39 = .ok (.goto (-22), 3) := by decide +kernel
theorem dX8_lay_42 : decode cX8_lay 42 = .ok (.return_, 1) := by decide +kernel
theorem dX8_takeAway_0 : decode cX8_takeAway 0 = .ok (.aload_n 0, 1) := by decide +kernel
theorem dX8_takeAway_1 : decode cX8_takeAway 1 = .ok (.getfield 15, 3) := by decide +kernel
theorem dX8_takeAway_4 : decode cX8_takeAway 4 = .ok (.iload_n 1, 1) := by decide +kernel
theorem dX8_takeAway_5 : decode cX8_takeAway 5 = .ok (.iaload, 1) := by decide +kernel
theorem dX8_takeAway_6 : decode cX8_takeAway 6 = .ok (.istore_n 2, 1) := by decide +kernel
theorem dX8_takeAway_7 : decode cX8_takeAway 7 = .ok (.aload_n 0, 1) := by decide +kernel
theorem dX8_takeAway_8 : decode cX8_takeAway 8 = .ok (.getfield 15, 3) := by decide +kernel
theorem dX8_takeAway_11 : decode cX8_takeAway 11 = .ok (.iload_n 1, 1) := by decide +kernel
theorem dX8_takeAway_12 : decode cX8_takeAway 12 = .ok (.iconst (-1), 1) := by decide +kernel
theorem dX8_takeAway_13 : decode cX8_takeAway 13 = .ok (.iastore, 1) := by decide +kernel
theorem dX8_takeAway_14 : decode cX8_takeAway 14 = .ok (.iload_n 2, 1) := by decide +kernel
theorem dX8_takeAway_15 : decode cX8_takeAway 15 = .ok (.ireturn, 1) := by decide +kernel
set_option maxRecDepth 20000 in
theorem ggX8_refusal_X11_isSheet : GoodIn wsX8_refusal wsX11_isSheet := goodIn_r _ [5, 6, 7, 4, 8] (by decide +kernel) (by decide +kernel)
set_option maxRecDepth 20000 in
theorem gX8_refusal_X11_isSheet_n21 : GoodIn wsX8_refusal (wsX11_isSheet) := ggX8_refusal_X11_isSheet
set_option maxRecDepth 20000 in
theorem ggX8_refusal_X11_isLane : GoodIn wsX8_refusal wsX11_isLane := goodIn_r _ [10, 6, 7, 4, 8] (by decide +kernel) (by decide +kernel)
set_option maxRecDepth 20000 in
theorem gX8_refusal_X11_isLane_n25 : GoodIn wsX8_refusal (wsX11_isLane) := ggX8_refusal_X11_isLane
set_option maxRecDepth 20000 in
theorem ggX8_refusal_X8_holds : GoodIn wsX8_refusal wsX8_holds := goodIn_r _ [15, 2, 16, 17, 18] (by decide +kernel) (by decide +kernel)
set_option maxRecDepth 20000 in
theorem gX8_refusal_X8_holds : GoodIn wsX8_refusal (wsV RX8 28 RX8 yX8_holds wsX8_holds) := goodIn_app (goodIn_of _ (by decide +kernel)) ggX8_refusal_X8_holds
theorem dX8_refusal_0 : decode cX8_refusal 0 = .ok (.iload_n 1, 1) := by decide +kernel
theorem dX8_refusal_1 : decode cX8_refusal 1 = .ok (.invokestatic 21, 3) := by decide +kernel
theorem dX8_refusal_4 : decode cX8_refusal 4 = .ok (.ifCond .eq 10, 3) := by decide +kernel
theorem dX8_refusal_7 : decode cX8_refusal 7 = .ok (.iload_n 2, 1) := by decide +kernel
theorem dX8_refusal_8 : decode cX8_refusal 8 = .ok (.invokestatic 25, 3) := by decide +kernel
theorem dX8_refusal_11 : decode cX8_refusal 11 = .ok (.ifCond .ne 5, 3) := by decide +kernel
theorem dX8_refusal_14 : decode cX8_refusal 14 = .ok (.iconst (-1), 1) := by decide +kernel
theorem dX8_refusal_15 : decode cX8_refusal 15 = .ok (.ireturn, 1) := by decide +kernel
theorem dX8_refusal_16 : decode cX8_refusal 16 = .ok (.aload_n 0, 1) := by decide +kernel
theorem dX8_refusal_17 : decode cX8_refusal 17 = .ok (.iload_n 1, 1) := by decide +kernel
theorem dX8_refusal_18 : decode cX8_refusal 18 = .ok (.invokevirtual 28, 3) := by decide +kernel
theorem dX8_refusal_21 : decode cX8_refusal 21 = .ok (.ifCond .ne 6, 3) := by decide +kernel
theorem dX8_refusal_24 : decode cX8_refusal 24 = .ok (.bipush (-11), 2) := by decide +kernel
theorem dX8_refusal_26 : decode cX8_refusal 26 = .ok (.ireturn, 1) := by decide +kernel
theorem dX8_refusal_27 : decode cX8_refusal 27 = .ok (.aload_n 0, 1) := by decide +kernel
theorem dX8_refusal_28 : decode cX8_refusal 28 = .ok (.getfield 9, 3) := by decide +kernel
theorem dX8_refusal_31 : decode cX8_refusal 31 = .ok (.iload_n 1, 1) := by decide +kernel
theorem dX8_refusal_32 : decode cX8_refusal 32 = .ok (.iaload, 1) := by decide +kernel
theorem dX8_refusal_33 : decode cX8_refusal 33 = .ok (.iload_n 2, 1) := by decide +kernel
theorem dX8_refusal_34 : decode cX8_refusal 34 = .ok (.if_icmp .eq 6, 3) := by decide +kernel
theorem dX8_refusal_37 : decode cX8_refusal 37 = .ok (.bipush (-12), 2) := by decide +kernel
theorem dX8_refusal_39 : decode cX8_refusal 39 = .ok (.ireturn, 1) := by decide +kernel
theorem dX8_refusal_40 : decode cX8_refusal 40 = .ok (.iload_n 3, 1) := by decide +kernel
theorem dX8_refusal_41 : decode cX8_refusal 41 = .ok (.ifCond .lt 16, 3) := by decide +kernel
theorem dX8_refusal_44 : decode cX8_refusal 44 = .ok (.iload_n 3, 1) := by decide +kernel
theorem dX8_refusal_45 : decode cX8_refusal 45 = .ok (.aload_n 0, 1) := by decide +kernel
theorem dX8_refusal_46 : decode cX8_refusal 46 = .ok (.getfield 15, 3) := by decide +kernel
theorem dX8_refusal_49 : decode cX8_refusal 49 = .ok (.iload_n 1, 1) := by decide +kernel
theorem dX8_refusal_50 : decode cX8_refusal 50 = .ok (.iaload, 1) := by decide +kernel
theorem dX8_refusal_51 : decode cX8_refusal 51 = .ok (.iload 4, 2) := by decide +kernel
theorem dX8_refusal_53 : decode cX8_refusal 53 = .ok (.isub, 1) := by decide +kernel
theorem dX8_refusal_54 : decode cX8_refusal 54 = .ok (.if_icmp .le 8, 3) := by decide +kernel
theorem dX8_refusal_57 : decode cX8_refusal 57 = .ok (.bipush (-13), 2) := by decide +kernel
theorem dX8_refusal_59 : decode cX8_refusal 59 = .ok (.goto 4, 3) := by decide +kernel
theorem dX8_refusal_62 : decode cX8_refusal 62 = .ok (.iconst 0, 1) := by decide +kernel
theorem dX8_refusal_63 : decode cX8_refusal 63 = .ok (.ireturn, 1) := by decide +kernel
theorem dX8_at_0 : decode cX8_at 0 = .ok (.aload_n 0, 1) := by decide +kernel
theorem dX8_at_1 : decode cX8_at 1 = .ok (.getfield 18, 3) := by decide +kernel
theorem dX8_at_4 : decode cX8_at 4 = .ok (.iload_n 1, 1) := by decide +kernel
theorem dX8_at_5 : decode cX8_at 5 = .ok (.bipush 40, 2) := by decide +kernel
theorem dX8_at_7 : decode cX8_at 7 = .ok (.imul, 1) := by decide +kernel
theorem dX8_at_8 : decode cX8_at 8 = .ok (.iload_n 2, 1) := by decide +kernel
theorem dX8_at_9 : decode cX8_at 9 = .ok (.iadd, 1) := by decide +kernel
theorem dX8_at_10 : decode cX8_at 10 = .ok (.iaload, 1) := by decide +kernel
theorem dX8_at_11 : decode cX8_at 11 = .ok (.ireturn, 1) := by decide +kernel
theorem dX8_put_0 : decode cX8_put 0 = .ok (.aload_n 0, 1) := by decide +kernel
theorem dX8_put_1 : decode cX8_put 1 = .ok (.getfield 9, 3) := by decide +kernel
theorem dX8_put_4 : decode cX8_put 4 = .ok (.iload_n 1, 1) := by decide +kernel
theorem dX8_put_5 : decode cX8_put 5 = .ok (.iaload, 1) := by decide +kernel
theorem dX8_put_6 : decode cX8_put 6 = .ok (.istore 4, 2) := by decide +kernel
theorem dX8_put_8 : decode cX8_put 8 = .ok (.aload_n 0, 1) := by decide +kernel
theorem dX8_put_9 : decode cX8_put 9 = .ok (.getfield 18, 3) := by decide +kernel
theorem dX8_put_12 : decode cX8_put 12 = .ok (.iload_n 1, 1) := by decide +kernel
theorem dX8_put_13 : decode cX8_put 13 = .ok (.bipush 40, 2) := by decide +kernel
theorem dX8_put_15 : decode cX8_put 15 = .ok (.imul, 1) := by decide +kernel
theorem dX8_put_16 : decode cX8_put 16 = .ok (.iload_n 2, 1) := by decide +kernel
theorem dX8_put_17 : decode cX8_put 17 = .ok (.iadd, 1) := by decide +kernel
theorem dX8_put_18 : decode cX8_put 18 = .ok (.iload 4, 2) := by decide +kernel
theorem dX8_put_20 : decode cX8_put 20 = .ok (.ifCond .ne 8, 3) := by decide +kernel
theorem dX8_put_23 : decode cX8_put 23 = .ok (.iload_n 3, 1) := by decide +kernel
theorem dX8_put_24 : decode cX8_put 24 = .ok (.i2b, 1) := by decide +kernel
theorem dX8_put_25 : decode cX8_put 25 = .ok (.goto 15, 3) := by decide +kernel
theorem dX8_put_28 : decode cX8_put 28 = .ok (.iload 4, 2) := by decide +kernel
theorem dX8_put_30 : decode cX8_put 30 = .ok (.iconst 1, 1) := by decide +kernel
theorem dX8_put_31 : decode cX8_put 31 = .ok (.if_icmp .ne 8, 3) := by decide +kernel
theorem dX8_put_34 : decode cX8_put 34 = .ok (.iload_n 3, 1) := by decide +kernel
theorem dX8_put_35 : decode cX8_put 35 = .ok (.i2s, 1) := by decide +kernel
theorem dX8_put_36 : decode cX8_put 36 = .ok (.goto 4, 3) := by decide +kernel
theorem dX8_put_39 : decode cX8_put 39 = .ok (.iload_n 3, 1) := by decide +kernel
theorem dX8_put_40 : decode cX8_put 40 = .ok (.iastore, 1) := by decide +kernel
theorem dX8_put_41 : decode cX8_put 41 = .ok (.return_, 1) := by decide +kernel
set_option maxRecDepth 20000 in
theorem ggX8_allWithin_X8_at : GoodIn wsX8_allWithin wsX8_at := goodIn_r _ [5, 6, 10, 11, 12] (by decide +kernel) (by decide +kernel)
set_option maxRecDepth 20000 in
theorem gX8_allWithin_X8_at : GoodIn wsX8_allWithin (wsV RX8 31 RX8 yX8_at wsX8_at) := goodIn_app (goodIn_of _ (by decide +kernel)) ggX8_allWithin_X8_at
set_option maxRecDepth 20000 in
theorem ggX8_allWithin_X11_within : GoodIn wsX8_allWithin wsX11_within := goodIn_r _ [9] (by decide +kernel) (by decide +kernel)
set_option maxRecDepth 20000 in
theorem gX8_allWithin_X11_within_n35 : GoodIn wsX8_allWithin (wsX11_within) := ggX8_allWithin_X11_within
theorem dX8_allWithin_0 : decode cX8_allWithin 0 = .ok (.iconst 0, 1) := by decide +kernel
theorem dX8_allWithin_1 : decode cX8_allWithin 1 = .ok (.istore 6, 2) := by decide +kernel
theorem dX8_allWithin_3 : decode cX8_allWithin 3 = .ok (.iload 6, 2) := by decide +kernel
theorem dX8_allWithin_5 : decode cX8_allWithin 5 = .ok (.iload_n 3, 1) := by decide +kernel
theorem dX8_allWithin_6 : decode cX8_allWithin 6 = .ok (.if_icmp .ge 30, 3) := by decide +kernel
theorem dX8_allWithin_9 : decode cX8_allWithin 9 = .ok (.aload_n 0, 1) := by decide +kernel
theorem dX8_allWithin_10 : decode cX8_allWithin 10 = .ok (.iload_n 1, 1) := by decide +kernel
theorem dX8_allWithin_11 : decode cX8_allWithin 11 = .ok (.iload_n 2, 1) := by decide +kernel
theorem dX8_allWithin_12 : decode cX8_allWithin 12 = .ok (.iload 6, 2) := by decide +kernel
theorem dX8_allWithin_14 : decode cX8_allWithin 14 = .ok (.iadd, 1) := by decide +kernel
theorem dX8_allWithin_15 : decode cX8_allWithin 15 = .ok (.invokevirtual 31, 3) := by decide +kernel
theorem dX8_allWithin_18 : decode cX8_allWithin 18 = .ok (.iload 4, 2) := by decide +kernel
theorem dX8_allWithin_20 : decode cX8_allWithin 20 = .ok (.iload 5, 2) := by decide +kernel
theorem dX8_allWithin_22 : decode cX8_allWithin 22 = .ok (.invokestatic 35, 3) := by decide +kernel
theorem dX8_allWithin_25 : decode cX8_allWithin 25 = .ok (.ifCond .ne 5, 3) := by decide +kernel
theorem dX8_allWithin_28 : decode cX8_allWithin 28 = .ok (.iconst 0, 1) := by decide +kernel
theorem dX8_allWithin_29 : decode cX8_allWithin 29 = .ok (.ireturn, 1) := by decide +kernel
theorem dX8_allWithin_30 : decode cX8_allWithin 30 = .ok (.iinc 6 1, 3) := by decide +kernel
theorem dX8_allWithin_33 : decode cX8_allWithin 33 = .ok (.goto (-30), 3) := by decide +kernel
theorem dX8_allWithin_36 : decode cX8_allWithin 36 = .ok (.iconst 1, 1) := by decide +kernel
theorem dX8_allWithin_37 : decode cX8_allWithin 37 = .ok (.ireturn, 1) := by decide +kernel
set_option maxRecDepth 20000 in
theorem ggX8_apart_X8_at : GoodIn wsX8_apart wsX8_at := goodIn_r _ [9, 10, 11, 12, 13] (by decide +kernel) (by decide +kernel)
set_option maxRecDepth 20000 in
theorem gX8_apart_X8_at : GoodIn wsX8_apart (wsV RX8 31 RX8 yX8_at wsX8_at) := goodIn_app (goodIn_of _ (by decide +kernel)) ggX8_apart_X8_at
theorem dX8_apart_0 : decode cX8_apart 0 = .ok (.lconst 0, 1) := by decide +kernel
theorem dX8_apart_1 : decode cX8_apart 1 = .ok (.lstore 4, 2) := by decide +kernel
theorem dX8_apart_3 : decode cX8_apart 3 = .ok (.iconst 0, 1) := by decide +kernel
theorem dX8_apart_4 : decode cX8_apart 4 = .ok (.istore 6, 2) := by decide +kernel
theorem dX8_apart_6 : decode cX8_apart 6 = .ok (.iload 6, 2) := by decide +kernel
theorem dX8_apart_8 : decode cX8_apart 8 = .ok (.bipush 32, 2) := by decide +kernel
theorem dX8_apart_10 : decode cX8_apart 10 = .ok (.if_icmp .ge 39, 3) := by decide +kernel
theorem dX8_apart_13 : decode cX8_apart 13 = .ok (.lload 4, 2) := by decide +kernel
theorem dX8_apart_15 : decode cX8_apart 15 = .ok (.aload_n 0, 1) := by decide +kernel
theorem dX8_apart_16 : decode cX8_apart 16 = .ok (.iload_n 1, 1) := by decide +kernel
theorem dX8_apart_17 : decode cX8_apart 17 = .ok (.iload 6, 2) := by decide +kernel
theorem dX8_apart_19 : decode cX8_apart 19 = .ok (.invokevirtual 31, 3) := by decide +kernel
theorem dX8_apart_22 : decode cX8_apart 22 = .ok (.i2l, 1) := by decide +kernel
theorem dX8_apart_23 : decode cX8_apart 23 = .ok (.aload_n 0, 1) := by decide +kernel
theorem dX8_apart_24 : decode cX8_apart 24 = .ok (.iload_n 2, 1) := by decide +kernel
theorem dX8_apart_25 : decode cX8_apart 25 = .ok (.iload 6, 2) := by decide +kernel
theorem dX8_apart_27 : decode cX8_apart 27 = .ok (.iload_n 3, 1) := by decide +kernel
theorem dX8_apart_28 : decode cX8_apart 28 = .ok (.iadd, 1) := by decide +kernel
theorem dX8_apart_29 : decode cX8_apart 29 = .ok (.bipush 32, 2) := by decide +kernel
theorem dX8_apart_31 : decode cX8_apart 31 = .ok (.irem, 1) := by decide +kernel
theorem dX8_apart_32 : decode cX8_apart 32 = .ok (.invokevirtual 31, 3) := by decide +kernel
theorem dX8_apart_35 : decode cX8_apart 35 = .ok (.i2l, 1) := by decide +kernel
theorem dX8_apart_36 : decode cX8_apart 36 = .ok (.lsub, 1) := by decide +kernel
theorem dX8_apart_37 : decode cX8_apart 37 = .ok (.invokestatic 39, 3) := by decide +kernel
theorem dX8_apart_40 : decode cX8_apart 40 = .ok (.ladd, 1) := by decide +kernel
theorem dX8_apart_41 : decode cX8_apart 41 = .ok (.lstore 4, 2) := by decide +kernel
theorem dX8_apart_43 : decode cX8_apart 43 = .ok (.iinc 6 1, 3) := by decide +kernel
theorem dX8_apart_46 : decode cX8_apart 46 = .ok (.goto (-40), 3) := by decide +kernel
theorem dX8_apart_49 : decode cX8_apart 49 = .ok (.lload 4, 2) := by decide +kernel
theorem dX8_apart_51 : decode cX8_apart 51 = .ok (.lreturn, 1) := by decide +kernel
set_option maxRecDepth 20000 in
theorem ggX9_init_J7_fill_53178 : GoodIn wsX9_init wsJ7_fill_53178 := goodIn_r _ [16] (by decide +kernel) (by decide +kernel)
set_option maxRecDepth 20000 in
theorem gX9_init_J7_fill_53178 : GoodIn wsX9_init (va_wsS RX9 35 yJ7_fill_53178 wsJ7_fill_53178) := goodIn_app (goodIn_of _ (by decide +kernel)) ggX9_init_J7_fill_53178
theorem dX9_init_0 : decode cX9_init 0 = .ok (.aload_n 0, 1) := by decide +kernel
theorem dX9_init_1 : decode cX9_init 1 = .ok (.invokespecial 3, 3) := by decide +kernel
theorem dX9_init_4 : decode cX9_init 4 = .ok (.aload_n 0, 1) := by decide +kernel
theorem dX9_init_5 : decode cX9_init 5 = .ok (.sipush 128, 3) := by decide +kernel
theorem dX9_init_8 : decode cX9_init 8 = .ok (.newarray .int, 2) := by decide +kernel
theorem dX9_init_10 : decode cX9_init 10 = .ok (.putfield 9, 3) := by decide +kernel
theorem dX9_init_13 : decode cX9_init 13 = .ok (.aload_n 0, 1) := by decide +kernel
theorem dX9_init_14 : decode cX9_init 14 = .ok (.bipush 8, 2) := by decide +kernel
theorem dX9_init_16 : decode cX9_init 16 = .ok (.newarray .int, 2) := by decide +kernel
theorem dX9_init_18 : decode cX9_init 18 = .ok (.putfield 15, 3) := by decide +kernel
theorem dX9_init_21 : decode cX9_init 21 = .ok (.aload_n 0, 1) := by decide +kernel
theorem dX9_init_22 : decode cX9_init 22 = .ok (.bipush 8, 2) := by decide +kernel
theorem dX9_init_24 : decode cX9_init 24 = .ok (.newarray .int, 2) := by decide +kernel
theorem dX9_init_26 : decode cX9_init 26 = .ok (.putfield 18, 3) := by decide +kernel
theorem dX9_init_29 : decode cX9_init 29 = .ok (.aload_n 0, 1) := by decide +kernel
theorem dX9_init_30 : decode cX9_init 30 = .ok (.bipush 8, 2) := by decide +kernel
theorem dX9_init_32 : decode cX9_init 32 = .ok (.newarray .int, 2) := by decide +kernel
theorem dX9_init_34 : decode cX9_init 34 = .ok (.putfield 21, 3) := by decide +kernel
theorem dX9_init_37 : decode cX9_init 37 = .ok (.aload_n 0, 1) := by decide +kernel
theorem dX9_init_38 : decode cX9_init 38 = .ok (.bipush 8, 2) := by decide +kernel
theorem dX9_init_40 : decode cX9_init 40 = .ok (.newarray .boolean, 2) := by decide +kernel
theorem dX9_init_42 : decode cX9_init 42 = .ok (.putfield 24, 3) := by decide +kernel
theorem dX9_init_45 : decode cX9_init 45 = .ok (.aload_n 0, 1) := by decide +kernel
theorem dX9_init_46 : decode cX9_init 46 = .ok (.iconst 4, 1) := by decide +kernel
theorem dX9_init_47 : decode cX9_init 47 = .ok (.putfield 28, 3) := by decide +kernel
theorem dX9_init_50 : decode cX9_init 50 = .ok (.aload_n 0, 1) := by decide +kernel
theorem dX9_init_51 : decode cX9_init 51 = .ok (.iconst 0, 1) := by decide +kernel
theorem dX9_init_52 : decode cX9_init 52 = .ok (.putfield 32, 3) := by decide +kernel
theorem dX9_init_55 : decode cX9_init 55 = .ok (.aload_n 0, 1) := by decide +kernel
theorem dX9_init_56 : decode cX9_init 56 = .ok (.getfield 15, 3) := by decide +kernel
theorem dX9_init_59 : decode cX9_init 59 = .ok (.sipush 1500, 3) := by decide +kernel
theorem dX9_init_62 : decode cX9_init 62 = .ok (.invokestatic 35, 3) := by decide +kernel
theorem dX9_init_65 : decode cX9_init 65 = .ok (.return_, 1) := by decide +kernel
set_option maxRecDepth 20000 in
theorem ggX9_renew_J7_fill_53178 : GoodIn wsX9_renew wsJ7_fill_53178 := goodIn_r _ [7] (by decide +kernel) (by decide +kernel)
set_option maxRecDepth 20000 in
theorem gX9_renew_J7_fill_53178 : GoodIn wsX9_renew (va_wsS RX9 35 yJ7_fill_53178 wsJ7_fill_53178) := goodIn_app (goodIn_of _ (by decide +kernel)) ggX9_renew_J7_fill_53178
theorem dX9_renew_0 : decode cX9_renew 0 = .ok (.aload_n 0, 1) := by decide +kernel
theorem dX9_renew_1 : decode cX9_renew 1 = .ok (.iload_n 1, 1) := by decide +kernel
theorem dX9_renew_2 : decode cX9_renew 2 = .ok (.putfield 28, 3) := by decide +kernel
theorem dX9_renew_5 : decode cX9_renew 5 = .ok (.aload_n 0, 1) := by decide +kernel
theorem dX9_renew_6 : decode cX9_renew 6 = .ok (.getfield 9, 3) := by decide +kernel
theorem dX9_renew_9 : decode cX9_renew 9 = .ok (.iconst 0, 1) := by decide +kernel
theorem dX9_renew_10 : decode cX9_renew 10 = .ok (.invokestatic 35, 3) := by decide +kernel
theorem dX9_renew_13 : decode cX9_renew 13 = .ok (.aload_n 0, 1) := by decide +kernel
theorem dX9_renew_14 : decode cX9_renew 14 = .ok (.getfield 15, 3) := by decide +kernel
theorem dX9_renew_17 : decode cX9_renew 17 = .ok (.sipush 1500, 3) := by decide +kernel
theorem dX9_renew_20 : decode cX9_renew 20 = .ok (.invokestatic 35, 3) := by decide +kernel
theorem dX9_renew_23 : decode cX9_renew 23 = .ok (.return_, 1) := by decide +kernel
theorem dX9_count_0 : decode cX9_count 0 = .ok (.aload_n 0, 1) := by decide +kernel
theorem dX9_count_1 : decode cX9_count 1 = .ok (.getfield 28, 3) := by decide +kernel
theorem dX9_count_4 : decode cX9_count 4 = .ok (.ireturn, 1) := by decide +kernel
theorem dX9_swapLight_0 : decode cX9_swapLight 0 = .ok (.aload_n 0, 1) := by decide +kernel
theorem dX9_swapLight_1 : decode cX9_swapLight 1 = .ok (.getfield 9, 3) := by decide +kernel
theorem dX9_swapLight_4 : decode cX9_swapLight 4 = .ok (.iload_n 1, 1) := by decide +kernel
theorem dX9_swapLight_5 : decode cX9_swapLight 5 = .ok (.bipush 16, 2) := by decide +kernel
theorem dX9_swapLight_7 : decode cX9_swapLight 7 = .ok (.imul, 1) := by decide +kernel
theorem dX9_swapLight_8 : decode cX9_swapLight 8 = .ok (.iload_n 2, 1) := by decide +kernel
theorem dX9_swapLight_9 : decode cX9_swapLight 9 = .ok (.iadd, 1) := by decide +kernel
theorem dX9_swapLight_10 : decode cX9_swapLight 10 = .ok (.iaload, 1) := by decide +kernel
theorem dX9_swapLight_11 : decode cX9_swapLight 11 = .ok (.istore 4, 2) := by decide +kernel
theorem dX9_swapLight_13 : decode cX9_swapLight 13 = .ok (.aload_n 0, 1) := by decide +kernel
theorem dX9_swapLight_14 : decode cX9_swapLight 14 = .ok (.getfield 9, 3) := by decide +kernel
theorem dX9_swapLight_17 : decode cX9_swapLight 17 = .ok (.iload_n 1, 1) := by decide +kernel
theorem dX9_swapLight_18 : decode cX9_swapLight 18 = .ok (.bipush 16, 2) := by decide +kernel
theorem dX9_swapLight_20 : decode cX9_swapLight 20 = .ok (.imul, 1) := by decide +kernel
theorem dX9_swapLight_21 : decode cX9_swapLight 21 = .ok (.iload_n 2, 1) := by decide +kernel
theorem dX9_swapLight_22 : decode cX9_swapLight 22 = .ok (.iadd, 1) := by decide +kernel
theorem dX9_swapLight_23 : decode cX9_swapLight 23 = .ok (.iload_n 3, 1) := by decide +kernel
theorem dX9_swapLight_24 : decode cX9_swapLight 24 = .ok (.iastore, 1) := by decide +kernel
theorem dX9_swapLight_25 : decode cX9_swapLight 25 = .ok (.iload 4, 2) := by decide +kernel
theorem dX9_swapLight_27 : decode cX9_swapLight 27 = .ok (.ireturn, 1) := by decide +kernel
theorem dX9_swapRest_0 : decode cX9_swapRest 0 = .ok (.aload_n 0, 1) := by decide +kernel
theorem dX9_swapRest_1 : decode cX9_swapRest 1 = .ok (.getfield 15, 3) := by decide +kernel
theorem dX9_swapRest_4 : decode cX9_swapRest 4 = .ok (.iload_n 1, 1) := by decide +kernel
theorem dX9_swapRest_5 : decode cX9_swapRest 5 = .ok (.iaload, 1) := by decide +kernel
theorem dX9_swapRest_6 : decode cX9_swapRest 6 = .ok (.istore_n 3, 1) := by decide +kernel
theorem dX9_swapRest_7 : decode cX9_swapRest 7 = .ok (.aload_n 0, 1) := by decide +kernel
theorem dX9_swapRest_8 : decode cX9_swapRest 8 = .ok (.getfield 15, 3) := by decide +kernel
theorem dX9_swapRest_11 : decode cX9_swapRest 11 = .ok (.iload_n 1, 1) := by decide +kernel
theorem dX9_swapRest_12 : decode cX9_swapRest 12 = .ok (.iload_n 2, 1) := by decide +kernel
theorem dX9_swapRest_13 : decode cX9_swapRest 13 = .ok (.iastore, 1) := by decide +kernel
theorem dX9_swapRest_14 : decode cX9_swapRest 14 = .ok (.iload_n 3, 1) := by decide +kernel
theorem dX9_swapRest_15 : decode cX9_swapRest 15 = .ok (.ireturn, 1) := by decide +kernel
set_option maxRecDepth 20000 in
theorem ggX9_measure_X9_measureOne : GoodIn wsX9_measure wsX9_measureOne := goodIn_r _ [9, 10, 11, 12, 13, 14, 4, 15, 16, 17, 18, 19, 20, 21, 22, 23, 24, 25] (by decide +kernel) (by decide +kernel)
set_option maxRecDepth 20000 in
theorem gX9_measure_X9_measureOne : GoodIn wsX9_measure (wsV RX9 41 RX9 yX9_measureOne wsX9_measureOne) := goodIn_app (goodIn_of _ (by decide +kernel)) ggX9_measure_X9_measureOne
theorem dX9_measure_0 : decode cX9_measure 0 = .ok (.aload_n 0, 1) := by decide +kernel
theorem dX9_measure_1 : decode cX9_measure 1 = .ok (.iconst 0, 1) := by decide +kernel
theorem dX9_measure_2 : decode cX9_measure 2 = .ok (.putfield 32, 3) := by decide +kernel
theorem dX9_measure_5 : decode cX9_measure 5 = .ok (.iconst 0, 1) := by decide +kernel
theorem dX9_measure_6 : decode cX9_measure 6 = .ok (.istore_n 3, 1) := by decide +kernel
theorem dX9_measure_7 : decode cX9_measure 7 = .ok (.iload_n 3, 1) := by decide +kernel
theorem dX9_measure_8 : decode cX9_measure 8 = .ok (.aload_n 0, 1) := by decide +kernel
theorem dX9_measure_9 : decode cX9_measure 9 = .ok (.getfield 28, 3) := by decide +kernel
theorem dX9_measure_12 : decode cX9_measure 12 = .ok (.if_icmp .ge 59, 3) := by decide +kernel
theorem dX9_measure_15 : decode cX9_measure 15 = .ok (.aload_n 0, 1) := by decide +kernel
theorem dX9_measure_16 : decode cX9_measure 16 = .ok (.iload_n 3, 1) := by decide +kernel
theorem dX9_measure_17 : decode cX9_measure 17 = .ok (.iload_n 1, 1) := by decide +kernel
theorem dX9_measure_18 : decode cX9_measure 18 = .ok (.invokevirtual 41, 3) := by decide +kernel
theorem dX9_measure_21 : decode cX9_measure 21 = .ok (.aload_n 0, 1) := by decide +kernel
theorem dX9_measure_22 : decode cX9_measure 22 = .ok (.getfield 24, 3) := by decide +kernel
theorem dX9_measure_25 : decode cX9_measure 25 = .ok (.iload_n 3, 1) := by decide +kernel
theorem dX9_measure_26 : decode cX9_measure 26 = .ok (.aload_n 0, 1) := by decide +kernel
theorem dX9_measure_27 : decode cX9_measure 27 = .ok (.getfield 18, 3) := by decide +kernel
theorem dX9_measure_30 : decode cX9_measure 30 = .ok (.iload_n 3, 1) := by decide +kernel
theorem dX9_measure_31 : decode cX9_measure 31 = .ok (.iaload, 1) := by decide +kernel
theorem dX9_measure_32 : decode cX9_measure 32 = .ok (.iload_n 2, 1) := by decide +kernel
theorem dX9_measure_33 : decode cX9_measure 33 = .ok (.if_icmp .ge 7, 3) := by decide +kernel
theorem dX9_measure_36 : decode cX9_measure 36 = .ok (.iconst 1, 1) := by decide +kernel
theorem dX9_measure_37 : decode cX9_measure 37 = .ok (.goto 4, 3) := by decide +kernel
theorem dX9_measure_40 : decode cX9_measure 40 = .ok (.iconst 0, 1) := by decide +kernel
theorem dX9_measure_41 : decode cX9_measure 41 = .ok (.bastore, 1) := by decide +kernel
theorem dX9_measure_42 : decode cX9_measure 42 = .ok (.aload_n 0, 1) := by decide +kernel
theorem dX9_measure_43 : decode cX9_measure 43 = .ok (.dup, 1) := by decide +kernel
theorem dX9_measure_44 : decode cX9_measure 44 = .ok (.getfield 32, 3) := by decide +kernel
theorem dX9_measure_47 : decode cX9_measure 47 = .ok (.aload_n 0, 1) := by decide +kernel
theorem dX9_measure_48 : decode cX9_measure 48 = .ok (.getfield 24, 3) := by decide +kernel
theorem dX9_measure_51 : decode cX9_measure 51 = .ok (.iload_n 3, 1) := by decide +kernel
theorem dX9_measure_52 : decode cX9_measure 52 = .ok (.baload, 1) := by decide +kernel
theorem dX9_measure_53 : decode cX9_measure 53 = .ok (.ifCond .eq 7, 3) := by decide +kernel
theorem dX9_measure_56 : decode cX9_measure 56 = .ok (.iconst 1, 1) := by decide +kernel
theorem dX9_measure_57 : decode cX9_measure 57 = .ok (.goto 4, 3) := by decide +kernel
theorem dX9_measure_60 : decode cX9_measure 60 = .ok (.iconst 0, 1) := by decide +kernel
theorem dX9_measure_61 : decode cX9_measure 61 = .ok (.iadd, 1) := by decide +kernel
theorem dX9_measure_62 : decode cX9_measure 62 = .ok (.putfield 32, 3) := by decide +kernel
theorem dX9_measure_65 : decode cX9_measure 65 = .ok (.iinc 3 1, 3) := by decide +kernel
theorem dX9_measure_68 : decode cX9_measure 68 = .ok (.goto (-61), 3) := by decide +kernel
theorem dX9_measure_71 : decode cX9_measure 71 = .ok (.return_, 1) := by decide +kernel
set_option maxRecDepth 20000 in
theorem ggX9_measureOne_X11_cut : GoodIn wsX9_measureOne wsX11_cut := goodIn_r _ [10] (by decide +kernel) (by decide +kernel)
set_option maxRecDepth 20000 in
theorem gX9_measureOne_X11_cut_n51 : GoodIn wsX9_measureOne (wsX11_cut) := ggX9_measureOne_X11_cut
theorem dX9_measureOne_0 : decode cX9_measureOne 0 = .ok (.iconst 0, 1) := by decide +kernel
theorem dX9_measureOne_1 : decode cX9_measureOne 1 = .ok (.istore_n 3, 1) := by decide +kernel
theorem dX9_measureOne_2 : decode cX9_measureOne 2 = .ok (.iconst 0, 1) := by decide +kernel
theorem dX9_measureOne_3 : decode cX9_measureOne 3 = .ok (.istore 4, 2) := by decide +kernel
theorem dX9_measureOne_5 : decode cX9_measureOne 5 = .ok (.iconst 0, 1) := by decide +kernel
theorem dX9_measureOne_6 : decode cX9_measureOne 6 = .ok (.istore 5, 2) := by decide +kernel
theorem dX9_measureOne_8 : decode cX9_measureOne 8 = .ok (.iload 5, 2) := by decide +kernel
theorem dX9_measureOne_10 : decode cX9_measureOne 10 = .ok (.bipush 16, 2) := by decide +kernel
theorem dX9_measureOne_12 : decode cX9_measureOne 12 = .ok (.if_icmp .ge 59, 3) := by decide +kernel
theorem dX9_measureOne_15 : decode cX9_measureOne 15 = .ok (.iconst 0, 1) := by decide +kernel
theorem dX9_measureOne_16 : decode cX9_measureOne 16 = .ok (.aload_n 0, 1) := by decide +kernel
theorem dX9_measureOne_17 : decode cX9_measureOne 17 = .ok (.getfield 9, 3) := by decide +kernel
theorem dX9_measureOne_20 : decode cX9_measureOne 20 = .ok (.iload_n 1, 1) := by decide +kernel
theorem dX9_measureOne_21 : decode cX9_measureOne 21 = .ok (.bipush 16, 2) := by decide +kernel
theorem dX9_measureOne_23 : decode cX9_measureOne 23 = .ok (.imul, 1) := by decide +kernel
theorem dX9_measureOne_24 : decode cX9_measureOne 24 = .ok (.iload 5, 2) := by decide +kernel
theorem dX9_measureOne_26 : decode cX9_measureOne 26 = .ok (.iadd, 1) := by decide +kernel
theorem dX9_measureOne_27 : decode cX9_measureOne 27 = .ok (.iaload, 1) := by decide +kernel
theorem dX9_measureOne_28 : decode cX9_measureOne 28 = .ok (.iload_n 2, 1) := by decide +kernel
theorem dX9_measureOne_29 : decode cX9_measureOne 29 = .ok (.isub, 1) := by decide +kernel
theorem dX9_measureOne_30 : decode cX9_measureOne 30 = .ok (.invokestatic 45, 3) := by decide +kernel
theorem dX9_measureOne_33 : decode cX9_measureOne 33 = .ok (.istore 6, 2) := by decide +kernel
theorem dX9_measureOne_35 : decode cX9_measureOne 35 = .ok (.iload_n 3, 1) := by decide +kernel
theorem dX9_measureOne_36 : decode cX9_measureOne 36 = .ok (.iload 6, 2) := by decide +kernel
theorem dX9_measureOne_38 : decode cX9_measureOne 38 = .ok (.iadd, 1) := by decide +kernel
theorem dX9_measureOne_39 : decode cX9_measureOne 39 = .ok (.istore_n 3, 1) := by decide +kernel
theorem dX9_measureOne_40 : decode cX9_measureOne 40 = .ok (.iload 4, 2) := by decide +kernel
theorem dX9_measureOne_42 : decode cX9_measureOne 42 = .ok (.iload 6, 2) := by decide +kernel
theorem dX9_measureOne_44 : decode cX9_measureOne 44 = .ok (.iload_n 1, 1) := by decide +kernel
theorem dX9_measureOne_45 : decode cX9_measureOne 45 = .ok (.iconst 2, 1) := by decide +kernel
theorem dX9_measureOne_46 : decode cX9_measureOne 46 = .ok (.irem, 1) := by decide +kernel
theorem dX9_measureOne_47 : decode cX9_measureOne 47 = .ok (.ifCond .ne 10, 3) := by decide +kernel
theorem dX9_measureOne_50 : decode cX9_measureOne 50 = .ok (.iload 5, 2) := by decide +kernel
theorem dX9_measureOne_52 : decode cX9_measureOne 52 = .ok (.iconst 4, 1) := by decide +kernel
theorem dX9_measureOne_53 : decode cX9_measureOne 53 = .ok (.irem, 1) := by decide +kernel
theorem dX9_measureOne_54 : decode cX9_measureOne 54 = .ok (.goto 7, 3) := by decide +kernel
theorem dX9_measureOne_57 : decode cX9_measureOne 57 = .ok (.iload 5, 2) := by decide +kernel
theorem dX9_measureOne_59 : decode cX9_measureOne 59 = .ok (.iconst 4, 1) := by decide +kernel
theorem dX9_measureOne_60 : decode cX9_measureOne 60 = .ok (.idiv, 1) := by decide +kernel
theorem dX9_measureOne_61 : decode cX9_measureOne 61 = .ok (.imul, 1) := by decide +kernel
theorem dX9_measureOne_62 : decode cX9_measureOne 62 = .ok (.iadd, 1) := by decide +kernel
theorem dX9_measureOne_63 : decode cX9_measureOne 63 = .ok (.istore 4, 2) := by decide +kernel
theorem dX9_measureOne_65 : decode cX9_measureOne 65 = .ok (.iinc 5 1, 3) := by decide +kernel
theorem dX9_measureOne_68 : decode cX9_measureOne 68 = .ok (.goto (-60), 3) := by decide +kernel
theorem dX9_measureOne_71 : decode cX9_measureOne 71 = .ok (.aload_n 0, 1) := by decide +kernel
theorem dX9_measureOne_72 : decode cX9_measureOne 72 = .ok (.getfield 18, 3) := by decide +kernel
theorem dX9_measureOne_75 : decode cX9_measureOne 75 = .ok (.iload_n 1, 1) := by decide +kernel
theorem dX9_measureOne_76 : decode cX9_measureOne 76 = .ok (.iload_n 3, 1) := by decide +kernel
theorem dX9_measureOne_77 : decode cX9_measureOne 77 = .ok (.iastore, 1) := by decide +kernel
theorem dX9_measureOne_78 : decode cX9_measureOne 78 = .ok (.aload_n 0, 1) := by decide +kernel
theorem dX9_measureOne_79 : decode cX9_measureOne 79 = .ok (.getfield 21, 3) := by decide +kernel
theorem dX9_measureOne_82 : decode cX9_measureOne 82 = .ok (.iload_n 1, 1) := by decide +kernel
theorem dX9_measureOne_83 : decode cX9_measureOne 83 = .ok (.sipush 1000, 3) := by decide +kernel
theorem dX9_measureOne_86 : decode cX9_measureOne 86 = .ok (.iload 4, 2) := by decide +kernel
theorem dX9_measureOne_88 : decode cX9_measureOne 88 = .ok (.imul, 1) := by decide +kernel
theorem dX9_measureOne_89 : decode cX9_measureOne 89 = .ok (.iload_n 3, 1) := by decide +kernel
theorem dX9_measureOne_90 : decode cX9_measureOne 90 = .ok (.invokestatic 51, 3) := by decide +kernel
theorem dX9_measureOne_93 : decode cX9_measureOne 93 = .ok (.iastore, 1) := by decide +kernel
theorem dX9_measureOne_94 : decode cX9_measureOne 94 = .ok (.return_, 1) := by decide +kernel
theorem dX9_lostOnes_0 : decode cX9_lostOnes 0 = .ok (.aload_n 0, 1) := by decide +kernel
theorem dX9_lostOnes_1 : decode cX9_lostOnes 1 = .ok (.getfield 32, 3) := by decide +kernel
theorem dX9_lostOnes_4 : decode cX9_lostOnes 4 = .ok (.ireturn, 1) := by decide +kernel
theorem dX9_isLost_0 : decode cX9_isLost 0 = .ok (.aload_n 0, 1) := by decide +kernel
theorem dX9_isLost_1 : decode cX9_isLost 1 = .ok (.getfield 24, 3) := by decide +kernel
theorem dX9_isLost_4 : decode cX9_isLost 4 = .ok (.iload_n 1, 1) := by decide +kernel
theorem dX9_isLost_5 : decode cX9_isLost 5 = .ok (.baload, 1) := by decide +kernel
theorem dX9_isLost_6 : decode cX9_isLost 6 = .ok (.ireturn, 1) := by decide +kernel
theorem dX9_lightOf_0 : decode cX9_lightOf 0 = .ok (.aload_n 0, 1) := by decide +kernel
theorem dX9_lightOf_1 : decode cX9_lightOf 1 = .ok (.getfield 18, 3) := by decide +kernel
theorem dX9_lightOf_4 : decode cX9_lightOf 4 = .ok (.iload_n 1, 1) := by decide +kernel
theorem dX9_lightOf_5 : decode cX9_lightOf 5 = .ok (.iaload, 1) := by decide +kernel
theorem dX9_lightOf_6 : decode cX9_lightOf 6 = .ok (.ireturn, 1) := by decide +kernel
theorem dX9_middleOf_0 : decode cX9_middleOf 0 = .ok (.aload_n 0, 1) := by decide +kernel
theorem dX9_middleOf_1 : decode cX9_middleOf 1 = .ok (.getfield 21, 3) := by decide +kernel
theorem dX9_middleOf_4 : decode cX9_middleOf 4 = .ok (.iload_n 1, 1) := by decide +kernel
theorem dX9_middleOf_5 : decode cX9_middleOf 5 = .ok (.iaload, 1) := by decide +kernel
theorem dX9_middleOf_6 : decode cX9_middleOf 6 = .ok (.ireturn, 1) := by decide +kernel
theorem dX9_slopeOf_0 : decode cX9_slopeOf 0 = .ok (.aload_n 0, 1) := by decide +kernel
theorem dX9_slopeOf_1 : decode cX9_slopeOf 1 = .ok (.getfield 21, 3) := by decide +kernel
theorem dX9_slopeOf_4 : decode cX9_slopeOf 4 = .ok (.iload_n 1, 1) := by decide +kernel
theorem dX9_slopeOf_5 : decode cX9_slopeOf 5 = .ok (.iaload, 1) := by decide +kernel
theorem dX9_slopeOf_6 : decode cX9_slopeOf 6 = .ok (.aload_n 0, 1) := by decide +kernel
theorem dX9_slopeOf_7 : decode cX9_slopeOf 7 = .ok (.getfield 15, 3) := by decide +kernel
theorem dX9_slopeOf_10 : decode cX9_slopeOf 10 = .ok (.iload_n 1, 1) := by decide +kernel
theorem dX9_slopeOf_11 : decode cX9_slopeOf 11 = .ok (.iaload, 1) := by decide +kernel
theorem dX9_slopeOf_12 : decode cX9_slopeOf 12 = .ok (.isub, 1) := by decide +kernel
theorem dX9_slopeOf_13 : decode cX9_slopeOf 13 = .ok (.ireturn, 1) := by decide +kernel
theorem dX10_init_0 : decode cX10_init 0 = .ok (.aload_n 0, 1) := by decide +kernel
theorem dX10_init_1 : decode cX10_init 1 = .ok (.invokespecial 3, 3) := by decide +kernel
theorem dX10_init_4 : decode cX10_init 4 = .ok (.aload_n 0, 1) := by decide +kernel
theorem dX10_init_5 : decode cX10_init 5 = .ok (.bipush 40, 2) := by decide +kernel
theorem dX10_init_7 : decode cX10_init 7 = .ok (.newarray .int, 2) := by decide +kernel
theorem dX10_init_9 : decode cX10_init 9 = .ok (.putfield 9, 3) := by decide +kernel
theorem dX10_init_12 : decode cX10_init 12 = .ok (.aload_n 0, 1) := by decide +kernel
theorem dX10_init_13 : decode cX10_init 13 = .ok (.bipush 40, 2) := by decide +kernel
theorem dX10_init_15 : decode cX10_init 15 = .ok (.newarray .int, 2) := by decide +kernel
theorem dX10_init_17 : decode cX10_init 17 = .ok (.putfield 15, 3) := by decide +kernel
theorem dX10_init_20 : decode cX10_init 20 = .ok (.aload_n 0, 1) := by decide +kernel
theorem dX10_init_21 : decode cX10_init 21 = .ok (.bipush 40, 2) := by decide +kernel
theorem dX10_init_23 : decode cX10_init 23 = .ok (.newarray .int, 2) := by decide +kernel
theorem dX10_init_25 : decode cX10_init 25 = .ok (.putfield 18, 3) := by decide +kernel
theorem dX10_init_28 : decode cX10_init 28 = .ok (.aload_n 0, 1) := by decide +kernel
theorem dX10_init_29 : decode cX10_init 29 = .ok (.bipush 40, 2) := by decide +kernel
theorem dX10_init_31 : decode cX10_init 31 = .ok (.newarray .int, 2) := by decide +kernel
theorem dX10_init_33 : decode cX10_init 33 = .ok (.putfield 21, 3) := by decide +kernel
theorem dX10_init_36 : decode cX10_init 36 = .ok (.aload_n 0, 1) := by decide +kernel
theorem dX10_init_37 : decode cX10_init 37 = .ok (.iconst 5, 1) := by decide +kernel
theorem dX10_init_38 : decode cX10_init 38 = .ok (.newarray .int, 2) := by decide +kernel
theorem dX10_init_40 : decode cX10_init 40 = .ok (.putfield 24, 3) := by decide +kernel
theorem dX10_init_43 : decode cX10_init 43 = .ok (.aload_n 0, 1) := by decide +kernel
theorem dX10_init_44 : decode cX10_init 44 = .ok (.iconst 5, 1) := by decide +kernel
theorem dX10_init_45 : decode cX10_init 45 = .ok (.newarray .int, 2) := by decide +kernel
theorem dX10_init_47 : decode cX10_init 47 = .ok (.putfield 27, 3) := by decide +kernel
theorem dX10_init_50 : decode cX10_init 50 = .ok (.return_, 1) := by decide +kernel
set_option maxRecDepth 20000 in
theorem ggX10_renew_J7_fill_53178 : GoodIn wsX10_renew wsJ7_fill_53178 := goodIn_r _ [6] (by decide +kernel) (by decide +kernel)
set_option maxRecDepth 20000 in
theorem gX10_renew_J7_fill_53178 : GoodIn wsX10_renew (va_wsS RX10 30 yJ7_fill_53178 wsJ7_fill_53178) := goodIn_app (goodIn_of _ (by decide +kernel)) ggX10_renew_J7_fill_53178
theorem dX10_renew_0 : decode cX10_renew 0 = .ok (.aload_n 0, 1) := by decide +kernel
theorem dX10_renew_1 : decode cX10_renew 1 = .ok (.getfield 9, 3) := by decide +kernel
theorem dX10_renew_4 : decode cX10_renew 4 = .ok (.iconst 0, 1) := by decide +kernel
theorem dX10_renew_5 : decode cX10_renew 5 = .ok (.invokestatic 30, 3) := by decide +kernel
theorem dX10_renew_8 : decode cX10_renew 8 = .ok (.aload_n 0, 1) := by decide +kernel
theorem dX10_renew_9 : decode cX10_renew 9 = .ok (.getfield 27, 3) := by decide +kernel
theorem dX10_renew_12 : decode cX10_renew 12 = .ok (.iconst 0, 1) := by decide +kernel
theorem dX10_renew_13 : decode cX10_renew 13 = .ok (.invokestatic 30, 3) := by decide +kernel
theorem dX10_renew_16 : decode cX10_renew 16 = .ok (.return_, 1) := by decide +kernel
theorem dX10_pokesOf_0 : decode cX10_pokesOf 0 = .ok (.aload_n 0, 1) := by decide +kernel
theorem dX10_pokesOf_1 : decode cX10_pokesOf 1 = .ok (.getfield 27, 3) := by decide +kernel
theorem dX10_pokesOf_4 : decode cX10_pokesOf 4 = .ok (.iload_n 1, 1) := by decide +kernel
theorem dX10_pokesOf_5 : decode cX10_pokesOf 5 = .ok (.iaload, 1) := by decide +kernel
theorem dX10_pokesOf_6 : decode cX10_pokesOf 6 = .ok (.ireturn, 1) := by decide +kernel
theorem dX10_number_0 : decode cX10_number 0 = .ok (.aload_n 0, 1) := by decide +kernel
theorem dX10_number_1 : decode cX10_number 1 = .ok (.getfield 9, 3) := by decide +kernel
theorem dX10_number_4 : decode cX10_number 4 = .ok (.iload_n 1, 1) := by decide +kernel
theorem dX10_number_5 : decode cX10_number 5 = .ok (.iconst 5, 1) := by decide +kernel
theorem dX10_number_6 : decode cX10_number 6 = .ok (.imul, 1) := by decide +kernel
theorem dX10_number_7 : decode cX10_number 7 = .ok (.iload_n 2, 1) := by decide +kernel
theorem dX10_number_8 : decode cX10_number 8 = .ok (.iadd, 1) := by decide +kernel
theorem dX10_number_9 : decode cX10_number 9 = .ok (.iaload, 1) := by decide +kernel
theorem dX10_number_10 : decode cX10_number 10 = .ok (.ireturn, 1) := by decide +kernel
theorem dX10_doubt_0 : decode cX10_doubt 0 = .ok (.iload_n 1, 1) := by decide +kernel
theorem dX10_doubt_1 : decode cX10_doubt 1 = .ok (.iconst 5, 1) := by decide +kernel
theorem dX10_doubt_2 : decode cX10_doubt 2 = .ok (.imul, 1) := by decide +kernel
theorem dX10_doubt_3 : decode cX10_doubt 3 = .ok (.iload_n 2, 1) := by decide +kernel
theorem dX10_doubt_4 : decode cX10_doubt 4 = .ok (.iadd, 1) := by decide +kernel
theorem dX10_doubt_5 : decode cX10_doubt 5 = .ok (.istore_n 3, 1) := by decide +kernel
theorem dX10_doubt_6 : decode cX10_doubt 6 = .ok (.aload_n 0, 1) := by decide +kernel
theorem dX10_doubt_7 : decode cX10_doubt 7 = .ok (.getfield 18, 3) := by decide +kernel
theorem dX10_doubt_10 : decode cX10_doubt 10 = .ok (.iload_n 3, 1) := by decide +kernel
theorem dX10_doubt_11 : decode cX10_doubt 11 = .ok (.iaload, 1) := by decide +kernel
theorem dX10_doubt_12 : decode cX10_doubt 12 = .ok (.aload_n 0, 1) := by decide +kernel
theorem dX10_doubt_13 : decode cX10_doubt 13 = .ok (.getfield 21, 3) := by decide +kernel
theorem dX10_doubt_16 : decode cX10_doubt 16 = .ok (.iload_n 3, 1) := by decide +kernel
theorem dX10_doubt_17 : decode cX10_doubt 17 = .ok (.iaload, 1) := by decide +kernel
theorem dX10_doubt_18 : decode cX10_doubt 18 = .ok (.isub, 1) := by decide +kernel
theorem dX10_doubt_19 : decode cX10_doubt 19 = .ok (.ireturn, 1) := by decide +kernel
theorem dX10_swap_0 : decode cX10_swap 0 = .ok (.aload_n 0, 1) := by decide +kernel
theorem dX10_swap_1 : decode cX10_swap 1 = .ok (.getfield 9, 3) := by decide +kernel
theorem dX10_swap_4 : decode cX10_swap 4 = .ok (.iload_n 1, 1) := by decide +kernel
theorem dX10_swap_5 : decode cX10_swap 5 = .ok (.iconst 5, 1) := by decide +kernel
theorem dX10_swap_6 : decode cX10_swap 6 = .ok (.imul, 1) := by decide +kernel
theorem dX10_swap_7 : decode cX10_swap 7 = .ok (.iload_n 2, 1) := by decide +kernel
theorem dX10_swap_8 : decode cX10_swap 8 = .ok (.iadd, 1) := by decide +kernel
theorem dX10_swap_9 : decode cX10_swap 9 = .ok (.iaload, 1) := by decide +kernel
theorem dX10_swap_10 : decode cX10_swap 10 = .ok (.istore 4, 2) := by decide +kernel
theorem dX10_swap_12 : decode cX10_swap 12 = .ok (.aload_n 0, 1) := by decide +kernel
theorem dX10_swap_13 : decode cX10_swap 13 = .ok (.getfield 9, 3) := by decide +kernel
theorem dX10_swap_16 : decode cX10_swap 16 = .ok (.iload_n 1, 1) := by decide +kernel
theorem dX10_swap_17 : decode cX10_swap 17 = .ok (.iconst 5, 1) := by decide +kernel
theorem dX10_swap_18 : decode cX10_swap 18 = .ok (.imul, 1) := by decide +kernel
theorem dX10_swap_19 : decode cX10_swap 19 = .ok (.iload_n 2, 1) := by decide +kernel
theorem dX10_swap_20 : decode cX10_swap 20 = .ok (.iadd, 1) := by decide +kernel
theorem dX10_swap_21 : decode cX10_swap 21 = .ok (.iload_n 3, 1) := by decide +kernel
theorem dX10_swap_22 : decode cX10_swap 22 = .ok (.iastore, 1) := by decide +kernel
theorem dX10_swap_23 : decode cX10_swap 23 = .ok (.aload_n 0, 1) := by decide +kernel
theorem dX10_swap_24 : decode cX10_swap 24 = .ok (.getfield 27, 3) := by decide +kernel
theorem dX10_swap_27 : decode cX10_swap 27 = .ok (.iload_n 2, 1) := by decide +kernel
theorem dX10_swap_28 : decode cX10_swap 28 = .ok (.iconst 0, 1) := by decide +kernel
theorem dX10_swap_29 : decode cX10_swap 29 = .ok (.iastore, 1) := by decide +kernel
theorem dX10_swap_30 : decode cX10_swap 30 = .ok (.iload 4, 2) := by decide +kernel
theorem dX10_swap_32 : decode cX10_swap 32 = .ok (.ireturn, 1) := by decide +kernel
theorem dX10_begin_0 : decode cX10_begin 0 = .ok (.aload_n 0, 1) := by decide +kernel
theorem dX10_begin_1 : decode cX10_begin 1 = .ok (.getfield 24, 3) := by decide +kernel
theorem dX10_begin_4 : decode cX10_begin 4 = .ok (.iload_n 1, 1) := by decide +kernel
theorem dX10_begin_5 : decode cX10_begin 5 = .ok (.aload_n 0, 1) := by decide +kernel
theorem dX10_begin_6 : decode cX10_begin 6 = .ok (.getfield 27, 3) := by decide +kernel
theorem dX10_begin_9 : decode cX10_begin 9 = .ok (.iload_n 1, 1) := by decide +kernel
theorem dX10_begin_10 : decode cX10_begin 10 = .ok (.iaload, 1) := by decide +kernel
theorem dX10_begin_11 : decode cX10_begin 11 = .ok (.ifCond .ne 7, 3) := by decide +kernel
theorem dX10_begin_14 : decode cX10_begin 14 = .ok (.iconst 0, 1) := by decide +kernel
theorem dX10_begin_15 : decode cX10_begin 15 = .ok (.goto 9, 3) := by decide +kernel
theorem dX10_begin_18 : decode cX10_begin 18 = .ok (.aload_n 0, 1) := by decide +kernel
theorem dX10_begin_19 : decode cX10_begin 19 = .ok (.getfield 24, 3) := by decide +kernel
theorem dX10_begin_22 : decode cX10_begin 22 = .ok (.iload_n 1, 1) := by decide +kernel
theorem dX10_begin_23 : decode cX10_begin 23 = .ok (.iaload, 1) := by decide +kernel
theorem dX10_begin_24 : decode cX10_begin 24 = .ok (.iload_n 2, 1) := by decide +kernel
theorem dX10_begin_25 : decode cX10_begin 25 = .ok (.iadd, 1) := by decide +kernel
theorem dX10_begin_26 : decode cX10_begin 26 = .ok (.iastore, 1) := by decide +kernel
theorem dX10_begin_27 : decode cX10_begin 27 = .ok (.aload_n 0, 1) := by decide +kernel
theorem dX10_begin_28 : decode cX10_begin 28 = .ok (.getfield 27, 3) := by decide +kernel
theorem dX10_begin_31 : decode cX10_begin 31 = .ok (.iload_n 1, 1) := by decide +kernel
theorem dX10_begin_32 : decode cX10_begin 32 = .ok (.dup2, 1) := by decide +kernel
theorem dX10_begin_33 : decode cX10_begin 33 = .ok (.iaload, 1) := by decide +kernel
theorem dX10_begin_34 : decode cX10_begin 34 = .ok (.iconst 1, 1) := by decide +kernel
theorem dX10_begin_35 : decode cX10_begin 35 = .ok (.iadd, 1) := by decide +kernel
theorem dX10_begin_36 : decode cX10_begin 36 = .ok (.iastore, 1) := by decide +kernel
theorem dX10_begin_37 : decode cX10_begin 37 = .ok (.return_, 1) := by decide +kernel
set_option maxRecDepth 20000 in
theorem ggX10_add_X11_cut : GoodIn wsX10_add wsX11_cut := goodIn_r _ [16] (by decide +kernel) (by decide +kernel)
set_option maxRecDepth 20000 in
theorem gX10_add_X11_cut_n36 : GoodIn wsX10_add (wsX11_cut) := ggX10_add_X11_cut
set_option maxRecDepth 20000 in
theorem ggX10_add_X11_held : GoodIn wsX10_add wsX11_held := goodIn_r _ [18, 19, 10, 6, 11, 20, 5, 7] (by decide +kernel) (by decide +kernel)
set_option maxRecDepth 20000 in
theorem gX10_add_X11_held_n48 : GoodIn wsX10_add (wsX11_held) := ggX10_add_X11_held
theorem dX10_add_0 : decode cX10_add 0 = .ok (.iload_n 1, 1) := by decide +kernel
theorem dX10_add_1 : decode cX10_add 1 = .ok (.iconst 5, 1) := by decide +kernel
theorem dX10_add_2 : decode cX10_add 2 = .ok (.imul, 1) := by decide +kernel
theorem dX10_add_3 : decode cX10_add 3 = .ok (.iload_n 2, 1) := by decide +kernel
theorem dX10_add_4 : decode cX10_add 4 = .ok (.iadd, 1) := by decide +kernel
theorem dX10_add_5 : decode cX10_add 5 = .ok (.istore 5, 2) := by decide +kernel
theorem dX10_add_7 : decode cX10_add 7 = .ok (.iload 4, 2) := by decide +kernel
theorem dX10_add_9 : decode cX10_add 9 = .ok (.iload_n 3, 1) := by decide +kernel
theorem dX10_add_10 : decode cX10_add 10 = .ok (.invokestatic 36, 3) := by decide +kernel
theorem dX10_add_13 : decode cX10_add 13 = .ok (.istore 6, 2) := by decide +kernel
theorem dX10_add_15 : decode cX10_add 15 = .ok (.aload_n 0, 1) := by decide +kernel
theorem dX10_add_16 : decode cX10_add 16 = .ok (.getfield 27, 3) := by decide +kernel
theorem dX10_add_19 : decode cX10_add 19 = .ok (.iload_n 2, 1) := by decide +kernel
theorem dX10_add_20 : decode cX10_add 20 = .ok (.iaload, 1) := by decide +kernel
theorem dX10_add_21 : decode cX10_add 21 = .ok (.iconst 1, 1) := by decide +kernel
theorem dX10_add_22 : decode cX10_add 22 = .ok (.if_icmp .ne 7, 3) := by decide +kernel
theorem dX10_add_25 : decode cX10_add 25 = .ok (.iconst 1, 1) := by decide +kernel
theorem dX10_add_26 : decode cX10_add 26 = .ok (.goto 4, 3) := by decide +kernel
theorem dX10_add_29 : decode cX10_add 29 = .ok (.iconst 0, 1) := by decide +kernel
theorem dX10_add_30 : decode cX10_add 30 = .ok (.istore 7, 2) := by decide +kernel
theorem dX10_add_32 : decode cX10_add 32 = .ok (.aload_n 0, 1) := by decide +kernel
theorem dX10_add_33 : decode cX10_add 33 = .ok (.getfield 15, 3) := by decide +kernel
theorem dX10_add_36 : decode cX10_add 36 = .ok (.iload 5, 2) := by decide +kernel
theorem dX10_add_38 : decode cX10_add 38 = .ok (.iload 7, 2) := by decide +kernel
theorem dX10_add_40 : decode cX10_add 40 = .ok (.ifCond .eq 7, 3) := by decide +kernel
theorem dX10_add_43 : decode cX10_add 43 = .ok (.iconst 0, 1) := by decide +kernel
theorem dX10_add_44 : decode cX10_add 44 = .ok (.goto 10, 3) := by decide +kernel
theorem dX10_add_47 : decode cX10_add 47 = .ok (.aload_n 0, 1) := by decide +kernel
theorem dX10_add_48 : decode cX10_add 48 = .ok (.getfield 15, 3) := by decide +kernel
theorem dX10_add_51 : decode cX10_add 51 = .ok (.iload 5, 2) := by decide +kernel
theorem dX10_add_53 : decode cX10_add 53 = .ok (.iaload, 1) := by decide +kernel
theorem dX10_add_54 : decode cX10_add 54 = .ok (.iload 4, 2) := by decide +kernel
theorem dX10_add_56 : decode cX10_add 56 = .ok (.iadd, 1) := by decide +kernel
theorem dX10_add_57 : decode cX10_add 57 = .ok (.iastore, 1) := by decide +kernel
theorem dX10_add_58 : decode cX10_add 58 = .ok (.aload_n 0, 1) := by decide +kernel
theorem dX10_add_59 : decode cX10_add 59 = .ok (.getfield 18, 3) := by decide +kernel
theorem dX10_add_62 : decode cX10_add 62 = .ok (.iload 5, 2) := by decide +kernel
theorem dX10_add_64 : decode cX10_add 64 = .ok (.iload 7, 2) := by decide +kernel
theorem dX10_add_66 : decode cX10_add 66 = .ok (.ifCond .eq 8, 3) := by decide +kernel
theorem dX10_add_69 : decode cX10_add 69 = .ok (.iload 6, 2) := by decide +kernel
theorem dX10_add_71 : decode cX10_add 71 = .ok (.goto 15, 3) := by decide +kernel
theorem dX10_add_74 : decode cX10_add 74 = .ok (.aload_n 0, 1) := by decide +kernel
theorem dX10_add_75 : decode cX10_add 75 = .ok (.getfield 18, 3) := by decide +kernel
theorem dX10_add_78 : decode cX10_add 78 = .ok (.iload 5, 2) := by decide +kernel
theorem dX10_add_80 : decode cX10_add 80 = .ok (.iaload, 1) := by decide +kernel
theorem dX10_add_81 : decode cX10_add 81 = .ok (.iload 6, 2) := by decide +kernel
theorem dX10_add_83 : decode cX10_add 83 = .ok (.invokestatic 40, 3) := by decide +kernel
theorem dX10_add_86 : decode cX10_add 86 = .ok (.iastore, 1) := by decide +kernel
theorem dX10_add_87 : decode cX10_add 87 = .ok (.aload_n 0, 1) := by decide +kernel
theorem dX10_add_88 : decode cX10_add 88 = .ok (.getfield 21, 3) := by decide +kernel
theorem dX10_add_91 : decode cX10_add 91 = .ok (.iload 5, 2) := by decide +kernel
theorem dX10_add_93 : decode cX10_add 93 = .ok (.iload 7, 2) := by decide +kernel
theorem dX10_add_95 : decode cX10_add 95 = .ok (.ifCond .eq 8, 3) := by decide +kernel
theorem dX10_add_98 : decode cX10_add 98 = .ok (.iload 6, 2) := by decide +kernel
theorem dX10_add_100 : decode cX10_add 100 = .ok (.goto 15, 3) := by decide +kernel
theorem dX10_add_103 : decode cX10_add 103 = .ok (.aload_n 0, 1) := by decide +kernel
theorem dX10_add_104 : decode cX10_add 104 = .ok (.getfield 21, 3) := by decide +kernel
theorem dX10_add_107 : decode cX10_add 107 = .ok (.iload 5, 2) := by decide +kernel
theorem dX10_add_109 : decode cX10_add 109 = .ok (.iaload, 1) := by decide +kernel
theorem dX10_add_110 : decode cX10_add 110 = .ok (.iload 6, 2) := by decide +kernel
theorem dX10_add_112 : decode cX10_add 112 = .ok (.invokestatic 45, 3) := by decide +kernel
theorem dX10_add_115 : decode cX10_add 115 = .ok (.iastore, 1) := by decide +kernel
theorem dX10_add_116 : decode cX10_add 116 = .ok (.aload_n 0, 1) := by decide +kernel
theorem dX10_add_117 : decode cX10_add 117 = .ok (.getfield 9, 3) := by decide +kernel
theorem dX10_add_120 : decode cX10_add 120 = .ok (.iload 5, 2) := by decide +kernel
theorem dX10_add_122 : decode cX10_add 122 = .ok (.aload_n 0, 1) := by decide +kernel
theorem dX10_add_123 : decode cX10_add 123 = .ok (.getfield 15, 3) := by decide +kernel
theorem dX10_add_126 : decode cX10_add 126 = .ok (.iload 5, 2) := by decide +kernel
theorem dX10_add_128 : decode cX10_add 128 = .ok (.iaload, 1) := by decide +kernel
theorem dX10_add_129 : decode cX10_add 129 = .ok (.aload_n 0, 1) := by decide +kernel
theorem dX10_add_130 : decode cX10_add 130 = .ok (.getfield 24, 3) := by decide +kernel
theorem dX10_add_133 : decode cX10_add 133 = .ok (.iload_n 2, 1) := by decide +kernel
theorem dX10_add_134 : decode cX10_add 134 = .ok (.iaload, 1) := by decide +kernel
theorem dX10_add_135 : decode cX10_add 135 = .ok (.invokestatic 36, 3) := by decide +kernel
theorem dX10_add_138 : decode cX10_add 138 = .ok (.bipush (-9), 2) := by decide +kernel
theorem dX10_add_140 : decode cX10_add 140 = .ok (.bipush 9, 2) := by decide +kernel
theorem dX10_add_142 : decode cX10_add 142 = .ok (.invokestatic 48, 3) := by decide +kernel
theorem dX10_add_145 : decode cX10_add 145 = .ok (.iastore, 1) := by decide +kernel
theorem dX10_add_146 : decode cX10_add 146 = .ok (.return_, 1) := by decide +kernel
set_option maxRecDepth 20000 in
theorem ggX11_init_X7_init : GoodIn wsX11_init wsX7_init := goodIn_r _ [49, 50, 2, 3, 51, 52, 138] (by decide +kernel) (by decide +kernel)
set_option maxRecDepth 20000 in
theorem gX11_init_X7_init_n9 : GoodIn wsX11_init (wsX7_init) := ggX11_init_X7_init
set_option maxRecDepth 20000 in
theorem ggX11_init_X8_init : GoodIn wsX11_init wsX8_init := goodIn_r _ [54, 55, 2, 3, 51, 56, 57, 58, 150, 151, 152] (by decide +kernel) (by decide +kernel)
set_option maxRecDepth 20000 in
theorem gX11_init_X8_init_n18 : GoodIn wsX11_init (wsX8_init) := ggX11_init_X8_init
set_option maxRecDepth 20000 in
theorem ggX11_init_X9_init : GoodIn wsX11_init wsX9_init := goodIn_r _ [61, 62, 2, 3, 51, 63, 64, 65, 66, 67, 68, 69, 70, 71, 72, 73, 74, 153, 154, 155, 156, 157, 158, 159] (by decide +kernel) (by decide +kernel)
set_option maxRecDepth 20000 in
theorem gX11_init_X9_init : GoodIn wsX11_init (wsX9_init) := ggX11_init_X9_init
set_option maxRecDepth 20000 in
theorem ggX11_init_X10_init : GoodIn wsX11_init wsX10_init := goodIn_r _ [76, 77, 2, 3, 51, 78, 79, 80, 81, 82, 83, 160, 161, 162, 163, 164, 165] (by decide +kernel) (by decide +kernel)
set_option maxRecDepth 20000 in
theorem gX11_init_X10_init_n32 : GoodIn wsX11_init (wsX10_init) := ggX11_init_X10_init
set_option maxRecDepth 20000 in
theorem ggX11_init_X6_init : GoodIn wsX11_init wsX6_init := goodIn_r _ [85, 86, 2, 3, 67, 87, 51, 88, 89, 90, 166, 167, 168, 169] (by decide +kernel) (by decide +kernel)
set_option maxRecDepth 20000 in
theorem gX11_init_X6_init_n39 : GoodIn wsX11_init (wsX6_init) := ggX11_init_X6_init
set_option maxRecDepth 20000 in
theorem ggX11_init_X0_init : GoodIn wsX11_init wsX0_init := goodIn_r _ [92, 93, 2, 3, 51, 94, 95, 96, 97, 98, 99, 100, 101, 102, 103, 170, 171, 172, 173, 174, 175, 176, 177, 178] (by decide +kernel) (by decide +kernel)
set_option maxRecDepth 20000 in
theorem gX11_init_X0_init_n46 : GoodIn wsX11_init (wsX0_init) := ggX11_init_X0_init
set_option maxRecDepth 20000 in
theorem ggX11_init_X2_init : GoodIn wsX11_init wsX2_init := goodIn_r _ [105, 106, 2, 3, 51, 107, 97, 108, 109, 110, 111, 112, 113, 179, 180, 181, 182, 183, 184, 185] (by decide +kernel) (by decide +kernel)
set_option maxRecDepth 20000 in
theorem gX11_init_X2_init_n53 : GoodIn wsX11_init (wsX2_init) := ggX11_init_X2_init
set_option maxRecDepth 20000 in
theorem ggX11_init_X3_init : GoodIn wsX11_init wsX3_init := goodIn_r _ [115, 116, 2, 3, 117, 118, 119, 120, 186, 187, 188, 189] (by decide +kernel) (by decide +kernel)
set_option maxRecDepth 20000 in
theorem gX11_init_X3_init_n60 : GoodIn wsX11_init (wsX3_init) := ggX11_init_X3_init
set_option maxRecDepth 20000 in
theorem ggX11_init_X1_init : GoodIn wsX11_init wsX1_init := goodIn_r _ [122, 123, 2, 3, 51, 124, 125, 126, 190, 191, 192] (by decide +kernel) (by decide +kernel)
set_option maxRecDepth 20000 in
theorem gX11_init_X1_init_n67 : GoodIn wsX11_init (wsX1_init) := ggX11_init_X1_init
set_option maxRecDepth 20000 in
theorem ggX11_init_X5_init : GoodIn wsX11_init wsX5_init := goodIn_r _ [128, 129, 2, 3, 51, 130, 97, 131, 132, 193, 194, 195] (by decide +kernel) (by decide +kernel)
set_option maxRecDepth 20000 in
theorem gX11_init_X5_init_n74 : GoodIn wsX11_init (wsX5_init) := ggX11_init_X5_init
set_option maxRecDepth 20000 in
theorem ggX11_init_X4_init : GoodIn wsX11_init wsX4_init := goodIn_r _ [134, 135, 2, 3, 51, 136, 137, 196, 197] (by decide +kernel) (by decide +kernel)
set_option maxRecDepth 20000 in
theorem gX11_init_X4_init_n81 : GoodIn wsX11_init (wsX4_init) := ggX11_init_X4_init
theorem dX11_init_0 : decode cX11_init 0 = .ok (.aload_n 0, 1) := by decide +kernel
theorem dX11_init_1 : decode cX11_init 1 = .ok (.invokespecial 1, 3) := by decide +kernel
theorem dX11_init_4 : decode cX11_init 4 = .ok (.aload_n 0, 1) := by decide +kernel
theorem dX11_init_5 : decode cX11_init 5 = .ok (.new 7, 3) := by decide +kernel
theorem dX11_init_8 : decode cX11_init 8 = .ok (.dup, 1) := by decide +kernel
theorem dX11_init_9 : decode cX11_init 9 = .ok (.invokespecial 9, 3) := by decide +kernel
theorem dX11_init_12 : decode cX11_init 12 = .ok (.putfield 10, 3) := by decide +kernel
theorem dX11_init_15 : decode cX11_init 15 = .ok (.aload_n 0, 1) := by decide +kernel
theorem dX11_init_16 : decode cX11_init 16 = .ok (.new 16, 3) := by decide +kernel
theorem dX11_init_19 : decode cX11_init 19 = .ok (.dup, 1) := by decide +kernel
theorem dX11_init_20 : decode cX11_init 20 = .ok (.invokespecial 18, 3) := by decide +kernel
theorem dX11_init_23 : decode cX11_init 23 = .ok (.putfield 19, 3) := by decide +kernel
theorem dX11_init_26 : decode cX11_init 26 = .ok (.aload_n 0, 1) := by decide +kernel
theorem dX11_init_27 : decode cX11_init 27 = .ok (.new 23, 3) := by decide +kernel
theorem dX11_init_30 : decode cX11_init 30 = .ok (.dup, 1) := by decide +kernel
theorem dX11_init_31 : decode cX11_init 31 = .ok (.invokespecial 25, 3) := by decide +kernel
theorem dX11_init_34 : decode cX11_init 34 = .ok (.putfield 26, 3) := by decide +kernel
theorem dX11_init_37 : decode cX11_init 37 = .ok (.aload_n 0, 1) := by decide +kernel
theorem dX11_init_38 : decode cX11_init 38 = .ok (.new 30, 3) := by decide +kernel
theorem dX11_init_41 : decode cX11_init 41 = .ok (.dup, 1) := by decide +kernel
theorem dX11_init_42 : decode cX11_init 42 = .ok (.invokespecial 32, 3) := by decide +kernel
theorem dX11_init_45 : decode cX11_init 45 = .ok (.putfield 33, 3) := by decide +kernel
theorem dX11_init_48 : decode cX11_init 48 = .ok (.aload_n 0, 1) := by decide +kernel
theorem dX11_init_49 : decode cX11_init 49 = .ok (.new 37, 3) := by decide +kernel
theorem dX11_init_52 : decode cX11_init 52 = .ok (.dup, 1) := by decide +kernel
theorem dX11_init_53 : decode cX11_init 53 = .ok (.invokespecial 39, 3) := by decide +kernel
theorem dX11_init_56 : decode cX11_init 56 = .ok (.putfield 40, 3) := by decide +kernel
theorem dX11_init_59 : decode cX11_init 59 = .ok (.aload_n 0, 1) := by decide +kernel
theorem dX11_init_60 : decode cX11_init 60 = .ok (.new 44, 3) := by decide +kernel
theorem dX11_init_63 : decode cX11_init 63 = .ok (.dup, 1) := by decide +kernel
theorem dX11_init_64 : decode cX11_init 64 = .ok (.invokespecial 46, 3) := by decide +kernel
theorem dX11_init_67 : decode cX11_init 67 = .ok (.putfield 47, 3) := by decide +kernel
theorem dX11_init_70 : decode cX11_init 70 = .ok (.aload_n 0, 1) := by decide +kernel
theorem dX11_init_71 : decode cX11_init 71 = .ok (.new 51, 3) := by decide +kernel
theorem dX11_init_74 : decode cX11_init 74 = .ok (.dup, 1) := by decide +kernel
theorem dX11_init_75 : decode cX11_init 75 = .ok (.invokespecial 53, 3) := by decide +kernel
theorem dX11_init_78 : decode cX11_init 78 = .ok (.putfield 54, 3) := by decide +kernel
theorem dX11_init_81 : decode cX11_init 81 = .ok (.aload_n 0, 1) := by decide +kernel
theorem dX11_init_82 : decode cX11_init 82 = .ok (.new 58, 3) := by decide +kernel
theorem dX11_init_85 : decode cX11_init 85 = .ok (.dup, 1) := by decide +kernel
theorem dX11_init_86 : decode cX11_init 86 = .ok (.invokespecial 60, 3) := by decide +kernel
theorem dX11_init_89 : decode cX11_init 89 = .ok (.putfield 61, 3) := by decide +kernel
theorem dX11_init_92 : decode cX11_init 92 = .ok (.aload_n 0, 1) := by decide +kernel
theorem dX11_init_93 : decode cX11_init 93 = .ok (.new 65, 3) := by decide +kernel
theorem dX11_init_96 : decode cX11_init 96 = .ok (.dup, 1) := by decide +kernel
theorem dX11_init_97 : decode cX11_init 97 = .ok (.invokespecial 67, 3) := by decide +kernel
theorem dX11_init_100 : decode cX11_init 100 = .ok (.putfield 68, 3) := by decide +kernel
theorem dX11_init_103 : decode cX11_init 103 = .ok (.aload_n 0, 1) := by decide +kernel
theorem dX11_init_104 : decode cX11_init 104 = .ok (.new 72, 3) := by decide +kernel
theorem dX11_init_107 : decode cX11_init 107 = .ok (.dup, 1) := by decide +kernel
theorem dX11_init_108 : decode cX11_init 108 = .ok (.invokespecial 74, 3) := by decide +kernel
theorem dX11_init_111 : decode cX11_init 111 = .ok (.putfield 75, 3) := by decide +kernel
theorem dX11_init_114 : decode cX11_init 114 = .ok (.aload_n 0, 1) := by decide +kernel
theorem dX11_init_115 : decode cX11_init 115 = .ok (.new 79, 3) := by decide +kernel
theorem dX11_init_118 : decode cX11_init 118 = .ok (.dup, 1) := by decide +kernel
theorem dX11_init_119 : decode cX11_init 119 = .ok (.invokespecial 81, 3) := by decide +kernel
theorem dX11_init_122 : decode cX11_init 122 = .ok (.putfield 82, 3) := by decide +kernel
theorem dX11_init_125 : decode cX11_init 125 = .ok (.return_, 1) := by decide +kernel
set_option maxRecDepth 20000 in
theorem ggX11_mirror_X11_within : GoodIn wsX11_mirror wsX11_within := goodIn_r _ [9] (by decide +kernel) (by decide +kernel)
set_option maxRecDepth 20000 in
theorem gX11_mirror_X11_within : GoodIn wsX11_mirror (va_wsS RX11 86 yX11_within wsX11_within) := goodIn_app (goodIn_of _ (by decide +kernel)) ggX11_mirror_X11_within
set_option maxRecDepth 20000 in
theorem ggX11_mirror_X9_renew : GoodIn wsX11_mirror wsX9_renew := goodIn_r _ [14, 15, 16, 17, 18, 19, 20, 21, 75, 76, 77, 78, 79, 80, 81] (by decide +kernel) (by decide +kernel)
set_option maxRecDepth 20000 in
theorem gX11_mirror_X9_renew : GoodIn wsX11_mirror (wsV RX11 90 RX9 yX9_renew wsX9_renew) := goodIn_app (goodIn_of _ (by decide +kernel)) ggX11_mirror_X9_renew
set_option maxRecDepth 20000 in
theorem ggX11_mirror_X6_renew : GoodIn wsX11_mirror wsX6_renew := goodIn_r _ [26, 27, 28, 29, 30, 31, 32, 25, 33, 34, 35, 19, 20, 21, 82, 83, 84, 85] (by decide +kernel) (by decide +kernel)
set_option maxRecDepth 20000 in
theorem gX11_mirror_X6_renew : GoodIn wsX11_mirror (wsV RX11 94 RX6 yX6_renew wsX6_renew) := goodIn_app (goodIn_of _ (by decide +kernel)) ggX11_mirror_X6_renew
set_option maxRecDepth 20000 in
theorem ggX11_mirror_X10_renew : GoodIn wsX11_mirror wsX10_renew := goodIn_r _ [40, 41, 42, 43, 19, 20, 21, 86, 87, 88, 89, 90, 91] (by decide +kernel) (by decide +kernel)
set_option maxRecDepth 20000 in
theorem gX11_mirror_X10_renew : GoodIn wsX11_mirror (wsV RX11 95 RX10 yX10_renew wsX10_renew) := goodIn_app (goodIn_of _ (by decide +kernel)) ggX11_mirror_X10_renew
set_option maxRecDepth 20000 in
theorem ggX11_mirror_X3_renew : GoodIn wsX11_mirror wsX3_renew := goodIn_r _ [48, 49, 50, 51, 52, 47, 53, 54, 55, 56, 92, 93, 94, 95] (by decide +kernel) (by decide +kernel)
set_option maxRecDepth 20000 in
theorem gX11_mirror_X3_renew : GoodIn wsX11_mirror (wsV RX11 97 RX3 yX3_renew wsX3_renew) := goodIn_app (goodIn_of _ (by decide +kernel)) ggX11_mirror_X3_renew
set_option maxRecDepth 20000 in
theorem ggX11_mirror_X1_renew : GoodIn wsX11_mirror wsX1_renew := goodIn_r _ [61, 62, 63, 96, 97, 98] (by decide +kernel) (by decide +kernel)
set_option maxRecDepth 20000 in
theorem gX11_mirror_X1_renew : GoodIn wsX11_mirror (wsV RX11 98 RX1 yX1_renew wsX1_renew) := goodIn_app (goodIn_of _ (by decide +kernel)) ggX11_mirror_X1_renew
theorem dX11_mirror_0 : decode cX11_mirror 0 = .ok (.iload_n 1, 1) := by decide +kernel
theorem dX11_mirror_1 : decode cX11_mirror 1 = .ok (.iconst 1, 1) := by decide +kernel
theorem dX11_mirror_2 : decode cX11_mirror 2 = .ok (.bipush 8, 2) := by decide +kernel
theorem dX11_mirror_4 : decode cX11_mirror 4 = .ok (.invokestatic 86, 3) := by decide +kernel
theorem dX11_mirror_7 : decode cX11_mirror 7 = .ok (.ifCond .eq 12, 3) := by decide +kernel
theorem dX11_mirror_10 : decode cX11_mirror 10 = .ok (.iload_n 2, 1) := by decide +kernel
theorem dX11_mirror_11 : decode cX11_mirror 11 = .ok (.iconst 1, 1) := by decide +kernel
theorem dX11_mirror_12 : decode cX11_mirror 12 = .ok (.iconst 5, 1) := by decide +kernel
theorem dX11_mirror_13 : decode cX11_mirror 13 = .ok (.invokestatic 86, 3) := by decide +kernel
theorem dX11_mirror_16 : decode cX11_mirror 16 = .ok (.ifCond .ne 5, 3) := by decide +kernel
theorem dX11_mirror_19 : decode cX11_mirror 19 = .ok (.iconst (-1), 1) := by decide +kernel
theorem dX11_mirror_20 : decode cX11_mirror 20 = .ok (.ireturn, 1) := by decide +kernel
theorem dX11_mirror_21 : decode cX11_mirror 21 = .ok (.aload_n 0, 1) := by decide +kernel
theorem dX11_mirror_22 : decode cX11_mirror 22 = .ok (.getfield 26, 3) := by decide +kernel
theorem dX11_mirror_25 : decode cX11_mirror 25 = .ok (.iload_n 1, 1) := by decide +kernel
theorem dX11_mirror_26 : decode cX11_mirror 26 = .ok (.invokevirtual 90, 3) := by decide +kernel
theorem dX11_mirror_29 : decode cX11_mirror 29 = .ok (.aload_n 0, 1) := by decide +kernel
theorem dX11_mirror_30 : decode cX11_mirror 30 = .ok (.getfield 40, 3) := by decide +kernel
theorem dX11_mirror_33 : decode cX11_mirror 33 = .ok (.iload_n 2, 1) := by decide +kernel
theorem dX11_mirror_34 : decode cX11_mirror 34 = .ok (.invokevirtual 94, 3) := by decide +kernel
theorem dX11_mirror_37 : decode cX11_mirror 37 = .ok (.aload_n 0, 1) := by decide +kernel
theorem dX11_mirror_38 : decode cX11_mirror 38 = .ok (.getfield 33, 3) := by decide +kernel
theorem dX11_mirror_41 : decode cX11_mirror 41 = .ok (.invokevirtual 95, 3) := by decide +kernel
theorem dX11_mirror_44 : decode cX11_mirror 44 = .ok (.aload_n 0, 1) := by decide +kernel
theorem dX11_mirror_45 : decode cX11_mirror 45 = .ok (.getfield 61, 3) := by decide +kernel
theorem dX11_mirror_48 : decode cX11_mirror 48 = .ok (.invokevirtual 97, 3) := by decide +kernel
theorem dX11_mirror_51 : decode cX11_mirror 51 = .ok (.aload_n 0, 1) := by decide +kernel
theorem dX11_mirror_52 : decode cX11_mirror 52 = .ok (.getfield 68, 3) := by decide +kernel
theorem dX11_mirror_55 : decode cX11_mirror 55 = .ok (.invokevirtual 98, 3) := by decide +kernel
theorem dX11_mirror_58 : decode cX11_mirror 58 = .ok (.iconst 1, 1) := by decide +kernel
theorem dX11_mirror_59 : decode cX11_mirror 59 = .ok (.ireturn, 1) := by decide +kernel
set_option maxRecDepth 20000 in
theorem ggX11_light_X11_isSpot : GoodIn wsX11_light wsX11_isSpot := goodIn_r _ [6, 1, 7, 8, 9, 10, 11, 12, 13, 14, 5, 15, 21, 22, 23, 24, 25, 26, 27, 28, 29, 30, 31, 32, 33, 34, 35, 36, 37, 38] (by decide +kernel) (by decide +kernel)
set_option maxRecDepth 20000 in
theorem gX11_light_X11_isSpot : GoodIn wsX11_light (wsV RX11 99 RX11 yX11_isSpot wsX11_isSpot) := goodIn_app (goodIn_of _ (by decide +kernel)) ggX11_light_X11_isSpot
set_option maxRecDepth 20000 in
theorem ggX11_light_X11_within : GoodIn wsX11_light wsX11_within := goodIn_r _ [15] (by decide +kernel) (by decide +kernel)
set_option maxRecDepth 20000 in
theorem gX11_light_X11_within : GoodIn wsX11_light (va_wsS RX11 86 yX11_within wsX11_within) := goodIn_app (goodIn_of _ (by decide +kernel)) ggX11_light_X11_within
set_option maxRecDepth 20000 in
theorem ggX11_light_X9_swapLight : GoodIn wsX11_light wsX9_swapLight := goodIn_r _ [19, 20, 32, 33, 34, 35, 36, 37, 38] (by decide +kernel) (by decide +kernel)
set_option maxRecDepth 20000 in
theorem gX11_light_X9_swapLight : GoodIn wsX11_light (wsV RX11 103 RX9 yX9_swapLight wsX9_swapLight) := goodIn_app (goodIn_of _ (by decide +kernel)) ggX11_light_X9_swapLight
theorem dX11_light_0 : decode cX11_light 0 = .ok (.aload_n 0, 1) := by decide +kernel
theorem dX11_light_1 : decode cX11_light 1 = .ok (.iload_n 1, 1) := by decide +kernel
theorem dX11_light_2 : decode cX11_light 2 = .ok (.invokevirtual 99, 3) := by decide +kernel
theorem dX11_light_5 : decode cX11_light 5 = .ok (.ifCond .eq 24, 3) := by decide +kernel
theorem dX11_light_8 : decode cX11_light 8 = .ok (.iload_n 2, 1) := by decide +kernel
theorem dX11_light_9 : decode cX11_light 9 = .ok (.iconst 0, 1) := by decide +kernel
theorem dX11_light_10 : decode cX11_light 10 = .ok (.bipush 15, 2) := by decide +kernel
theorem dX11_light_12 : decode cX11_light 12 = .ok (.invokestatic 86, 3) := by decide +kernel
theorem dX11_light_15 : decode cX11_light 15 = .ok (.ifCond .eq 14, 3) := by decide +kernel
theorem dX11_light_18 : decode cX11_light 18 = .ok (.iload_n 3, 1) := by decide +kernel
theorem dX11_light_19 : decode cX11_light 19 = .ok (.iconst 0, 1) := by decide +kernel
theorem dX11_light_20 : decode cX11_light 20 = .ok (.sipush 255, 3) := by decide +kernel
theorem dX11_light_23 : decode cX11_light 23 = .ok (.invokestatic 86, 3) := by decide +kernel
theorem dX11_light_26 : decode cX11_light 26 = .ok (.ifCond .ne 5, 3) := by decide +kernel
theorem dX11_light_29 : decode cX11_light 29 = .ok (.iconst (-1), 1) := by decide +kernel
theorem dX11_light_30 : decode cX11_light 30 = .ok (.ireturn, 1) := by decide +kernel
theorem dX11_light_31 : decode cX11_light 31 = .ok (.aload_n 0, 1) := by decide +kernel
theorem dX11_light_32 : decode cX11_light 32 = .ok (.getfield 26, 3) := by decide +kernel
theorem dX11_light_35 : decode cX11_light 35 = .ok (.iload_n 1, 1) := by decide +kernel
theorem dX11_light_36 : decode cX11_light 36 = .ok (.iload_n 2, 1) := by decide +kernel
theorem dX11_light_37 : decode cX11_light 37 = .ok (.iload_n 3, 1) := by decide +kernel
theorem dX11_light_38 : decode cX11_light 38 = .ok (.invokevirtual 103, 3) := by decide +kernel
theorem dX11_light_41 : decode cX11_light 41 = .ok (.ireturn, 1) := by decide +kernel
set_option maxRecDepth 20000 in
theorem ggX11_board_X11_isSpot : GoodIn wsX11_board wsX11_isSpot := goodIn_r _ [7, 2, 8, 9, 10, 11, 12, 13, 14, 15, 6, 16, 47, 48, 49, 50, 51, 52, 53, 54, 55, 56, 57, 58, 59, 60, 61, 62, 63, 64] (by decide +kernel) (by decide +kernel)
set_option maxRecDepth 20000 in
theorem gX11_board_X11_isSpot : GoodIn wsX11_board (wsV RX11 99 RX11 yX11_isSpot wsX11_isSpot) := goodIn_app (goodIn_of _ (by decide +kernel)) ggX11_board_X11_isSpot
set_option maxRecDepth 20000 in
theorem ggX11_board_X8_refusal : GoodIn wsX11_board wsX8_refusal := goodIn_r _ [21, 22, 23, 24, 6, 25, 14, 15, 16, 26, 27, 28, 29, 30, 20, 31, 65, 66, 67] (by decide +kernel) (by decide +kernel)
set_option maxRecDepth 20000 in
theorem gX11_board_X8_refusal : GoodIn wsX11_board (wsV RX11 107 RX8 yX8_refusal wsX8_refusal) := goodIn_app (goodIn_of _ (by decide +kernel)) ggX11_board_X8_refusal
set_option maxRecDepth 20000 in
theorem ggX11_board_X8_allWithin : GoodIn wsX11_board wsX8_allWithin := goodIn_r _ [35, 36, 37, 38, 20, 39, 40, 15, 6, 16, 65, 66, 67] (by decide +kernel) (by decide +kernel)
set_option maxRecDepth 20000 in
theorem gX11_board_X8_allWithin : GoodIn wsX11_board (wsV RX11 111 RX8 yX8_allWithin wsX8_allWithin) := goodIn_app (goodIn_of _ (by decide +kernel)) ggX11_board_X8_allWithin
set_option maxRecDepth 20000 in
theorem ggX11_board_X8_at : GoodIn wsX11_board wsX8_at := goodIn_r _ [39, 40, 65, 66, 67] (by decide +kernel) (by decide +kernel)
set_option maxRecDepth 20000 in
theorem gX11_board_X8_at : GoodIn wsX11_board (wsV RX11 115 RX8 yX8_at wsX8_at) := goodIn_app (goodIn_of _ (by decide +kernel)) ggX11_board_X8_at
set_option maxRecDepth 20000 in
theorem ggX11_board_X9_swapLight : GoodIn wsX11_board wsX9_swapLight := goodIn_r _ [45, 46, 58, 59, 60, 61, 62, 63, 64] (by decide +kernel) (by decide +kernel)
set_option maxRecDepth 20000 in
theorem gX11_board_X9_swapLight : GoodIn wsX11_board (wsV RX11 103 RX9 yX9_swapLight wsX9_swapLight) := goodIn_app (goodIn_of _ (by decide +kernel)) ggX11_board_X9_swapLight
theorem dX11_board_0 : decode cX11_board 0 = .ok (.aload_n 0, 1) := by decide +kernel
theorem dX11_board_1 : decode cX11_board 1 = .ok (.iload_n 1, 1) := by decide +kernel
theorem dX11_board_2 : decode cX11_board 2 = .ok (.invokevirtual 99, 3) := by decide +kernel
theorem dX11_board_5 : decode cX11_board 5 = .ok (.ifCond .ne 5, 3) := by decide +kernel
theorem dX11_board_8 : decode cX11_board 8 = .ok (.iconst (-1), 1) := by decide +kernel
theorem dX11_board_9 : decode cX11_board 9 = .ok (.ireturn, 1) := by decide +kernel
theorem dX11_board_10 : decode cX11_board 10 = .ok (.aload_n 0, 1) := by decide +kernel
theorem dX11_board_11 : decode cX11_board 11 = .ok (.getfield 19, 3) := by decide +kernel
theorem dX11_board_14 : decode cX11_board 14 = .ok (.iload_n 2, 1) := by decide +kernel
theorem dX11_board_15 : decode cX11_board 15 = .ok (.iload_n 3, 1) := by decide +kernel
theorem dX11_board_16 : decode cX11_board 16 = .ok (.iload 4, 2) := by decide +kernel
theorem dX11_board_18 : decode cX11_board 18 = .ok (.bipush 16, 2) := by decide +kernel
theorem dX11_board_20 : decode cX11_board 20 = .ok (.invokevirtual 107, 3) := by decide +kernel
theorem dX11_board_23 : decode cX11_board 23 = .ok (.istore 5, 2) := by decide +kernel
theorem dX11_board_25 : decode cX11_board 25 = .ok (.iload 5, 2) := by decide +kernel
theorem dX11_board_27 : decode cX11_board 27 = .ok (.ifCond .eq 6, 3) := by decide +kernel
theorem dX11_board_30 : decode cX11_board 30 = .ok (.iload 5, 2) := by decide +kernel
theorem dX11_board_32 : decode cX11_board 32 = .ok (.ireturn, 1) := by decide +kernel
theorem dX11_board_33 : decode cX11_board 33 = .ok (.iload_n 3, 1) := by decide +kernel
theorem dX11_board_34 : decode cX11_board 34 = .ok (.ifCond .eq 25, 3) := by decide +kernel
theorem dX11_board_37 : decode cX11_board 37 = .ok (.aload_n 0, 1) := by decide +kernel
theorem dX11_board_38 : decode cX11_board 38 = .ok (.getfield 19, 3) := by decide +kernel
theorem dX11_board_41 : decode cX11_board 41 = .ok (.iload_n 2, 1) := by decide +kernel
theorem dX11_board_42 : decode cX11_board 42 = .ok (.iload 4, 2) := by decide +kernel
theorem dX11_board_44 : decode cX11_board 44 = .ok (.bipush 16, 2) := by decide +kernel
theorem dX11_board_46 : decode cX11_board 46 = .ok (.iconst 0, 1) := by decide +kernel
theorem dX11_board_47 : decode cX11_board 47 = .ok (.sipush 255, 3) := by decide +kernel
theorem dX11_board_50 : decode cX11_board 50 = .ok (.invokevirtual 111, 3) := by decide +kernel
theorem dX11_board_53 : decode cX11_board 53 = .ok (.ifCond .ne 6, 3) := by decide +kernel
theorem dX11_board_56 : decode cX11_board 56 = .ok (.bipush (-2), 2) := by decide +kernel
theorem dX11_board_58 : decode cX11_board 58 = .ok (.ireturn, 1) := by decide +kernel
theorem dX11_board_59 : decode cX11_board 59 = .ok (.iconst 0, 1) := by decide +kernel
theorem dX11_board_60 : decode cX11_board 60 = .ok (.istore 6, 2) := by decide +kernel
theorem dX11_board_62 : decode cX11_board 62 = .ok (.iload 6, 2) := by decide +kernel
theorem dX11_board_64 : decode cX11_board 64 = .ok (.bipush 16, 2) := by decide +kernel
theorem dX11_board_66 : decode cX11_board 66 = .ok (.if_icmp .ge 37, 3) := by decide +kernel
theorem dX11_board_69 : decode cX11_board 69 = .ok (.aload_n 0, 1) := by decide +kernel
theorem dX11_board_70 : decode cX11_board 70 = .ok (.getfield 26, 3) := by decide +kernel
theorem dX11_board_73 : decode cX11_board 73 = .ok (.iload_n 1, 1) := by decide +kernel
theorem dX11_board_74 : decode cX11_board 74 = .ok (.iload 6, 2) := by decide +kernel
theorem dX11_board_76 : decode cX11_board 76 = .ok (.aload_n 0, 1) := by decide +kernel
theorem dX11_board_77 : decode cX11_board 77 = .ok (.getfield 19, 3) := by decide +kernel
theorem dX11_board_80 : decode cX11_board 80 = .ok (.iload_n 2, 1) := by decide +kernel
theorem dX11_board_81 : decode cX11_board 81 = .ok (.iload 4, 2) := by decide +kernel
theorem dX11_board_83 : decode cX11_board 83 = .ok (.iload 6, 2) := by decide +kernel
theorem dX11_board_85 : decode cX11_board 85 = .ok (.iadd, 1) := by decide +kernel
theorem dX11_board_86 : decode cX11_board 86 = .ok (.invokevirtual 115, 3) := by decide +kernel
theorem dX11_board_89 : decode cX11_board 89 = .ok (.sipush 255, 3) := by decide +kernel
theorem dX11_board_92 : decode cX11_board 92 = .ok (.iand, 1) := by decide +kernel
theorem dX11_board_93 : decode cX11_board 93 = .ok (.invokevirtual 103, 3) := by decide +kernel
theorem dX11_board_96 : decode cX11_board 96 = .ok (.pop, 1) := by decide +kernel
theorem dX11_board_97 : decode cX11_board 97 = .ok (.iinc 6 1, 3) := by decide +kernel
theorem dX11_board_100 : decode cX11_board 100 = .ok (.goto (-38), 3) := by decide +kernel
theorem dX11_board_103 : decode cX11_board 103 = .ok (.iconst 1, 1) := by decide +kernel
theorem dX11_board_104 : decode cX11_board 104 = .ok (.ireturn, 1) := by decide +kernel
set_option maxRecDepth 20000 in
theorem ggX11_set_X7_takes : GoodIn wsX11_set wsX7_takes := goodIn_r _ [6, 7, 8, 9, 10, 11] (by decide +kernel) (by decide +kernel)
set_option maxRecDepth 20000 in
theorem gX11_set_X7_takes : GoodIn wsX11_set (wsV RX11 119 RX7 yX7_takes wsX7_takes) := goodIn_app (goodIn_of _ (by decide +kernel)) ggX11_set_X7_takes
set_option maxRecDepth 20000 in
theorem ggX11_set_X7_swap : GoodIn wsX11_set wsX7_swap := goodIn_r _ [15, 16, 28] (by decide +kernel) (by decide +kernel)
set_option maxRecDepth 20000 in
theorem gX11_set_X7_swap : GoodIn wsX11_set (wsV RX11 123 RX7 yX7_swap wsX7_swap) := goodIn_app (goodIn_of _ (by decide +kernel)) ggX11_set_X7_swap
theorem dX11_set_0 : decode cX11_set 0 = .ok (.aload_n 0, 1) := by decide +kernel
theorem dX11_set_1 : decode cX11_set 1 = .ok (.getfield 10, 3) := by decide +kernel
theorem dX11_set_4 : decode cX11_set 4 = .ok (.iload_n 1, 1) := by decide +kernel
theorem dX11_set_5 : decode cX11_set 5 = .ok (.iload_n 2, 1) := by decide +kernel
theorem dX11_set_6 : decode cX11_set 6 = .ok (.invokevirtual 119, 3) := by decide +kernel
theorem dX11_set_9 : decode cX11_set 9 = .ok (.ifCond .ne 7, 3) := by decide +kernel
theorem dX11_set_12 : decode cX11_set 12 = .ok (.sipush (-10001), 3) := by decide +kernel
theorem dX11_set_15 : decode cX11_set 15 = .ok (.ireturn, 1) := by decide +kernel
theorem dX11_set_16 : decode cX11_set 16 = .ok (.aload_n 0, 1) := by decide +kernel
theorem dX11_set_17 : decode cX11_set 17 = .ok (.getfield 10, 3) := by decide +kernel
theorem dX11_set_20 : decode cX11_set 20 = .ok (.iload_n 1, 1) := by decide +kernel
theorem dX11_set_21 : decode cX11_set 21 = .ok (.iload_n 2, 1) := by decide +kernel
theorem dX11_set_22 : decode cX11_set 22 = .ok (.invokevirtual 123, 3) := by decide +kernel
theorem dX11_set_25 : decode cX11_set 25 = .ok (.ireturn, 1) := by decide +kernel
set_option maxRecDepth 20000 in
theorem ggX11_rest_X11_isSpot : GoodIn wsX11_rest wsX11_isSpot := goodIn_r _ [6, 1, 7, 8, 9, 10, 11, 12, 13, 14, 5, 15, 21, 22, 23, 24, 25, 26, 27, 28, 29, 30, 31, 32, 33, 34, 35, 36, 37, 38] (by decide +kernel) (by decide +kernel)
set_option maxRecDepth 20000 in
theorem gX11_rest_X11_isSpot : GoodIn wsX11_rest (wsV RX11 99 RX11 yX11_isSpot wsX11_isSpot) := goodIn_app (goodIn_of _ (by decide +kernel)) ggX11_rest_X11_isSpot
set_option maxRecDepth 20000 in
theorem ggX11_rest_X11_within : GoodIn wsX11_rest wsX11_within := goodIn_r _ [15] (by decide +kernel) (by decide +kernel)
set_option maxRecDepth 20000 in
theorem gX11_rest_X11_within : GoodIn wsX11_rest (va_wsS RX11 86 yX11_within wsX11_within) := goodIn_app (goodIn_of _ (by decide +kernel)) ggX11_rest_X11_within
set_option maxRecDepth 20000 in
theorem ggX11_rest_X9_swapRest : GoodIn wsX11_rest wsX9_swapRest := goodIn_r _ [19, 20, 32, 33, 34, 35, 36, 37, 38] (by decide +kernel) (by decide +kernel)
set_option maxRecDepth 20000 in
theorem gX11_rest_X9_swapRest : GoodIn wsX11_rest (wsV RX11 126 RX9 yX9_swapRest wsX9_swapRest) := goodIn_app (goodIn_of _ (by decide +kernel)) ggX11_rest_X9_swapRest
theorem dX11_rest_0 : decode cX11_rest 0 = .ok (.aload_n 0, 1) := by decide +kernel
theorem dX11_rest_1 : decode cX11_rest 1 = .ok (.iload_n 1, 1) := by decide +kernel
theorem dX11_rest_2 : decode cX11_rest 2 = .ok (.invokevirtual 99, 3) := by decide +kernel
theorem dX11_rest_5 : decode cX11_rest 5 = .ok (.ifCond .eq 14, 3) := by decide +kernel
theorem dX11_rest_8 : decode cX11_rest 8 = .ok (.iload_n 2, 1) := by decide +kernel
theorem dX11_rest_9 : decode cX11_rest 9 = .ok (.iconst 0, 1) := by decide +kernel
theorem dX11_rest_10 : decode cX11_rest 10 = .ok (.sipush 3000, 3) := by decide +kernel
theorem dX11_rest_13 : decode cX11_rest 13 = .ok (.invokestatic 86, 3) := by decide +kernel
theorem dX11_rest_16 : decode cX11_rest 16 = .ok (.ifCond .ne 5, 3) := by decide +kernel
theorem dX11_rest_19 : decode cX11_rest 19 = .ok (.iconst (-1), 1) := by decide +kernel
theorem dX11_rest_20 : decode cX11_rest 20 = .ok (.ireturn, 1) := by decide +kernel
theorem dX11_rest_21 : decode cX11_rest 21 = .ok (.aload_n 0, 1) := by decide +kernel
theorem dX11_rest_22 : decode cX11_rest 22 = .ok (.getfield 26, 3) := by decide +kernel
theorem dX11_rest_25 : decode cX11_rest 25 = .ok (.iload_n 1, 1) := by decide +kernel
theorem dX11_rest_26 : decode cX11_rest 26 = .ok (.iload_n 2, 1) := by decide +kernel
theorem dX11_rest_27 : decode cX11_rest 27 = .ok (.invokevirtual 126, 3) := by decide +kernel
theorem dX11_rest_30 : decode cX11_rest 30 = .ok (.ireturn, 1) := by decide +kernel
set_option maxRecDepth 20000 in
theorem ggX11_spot_X11_isSpot : GoodIn wsX11_spot wsX11_isSpot := goodIn_r _ [7, 1, 8, 9, 10, 11, 12, 13, 14, 15, 6, 16, 59, 60, 61, 62, 63, 64, 65, 66, 67, 68, 69, 70, 71, 72, 73, 74, 75, 76] (by decide +kernel) (by decide +kernel)
set_option maxRecDepth 20000 in
theorem gX11_spot_X11_isSpot : GoodIn wsX11_spot (wsV RX11 99 RX11 yX11_isSpot wsX11_isSpot) := goodIn_app (goodIn_of _ (by decide +kernel)) ggX11_spot_X11_isSpot
set_option maxRecDepth 20000 in
theorem ggX11_spot_X11_within : GoodIn wsX11_spot wsX11_within := goodIn_r _ [16] (by decide +kernel) (by decide +kernel)
set_option maxRecDepth 20000 in
theorem gX11_spot_X11_within : GoodIn wsX11_spot (va_wsS RX11 86 yX11_within wsX11_within) := goodIn_app (goodIn_of _ (by decide +kernel)) ggX11_spot_X11_within
set_option maxRecDepth 20000 in
theorem ggX11_spot_X7_get : GoodIn wsX11_spot wsX7_get := goodIn_r _ [21, 22, 77] (by decide +kernel) (by decide +kernel)
set_option maxRecDepth 20000 in
theorem gX11_spot_X7_get : GoodIn wsX11_spot (wsV RX11 129 RX7 yX7_get wsX7_get) := goodIn_app (goodIn_of _ (by decide +kernel)) ggX11_spot_X7_get
set_option maxRecDepth 20000 in
theorem ggX11_spot_X9_measure : GoodIn wsX11_spot wsX9_measure := goodIn_r _ [26, 27, 13, 28, 29, 30, 31, 32, 11, 33, 34, 35, 36, 37, 38, 39, 40, 6, 41, 70, 71, 72, 73, 74, 75, 76] (by decide +kernel) (by decide +kernel)
set_option maxRecDepth 20000 in
theorem gX11_spot_X9_measure : GoodIn wsX11_spot (wsV RX11 133 RX9 yX9_measure wsX9_measure) := goodIn_app (goodIn_of _ (by decide +kernel)) ggX11_spot_X9_measure
set_option maxRecDepth 20000 in
theorem ggX11_spot_X9_isLost : GoodIn wsX11_spot wsX9_isLost := goodIn_r _ [45, 28, 70, 71, 72, 73, 74, 75, 76] (by decide +kernel) (by decide +kernel)
set_option maxRecDepth 20000 in
theorem gX11_spot_X9_isLost : GoodIn wsX11_spot (wsV RX11 137 RX9 yX9_isLost wsX9_isLost) := goodIn_app (goodIn_of _ (by decide +kernel)) ggX11_spot_X9_isLost
set_option maxRecDepth 20000 in
theorem ggX11_spot_X9_lightOf : GoodIn wsX11_spot wsX9_lightOf := goodIn_r _ [49, 29, 70, 71, 72, 73, 74, 75, 76] (by decide +kernel) (by decide +kernel)
set_option maxRecDepth 20000 in
theorem gX11_spot_X9_lightOf : GoodIn wsX11_spot (wsV RX11 140 RX9 yX9_lightOf wsX9_lightOf) := goodIn_app (goodIn_of _ (by decide +kernel)) ggX11_spot_X9_lightOf
set_option maxRecDepth 20000 in
theorem ggX11_spot_X9_middleOf : GoodIn wsX11_spot wsX9_middleOf := goodIn_r _ [53, 39, 70, 71, 72, 73, 74, 75, 76] (by decide +kernel) (by decide +kernel)
set_option maxRecDepth 20000 in
theorem gX11_spot_X9_middleOf : GoodIn wsX11_spot (wsV RX11 143 RX9 yX9_middleOf wsX9_middleOf) := goodIn_app (goodIn_of _ (by decide +kernel)) ggX11_spot_X9_middleOf
set_option maxRecDepth 20000 in
theorem ggX11_spot_X9_slopeOf : GoodIn wsX11_spot wsX9_slopeOf := goodIn_r _ [57, 39, 58, 70, 71, 72, 73, 74, 75, 76] (by decide +kernel) (by decide +kernel)
set_option maxRecDepth 20000 in
theorem gX11_spot_X9_slopeOf : GoodIn wsX11_spot (wsV RX11 146 RX9 yX9_slopeOf wsX9_slopeOf) := goodIn_app (goodIn_of _ (by decide +kernel)) ggX11_spot_X9_slopeOf
theorem dX11_spot_0 : decode cX11_spot 0 = .ok (.aload_n 0, 1) := by decide +kernel
theorem dX11_spot_1 : decode cX11_spot 1 = .ok (.iload_n 1, 1) := by decide +kernel
theorem dX11_spot_2 : decode cX11_spot 2 = .ok (.invokevirtual 99, 3) := by decide +kernel
theorem dX11_spot_5 : decode cX11_spot 5 = .ok (.ifCond .eq 12, 3) := by decide +kernel
theorem dX11_spot_8 : decode cX11_spot 8 = .ok (.iload_n 2, 1) := by decide +kernel
theorem dX11_spot_9 : decode cX11_spot 9 = .ok (.iconst 0, 1) := by decide +kernel
theorem dX11_spot_10 : decode cX11_spot 10 = .ok (.iconst 3, 1) := by decide +kernel
theorem dX11_spot_11 : decode cX11_spot 11 = .ok (.invokestatic 86, 3) := by decide +kernel
theorem dX11_spot_14 : decode cX11_spot 14 = .ok (.ifCond .ne 7, 3) := by decide +kernel
theorem dX11_spot_17 : decode cX11_spot 17 = .ok (.sipush (-10001), 3) := by decide +kernel
theorem dX11_spot_20 : decode cX11_spot 20 = .ok (.ireturn, 1) := by decide +kernel
theorem dX11_spot_21 : decode cX11_spot 21 = .ok (.aload_n 0, 1) := by decide +kernel
theorem dX11_spot_22 : decode cX11_spot 22 = .ok (.getfield 26, 3) := by decide +kernel
theorem dX11_spot_25 : decode cX11_spot 25 = .ok (.aload_n 0, 1) := by decide +kernel
theorem dX11_spot_26 : decode cX11_spot 26 = .ok (.getfield 10, 3) := by decide +kernel
theorem dX11_spot_29 : decode cX11_spot 29 = .ok (.iconst 0, 1) := by decide +kernel
theorem dX11_spot_30 : decode cX11_spot 30 = .ok (.invokevirtual 129, 3) := by decide +kernel
theorem dX11_spot_33 : decode cX11_spot 33 = .ok (.aload_n 0, 1) := by decide +kernel
theorem dX11_spot_34 : decode cX11_spot 34 = .ok (.getfield 10, 3) := by decide +kernel
theorem dX11_spot_37 : decode cX11_spot 37 = .ok (.iconst 1, 1) := by decide +kernel
theorem dX11_spot_38 : decode cX11_spot 38 = .ok (.invokevirtual 129, 3) := by decide +kernel
theorem dX11_spot_41 : decode cX11_spot 41 = .ok (.invokevirtual 133, 3) := by decide +kernel
theorem dX11_spot_44 : decode cX11_spot 44 = .ok (.aload_n 0, 1) := by decide +kernel
theorem dX11_spot_45 : decode cX11_spot 45 = .ok (.getfield 26, 3) := by decide +kernel
theorem dX11_spot_48 : decode cX11_spot 48 = .ok (.iload_n 1, 1) := by decide +kernel
theorem dX11_spot_49 : decode cX11_spot 49 = .ok (.invokevirtual 137, 3) := by decide +kernel
theorem dX11_spot_52 : decode cX11_spot 52 = .ok (.istore_n 3, 1) := by decide +kernel
theorem dX11_spot_53 : decode cX11_spot 53 = .ok (.iload_n 2, 1) := by decide +kernel
theorem dX11_spot_54 : decode cX11_spot 54 = .ok (.tableswitch 63 0 2 #[26, 35, 45], 26) := by decide +kernel
theorem dX11_spot_80 : decode cX11_spot 80 = .ok (.aload_n 0, 1) := by decide +kernel

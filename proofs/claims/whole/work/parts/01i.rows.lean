theorem dX12_frames_22 : decode cX12_frames 22 = .ok (.invokevirtual 262, 3) := by decide +kernel
theorem dX12_frames_25 : decode cX12_frames 25 = .ok (.iinc 2 1, 3) := by decide +kernel
theorem dX12_frames_28 : decode cX12_frames 28 = .ok (.goto (-12), 3) := by decide +kernel
theorem dX12_frames_31 : decode cX12_frames 31 = .ok (.aload_n 0, 1) := by decide +kernel
theorem dX12_frames_32 : decode cX12_frames 32 = .ok (.getfield 116, 3) := by decide +kernel
theorem dX12_frames_35 : decode cX12_frames 35 = .ok (.ireturn, 1) := by decide +kernel
set_option maxRecDepth 20000 in
theorem ggX12_state_X12_in : GoodIn wsX12_state wsX12_in := goodIn_r _ [9] (by decide +kernel) (by decide +kernel)
set_option maxRecDepth 20000 in
theorem gX12_state_X12_in : GoodIn wsX12_state (va_wsS RX12 130 yX12_in wsX12_in) := goodIn_app (goodIn_of _ (by decide +kernel)) ggX12_state_X12_in
theorem dX12_state_0 : decode cX12_state 0 = .ok (.iload_n 1, 1) := by decide +kernel
theorem dX12_state_1 : decode cX12_state 1 = .ok (.i2l, 1) := by decide +kernel
theorem dX12_state_2 : decode cX12_state 2 = .ok (.lconst 0, 1) := by decide +kernel
theorem dX12_state_3 : decode cX12_state 3 = .ok (.aload_n 0, 1) := by decide +kernel
theorem dX12_state_4 : decode cX12_state 4 = .ok (.getfield 13, 3) := by decide +kernel
theorem dX12_state_7 : decode cX12_state 7 = .ok (.iconst 2, 1) := by decide +kernel
theorem dX12_state_8 : decode cX12_state 8 = .ok (.iadd, 1) := by decide +kernel
theorem dX12_state_9 : decode cX12_state 9 = .ok (.i2l, 1) := by decide +kernel
theorem dX12_state_10 : decode cX12_state 10 = .ok (.invokestatic 130, 3) := by decide +kernel
theorem dX12_state_13 : decode cX12_state 13 = .ok (.ifCond .ne 7, 3) := by decide +kernel
theorem dX12_state_16 : decode cX12_state 16 = .ok (.sipush (-10001), 3) := by decide +kernel
theorem dX12_state_19 : decode cX12_state 19 = .ok (.ireturn, 1) := by decide +kernel
theorem dX12_state_20 : decode cX12_state 20 = .ok (.iload_n 1, 1) := by decide +kernel
theorem dX12_state_21 : decode cX12_state 21 = .ok (.aload_n 0, 1) := by decide +kernel
theorem dX12_state_22 : decode cX12_state 22 = .ok (.getfield 13, 3) := by decide +kernel
theorem dX12_state_25 : decode cX12_state 25 = .ok (.if_icmp .ge 12, 3) := by decide +kernel
theorem dX12_state_28 : decode cX12_state 28 = .ok (.aload_n 0, 1) := by decide +kernel
theorem dX12_state_29 : decode cX12_state 29 = .ok (.getfield 73, 3) := by decide +kernel
theorem dX12_state_32 : decode cX12_state 32 = .ok (.iload_n 1, 1) := by decide +kernel
theorem dX12_state_33 : decode cX12_state 33 = .ok (.iaload, 1) := by decide +kernel
theorem dX12_state_34 : decode cX12_state 34 = .ok (.goto 39, 3) := by decide +kernel
theorem dX12_state_37 : decode cX12_state 37 = .ok (.iload_n 1, 1) := by decide +kernel
theorem dX12_state_38 : decode cX12_state 38 = .ok (.aload_n 0, 1) := by decide +kernel
theorem dX12_state_39 : decode cX12_state 39 = .ok (.getfield 13, 3) := by decide +kernel
theorem dX12_state_42 : decode cX12_state 42 = .ok (.if_icmp .ne 10, 3) := by decide +kernel
theorem dX12_state_45 : decode cX12_state 45 = .ok (.aload_n 0, 1) := by decide +kernel
theorem dX12_state_46 : decode cX12_state 46 = .ok (.getfield 113, 3) := by decide +kernel
theorem dX12_state_49 : decode cX12_state 49 = .ok (.goto 24, 3) := by decide +kernel
theorem dX12_state_52 : decode cX12_state 52 = .ok (.iload_n 1, 1) := by decide +kernel
theorem dX12_state_53 : decode cX12_state 53 = .ok (.aload_n 0, 1) := by decide +kernel
theorem dX12_state_54 : decode cX12_state 54 = .ok (.getfield 13, 3) := by decide +kernel
theorem dX12_state_57 : decode cX12_state 57 = .ok (.iconst 1, 1) := by decide +kernel
theorem dX12_state_58 : decode cX12_state 58 = .ok (.iadd, 1) := by decide +kernel
theorem dX12_state_59 : decode cX12_state 59 = .ok (.if_icmp .ne 10, 3) := by decide +kernel
theorem dX12_state_62 : decode cX12_state 62 = .ok (.aload_n 0, 1) := by decide +kernel
theorem dX12_state_63 : decode cX12_state 63 = .ok (.getfield 116, 3) := by decide +kernel
theorem dX12_state_66 : decode cX12_state 66 = .ok (.goto 7, 3) := by decide +kernel
theorem dX12_state_69 : decode cX12_state 69 = .ok (.aload_n 0, 1) := by decide +kernel
theorem dX12_state_70 : decode cX12_state 70 = .ok (.getfield 125, 3) := by decide +kernel
theorem dX12_state_73 : decode cX12_state 73 = .ok (.ireturn, 1) := by decide +kernel
set_option maxRecDepth 20000 in
theorem ggX12_units_X12_isPart : GoodIn wsX12_units wsX12_isPart := goodIn_r _ [7, 8, 9, 10, 6, 11, 12, 13, 14, 15, 16, 17, 18, 19, 20, 21, 22, 23, 24, 25, 26, 27, 28, 29, 30, 31, 32, 33, 34, 35, 36, 37, 38, 39, 40, 41, 42, 43, 44, 45, 46, 47, 48, 49, 50, 51, 52] (by decide +kernel) (by decide +kernel)
set_option maxRecDepth 20000 in
theorem gX12_units_X12_isPart : GoodIn wsX12_units (wsV RX12 167 RX12 yX12_isPart wsX12_isPart) := goodIn_app (goodIn_of _ (by decide +kernel)) ggX12_units_X12_isPart
set_option maxRecDepth 20000 in
theorem ggX12_units_X12_in : GoodIn wsX12_units wsX12_in := goodIn_r _ [11] (by decide +kernel) (by decide +kernel)
set_option maxRecDepth 20000 in
theorem gX12_units_X12_in : GoodIn wsX12_units (va_wsS RX12 130 yX12_in wsX12_in) := goodIn_app (goodIn_of _ (by decide +kernel)) ggX12_units_X12_in
theorem dX12_units_0 : decode cX12_units 0 = .ok (.aload_n 0, 1) := by decide +kernel
theorem dX12_units_1 : decode cX12_units 1 = .ok (.iload_n 1, 1) := by decide +kernel
theorem dX12_units_2 : decode cX12_units 2 = .ok (.invokevirtual 167, 3) := by decide +kernel
theorem dX12_units_5 : decode cX12_units 5 = .ok (.ifCond .eq 26, 3) := by decide +kernel
theorem dX12_units_8 : decode cX12_units 8 = .ok (.iload_n 2, 1) := by decide +kernel
theorem dX12_units_9 : decode cX12_units 9 = .ok (.i2l, 1) := by decide +kernel
theorem dX12_units_10 : decode cX12_units 10 = .ok (.aload_n 0, 1) := by decide +kernel
theorem dX12_units_11 : decode cX12_units 11 = .ok (.getfield 26, 3) := by decide +kernel
theorem dX12_units_14 : decode cX12_units 14 = .ok (.iconst 4, 1) := by decide +kernel
theorem dX12_units_15 : decode cX12_units 15 = .ok (.iaload, 1) := by decide +kernel
theorem dX12_units_16 : decode cX12_units 16 = .ok (.ineg, 1) := by decide +kernel
theorem dX12_units_17 : decode cX12_units 17 = .ok (.i2l, 1) := by decide +kernel
theorem dX12_units_18 : decode cX12_units 18 = .ok (.aload_n 0, 1) := by decide +kernel
theorem dX12_units_19 : decode cX12_units 19 = .ok (.getfield 26, 3) := by decide +kernel
theorem dX12_units_22 : decode cX12_units 22 = .ok (.iconst 4, 1) := by decide +kernel
theorem dX12_units_23 : decode cX12_units 23 = .ok (.iaload, 1) := by decide +kernel
theorem dX12_units_24 : decode cX12_units 24 = .ok (.i2l, 1) := by decide +kernel
theorem dX12_units_25 : decode cX12_units 25 = .ok (.invokestatic 130, 3) := by decide +kernel
theorem dX12_units_28 : decode cX12_units 28 = .ok (.ifCond .ne 7, 3) := by decide +kernel
theorem dX12_units_31 : decode cX12_units 31 = .ok (.sipush (-10001), 3) := by decide +kernel
theorem dX12_units_34 : decode cX12_units 34 = .ok (.ireturn, 1) := by decide +kernel
theorem dX12_units_35 : decode cX12_units 35 = .ok (.aload_n 0, 1) := by decide +kernel
theorem dX12_units_36 : decode cX12_units 36 = .ok (.getfield 73, 3) := by decide +kernel
theorem dX12_units_39 : decode cX12_units 39 = .ok (.iload_n 1, 1) := by decide +kernel
theorem dX12_units_40 : decode cX12_units 40 = .ok (.iaload, 1) := by decide +kernel
theorem dX12_units_41 : decode cX12_units 41 = .ok (.istore_n 3, 1) := by decide +kernel
theorem dX12_units_42 : decode cX12_units 42 = .ok (.aload_n 0, 1) := by decide +kernel
theorem dX12_units_43 : decode cX12_units 43 = .ok (.getfield 73, 3) := by decide +kernel
theorem dX12_units_46 : decode cX12_units 46 = .ok (.iload_n 1, 1) := by decide +kernel
theorem dX12_units_47 : decode cX12_units 47 = .ok (.iload_n 2, 1) := by decide +kernel
theorem dX12_units_48 : decode cX12_units 48 = .ok (.iastore, 1) := by decide +kernel
theorem dX12_units_49 : decode cX12_units 49 = .ok (.iload_n 3, 1) := by decide +kernel
theorem dX12_units_50 : decode cX12_units 50 = .ok (.ireturn, 1) := by decide +kernel
set_option maxRecDepth 20000 in
theorem ggX12_shed_X12_unitsAll : GoodIn wsX12_shed wsX12_unitsAll := goodIn_r _ [8, 1, 3, 9, 10, 11, 12, 13, 14, 15, 16, 17, 18, 19, 20, 21, 22, 23, 24, 25, 26, 27, 28, 29, 30, 31, 32, 33, 34, 35, 36, 37, 38, 39, 40, 41, 42, 43, 44, 45, 46, 47, 48, 49] (by decide +kernel) (by decide +kernel)
set_option maxRecDepth 20000 in
theorem gX12_shed_X12_unitsAll : GoodIn wsX12_shed (wsV RX12 256 RX12 yX12_unitsAll wsX12_unitsAll) := goodIn_app (goodIn_of _ (by decide +kernel)) ggX12_shed_X12_unitsAll
theorem dX12_shed_0 : decode cX12_shed 0 = .ok (.aload_n 0, 1) := by decide +kernel
theorem dX12_shed_1 : decode cX12_shed 1 = .ok (.invokevirtual 256, 3) := by decide +kernel
theorem dX12_shed_4 : decode cX12_shed 4 = .ok (.aload_n 0, 1) := by decide +kernel
theorem dX12_shed_5 : decode cX12_shed 5 = .ok (.getfield 13, 3) := by decide +kernel
theorem dX12_shed_8 : decode cX12_shed 8 = .ok (.idiv, 1) := by decide +kernel
theorem dX12_shed_9 : decode cX12_shed 9 = .ok (.istore_n 1, 1) := by decide +kernel
theorem dX12_shed_10 : decode cX12_shed 10 = .ok (.aload_n 0, 1) := by decide +kernel
theorem dX12_shed_11 : decode cX12_shed 11 = .ok (.dup, 1) := by decide +kernel
theorem dX12_shed_12 : decode cX12_shed 12 = .ok (.getfield 113, 3) := by decide +kernel
theorem dX12_shed_15 : decode cX12_shed 15 = .ok (.iload_n 1, 1) := by decide +kernel
theorem dX12_shed_16 : decode cX12_shed 16 = .ok (.iadd, 1) := by decide +kernel
theorem dX12_shed_17 : decode cX12_shed 17 = .ok (.putfield 113, 3) := by decide +kernel
theorem dX12_shed_20 : decode cX12_shed 20 = .ok (.iconst 0, 1) := by decide +kernel
theorem dX12_shed_21 : decode cX12_shed 21 = .ok (.istore_n 2, 1) := by decide +kernel
theorem dX12_shed_22 : decode cX12_shed 22 = .ok (.iload_n 2, 1) := by decide +kernel
theorem dX12_shed_23 : decode cX12_shed 23 = .ok (.aload_n 0, 1) := by decide +kernel
theorem dX12_shed_24 : decode cX12_shed 24 = .ok (.getfield 13, 3) := by decide +kernel
theorem dX12_shed_27 : decode cX12_shed 27 = .ok (.if_icmp .ge 19, 3) := by decide +kernel
theorem dX12_shed_30 : decode cX12_shed 30 = .ok (.aload_n 0, 1) := by decide +kernel
theorem dX12_shed_31 : decode cX12_shed 31 = .ok (.getfield 73, 3) := by decide +kernel
theorem dX12_shed_34 : decode cX12_shed 34 = .ok (.iload_n 2, 1) := by decide +kernel
theorem dX12_shed_35 : decode cX12_shed 35 = .ok (.dup2, 1) := by decide +kernel
theorem dX12_shed_36 : decode cX12_shed 36 = .ok (.iaload, 1) := by decide +kernel
theorem dX12_shed_37 : decode cX12_shed 37 = .ok (.iload_n 1, 1) := by decide +kernel
theorem dX12_shed_38 : decode cX12_shed 38 = .ok (.isub, 1) := by decide +kernel
theorem dX12_shed_39 : decode cX12_shed 39 = .ok (.iastore, 1) := by decide +kernel
theorem dX12_shed_40 : decode cX12_shed 40 = .ok (.iinc 2 1, 3) := by decide +kernel
theorem dX12_shed_43 : decode cX12_shed 43 = .ok (.goto (-21), 3) := by decide +kernel
theorem dX12_shed_46 : decode cX12_shed 46 = .ok (.iload_n 1, 1) := by decide +kernel
theorem dX12_shed_47 : decode cX12_shed 47 = .ok (.ireturn, 1) := by decide +kernel
set_option maxRecDepth 20000 in
theorem ggX12_log_X12_in : GoodIn wsX12_log wsX12_in := goodIn_r _ [9] (by decide +kernel) (by decide +kernel)
set_option maxRecDepth 20000 in
theorem gX12_log_X12_in : GoodIn wsX12_log (va_wsS RX12 130 yX12_in wsX12_in) := goodIn_app (goodIn_of _ (by decide +kernel)) ggX12_log_X12_in
theorem dX12_log_0 : decode cX12_log 0 = .ok (.aload_n 0, 1) := by decide +kernel
theorem dX12_log_1 : decode cX12_log 1 = .ok (.getfield 125, 3) := by decide +kernel
theorem dX12_log_4 : decode cX12_log 4 = .ok (.bipush 30, 2) := by decide +kernel
theorem dX12_log_6 : decode cX12_log 6 = .ok (.if_icmp .ge 10, 3) := by decide +kernel
theorem dX12_log_9 : decode cX12_log 9 = .ok (.aload_n 0, 1) := by decide +kernel
theorem dX12_log_10 : decode cX12_log 10 = .ok (.getfield 125, 3) := by decide +kernel
theorem dX12_log_13 : decode cX12_log 13 = .ok (.goto 5, 3) := by decide +kernel
theorem dX12_log_16 : decode cX12_log 16 = .ok (.bipush 30, 2) := by decide +kernel
theorem dX12_log_18 : decode cX12_log 18 = .ok (.istore_n 3, 1) := by decide +kernel
theorem dX12_log_19 : decode cX12_log 19 = .ok (.iload_n 1, 1) := by decide +kernel
theorem dX12_log_20 : decode cX12_log 20 = .ok (.i2l, 1) := by decide +kernel
theorem dX12_log_21 : decode cX12_log 21 = .ok (.lconst 0, 1) := by decide +kernel
theorem dX12_log_22 : decode cX12_log 22 = .ok (.iload_n 3, 1) := by decide +kernel
theorem dX12_log_23 : decode cX12_log 23 = .ok (.iconst 1, 1) := by decide +kernel
theorem dX12_log_24 : decode cX12_log 24 = .ok (.isub, 1) := by decide +kernel
theorem dX12_log_25 : decode cX12_log 25 = .ok (.i2l, 1) := by decide +kernel
theorem dX12_log_26 : decode cX12_log 26 = .ok (.invokestatic 130, 3) := by decide +kernel
theorem dX12_log_29 : decode cX12_log 29 = .ok (.ifCond .eq 15, 3) := by decide +kernel
theorem dX12_log_32 : decode cX12_log 32 = .ok (.iload_n 2, 1) := by decide +kernel
theorem dX12_log_33 : decode cX12_log 33 = .ok (.i2l, 1) := by decide +kernel
theorem dX12_log_34 : decode cX12_log 34 = .ok (.lconst 0, 1) := by decide +kernel
theorem dX12_log_35 : decode cX12_log 35 = .ok (.ldc2_w 265, 3) := by decide +kernel
theorem dX12_log_38 : decode cX12_log 38 = .ok (.invokestatic 130, 3) := by decide +kernel
theorem dX12_log_41 : decode cX12_log 41 = .ok (.ifCond .ne 7, 3) := by decide +kernel
theorem dX12_log_44 : decode cX12_log 44 = .ok (.sipush (-10001), 3) := by decide +kernel
theorem dX12_log_47 : decode cX12_log 47 = .ok (.ireturn, 1) := by decide +kernel
theorem dX12_log_48 : decode cX12_log 48 = .ok (.aload_n 0, 1) := by decide +kernel
theorem dX12_log_49 : decode cX12_log 49 = .ok (.getfield 125, 3) := by decide +kernel
theorem dX12_log_52 : decode cX12_log 52 = .ok (.iconst 1, 1) := by decide +kernel
theorem dX12_log_53 : decode cX12_log 53 = .ok (.isub, 1) := by decide +kernel
theorem dX12_log_54 : decode cX12_log 54 = .ok (.iload_n 1, 1) := by decide +kernel
theorem dX12_log_55 : decode cX12_log 55 = .ok (.isub, 1) := by decide +kernel
theorem dX12_log_56 : decode cX12_log 56 = .ok (.bipush 30, 2) := by decide +kernel
theorem dX12_log_58 : decode cX12_log 58 = .ok (.irem, 1) := by decide +kernel
theorem dX12_log_59 : decode cX12_log 59 = .ok (.istore 4, 2) := by decide +kernel
theorem dX12_log_61 : decode cX12_log 61 = .ok (.iload_n 2, 1) := by decide +kernel
theorem dX12_log_62 : decode cX12_log 62 = .ok (.ifCond .ne 13, 3) := by decide +kernel
theorem dX12_log_65 : decode cX12_log 65 = .ok (.aload_n 0, 1) := by decide +kernel
theorem dX12_log_66 : decode cX12_log 66 = .ok (.getfield 76, 3) := by decide +kernel
theorem dX12_log_69 : decode cX12_log 69 = .ok (.iload 4, 2) := by decide +kernel
theorem dX12_log_71 : decode cX12_log 71 = .ok (.iaload, 1) := by decide +kernel
theorem dX12_log_72 : decode cX12_log 72 = .ok (.goto 25, 3) := by decide +kernel
theorem dX12_log_75 : decode cX12_log 75 = .ok (.iload_n 2, 1) := by decide +kernel
theorem dX12_log_76 : decode cX12_log 76 = .ok (.iconst 1, 1) := by decide +kernel
theorem dX12_log_77 : decode cX12_log 77 = .ok (.if_icmp .ne 13, 3) := by decide +kernel
theorem dX12_log_80 : decode cX12_log 80 = .ok (.aload_n 0, 1) := by decide +kernel
theorem dX12_log_81 : decode cX12_log 81 = .ok (.getfield 79, 3) := by decide +kernel
theorem dX12_log_84 : decode cX12_log 84 = .ok (.iload 4, 2) := by decide +kernel
theorem dX12_log_86 : decode cX12_log 86 = .ok (.iaload, 1) := by decide +kernel
theorem dX12_log_87 : decode cX12_log 87 = .ok (.goto 10, 3) := by decide +kernel
theorem dX12_log_90 : decode cX12_log 90 = .ok (.aload_n 0, 1) := by decide +kernel
theorem dX12_log_91 : decode cX12_log 91 = .ok (.getfield 82, 3) := by decide +kernel
theorem dX12_log_94 : decode cX12_log 94 = .ok (.iload 4, 2) := by decide +kernel
theorem dX12_log_96 : decode cX12_log 96 = .ok (.iaload, 1) := by decide +kernel
theorem dX12_log_97 : decode cX12_log 97 = .ok (.ireturn, 1) := by decide +kernel
set_option maxRecDepth 20000 in
theorem ggX12_loop_X12_in : GoodIn wsX12_loop wsX12_in := goodIn_r _ [9] (by decide +kernel) (by decide +kernel)
set_option maxRecDepth 20000 in
theorem gX12_loop_X12_in : GoodIn wsX12_loop (va_wsS RX12 130 yX12_in wsX12_in) := goodIn_app (goodIn_of _ (by decide +kernel)) ggX12_loop_X12_in
set_option maxRecDepth 20000 in
theorem ggX12_loop_X12_isSheet : GoodIn wsX12_loop wsX12_isSheet := goodIn_r _ [12, 13, 14, 6, 7, 8, 9] (by decide +kernel) (by decide +kernel)
set_option maxRecDepth 20000 in
theorem gX12_loop_X12_isSheet : GoodIn wsX12_loop (va_wsS RX12 180 yX12_isSheet wsX12_isSheet) := goodIn_app (goodIn_of _ (by decide +kernel)) ggX12_loop_X12_isSheet
set_option maxRecDepth 20000 in
theorem ggX12_loop_X12_against : GoodIn wsX12_loop wsX12_against := goodIn_r _ [18, 19, 20, 6, 7, 8, 9, 21, 22, 23, 24, 25, 26, 27, 28, 29, 30, 31, 32, 33, 34, 35, 36, 37, 38, 39, 40, 41, 42, 43, 44, 45, 46, 47, 48, 49, 50, 51, 52, 53, 54, 55, 56, 57, 58, 59, 60, 61] (by decide +kernel) (by decide +kernel)
set_option maxRecDepth 20000 in
theorem gX12_loop_X12_against : GoodIn wsX12_loop (wsV RX12 184 RX12 yX12_against wsX12_against) := goodIn_app (goodIn_of _ (by decide +kernel)) ggX12_loop_X12_against
theorem dX12_loop_0 : decode cX12_loop 0 = .ok (.iload_n 1, 1) := by decide +kernel
theorem dX12_loop_1 : decode cX12_loop 1 = .ok (.i2l, 1) := by decide +kernel
theorem dX12_loop_2 : decode cX12_loop 2 = .ok (.lconst 0, 1) := by decide +kernel
theorem dX12_loop_3 : decode cX12_loop 3 = .ok (.lconst 1, 1) := by decide +kernel
theorem dX12_loop_4 : decode cX12_loop 4 = .ok (.invokestatic 130, 3) := by decide +kernel
theorem dX12_loop_7 : decode cX12_loop 7 = .ok (.ifCond .eq 24, 3) := by decide +kernel
theorem dX12_loop_10 : decode cX12_loop 10 = .ok (.iload_n 2, 1) := by decide +kernel
theorem dX12_loop_11 : decode cX12_loop 11 = .ok (.iload_n 3, 1) := by decide +kernel
theorem dX12_loop_12 : decode cX12_loop 12 = .ok (.invokestatic 180, 3) := by decide +kernel
theorem dX12_loop_15 : decode cX12_loop 15 = .ok (.ifCond .eq 16, 3) := by decide +kernel
theorem dX12_loop_18 : decode cX12_loop 18 = .ok (.iload 5, 2) := by decide +kernel
theorem dX12_loop_20 : decode cX12_loop 20 = .ok (.i2l, 1) := by decide +kernel
theorem dX12_loop_21 : decode cX12_loop 21 = .ok (.lconst 1, 1) := by decide +kernel
theorem dX12_loop_22 : decode cX12_loop 22 = .ok (.ldc2_w 134, 3) := by decide +kernel
theorem dX12_loop_25 : decode cX12_loop 25 = .ok (.invokestatic 130, 3) := by decide +kernel
theorem dX12_loop_28 : decode cX12_loop 28 = .ok (.ifCond .ne 5, 3) := by decide +kernel
theorem dX12_loop_31 : decode cX12_loop 31 = .ok (.iconst (-1), 1) := by decide +kernel
theorem dX12_loop_32 : decode cX12_loop 32 = .ok (.ireturn, 1) := by decide +kernel
theorem dX12_loop_33 : decode cX12_loop 33 = .ok (.aload_n 0, 1) := by decide +kernel
theorem dX12_loop_34 : decode cX12_loop 34 = .ok (.iload_n 2, 1) := by decide +kernel
theorem dX12_loop_35 : decode cX12_loop 35 = .ok (.iload_n 3, 1) := by decide +kernel
theorem dX12_loop_36 : decode cX12_loop 36 = .ok (.iload 4, 2) := by decide +kernel
theorem dX12_loop_38 : decode cX12_loop 38 = .ok (.iload 5, 2) := by decide +kernel
theorem dX12_loop_40 : decode cX12_loop 40 = .ok (.invokevirtual 184, 3) := by decide +kernel
theorem dX12_loop_43 : decode cX12_loop 43 = .ok (.istore 6, 2) := by decide +kernel
theorem dX12_loop_45 : decode cX12_loop 45 = .ok (.iload 6, 2) := by decide +kernel
theorem dX12_loop_47 : decode cX12_loop 47 = .ok (.ifCond .ge 6, 3) := by decide +kernel
theorem dX12_loop_50 : decode cX12_loop 50 = .ok (.iload 6, 2) := by decide +kernel
theorem dX12_loop_52 : decode cX12_loop 52 = .ok (.ireturn, 1) := by decide +kernel
theorem dX12_loop_53 : decode cX12_loop 53 = .ok (.bipush 40, 2) := by decide +kernel
theorem dX12_loop_55 : decode cX12_loop 55 = .ok (.iload_n 2, 1) := by decide +kernel
theorem dX12_loop_56 : decode cX12_loop 56 = .ok (.imul, 1) := by decide +kernel
theorem dX12_loop_57 : decode cX12_loop 57 = .ok (.iload 4, 2) := by decide +kernel
theorem dX12_loop_59 : decode cX12_loop 59 = .ok (.iadd, 1) := by decide +kernel
theorem dX12_loop_60 : decode cX12_loop 60 = .ok (.istore 7, 2) := by decide +kernel
theorem dX12_loop_62 : decode cX12_loop 62 = .ok (.iconst 0, 1) := by decide +kernel
theorem dX12_loop_63 : decode cX12_loop 63 = .ok (.istore 8, 2) := by decide +kernel
theorem dX12_loop_65 : decode cX12_loop 65 = .ok (.iload 8, 2) := by decide +kernel
theorem dX12_loop_67 : decode cX12_loop 67 = .ok (.iload 5, 2) := by decide +kernel
theorem dX12_loop_69 : decode cX12_loop 69 = .ok (.if_icmp .ge 35, 3) := by decide +kernel
theorem dX12_loop_72 : decode cX12_loop 72 = .ok (.aload_n 0, 1) := by decide +kernel
theorem dX12_loop_73 : decode cX12_loop 73 = .ok (.getfield 106, 3) := by decide +kernel
theorem dX12_loop_76 : decode cX12_loop 76 = .ok (.iload 7, 2) := by decide +kernel
theorem dX12_loop_78 : decode cX12_loop 78 = .ok (.iload 8, 2) := by decide +kernel
theorem dX12_loop_80 : decode cX12_loop 80 = .ok (.iadd, 1) := by decide +kernel
theorem dX12_loop_81 : decode cX12_loop 81 = .ok (.iaload, 1) := by decide +kernel
theorem dX12_loop_82 : decode cX12_loop 82 = .ok (.i2l, 1) := by decide +kernel
theorem dX12_loop_83 : decode cX12_loop 83 = .ok (.ldc2_w 267, 3) := by decide +kernel
theorem dX12_loop_86 : decode cX12_loop 86 = .ok (.ldc2_w 269, 3) := by decide +kernel
theorem dX12_loop_89 : decode cX12_loop 89 = .ok (.invokestatic 130, 3) := by decide +kernel
theorem dX12_loop_92 : decode cX12_loop 92 = .ok (.ifCond .ne 6, 3) := by decide +kernel
theorem dX12_loop_95 : decode cX12_loop 95 = .ok (.bipush (-2), 2) := by decide +kernel
theorem dX12_loop_97 : decode cX12_loop 97 = .ok (.ireturn, 1) := by decide +kernel
theorem dX12_loop_98 : decode cX12_loop 98 = .ok (.iinc 8 1, 3) := by decide +kernel
theorem dX12_loop_101 : decode cX12_loop 101 = .ok (.goto (-36), 3) := by decide +kernel
theorem dX12_loop_104 : decode cX12_loop 104 = .ok (.iconst 0, 1) := by decide +kernel
theorem dX12_loop_105 : decode cX12_loop 105 = .ok (.istore 8, 2) := by decide +kernel
theorem dX12_loop_107 : decode cX12_loop 107 = .ok (.iload 8, 2) := by decide +kernel
theorem dX12_loop_109 : decode cX12_loop 109 = .ok (.iconst 5, 1) := by decide +kernel
theorem dX12_loop_110 : decode cX12_loop 110 = .ok (.if_icmp .ge 41, 3) := by decide +kernel
theorem dX12_loop_113 : decode cX12_loop 113 = .ok (.aload_n 0, 1) := by decide +kernel
theorem dX12_loop_114 : decode cX12_loop 114 = .ok (.getfield 85, 3) := by decide +kernel
theorem dX12_loop_117 : decode cX12_loop 117 = .ok (.iconst 5, 1) := by decide +kernel
theorem dX12_loop_118 : decode cX12_loop 118 = .ok (.iload_n 1, 1) := by decide +kernel
theorem dX12_loop_119 : decode cX12_loop 119 = .ok (.imul, 1) := by decide +kernel
theorem dX12_loop_120 : decode cX12_loop 120 = .ok (.iload 8, 2) := by decide +kernel
theorem dX12_loop_122 : decode cX12_loop 122 = .ok (.iadd, 1) := by decide +kernel
theorem dX12_loop_123 : decode cX12_loop 123 = .ok (.iload 8, 2) := by decide +kernel
theorem dX12_loop_125 : decode cX12_loop 125 = .ok (.iload 5, 2) := by decide +kernel
theorem dX12_loop_127 : decode cX12_loop 127 = .ok (.if_icmp .ge 16, 3) := by decide +kernel
theorem dX12_loop_130 : decode cX12_loop 130 = .ok (.aload_n 0, 1) := by decide +kernel
theorem dX12_loop_131 : decode cX12_loop 131 = .ok (.getfield 106, 3) := by decide +kernel
theorem dX12_loop_134 : decode cX12_loop 134 = .ok (.iload 7, 2) := by decide +kernel
theorem dX12_loop_136 : decode cX12_loop 136 = .ok (.iload 8, 2) := by decide +kernel
theorem dX12_loop_138 : decode cX12_loop 138 = .ok (.iadd, 1) := by decide +kernel
theorem dX12_loop_139 : decode cX12_loop 139 = .ok (.iaload, 1) := by decide +kernel
theorem dX12_loop_140 : decode cX12_loop 140 = .ok (.goto 4, 3) := by decide +kernel
theorem dX12_loop_143 : decode cX12_loop 143 = .ok (.iconst 0, 1) := by decide +kernel
theorem dX12_loop_144 : decode cX12_loop 144 = .ok (.iastore, 1) := by decide +kernel
theorem dX12_loop_145 : decode cX12_loop 145 = .ok (.iinc 8 1, 3) := by decide +kernel
theorem dX12_loop_148 : decode cX12_loop 148 = .ok (.goto (-41), 3) := by decide +kernel
theorem dX12_loop_151 : decode cX12_loop 151 = .ok (.iload 5, 2) := by decide +kernel
theorem dX12_loop_153 : decode cX12_loop 153 = .ok (.ireturn, 1) := by decide +kernel
theorem dX12_size_0 : decode cX12_size 0 = .ok (.lload_n 0, 1) := by decide +kernel
theorem dX12_size_1 : decode cX12_size 1 = .ok (.lconst 0, 1) := by decide +kernel
theorem dX12_size_2 : decode cX12_size 2 = .ok (.lcmp, 1) := by decide +kernel
theorem dX12_size_3 : decode cX12_size 3 = .ok (.ifCond .ge 8, 3) := by decide +kernel
theorem dX12_size_6 : decode cX12_size 6 = .ok (.lload_n 0, 1) := by decide +kernel
theorem dX12_size_7 : decode cX12_size 7 = .ok (.lneg, 1) := by decide +kernel
theorem dX12_size_8 : decode cX12_size 8 = .ok (.goto 4, 3) := by decide +kernel
theorem dX12_size_11 : decode cX12_size 11 = .ok (.lload_n 0, 1) := by decide +kernel
theorem dX12_size_12 : decode cX12_size 12 = .ok (.lreturn, 1) := by decide +kernel
set_option maxRecDepth 20000 in
theorem ggX12_isSteady_X12_size : GoodIn wsX12_isSteady wsX12_size := goodIn_r _ [8] (by decide +kernel) (by decide +kernel)
set_option maxRecDepth 20000 in
theorem gX12_isSteady_X12_size : GoodIn wsX12_isSteady (va_wsS RX12 271 yX12_size wsX12_size) := goodIn_app (goodIn_of _ (by decide +kernel)) ggX12_isSteady_X12_size
theorem dX12_isSteady_0 : decode cX12_isSteady 0 = .ok (.iconst (-1), 1) := by decide +kernel
theorem dX12_isSteady_1 : decode cX12_isSteady 1 = .ok (.istore_n 2, 1) := by decide +kernel
theorem dX12_isSteady_2 : decode cX12_isSteady 2 = .ok (.iconst 0, 1) := by decide +kernel
theorem dX12_isSteady_3 : decode cX12_isSteady 3 = .ok (.istore_n 3, 1) := by decide +kernel
theorem dX12_isSteady_4 : decode cX12_isSteady 4 = .ok (.iload_n 3, 1) := by decide +kernel
theorem dX12_isSteady_5 : decode cX12_isSteady 5 = .ok (.iconst 5, 1) := by decide +kernel
theorem dX12_isSteady_6 : decode cX12_isSteady 6 = .ok (.if_icmp .ge 56, 3) := by decide +kernel
theorem dX12_isSteady_9 : decode cX12_isSteady 9 = .ok (.aload_n 0, 1) := by decide +kernel
theorem dX12_isSteady_10 : decode cX12_isSteady 10 = .ok (.getfield 88, 3) := by decide +kernel
theorem dX12_isSteady_13 : decode cX12_isSteady 13 = .ok (.iload_n 3, 1) := by decide +kernel
theorem dX12_isSteady_14 : decode cX12_isSteady 14 = .ok (.ldc2_w 260, 3) := by decide +kernel
theorem dX12_isSteady_17 : decode cX12_isSteady 17 = .ok (.aload_n 0, 1) := by decide +kernel
theorem dX12_isSteady_18 : decode cX12_isSteady 18 = .ok (.getfield 85, 3) := by decide +kernel
theorem dX12_isSteady_21 : decode cX12_isSteady 21 = .ok (.iload_n 3, 1) := by decide +kernel
theorem dX12_isSteady_22 : decode cX12_isSteady 22 = .ok (.iaload, 1) := by decide +kernel
theorem dX12_isSteady_23 : decode cX12_isSteady 23 = .ok (.i2l, 1) := by decide +kernel
theorem dX12_isSteady_24 : decode cX12_isSteady 24 = .ok (.lmul, 1) := by decide +kernel
theorem dX12_isSteady_25 : decode cX12_isSteady 25 = .ok (.iload_n 1, 1) := by decide +kernel
theorem dX12_isSteady_26 : decode cX12_isSteady 26 = .ok (.i2l, 1) := by decide +kernel
theorem dX12_isSteady_27 : decode cX12_isSteady 27 = .ok (.aload_n 0, 1) := by decide +kernel
theorem dX12_isSteady_28 : decode cX12_isSteady 28 = .ok (.getfield 85, 3) := by decide +kernel
theorem dX12_isSteady_31 : decode cX12_isSteady 31 = .ok (.iconst 5, 1) := by decide +kernel
theorem dX12_isSteady_32 : decode cX12_isSteady 32 = .ok (.iload_n 3, 1) := by decide +kernel
theorem dX12_isSteady_33 : decode cX12_isSteady 33 = .ok (.iadd, 1) := by decide +kernel
theorem dX12_isSteady_34 : decode cX12_isSteady 34 = .ok (.iaload, 1) := by decide +kernel
theorem dX12_isSteady_35 : decode cX12_isSteady 35 = .ok (.i2l, 1) := by decide +kernel
theorem dX12_isSteady_36 : decode cX12_isSteady 36 = .ok (.lmul, 1) := by decide +kernel
theorem dX12_isSteady_37 : decode cX12_isSteady 37 = .ok (.ladd, 1) := by decide +kernel
theorem dX12_isSteady_38 : decode cX12_isSteady 38 = .ok (.lastore, 1) := by decide +kernel
theorem dX12_isSteady_39 : decode cX12_isSteady 39 = .ok (.aload_n 0, 1) := by decide +kernel
theorem dX12_isSteady_40 : decode cX12_isSteady 40 = .ok (.getfield 88, 3) := by decide +kernel
theorem dX12_isSteady_43 : decode cX12_isSteady 43 = .ok (.iload_n 3, 1) := by decide +kernel
theorem dX12_isSteady_44 : decode cX12_isSteady 44 = .ok (.laload, 1) := by decide +kernel
theorem dX12_isSteady_45 : decode cX12_isSteady 45 = .ok (.lconst 0, 1) := by decide +kernel
theorem dX12_isSteady_46 : decode cX12_isSteady 46 = .ok (.lcmp, 1) := by decide +kernel
theorem dX12_isSteady_47 : decode cX12_isSteady 47 = .ok (.ifCond .eq 7, 3) := by decide +kernel
theorem dX12_isSteady_50 : decode cX12_isSteady 50 = .ok (.iload_n 3, 1) := by decide +kernel
theorem dX12_isSteady_51 : decode cX12_isSteady 51 = .ok (.goto 4, 3) := by decide +kernel
theorem dX12_isSteady_54 : decode cX12_isSteady 54 = .ok (.iload_n 2, 1) := by decide +kernel
theorem dX12_isSteady_55 : decode cX12_isSteady 55 = .ok (.istore_n 2, 1) := by decide +kernel
theorem dX12_isSteady_56 : decode cX12_isSteady 56 = .ok (.iinc 3 1, 3) := by decide +kernel
theorem dX12_isSteady_59 : decode cX12_isSteady 59 = .ok (.goto (-55), 3) := by decide +kernel
theorem dX12_isSteady_62 : decode cX12_isSteady 62 = .ok (.iload_n 2, 1) := by decide +kernel
theorem dX12_isSteady_63 : decode cX12_isSteady 63 = .ok (.ifCond .ge 5, 3) := by decide +kernel
theorem dX12_isSteady_66 : decode cX12_isSteady 66 = .ok (.iconst 0, 1) := by decide +kernel
theorem dX12_isSteady_67 : decode cX12_isSteady 67 = .ok (.ireturn, 1) := by decide +kernel
theorem dX12_isSteady_68 : decode cX12_isSteady 68 = .ok (.iload_n 2, 1) := by decide +kernel
theorem dX12_isSteady_69 : decode cX12_isSteady 69 = .ok (.iconst 2, 1) := by decide +kernel
theorem dX12_isSteady_70 : decode cX12_isSteady 70 = .ok (.if_icmp .le 110, 3) := by decide +kernel
theorem dX12_isSteady_73 : decode cX12_isSteady 73 = .ok (.aload_n 0, 1) := by decide +kernel
theorem dX12_isSteady_74 : decode cX12_isSteady 74 = .ok (.getfield 88, 3) := by decide +kernel
theorem dX12_isSteady_77 : decode cX12_isSteady 77 = .ok (.iconst 0, 1) := by decide +kernel
theorem dX12_isSteady_78 : decode cX12_isSteady 78 = .ok (.laload, 1) := by decide +kernel
theorem dX12_isSteady_79 : decode cX12_isSteady 79 = .ok (.invokestatic 271, 3) := by decide +kernel
theorem dX12_isSteady_82 : decode cX12_isSteady 82 = .ok (.aload_n 0, 1) := by decide +kernel
theorem dX12_isSteady_83 : decode cX12_isSteady 83 = .ok (.getfield 88, 3) := by decide +kernel
theorem dX12_isSteady_86 : decode cX12_isSteady 86 = .ok (.iload_n 2, 1) := by decide +kernel
theorem dX12_isSteady_87 : decode cX12_isSteady 87 = .ok (.laload, 1) := by decide +kernel
theorem dX12_isSteady_88 : decode cX12_isSteady 88 = .ok (.invokestatic 271, 3) := by decide +kernel
theorem dX12_isSteady_91 : decode cX12_isSteady 91 = .ok (.lcmp, 1) := by decide +kernel
theorem dX12_isSteady_92 : decode cX12_isSteady 92 = .ok (.ifCond .lt 5, 3) := by decide +kernel
theorem dX12_isSteady_95 : decode cX12_isSteady 95 = .ok (.iconst 0, 1) := by decide +kernel
theorem dX12_isSteady_96 : decode cX12_isSteady 96 = .ok (.ireturn, 1) := by decide +kernel
theorem dX12_isSteady_97 : decode cX12_isSteady 97 = .ok (.iconst 0, 1) := by decide +kernel
theorem dX12_isSteady_98 : decode cX12_isSteady 98 = .ok (.istore_n 3, 1) := by decide +kernel
theorem dX12_isSteady_99 : decode cX12_isSteady 99 = .ok (.iload_n 3, 1) := by decide +kernel
theorem dX12_isSteady_100 : decode cX12_isSteady 100 = .ok (.iload_n 2, 1) := by decide +kernel
theorem dX12_isSteady_101 : decode cX12_isSteady 101 = .ok (.if_icmp .ge 48, 3) := by decide +kernel
theorem dX12_isSteady_104 : decode cX12_isSteady 104 = .ok (.aload_n 0, 1) := by decide +kernel
theorem dX12_isSteady_105 : decode cX12_isSteady 105 = .ok (.getfield 91, 3) := by decide +kernel
theorem dX12_isSteady_108 : decode cX12_isSteady 108 = .ok (.iload_n 3, 1) := by decide +kernel
theorem dX12_isSteady_109 : decode cX12_isSteady 109 = .ok (.aload_n 0, 1) := by decide +kernel
theorem dX12_isSteady_110 : decode cX12_isSteady 110 = .ok (.getfield 88, 3) := by decide +kernel
theorem dX12_isSteady_113 : decode cX12_isSteady 113 = .ok (.iload_n 2, 1) := by decide +kernel
theorem dX12_isSteady_114 : decode cX12_isSteady 114 = .ok (.laload, 1) := by decide +kernel
theorem dX12_isSteady_115 : decode cX12_isSteady 115 = .ok (.aload_n 0, 1) := by decide +kernel
theorem dX12_isSteady_116 : decode cX12_isSteady 116 = .ok (.getfield 88, 3) := by decide +kernel
theorem dX12_isSteady_119 : decode cX12_isSteady 119 = .ok (.iload_n 3, 1) := by decide +kernel
theorem dX12_isSteady_120 : decode cX12_isSteady 120 = .ok (.iconst 1, 1) := by decide +kernel
theorem dX12_isSteady_121 : decode cX12_isSteady 121 = .ok (.iadd, 1) := by decide +kernel
theorem dX12_isSteady_122 : decode cX12_isSteady 122 = .ok (.laload, 1) := by decide +kernel
theorem dX12_isSteady_123 : decode cX12_isSteady 123 = .ok (.lmul, 1) := by decide +kernel
theorem dX12_isSteady_124 : decode cX12_isSteady 124 = .ok (.aload_n 0, 1) := by decide +kernel
theorem dX12_isSteady_125 : decode cX12_isSteady 125 = .ok (.getfield 88, 3) := by decide +kernel
theorem dX12_isSteady_128 : decode cX12_isSteady 128 = .ok (.iconst 0, 1) := by decide +kernel
theorem dX12_isSteady_129 : decode cX12_isSteady 129 = .ok (.laload, 1) := by decide +kernel
theorem dX12_isSteady_130 : decode cX12_isSteady 130 = .ok (.aload_n 0, 1) := by decide +kernel
theorem dX12_isSteady_131 : decode cX12_isSteady 131 = .ok (.getfield 88, 3) := by decide +kernel
theorem dX12_isSteady_134 : decode cX12_isSteady 134 = .ok (.iload_n 2, 1) := by decide +kernel
theorem dX12_isSteady_135 : decode cX12_isSteady 135 = .ok (.iconst 1, 1) := by decide +kernel
theorem dX12_isSteady_136 : decode cX12_isSteady 136 = .ok (.isub, 1) := by decide +kernel
theorem dX12_isSteady_137 : decode cX12_isSteady 137 = .ok (.iload_n 3, 1) := by decide +kernel
theorem dX12_isSteady_138 : decode cX12_isSteady 138 = .ok (.isub, 1) := by decide +kernel
theorem dX12_isSteady_139 : decode cX12_isSteady 139 = .ok (.laload, 1) := by decide +kernel
theorem dX12_isSteady_140 : decode cX12_isSteady 140 = .ok (.lmul, 1) := by decide +kernel
theorem dX12_isSteady_141 : decode cX12_isSteady 141 = .ok (.lsub, 1) := by decide +kernel
theorem dX12_isSteady_142 : decode cX12_isSteady 142 = .ok (.lastore, 1) := by decide +kernel
theorem dX12_isSteady_143 : decode cX12_isSteady 143 = .ok (.iinc 3 1, 3) := by decide +kernel
theorem dX12_isSteady_146 : decode cX12_isSteady 146 = .ok (.goto (-47), 3) := by decide +kernel
theorem dX12_isSteady_149 : decode cX12_isSteady 149 = .ok (.iinc 2 (-1), 3) := by decide +kernel
theorem dX12_isSteady_152 : decode cX12_isSteady 152 = .ok (.iconst 0, 1) := by decide +kernel
theorem dX12_isSteady_153 : decode cX12_isSteady 153 = .ok (.istore_n 3, 1) := by decide +kernel
theorem dX12_isSteady_154 : decode cX12_isSteady 154 = .ok (.iload_n 3, 1) := by decide +kernel
theorem dX12_isSteady_155 : decode cX12_isSteady 155 = .ok (.iload_n 2, 1) := by decide +kernel
theorem dX12_isSteady_156 : decode cX12_isSteady 156 = .ok (.if_icmp .gt 21, 3) := by decide +kernel
theorem dX12_isSteady_159 : decode cX12_isSteady 159 = .ok (.aload_n 0, 1) := by decide +kernel
theorem dX12_isSteady_160 : decode cX12_isSteady 160 = .ok (.getfield 88, 3) := by decide +kernel
theorem dX12_isSteady_163 : decode cX12_isSteady 163 = .ok (.iload_n 3, 1) := by decide +kernel
theorem dX12_isSteady_164 : decode cX12_isSteady 164 = .ok (.aload_n 0, 1) := by decide +kernel
theorem dX12_isSteady_165 : decode cX12_isSteady 165 = .ok (.getfield 91, 3) := by decide +kernel
theorem dX12_isSteady_168 : decode cX12_isSteady 168 = .ok (.iload_n 3, 1) := by decide +kernel
theorem dX12_isSteady_169 : decode cX12_isSteady 169 = .ok (.laload, 1) := by decide +kernel
theorem dX12_isSteady_170 : decode cX12_isSteady 170 = .ok (.lastore, 1) := by decide +kernel
theorem dX12_isSteady_171 : decode cX12_isSteady 171 = .ok (.iinc 3 1, 3) := by decide +kernel
theorem dX12_isSteady_174 : decode cX12_isSteady 174 = .ok (.goto (-20), 3) := by decide +kernel
theorem dX12_isSteady_177 : decode cX12_isSteady 177 = .ok (.goto (-109), 3) := by decide +kernel
theorem dX12_isSteady_180 : decode cX12_isSteady 180 = .ok (.iload_n 2, 1) := by decide +kernel
theorem dX12_isSteady_181 : decode cX12_isSteady 181 = .ok (.ifCond .le 27, 3) := by decide +kernel
theorem dX12_isSteady_184 : decode cX12_isSteady 184 = .ok (.aload_n 0, 1) := by decide +kernel
theorem dX12_isSteady_185 : decode cX12_isSteady 185 = .ok (.getfield 88, 3) := by decide +kernel
theorem dX12_isSteady_188 : decode cX12_isSteady 188 = .ok (.iconst 0, 1) := by decide +kernel
theorem dX12_isSteady_189 : decode cX12_isSteady 189 = .ok (.laload, 1) := by decide +kernel
theorem dX12_isSteady_190 : decode cX12_isSteady 190 = .ok (.invokestatic 271, 3) := by decide +kernel
theorem dX12_isSteady_193 : decode cX12_isSteady 193 = .ok (.aload_n 0, 1) := by decide +kernel
theorem dX12_isSteady_194 : decode cX12_isSteady 194 = .ok (.getfield 88, 3) := by decide +kernel
theorem dX12_isSteady_197 : decode cX12_isSteady 197 = .ok (.iload_n 2, 1) := by decide +kernel
theorem dX12_isSteady_198 : decode cX12_isSteady 198 = .ok (.laload, 1) := by decide +kernel
theorem dX12_isSteady_199 : decode cX12_isSteady 199 = .ok (.invokestatic 271, 3) := by decide +kernel
theorem dX12_isSteady_202 : decode cX12_isSteady 202 = .ok (.lcmp, 1) := by decide +kernel
theorem dX12_isSteady_203 : decode cX12_isSteady 203 = .ok (.ifCond .lt 5, 3) := by decide +kernel
theorem dX12_isSteady_206 : decode cX12_isSteady 206 = .ok (.iconst 0, 1) := by decide +kernel
theorem dX12_isSteady_207 : decode cX12_isSteady 207 = .ok (.ireturn, 1) := by decide +kernel
theorem dX12_isSteady_208 : decode cX12_isSteady 208 = .ok (.iload_n 2, 1) := by decide +kernel
theorem dX12_isSteady_209 : decode cX12_isSteady 209 = .ok (.iconst 2, 1) := by decide +kernel
theorem dX12_isSteady_210 : decode cX12_isSteady 210 = .ok (.if_icmp .lt 32, 3) := by decide +kernel
theorem dX12_isSteady_213 : decode cX12_isSteady 213 = .ok (.aload_n 0, 1) := by decide +kernel
theorem dX12_isSteady_214 : decode cX12_isSteady 214 = .ok (.getfield 88, 3) := by decide +kernel
theorem dX12_isSteady_217 : decode cX12_isSteady 217 = .ok (.iconst 1, 1) := by decide +kernel
theorem dX12_isSteady_218 : decode cX12_isSteady 218 = .ok (.laload, 1) := by decide +kernel
theorem dX12_isSteady_219 : decode cX12_isSteady 219 = .ok (.invokestatic 271, 3) := by decide +kernel
theorem dX12_isSteady_222 : decode cX12_isSteady 222 = .ok (.aload_n 0, 1) := by decide +kernel
theorem dX12_isSteady_223 : decode cX12_isSteady 223 = .ok (.getfield 88, 3) := by decide +kernel
theorem dX12_isSteady_226 : decode cX12_isSteady 226 = .ok (.iconst 2, 1) := by decide +kernel
theorem dX12_isSteady_227 : decode cX12_isSteady 227 = .ok (.laload, 1) := by decide +kernel
theorem dX12_isSteady_228 : decode cX12_isSteady 228 = .ok (.aload_n 0, 1) := by decide +kernel
theorem dX12_isSteady_229 : decode cX12_isSteady 229 = .ok (.getfield 88, 3) := by decide +kernel
theorem dX12_isSteady_232 : decode cX12_isSteady 232 = .ok (.iconst 0, 1) := by decide +kernel
theorem dX12_isSteady_233 : decode cX12_isSteady 233 = .ok (.laload, 1) := by decide +kernel
theorem dX12_isSteady_234 : decode cX12_isSteady 234 = .ok (.ladd, 1) := by decide +kernel
theorem dX12_isSteady_235 : decode cX12_isSteady 235 = .ok (.invokestatic 271, 3) := by decide +kernel
theorem dX12_isSteady_238 : decode cX12_isSteady 238 = .ok (.lcmp, 1) := by decide +kernel
theorem dX12_isSteady_239 : decode cX12_isSteady 239 = .ok (.ifCond .ge 7, 3) := by decide +kernel
theorem dX12_isSteady_242 : decode cX12_isSteady 242 = .ok (.iconst 1, 1) := by decide +kernel
theorem dX12_isSteady_243 : decode cX12_isSteady 243 = .ok (.goto 4, 3) := by decide +kernel
theorem dX12_isSteady_246 : decode cX12_isSteady 246 = .ok (.iconst 0, 1) := by decide +kernel
theorem dX12_isSteady_247 : decode cX12_isSteady 247 = .ok (.ireturn, 1) := by decide +kernel
set_option maxRecDepth 20000 in
theorem ggX12_steady_X12_in : GoodIn wsX12_steady wsX12_in := goodIn_r _ [5] (by decide +kernel) (by decide +kernel)
set_option maxRecDepth 20000 in
theorem gX12_steady_X12_in : GoodIn wsX12_steady (va_wsS RX12 130 yX12_in wsX12_in) := goodIn_app (goodIn_of _ (by decide +kernel)) ggX12_steady_X12_in
set_option maxRecDepth 20000 in
theorem ggX12_steady_X12_isSteady : GoodIn wsX12_steady wsX12_isSteady := goodIn_r _ [9, 10, 1, 11, 12, 13, 14, 4, 15, 16, 17, 18, 19, 20, 21, 22, 23, 24, 25, 26, 27, 28, 29, 30, 31, 32, 33, 34, 35, 36, 37, 38, 39, 40, 41, 42, 43, 44, 45, 46, 47, 48, 49, 50, 51, 52, 53, 54, 55, 56] (by decide +kernel) (by decide +kernel)
set_option maxRecDepth 20000 in
theorem gX12_steady_X12_isSteady : GoodIn wsX12_steady (wsV RX12 275 RX12 yX12_isSteady wsX12_isSteady) := goodIn_app (goodIn_of _ (by decide +kernel)) ggX12_steady_X12_isSteady
theorem dX12_steady_0 : decode cX12_steady 0 = .ok (.iload_n 1, 1) := by decide +kernel
theorem dX12_steady_1 : decode cX12_steady 1 = .ok (.i2l, 1) := by decide +kernel
theorem dX12_steady_2 : decode cX12_steady 2 = .ok (.lconst 0, 1) := by decide +kernel
theorem dX12_steady_3 : decode cX12_steady 3 = .ok (.ldc2_w 260, 3) := by decide +kernel
theorem dX12_steady_6 : decode cX12_steady 6 = .ok (.invokestatic 130, 3) := by decide +kernel
theorem dX12_steady_9 : decode cX12_steady 9 = .ok (.ifCond .ne 7, 3) := by decide +kernel
theorem dX12_steady_12 : decode cX12_steady 12 = .ok (.iconst (-1), 1) := by decide +kernel
theorem dX12_steady_13 : decode cX12_steady 13 = .ok (.goto 16, 3) := by decide +kernel
theorem dX12_steady_16 : decode cX12_steady 16 = .ok (.aload_n 0, 1) := by decide +kernel
theorem dX12_steady_17 : decode cX12_steady 17 = .ok (.iload_n 1, 1) := by decide +kernel
theorem dX12_steady_18 : decode cX12_steady 18 = .ok (.invokevirtual 275, 3) := by decide +kernel
theorem dX12_steady_21 : decode cX12_steady 21 = .ok (.ifCond .eq 7, 3) := by decide +kernel
theorem dX12_steady_24 : decode cX12_steady 24 = .ok (.iconst 1, 1) := by decide +kernel
theorem dX12_steady_25 : decode cX12_steady 25 = .ok (.goto 4, 3) := by decide +kernel
theorem dX12_steady_28 : decode cX12_steady 28 = .ok (.iconst 0, 1) := by decide +kernel
theorem dX12_steady_29 : decode cX12_steady 29 = .ok (.ireturn, 1) := by decide +kernel
set_option maxRecDepth 20000 in
theorem ggX12_unsteady_X12_in : GoodIn wsX12_unsteady wsX12_in := goodIn_r _ [5] (by decide +kernel) (by decide +kernel)
set_option maxRecDepth 20000 in
theorem gX12_unsteady_X12_in : GoodIn wsX12_unsteady (va_wsS RX12 130 yX12_in wsX12_in) := goodIn_app (goodIn_of _ (by decide +kernel)) ggX12_unsteady_X12_in
set_option maxRecDepth 20000 in
theorem ggX12_unsteady_X12_isSteady : GoodIn wsX12_unsteady wsX12_isSteady := goodIn_r _ [9, 10, 1, 11, 12, 13, 14, 4, 15, 16, 17, 18, 19, 20, 21, 22, 23, 24, 25, 26, 27, 28, 29, 30, 31, 32, 33, 34, 35, 36, 37, 38, 39, 40, 41, 42, 43, 44, 45, 46, 47, 48, 49, 50, 51, 52, 53, 54, 55, 56] (by decide +kernel) (by decide +kernel)
set_option maxRecDepth 20000 in
theorem gX12_unsteady_X12_isSteady : GoodIn wsX12_unsteady (wsV RX12 275 RX12 yX12_isSteady wsX12_isSteady) := goodIn_app (goodIn_of _ (by decide +kernel)) ggX12_unsteady_X12_isSteady
theorem dX12_unsteady_0 : decode cX12_unsteady 0 = .ok (.iload_n 1, 1) := by decide +kernel
theorem dX12_unsteady_1 : decode cX12_unsteady 1 = .ok (.i2l, 1) := by decide +kernel
theorem dX12_unsteady_2 : decode cX12_unsteady 2 = .ok (.lconst 0, 1) := by decide +kernel
theorem dX12_unsteady_3 : decode cX12_unsteady 3 = .ok (.iload_n 2, 1) := by decide +kernel
theorem dX12_unsteady_4 : decode cX12_unsteady 4 = .ok (.i2l, 1) := by decide +kernel
theorem dX12_unsteady_5 : decode cX12_unsteady 5 = .ok (.invokestatic 130, 3) := by decide +kernel
theorem dX12_unsteady_8 : decode cX12_unsteady 8 = .ok (.ifCond .eq 15, 3) := by decide +kernel
theorem dX12_unsteady_11 : decode cX12_unsteady 11 = .ok (.iload_n 2, 1) := by decide +kernel
theorem dX12_unsteady_12 : decode cX12_unsteady 12 = .ok (.i2l, 1) := by decide +kernel
theorem dX12_unsteady_13 : decode cX12_unsteady 13 = .ok (.lconst 0, 1) := by decide +kernel
theorem dX12_unsteady_14 : decode cX12_unsteady 14 = .ok (.ldc2_w 260, 3) := by decide +kernel
theorem dX12_unsteady_17 : decode cX12_unsteady 17 = .ok (.invokestatic 130, 3) := by decide +kernel
theorem dX12_unsteady_20 : decode cX12_unsteady 20 = .ok (.ifCond .ne 5, 3) := by decide +kernel
theorem dX12_unsteady_23 : decode cX12_unsteady 23 = .ok (.iconst (-1), 1) := by decide +kernel
theorem dX12_unsteady_24 : decode cX12_unsteady 24 = .ok (.ireturn, 1) := by decide +kernel
theorem dX12_unsteady_25 : decode cX12_unsteady 25 = .ok (.iload_n 1, 1) := by decide +kernel
theorem dX12_unsteady_26 : decode cX12_unsteady 26 = .ok (.istore_n 3, 1) := by decide +kernel
theorem dX12_unsteady_27 : decode cX12_unsteady 27 = .ok (.iload_n 3, 1) := by decide +kernel
theorem dX12_unsteady_28 : decode cX12_unsteady 28 = .ok (.iload_n 2, 1) := by decide +kernel
theorem dX12_unsteady_29 : decode cX12_unsteady 29 = .ok (.if_icmp .gt 19, 3) := by decide +kernel
theorem dX12_unsteady_32 : decode cX12_unsteady 32 = .ok (.aload_n 0, 1) := by decide +kernel
theorem dX12_unsteady_33 : decode cX12_unsteady 33 = .ok (.iload_n 3, 1) := by decide +kernel
theorem dX12_unsteady_34 : decode cX12_unsteady 34 = .ok (.invokevirtual 275, 3) := by decide +kernel
theorem dX12_unsteady_37 : decode cX12_unsteady 37 = .ok (.ifCond .ne 5, 3) := by decide +kernel
theorem dX12_unsteady_40 : decode cX12_unsteady 40 = .ok (.iload_n 3, 1) := by decide +kernel
theorem dX12_unsteady_41 : decode cX12_unsteady 41 = .ok (.ireturn, 1) := by decide +kernel
theorem dX12_unsteady_42 : decode cX12_unsteady 42 = .ok (.iinc 3 1, 3) := by decide +kernel
theorem dX12_unsteady_45 : decode cX12_unsteady 45 = .ok (.goto (-18), 3) := by decide +kernel
theorem dX12_unsteady_48 : decode cX12_unsteady 48 = .ok (.bipush (-4), 2) := by decide +kernel
theorem dX12_unsteady_50 : decode cX12_unsteady 50 = .ok (.ireturn, 1) := by decide +kernel
set_option maxRecDepth 20000 in
theorem ggX12_isLayer_X12_in : GoodIn wsX12_isLayer wsX12_in := goodIn_r _ [5] (by decide +kernel) (by decide +kernel)
set_option maxRecDepth 20000 in
theorem gX12_isLayer_X12_in : GoodIn wsX12_isLayer (va_wsS RX12 130 yX12_in wsX12_in) := goodIn_app (goodIn_of _ (by decide +kernel)) ggX12_isLayer_X12_in
theorem dX12_isLayer_0 : decode cX12_isLayer 0 = .ok (.iload_n 0, 1) := by decide +kernel
theorem dX12_isLayer_1 : decode cX12_isLayer 1 = .ok (.i2l, 1) := by decide +kernel
theorem dX12_isLayer_2 : decode cX12_isLayer 2 = .ok (.lconst 0, 1) := by decide +kernel
theorem dX12_isLayer_3 : decode cX12_isLayer 3 = .ok (.ldc2_w 265, 3) := by decide +kernel
theorem dX12_isLayer_6 : decode cX12_isLayer 6 = .ok (.invokestatic 130, 3) := by decide +kernel
theorem dX12_isLayer_9 : decode cX12_isLayer 9 = .ok (.ireturn, 1) := by decide +kernel
set_option maxRecDepth 20000 in
theorem ggX12_cell_X12_isLayer : GoodIn wsX12_cell wsX12_isLayer := goodIn_r _ [8, 9, 10, 11, 7, 12] (by decide +kernel) (by decide +kernel)
set_option maxRecDepth 20000 in
theorem gX12_cell_X12_isLayer : GoodIn wsX12_cell (va_wsS RX12 278 yX12_isLayer wsX12_isLayer) := goodIn_app (goodIn_of _ (by decide +kernel)) ggX12_cell_X12_isLayer
set_option maxRecDepth 20000 in
theorem ggX12_cell_X12_in : GoodIn wsX12_cell wsX12_in := goodIn_r _ [12] (by decide +kernel) (by decide +kernel)
set_option maxRecDepth 20000 in
theorem gX12_cell_X12_in : GoodIn wsX12_cell (va_wsS RX12 130 yX12_in wsX12_in) := goodIn_app (goodIn_of _ (by decide +kernel)) ggX12_cell_X12_in
theorem dX12_cell_0 : decode cX12_cell 0 = .ok (.iload_n 1, 1) := by decide +kernel
theorem dX12_cell_1 : decode cX12_cell 1 = .ok (.invokestatic 278, 3) := by decide +kernel
theorem dX12_cell_4 : decode cX12_cell 4 = .ok (.ifCond .eq 29, 3) := by decide +kernel
theorem dX12_cell_7 : decode cX12_cell 7 = .ok (.iload_n 2, 1) := by decide +kernel
theorem dX12_cell_8 : decode cX12_cell 8 = .ok (.i2l, 1) := by decide +kernel
theorem dX12_cell_9 : decode cX12_cell 9 = .ok (.lconst 0, 1) := by decide +kernel
theorem dX12_cell_10 : decode cX12_cell 10 = .ok (.ldc2_w 281, 3) := by decide +kernel
theorem dX12_cell_13 : decode cX12_cell 13 = .ok (.invokestatic 130, 3) := by decide +kernel
theorem dX12_cell_16 : decode cX12_cell 16 = .ok (.ifCond .eq 17, 3) := by decide +kernel
theorem dX12_cell_19 : decode cX12_cell 19 = .ok (.iload_n 3, 1) := by decide +kernel
theorem dX12_cell_20 : decode cX12_cell 20 = .ok (.i2l, 1) := by decide +kernel
theorem dX12_cell_21 : decode cX12_cell 21 = .ok (.ldc2_w 283, 3) := by decide +kernel
theorem dX12_cell_24 : decode cX12_cell 24 = .ok (.ldc2_w 178, 3) := by decide +kernel
theorem dX12_cell_27 : decode cX12_cell 27 = .ok (.invokestatic 130, 3) := by decide +kernel
theorem dX12_cell_30 : decode cX12_cell 30 = .ok (.ifCond .ne 7, 3) := by decide +kernel
theorem dX12_cell_33 : decode cX12_cell 33 = .ok (.sipush (-10001), 3) := by decide +kernel
theorem dX12_cell_36 : decode cX12_cell 36 = .ok (.ireturn, 1) := by decide +kernel
theorem dX12_cell_37 : decode cX12_cell 37 = .ok (.aload_n 0, 1) := by decide +kernel
theorem dX12_cell_38 : decode cX12_cell 38 = .ok (.getfield 94, 3) := by decide +kernel
theorem dX12_cell_41 : decode cX12_cell 41 = .ok (.bipush 32, 2) := by decide +kernel
theorem dX12_cell_43 : decode cX12_cell 43 = .ok (.iload_n 1, 1) := by decide +kernel
theorem dX12_cell_44 : decode cX12_cell 44 = .ok (.imul, 1) := by decide +kernel
theorem dX12_cell_45 : decode cX12_cell 45 = .ok (.iload_n 2, 1) := by decide +kernel
theorem dX12_cell_46 : decode cX12_cell 46 = .ok (.iadd, 1) := by decide +kernel
theorem dX12_cell_47 : decode cX12_cell 47 = .ok (.iaload, 1) := by decide +kernel
theorem dX12_cell_48 : decode cX12_cell 48 = .ok (.istore 4, 2) := by decide +kernel
theorem dX12_cell_50 : decode cX12_cell 50 = .ok (.aload_n 0, 1) := by decide +kernel
theorem dX12_cell_51 : decode cX12_cell 51 = .ok (.getfield 94, 3) := by decide +kernel
theorem dX12_cell_54 : decode cX12_cell 54 = .ok (.bipush 32, 2) := by decide +kernel
theorem dX12_cell_56 : decode cX12_cell 56 = .ok (.iload_n 1, 1) := by decide +kernel
theorem dX12_cell_57 : decode cX12_cell 57 = .ok (.imul, 1) := by decide +kernel
theorem dX12_cell_58 : decode cX12_cell 58 = .ok (.iload_n 2, 1) := by decide +kernel
theorem dX12_cell_59 : decode cX12_cell 59 = .ok (.iadd, 1) := by decide +kernel
theorem dX12_cell_60 : decode cX12_cell 60 = .ok (.iload_n 3, 1) := by decide +kernel
theorem dX12_cell_61 : decode cX12_cell 61 = .ok (.iastore, 1) := by decide +kernel
theorem dX12_cell_62 : decode cX12_cell 62 = .ok (.iload 4, 2) := by decide +kernel
theorem dX12_cell_64 : decode cX12_cell 64 = .ok (.ireturn, 1) := by decide +kernel
set_option maxRecDepth 20000 in
theorem ggX12_wind_X12_isLayer : GoodIn wsX12_wind wsX12_isLayer := goodIn_r _ [7, 8, 9, 10, 6, 11] (by decide +kernel) (by decide +kernel)
set_option maxRecDepth 20000 in
theorem gX12_wind_X12_isLayer : GoodIn wsX12_wind (va_wsS RX12 278 yX12_isLayer wsX12_isLayer) := goodIn_app (goodIn_of _ (by decide +kernel)) ggX12_wind_X12_isLayer
set_option maxRecDepth 20000 in
theorem ggX12_wind_X12_in : GoodIn wsX12_wind wsX12_in := goodIn_r _ [11] (by decide +kernel) (by decide +kernel)
set_option maxRecDepth 20000 in
theorem gX12_wind_X12_in : GoodIn wsX12_wind (va_wsS RX12 130 yX12_in wsX12_in) := goodIn_app (goodIn_of _ (by decide +kernel)) ggX12_wind_X12_in
theorem dX12_wind_0 : decode cX12_wind 0 = .ok (.iload_n 1, 1) := by decide +kernel
theorem dX12_wind_1 : decode cX12_wind 1 = .ok (.invokestatic 278, 3) := by decide +kernel
theorem dX12_wind_4 : decode cX12_wind 4 = .ok (.ifCond .eq 17, 3) := by decide +kernel
theorem dX12_wind_7 : decode cX12_wind 7 = .ok (.iload_n 2, 1) := by decide +kernel
theorem dX12_wind_8 : decode cX12_wind 8 = .ok (.i2l, 1) := by decide +kernel
theorem dX12_wind_9 : decode cX12_wind 9 = .ok (.ldc2_w 285, 3) := by decide +kernel
theorem dX12_wind_12 : decode cX12_wind 12 = .ok (.ldc2_w 281, 3) := by decide +kernel
theorem dX12_wind_15 : decode cX12_wind 15 = .ok (.invokestatic 130, 3) := by decide +kernel
theorem dX12_wind_18 : decode cX12_wind 18 = .ok (.ifCond .ne 7, 3) := by decide +kernel
theorem dX12_wind_21 : decode cX12_wind 21 = .ok (.sipush (-10001), 3) := by decide +kernel
theorem dX12_wind_24 : decode cX12_wind 24 = .ok (.ireturn, 1) := by decide +kernel
theorem dX12_wind_25 : decode cX12_wind 25 = .ok (.aload_n 0, 1) := by decide +kernel
theorem dX12_wind_26 : decode cX12_wind 26 = .ok (.getfield 97, 3) := by decide +kernel
theorem dX12_wind_29 : decode cX12_wind 29 = .ok (.iload_n 1, 1) := by decide +kernel
theorem dX12_wind_30 : decode cX12_wind 30 = .ok (.iaload, 1) := by decide +kernel
theorem dX12_wind_31 : decode cX12_wind 31 = .ok (.istore_n 3, 1) := by decide +kernel
theorem dX12_wind_32 : decode cX12_wind 32 = .ok (.aload_n 0, 1) := by decide +kernel
theorem dX12_wind_33 : decode cX12_wind 33 = .ok (.getfield 97, 3) := by decide +kernel
theorem dX12_wind_36 : decode cX12_wind 36 = .ok (.iload_n 1, 1) := by decide +kernel
theorem dX12_wind_37 : decode cX12_wind 37 = .ok (.iload_n 2, 1) := by decide +kernel
theorem dX12_wind_38 : decode cX12_wind 38 = .ok (.iastore, 1) := by decide +kernel
theorem dX12_wind_39 : decode cX12_wind 39 = .ok (.iload_n 3, 1) := by decide +kernel
theorem dX12_wind_40 : decode cX12_wind 40 = .ok (.ireturn, 1) := by decide +kernel
set_option maxRecDepth 20000 in
theorem ggX12_foretell_X12_isSpot : GoodIn wsX12_foretell wsX12_isSpot := goodIn_r _ [9, 10, 11, 12, 8, 13, 14, 15, 16, 17, 18, 19, 20, 21, 22, 23, 24, 25, 26, 27, 28, 29, 30, 31, 32, 33, 34, 35, 36, 37, 38, 39, 40, 41, 42, 43, 44, 45, 46, 47, 48, 49, 50, 51, 52, 53, 54] (by decide +kernel) (by decide +kernel)
set_option maxRecDepth 20000 in
theorem gX12_foretell_X12_isSpot : GoodIn wsX12_foretell (wsV RX12 136 RX12 yX12_isSpot wsX12_isSpot) := goodIn_app (goodIn_of _ (by decide +kernel)) ggX12_foretell_X12_isSpot
set_option maxRecDepth 20000 in
theorem ggX12_foretell_X12_in : GoodIn wsX12_foretell wsX12_in := goodIn_r _ [13] (by decide +kernel) (by decide +kernel)
set_option maxRecDepth 20000 in
theorem gX12_foretell_X12_in : GoodIn wsX12_foretell (va_wsS RX12 130 yX12_in wsX12_in) := goodIn_app (goodIn_of _ (by decide +kernel)) ggX12_foretell_X12_in
theorem dX12_foretell_0 : decode cX12_foretell 0 = .ok (.aload_n 0, 1) := by decide +kernel
theorem dX12_foretell_1 : decode cX12_foretell 1 = .ok (.iload_n 1, 1) := by decide +kernel
theorem dX12_foretell_2 : decode cX12_foretell 2 = .ok (.invokevirtual 136, 3) := by decide +kernel
theorem dX12_foretell_5 : decode cX12_foretell 5 = .ok (.ifCond .eq 15, 3) := by decide +kernel
theorem dX12_foretell_8 : decode cX12_foretell 8 = .ok (.iload_n 2, 1) := by decide +kernel
theorem dX12_foretell_9 : decode cX12_foretell 9 = .ok (.i2l, 1) := by decide +kernel
theorem dX12_foretell_10 : decode cX12_foretell 10 = .ok (.lconst 0, 1) := by decide +kernel
theorem dX12_foretell_11 : decode cX12_foretell 11 = .ok (.ldc2_w 232, 3) := by decide +kernel
theorem dX12_foretell_14 : decode cX12_foretell 14 = .ok (.invokestatic 130, 3) := by decide +kernel
theorem dX12_foretell_17 : decode cX12_foretell 17 = .ok (.ifCond .ne 7, 3) := by decide +kernel
theorem dX12_foretell_20 : decode cX12_foretell 20 = .ok (.sipush (-10001), 3) := by decide +kernel
theorem dX12_foretell_23 : decode cX12_foretell 23 = .ok (.ireturn, 1) := by decide +kernel
theorem dX12_foretell_24 : decode cX12_foretell 24 = .ok (.iconst 0, 1) := by decide +kernel
theorem dX12_foretell_25 : decode cX12_foretell 25 = .ok (.istore_n 3, 1) := by decide +kernel
theorem dX12_foretell_26 : decode cX12_foretell 26 = .ok (.iconst 0, 1) := by decide +kernel
theorem dX12_foretell_27 : decode cX12_foretell 27 = .ok (.istore 4, 2) := by decide +kernel
theorem dX12_foretell_29 : decode cX12_foretell 29 = .ok (.iload 4, 2) := by decide +kernel
theorem dX12_foretell_31 : decode cX12_foretell 31 = .ok (.iconst 3, 1) := by decide +kernel
theorem dX12_foretell_32 : decode cX12_foretell 32 = .ok (.if_icmp .ge 68, 3) := by decide +kernel
theorem dX12_foretell_35 : decode cX12_foretell 35 = .ok (.aload_n 0, 1) := by decide +kernel
theorem dX12_foretell_36 : decode cX12_foretell 36 = .ok (.getfield 26, 3) := by decide +kernel
theorem dX12_foretell_39 : decode cX12_foretell 39 = .ok (.bipush 6, 2) := by decide +kernel
theorem dX12_foretell_41 : decode cX12_foretell 41 = .ok (.iaload, 1) := by decide +kernel
theorem dX12_foretell_42 : decode cX12_foretell 42 = .ok (.iload_n 1, 1) := by decide +kernel
theorem dX12_foretell_43 : decode cX12_foretell 43 = .ok (.imul, 1) := by decide +kernel
theorem dX12_foretell_44 : decode cX12_foretell 44 = .ok (.aload_n 0, 1) := by decide +kernel
theorem dX12_foretell_45 : decode cX12_foretell 45 = .ok (.getfield 97, 3) := by decide +kernel
theorem dX12_foretell_48 : decode cX12_foretell 48 = .ok (.iload 4, 2) := by decide +kernel
theorem dX12_foretell_50 : decode cX12_foretell 50 = .ok (.iaload, 1) := by decide +kernel
theorem dX12_foretell_51 : decode cX12_foretell 51 = .ok (.iload_n 2, 1) := by decide +kernel
theorem dX12_foretell_52 : decode cX12_foretell 52 = .ok (.imul, 1) := by decide +kernel
theorem dX12_foretell_53 : decode cX12_foretell 53 = .ok (.iadd, 1) := by decide +kernel
theorem dX12_foretell_54 : decode cX12_foretell 54 = .ok (.bipush 31, 2) := by decide +kernel
theorem dX12_foretell_56 : decode cX12_foretell 56 = .ok (.iand, 1) := by decide +kernel
theorem dX12_foretell_57 : decode cX12_foretell 57 = .ok (.istore 5, 2) := by decide +kernel
theorem dX12_foretell_59 : decode cX12_foretell 59 = .ok (.iload_n 3, 1) := by decide +kernel
theorem dX12_foretell_60 : decode cX12_foretell 60 = .ok (.aload_n 0, 1) := by decide +kernel
theorem dX12_foretell_61 : decode cX12_foretell 61 = .ok (.getfield 94, 3) := by decide +kernel
theorem dX12_foretell_64 : decode cX12_foretell 64 = .ok (.bipush 32, 2) := by decide +kernel
theorem dX12_foretell_66 : decode cX12_foretell 66 = .ok (.iload 4, 2) := by decide +kernel
theorem dX12_foretell_68 : decode cX12_foretell 68 = .ok (.imul, 1) := by decide +kernel
theorem dX12_foretell_69 : decode cX12_foretell 69 = .ok (.iload 5, 2) := by decide +kernel
theorem dX12_foretell_71 : decode cX12_foretell 71 = .ok (.iconst 1, 1) := by decide +kernel
theorem dX12_foretell_72 : decode cX12_foretell 72 = .ok (.iadd, 1) := by decide +kernel
theorem dX12_foretell_73 : decode cX12_foretell 73 = .ok (.bipush 31, 2) := by decide +kernel
theorem dX12_foretell_75 : decode cX12_foretell 75 = .ok (.iand, 1) := by decide +kernel
theorem dX12_foretell_76 : decode cX12_foretell 76 = .ok (.iadd, 1) := by decide +kernel
theorem dX12_foretell_77 : decode cX12_foretell 77 = .ok (.iaload, 1) := by decide +kernel
theorem dX12_foretell_78 : decode cX12_foretell 78 = .ok (.aload_n 0, 1) := by decide +kernel
theorem dX12_foretell_79 : decode cX12_foretell 79 = .ok (.getfield 94, 3) := by decide +kernel
theorem dX12_foretell_82 : decode cX12_foretell 82 = .ok (.bipush 32, 2) := by decide +kernel
theorem dX12_foretell_84 : decode cX12_foretell 84 = .ok (.iload 4, 2) := by decide +kernel
theorem dX12_foretell_86 : decode cX12_foretell 86 = .ok (.imul, 1) := by decide +kernel
theorem dX12_foretell_87 : decode cX12_foretell 87 = .ok (.iload 5, 2) := by decide +kernel
theorem dX12_foretell_89 : decode cX12_foretell 89 = .ok (.iadd, 1) := by decide +kernel
theorem dX12_foretell_90 : decode cX12_foretell 90 = .ok (.iaload, 1) := by decide +kernel
theorem dX12_foretell_91 : decode cX12_foretell 91 = .ok (.isub, 1) := by decide +kernel
theorem dX12_foretell_92 : decode cX12_foretell 92 = .ok (.iadd, 1) := by decide +kernel
theorem dX12_foretell_93 : decode cX12_foretell 93 = .ok (.istore_n 3, 1) := by decide +kernel
theorem dX12_foretell_94 : decode cX12_foretell 94 = .ok (.iinc 4 1, 3) := by decide +kernel
theorem dX12_foretell_97 : decode cX12_foretell 97 = .ok (.goto (-68), 3) := by decide +kernel
theorem dX12_foretell_100 : decode cX12_foretell 100 = .ok (.iload_n 3, 1) := by decide +kernel
theorem dX12_foretell_101 : decode cX12_foretell 101 = .ok (.ireturn, 1) := by decide +kernel
set_option maxRecDepth 20000 in
theorem ggX12_guess_X12_isSheet : GoodIn wsX12_guess wsX12_isSheet := goodIn_r _ [9, 1, 10, 11, 12, 8, 13] (by decide +kernel) (by decide +kernel)
set_option maxRecDepth 20000 in
theorem gX12_guess_X12_isSheet : GoodIn wsX12_guess (va_wsS RX12 180 yX12_isSheet wsX12_isSheet) := goodIn_app (goodIn_of _ (by decide +kernel)) ggX12_guess_X12_isSheet
set_option maxRecDepth 20000 in
theorem ggX12_guess_X12_in : GoodIn wsX12_guess wsX12_in := goodIn_r _ [13] (by decide +kernel) (by decide +kernel)
set_option maxRecDepth 20000 in
theorem gX12_guess_X12_in : GoodIn wsX12_guess (va_wsS RX12 130 yX12_in wsX12_in) := goodIn_app (goodIn_of _ (by decide +kernel)) ggX12_guess_X12_in
set_option maxRecDepth 20000 in
theorem ggX12_guess_X12_size : GoodIn wsX12_guess wsX12_size := goodIn_r _ [16] (by decide +kernel) (by decide +kernel)
set_option maxRecDepth 20000 in
theorem gX12_guess_X12_size : GoodIn wsX12_guess (va_wsS RX12 271 yX12_size wsX12_size) := goodIn_app (goodIn_of _ (by decide +kernel)) ggX12_guess_X12_size
theorem dX12_guess_0 : decode cX12_guess 0 = .ok (.iload_n 1, 1) := by decide +kernel
theorem dX12_guess_1 : decode cX12_guess 1 = .ok (.iload_n 3, 1) := by decide +kernel
theorem dX12_guess_2 : decode cX12_guess 2 = .ok (.invokestatic 180, 3) := by decide +kernel
theorem dX12_guess_5 : decode cX12_guess 5 = .ok (.ifCond .eq 15, 3) := by decide +kernel
theorem dX12_guess_8 : decode cX12_guess 8 = .ok (.iload_n 2, 1) := by decide +kernel
theorem dX12_guess_9 : decode cX12_guess 9 = .ok (.i2l, 1) := by decide +kernel
theorem dX12_guess_10 : decode cX12_guess 10 = .ok (.lconst 0, 1) := by decide +kernel
theorem dX12_guess_11 : decode cX12_guess 11 = .ok (.ldc2_w 159, 3) := by decide +kernel
theorem dX12_guess_14 : decode cX12_guess 14 = .ok (.invokestatic 130, 3) := by decide +kernel
theorem dX12_guess_17 : decode cX12_guess 17 = .ok (.ifCond .ne 5, 3) := by decide +kernel
theorem dX12_guess_20 : decode cX12_guess 20 = .ok (.iconst (-1), 1) := by decide +kernel
theorem dX12_guess_21 : decode cX12_guess 21 = .ok (.ireturn, 1) := by decide +kernel
theorem dX12_guess_22 : decode cX12_guess 22 = .ok (.aload_n 0, 1) := by decide +kernel
theorem dX12_guess_23 : decode cX12_guess 23 = .ok (.getfield 100, 3) := by decide +kernel
theorem dX12_guess_26 : decode cX12_guess 26 = .ok (.iload_n 1, 1) := by decide +kernel
theorem dX12_guess_27 : decode cX12_guess 27 = .ok (.iaload, 1) := by decide +kernel
theorem dX12_guess_28 : decode cX12_guess 28 = .ok (.ifCond .lt 12, 3) := by decide +kernel
theorem dX12_guess_31 : decode cX12_guess 31 = .ok (.aload_n 0, 1) := by decide +kernel
theorem dX12_guess_32 : decode cX12_guess 32 = .ok (.getfield 100, 3) := by decide +kernel
theorem dX12_guess_35 : decode cX12_guess 35 = .ok (.iload_n 2, 1) := by decide +kernel
theorem dX12_guess_36 : decode cX12_guess 36 = .ok (.iaload, 1) := by decide +kernel
theorem dX12_guess_37 : decode cX12_guess 37 = .ok (.ifCond .ge 6, 3) := by decide +kernel
theorem dX12_guess_40 : decode cX12_guess 40 = .ok (.bipush (-11), 2) := by decide +kernel
theorem dX12_guess_42 : decode cX12_guess 42 = .ok (.ireturn, 1) := by decide +kernel
theorem dX12_guess_43 : decode cX12_guess 43 = .ok (.aload_n 0, 1) := by decide +kernel
theorem dX12_guess_44 : decode cX12_guess 44 = .ok (.getfield 100, 3) := by decide +kernel
theorem dX12_guess_47 : decode cX12_guess 47 = .ok (.iload_n 1, 1) := by decide +kernel
theorem dX12_guess_48 : decode cX12_guess 48 = .ok (.iaload, 1) := by decide +kernel
theorem dX12_guess_49 : decode cX12_guess 49 = .ok (.iload_n 3, 1) := by decide +kernel
theorem dX12_guess_50 : decode cX12_guess 50 = .ok (.if_icmp .ne 13, 3) := by decide +kernel
theorem dX12_guess_53 : decode cX12_guess 53 = .ok (.aload_n 0, 1) := by decide +kernel
theorem dX12_guess_54 : decode cX12_guess 54 = .ok (.getfield 100, 3) := by decide +kernel
theorem dX12_guess_57 : decode cX12_guess 57 = .ok (.iload_n 2, 1) := by decide +kernel
theorem dX12_guess_58 : decode cX12_guess 58 = .ok (.iaload, 1) := by decide +kernel
theorem dX12_guess_59 : decode cX12_guess 59 = .ok (.iload_n 3, 1) := by decide +kernel
theorem dX12_guess_60 : decode cX12_guess 60 = .ok (.if_icmp .eq 6, 3) := by decide +kernel
theorem dX12_guess_63 : decode cX12_guess 63 = .ok (.bipush (-12), 2) := by decide +kernel
theorem dX12_guess_65 : decode cX12_guess 65 = .ok (.ireturn, 1) := by decide +kernel
theorem dX12_guess_66 : decode cX12_guess 66 = .ok (.aload_n 0, 1) := by decide +kernel
theorem dX12_guess_67 : decode cX12_guess 67 = .ok (.getfield 103, 3) := by decide +kernel
theorem dX12_guess_70 : decode cX12_guess 70 = .ok (.iload_n 1, 1) := by decide +kernel
theorem dX12_guess_71 : decode cX12_guess 71 = .ok (.iaload, 1) := by decide +kernel
theorem dX12_guess_72 : decode cX12_guess 72 = .ok (.bipush 32, 2) := by decide +kernel
theorem dX12_guess_74 : decode cX12_guess 74 = .ok (.if_icmp .lt 14, 3) := by decide +kernel
theorem dX12_guess_77 : decode cX12_guess 77 = .ok (.aload_n 0, 1) := by decide +kernel
theorem dX12_guess_78 : decode cX12_guess 78 = .ok (.getfield 103, 3) := by decide +kernel
theorem dX12_guess_81 : decode cX12_guess 81 = .ok (.iload_n 2, 1) := by decide +kernel
theorem dX12_guess_82 : decode cX12_guess 82 = .ok (.iaload, 1) := by decide +kernel
theorem dX12_guess_83 : decode cX12_guess 83 = .ok (.bipush 32, 2) := by decide +kernel
theorem dX12_guess_85 : decode cX12_guess 85 = .ok (.if_icmp .ge 6, 3) := by decide +kernel
theorem dX12_guess_88 : decode cX12_guess 88 = .ok (.bipush (-13), 2) := by decide +kernel
theorem dX12_guess_90 : decode cX12_guess 90 = .ok (.ireturn, 1) := by decide +kernel
theorem dX12_guess_91 : decode cX12_guess 91 = .ok (.iconst 0, 1) := by decide +kernel
theorem dX12_guess_92 : decode cX12_guess 92 = .ok (.istore 4, 2) := by decide +kernel
theorem dX12_guess_94 : decode cX12_guess 94 = .ok (.ldc2_w 237, 3) := by decide +kernel
theorem dX12_guess_97 : decode cX12_guess 97 = .ok (.lstore 5, 2) := by decide +kernel
theorem dX12_guess_99 : decode cX12_guess 99 = .ok (.iconst 0, 1) := by decide +kernel
theorem dX12_guess_100 : decode cX12_guess 100 = .ok (.istore 7, 2) := by decide +kernel
theorem dX12_guess_102 : decode cX12_guess 102 = .ok (.iload 7, 2) := by decide +kernel
theorem dX12_guess_104 : decode cX12_guess 104 = .ok (.bipush 32, 2) := by decide +kernel
theorem dX12_guess_106 : decode cX12_guess 106 = .ok (.if_icmp .ge 92, 3) := by decide +kernel
theorem dX12_guess_109 : decode cX12_guess 109 = .ok (.lconst 0, 1) := by decide +kernel
theorem dX12_guess_110 : decode cX12_guess 110 = .ok (.lstore 8, 2) := by decide +kernel
theorem dX12_guess_112 : decode cX12_guess 112 = .ok (.iconst 0, 1) := by decide +kernel
theorem dX12_guess_113 : decode cX12_guess 113 = .ok (.istore 10, 2) := by decide +kernel
theorem dX12_guess_115 : decode cX12_guess 115 = .ok (.iload 10, 2) := by decide +kernel
theorem dX12_guess_117 : decode cX12_guess 117 = .ok (.bipush 32, 2) := by decide +kernel
theorem dX12_guess_119 : decode cX12_guess 119 = .ok (.if_icmp .ge 50, 3) := by decide +kernel
theorem dX12_guess_122 : decode cX12_guess 122 = .ok (.lload 8, 2) := by decide +kernel
theorem dX12_guess_124 : decode cX12_guess 124 = .ok (.aload_n 0, 1) := by decide +kernel
theorem dX12_guess_125 : decode cX12_guess 125 = .ok (.getfield 106, 3) := by decide +kernel
theorem dX12_guess_128 : decode cX12_guess 128 = .ok (.bipush 40, 2) := by decide +kernel
theorem dX12_guess_130 : decode cX12_guess 130 = .ok (.iload_n 1, 1) := by decide +kernel
theorem dX12_guess_131 : decode cX12_guess 131 = .ok (.imul, 1) := by decide +kernel
theorem dX12_guess_132 : decode cX12_guess 132 = .ok (.iload 10, 2) := by decide +kernel
theorem dX12_guess_134 : decode cX12_guess 134 = .ok (.iadd, 1) := by decide +kernel
theorem dX12_guess_135 : decode cX12_guess 135 = .ok (.iaload, 1) := by decide +kernel
theorem dX12_guess_136 : decode cX12_guess 136 = .ok (.i2l, 1) := by decide +kernel
theorem dX12_guess_137 : decode cX12_guess 137 = .ok (.aload_n 0, 1) := by decide +kernel
theorem dX12_guess_138 : decode cX12_guess 138 = .ok (.getfield 106, 3) := by decide +kernel
theorem dX12_guess_141 : decode cX12_guess 141 = .ok (.bipush 40, 2) := by decide +kernel
theorem dX12_guess_143 : decode cX12_guess 143 = .ok (.iload_n 2, 1) := by decide +kernel
theorem dX12_guess_144 : decode cX12_guess 144 = .ok (.imul, 1) := by decide +kernel
theorem dX12_guess_145 : decode cX12_guess 145 = .ok (.iload 10, 2) := by decide +kernel
theorem dX12_guess_147 : decode cX12_guess 147 = .ok (.iload 7, 2) := by decide +kernel
theorem dX12_guess_149 : decode cX12_guess 149 = .ok (.iadd, 1) := by decide +kernel
theorem dX12_guess_150 : decode cX12_guess 150 = .ok (.bipush 32, 2) := by decide +kernel
theorem dX12_guess_152 : decode cX12_guess 152 = .ok (.irem, 1) := by decide +kernel
theorem dX12_guess_153 : decode cX12_guess 153 = .ok (.iadd, 1) := by decide +kernel
theorem dX12_guess_154 : decode cX12_guess 154 = .ok (.iaload, 1) := by decide +kernel
theorem dX12_guess_155 : decode cX12_guess 155 = .ok (.i2l, 1) := by decide +kernel
theorem dX12_guess_156 : decode cX12_guess 156 = .ok (.lsub, 1) := by decide +kernel
theorem dX12_guess_157 : decode cX12_guess 157 = .ok (.invokestatic 271, 3) := by decide +kernel
theorem dX12_guess_160 : decode cX12_guess 160 = .ok (.ladd, 1) := by decide +kernel
theorem dX12_guess_161 : decode cX12_guess 161 = .ok (.lstore 8, 2) := by decide +kernel
theorem dX12_guess_163 : decode cX12_guess 163 = .ok (.iinc 10 1, 3) := by decide +kernel
theorem dX12_guess_166 : decode cX12_guess 166 = .ok (.goto (-51), 3) := by decide +kernel
theorem dX12_guess_169 : decode cX12_guess 169 = .ok (.lload 5, 2) := by decide +kernel
theorem dX12_guess_171 : decode cX12_guess 171 = .ok (.lconst 0, 1) := by decide +kernel
theorem dX12_guess_172 : decode cX12_guess 172 = .ok (.lcmp, 1) := by decide +kernel
theorem dX12_guess_173 : decode cX12_guess 173 = .ok (.ifCond .lt 11, 3) := by decide +kernel
theorem dX12_guess_176 : decode cX12_guess 176 = .ok (.lload 8, 2) := by decide +kernel
theorem dX12_guess_178 : decode cX12_guess 178 = .ok (.lload 5, 2) := by decide +kernel
theorem dX12_guess_180 : decode cX12_guess 180 = .ok (.lcmp, 1) := by decide +kernel
theorem dX12_guess_181 : decode cX12_guess 181 = .ok (.ifCond .ge 11, 3) := by decide +kernel
theorem dX12_guess_184 : decode cX12_guess 184 = .ok (.lload 8, 2) := by decide +kernel
theorem dX12_guess_186 : decode cX12_guess 186 = .ok (.lstore 5, 2) := by decide +kernel
theorem dX12_guess_188 : decode cX12_guess 188 = .ok (.iload 7, 2) := by decide +kernel
theorem dX12_guess_190 : decode cX12_guess 190 = .ok (.istore 4, 2) := by decide +kernel
theorem dX12_guess_192 : decode cX12_guess 192 = .ok (.iinc 7 1, 3) := by decide +kernel
theorem dX12_guess_195 : decode cX12_guess 195 = .ok (.goto (-93), 3) := by decide +kernel
theorem dX12_guess_198 : decode cX12_guess 198 = .ok (.iload 4, 2) := by decide +kernel
theorem dX12_guess_200 : decode cX12_guess 200 = .ok (.ireturn, 1) := by decide +kernel
set_option maxRecDepth 20000 in
theorem ggX12_isSheet_X12_in : GoodIn wsX12_isSheet wsX12_in := goodIn_r _ [6] (by decide +kernel) (by decide +kernel)
set_option maxRecDepth 20000 in
theorem gX12_isSheet_X12_in : GoodIn wsX12_isSheet (va_wsS RX12 130 yX12_in wsX12_in) := goodIn_app (goodIn_of _ (by decide +kernel)) ggX12_isSheet_X12_in
theorem dX12_isSheet_0 : decode cX12_isSheet 0 = .ok (.iload_n 0, 1) := by decide +kernel
theorem dX12_isSheet_1 : decode cX12_isSheet 1 = .ok (.i2l, 1) := by decide +kernel
theorem dX12_isSheet_2 : decode cX12_isSheet 2 = .ok (.lconst 0, 1) := by decide +kernel
theorem dX12_isSheet_3 : decode cX12_isSheet 3 = .ok (.ldc2_w 159, 3) := by decide +kernel
theorem dX12_isSheet_6 : decode cX12_isSheet 6 = .ok (.invokestatic 130, 3) := by decide +kernel
theorem dX12_isSheet_9 : decode cX12_isSheet 9 = .ok (.ifCond .eq 19, 3) := by decide +kernel
theorem dX12_isSheet_12 : decode cX12_isSheet 12 = .ok (.iload_n 1, 1) := by decide +kernel
theorem dX12_isSheet_13 : decode cX12_isSheet 13 = .ok (.i2l, 1) := by decide +kernel
theorem dX12_isSheet_14 : decode cX12_isSheet 14 = .ok (.lconst 0, 1) := by decide +kernel
theorem dX12_isSheet_15 : decode cX12_isSheet 15 = .ok (.ldc2_w 265, 3) := by decide +kernel
theorem dX12_isSheet_18 : decode cX12_isSheet 18 = .ok (.invokestatic 130, 3) := by decide +kernel
theorem dX12_isSheet_21 : decode cX12_isSheet 21 = .ok (.ifCond .eq 7, 3) := by decide +kernel
theorem dX12_isSheet_24 : decode cX12_isSheet 24 = .ok (.iconst 1, 1) := by decide +kernel
theorem dX12_isSheet_25 : decode cX12_isSheet 25 = .ok (.goto 4, 3) := by decide +kernel
theorem dX12_isSheet_28 : decode cX12_isSheet 28 = .ok (.iconst 0, 1) := by decide +kernel
theorem dX12_isSheet_29 : decode cX12_isSheet 29 = .ok (.ireturn, 1) := by decide +kernel
set_option maxRecDepth 20000 in
theorem ggX12_sheet_X12_isSheet : GoodIn wsX12_sheet wsX12_isSheet := goodIn_r _ [7, 8, 9, 10, 11, 6, 12] (by decide +kernel) (by decide +kernel)
set_option maxRecDepth 20000 in
theorem gX12_sheet_X12_isSheet : GoodIn wsX12_sheet (va_wsS RX12 180 yX12_isSheet wsX12_isSheet) := goodIn_app (goodIn_of _ (by decide +kernel)) ggX12_sheet_X12_isSheet
theorem dX12_sheet_0 : decode cX12_sheet 0 = .ok (.iload_n 1, 1) := by decide +kernel
theorem dX12_sheet_1 : decode cX12_sheet 1 = .ok (.iload_n 2, 1) := by decide +kernel
theorem dX12_sheet_2 : decode cX12_sheet 2 = .ok (.invokestatic 180, 3) := by decide +kernel
theorem dX12_sheet_5 : decode cX12_sheet 5 = .ok (.ifCond .eq 9, 3) := by decide +kernel
theorem dX12_sheet_8 : decode cX12_sheet 8 = .ok (.iload_n 3, 1) := by decide +kernel
theorem dX12_sheet_9 : decode cX12_sheet 9 = .ok (.bipush 40, 2) := by decide +kernel
theorem dX12_sheet_11 : decode cX12_sheet 11 = .ok (.if_icmp .le 5, 3) := by decide +kernel
theorem dX12_sheet_14 : decode cX12_sheet 14 = .ok (.iconst (-1), 1) := by decide +kernel
theorem dX12_sheet_15 : decode cX12_sheet 15 = .ok (.ireturn, 1) := by decide +kernel
theorem dX12_sheet_16 : decode cX12_sheet 16 = .ok (.iload_n 3, 1) := by decide +kernel
theorem dX12_sheet_17 : decode cX12_sheet 17 = .ok (.ifCond .ge 6, 3) := by decide +kernel
theorem dX12_sheet_20 : decode cX12_sheet 20 = .ok (.bipush (-14), 2) := by decide +kernel
theorem dX12_sheet_22 : decode cX12_sheet 22 = .ok (.ireturn, 1) := by decide +kernel
theorem dX12_sheet_23 : decode cX12_sheet 23 = .ok (.aload_n 0, 1) := by decide +kernel
theorem dX12_sheet_24 : decode cX12_sheet 24 = .ok (.getfield 100, 3) := by decide +kernel
theorem dX12_sheet_27 : decode cX12_sheet 27 = .ok (.iload_n 1, 1) := by decide +kernel
theorem dX12_sheet_28 : decode cX12_sheet 28 = .ok (.iload_n 2, 1) := by decide +kernel
theorem dX12_sheet_29 : decode cX12_sheet 29 = .ok (.iastore, 1) := by decide +kernel
theorem dX12_sheet_30 : decode cX12_sheet 30 = .ok (.aload_n 0, 1) := by decide +kernel
theorem dX12_sheet_31 : decode cX12_sheet 31 = .ok (.getfield 103, 3) := by decide +kernel
theorem dX12_sheet_34 : decode cX12_sheet 34 = .ok (.iload_n 1, 1) := by decide +kernel
theorem dX12_sheet_35 : decode cX12_sheet 35 = .ok (.iload_n 3, 1) := by decide +kernel
theorem dX12_sheet_36 : decode cX12_sheet 36 = .ok (.iastore, 1) := by decide +kernel
theorem dX12_sheet_37 : decode cX12_sheet 37 = .ok (.iconst 0, 1) := by decide +kernel
theorem dX12_sheet_38 : decode cX12_sheet 38 = .ok (.istore 4, 2) := by decide +kernel
theorem dX12_sheet_40 : decode cX12_sheet 40 = .ok (.iload 4, 2) := by decide +kernel
theorem dX12_sheet_42 : decode cX12_sheet 42 = .ok (.bipush 40, 2) := by decide +kernel
theorem dX12_sheet_44 : decode cX12_sheet 44 = .ok (.if_icmp .ge 22, 3) := by decide +kernel
theorem dX12_sheet_47 : decode cX12_sheet 47 = .ok (.aload_n 0, 1) := by decide +kernel
theorem dX12_sheet_48 : decode cX12_sheet 48 = .ok (.getfield 106, 3) := by decide +kernel
theorem dX12_sheet_51 : decode cX12_sheet 51 = .ok (.bipush 40, 2) := by decide +kernel
theorem dX12_sheet_53 : decode cX12_sheet 53 = .ok (.iload_n 1, 1) := by decide +kernel
theorem dX12_sheet_54 : decode cX12_sheet 54 = .ok (.imul, 1) := by decide +kernel
theorem dX12_sheet_55 : decode cX12_sheet 55 = .ok (.iload 4, 2) := by decide +kernel
theorem dX12_sheet_57 : decode cX12_sheet 57 = .ok (.iadd, 1) := by decide +kernel
theorem dX12_sheet_58 : decode cX12_sheet 58 = .ok (.iconst 0, 1) := by decide +kernel
theorem dX12_sheet_59 : decode cX12_sheet 59 = .ok (.iastore, 1) := by decide +kernel
theorem dX12_sheet_60 : decode cX12_sheet 60 = .ok (.iinc 4 1, 3) := by decide +kernel
theorem dX12_sheet_63 : decode cX12_sheet 63 = .ok (.goto (-23), 3) := by decide +kernel
theorem dX12_sheet_66 : decode cX12_sheet 66 = .ok (.iload_n 3, 1) := by decide +kernel
theorem dX12_sheet_67 : decode cX12_sheet 67 = .ok (.ireturn, 1) := by decide +kernel
set_option maxRecDepth 20000 in
theorem ggX12_drop_X12_in : GoodIn wsX12_drop wsX12_in := goodIn_r _ [7] (by decide +kernel) (by decide +kernel)
set_option maxRecDepth 20000 in
theorem gX12_drop_X12_in : GoodIn wsX12_drop (va_wsS RX12 130 yX12_in wsX12_in) := goodIn_app (goodIn_of _ (by decide +kernel)) ggX12_drop_X12_in
theorem dX12_drop_0 : decode cX12_drop 0 = .ok (.iload_n 1, 1) := by decide +kernel
theorem dX12_drop_1 : decode cX12_drop 1 = .ok (.i2l, 1) := by decide +kernel
theorem dX12_drop_2 : decode cX12_drop 2 = .ok (.lconst 0, 1) := by decide +kernel
theorem dX12_drop_3 : decode cX12_drop 3 = .ok (.ldc2_w 159, 3) := by decide +kernel
theorem dX12_drop_6 : decode cX12_drop 6 = .ok (.invokestatic 130, 3) := by decide +kernel
theorem dX12_drop_9 : decode cX12_drop 9 = .ok (.ifCond .ne 5, 3) := by decide +kernel
theorem dX12_drop_12 : decode cX12_drop 12 = .ok (.iconst (-1), 1) := by decide +kernel
theorem dX12_drop_13 : decode cX12_drop 13 = .ok (.ireturn, 1) := by decide +kernel
theorem dX12_drop_14 : decode cX12_drop 14 = .ok (.aload_n 0, 1) := by decide +kernel
theorem dX12_drop_15 : decode cX12_drop 15 = .ok (.getfield 100, 3) := by decide +kernel
theorem dX12_drop_18 : decode cX12_drop 18 = .ok (.iload_n 1, 1) := by decide +kernel
theorem dX12_drop_19 : decode cX12_drop 19 = .ok (.iaload, 1) := by decide +kernel
theorem dX12_drop_20 : decode cX12_drop 20 = .ok (.ifCond .ge 6, 3) := by decide +kernel
theorem dX12_drop_23 : decode cX12_drop 23 = .ok (.bipush (-11), 2) := by decide +kernel
theorem dX12_drop_25 : decode cX12_drop 25 = .ok (.ireturn, 1) := by decide +kernel
theorem dX12_drop_26 : decode cX12_drop 26 = .ok (.aload_n 0, 1) := by decide +kernel
theorem dX12_drop_27 : decode cX12_drop 27 = .ok (.getfield 100, 3) := by decide +kernel
theorem dX12_drop_30 : decode cX12_drop 30 = .ok (.iload_n 1, 1) := by decide +kernel
theorem dX12_drop_31 : decode cX12_drop 31 = .ok (.iconst (-1), 1) := by decide +kernel
theorem dX12_drop_32 : decode cX12_drop 32 = .ok (.iastore, 1) := by decide +kernel
theorem dX12_drop_33 : decode cX12_drop 33 = .ok (.aload_n 0, 1) := by decide +kernel
theorem dX12_drop_34 : decode cX12_drop 34 = .ok (.getfield 103, 3) := by decide +kernel
theorem dX12_drop_37 : decode cX12_drop 37 = .ok (.iload_n 1, 1) := by decide +kernel
theorem dX12_drop_38 : decode cX12_drop 38 = .ok (.iaload, 1) := by decide +kernel
theorem dX12_drop_39 : decode cX12_drop 39 = .ok (.ireturn, 1) := by decide +kernel
set_option maxRecDepth 20000 in
theorem ggX12_against_X12_in : GoodIn wsX12_against wsX12_in := goodIn_r _ [6] (by decide +kernel) (by decide +kernel)
set_option maxRecDepth 20000 in
theorem gX12_against_X12_in : GoodIn wsX12_against (va_wsS RX12 130 yX12_in wsX12_in) := goodIn_app (goodIn_of _ (by decide +kernel)) ggX12_against_X12_in
theorem dX12_against_0 : decode cX12_against 0 = .ok (.aload_n 0, 1) := by decide +kernel
theorem dX12_against_1 : decode cX12_against 1 = .ok (.getfield 100, 3) := by decide +kernel
theorem dX12_against_4 : decode cX12_against 4 = .ok (.iload_n 1, 1) := by decide +kernel
theorem dX12_against_5 : decode cX12_against 5 = .ok (.iaload, 1) := by decide +kernel
theorem dX12_against_6 : decode cX12_against 6 = .ok (.iload_n 2, 1) := by decide +kernel
theorem dX12_against_7 : decode cX12_against 7 = .ok (.if_icmp .eq 20, 3) := by decide +kernel
theorem dX12_against_10 : decode cX12_against 10 = .ok (.aload_n 0, 1) := by decide +kernel
theorem dX12_against_11 : decode cX12_against 11 = .ok (.getfield 100, 3) := by decide +kernel
theorem dX12_against_14 : decode cX12_against 14 = .ok (.iload_n 1, 1) := by decide +kernel
theorem dX12_against_15 : decode cX12_against 15 = .ok (.iaload, 1) := by decide +kernel
theorem dX12_against_16 : decode cX12_against 16 = .ok (.ifCond .ge 8, 3) := by decide +kernel
theorem dX12_against_19 : decode cX12_against 19 = .ok (.bipush (-11), 2) := by decide +kernel
theorem dX12_against_21 : decode cX12_against 21 = .ok (.goto 5, 3) := by decide +kernel
theorem dX12_against_24 : decode cX12_against 24 = .ok (.bipush (-12), 2) := by decide +kernel
theorem dX12_against_26 : decode cX12_against 26 = .ok (.ireturn, 1) := by decide +kernel
theorem dX12_against_27 : decode cX12_against 27 = .ok (.iload_n 3, 1) := by decide +kernel
theorem dX12_against_28 : decode cX12_against 28 = .ok (.i2l, 1) := by decide +kernel
theorem dX12_against_29 : decode cX12_against 29 = .ok (.lconst 0, 1) := by decide +kernel
theorem dX12_against_30 : decode cX12_against 30 = .ok (.aload_n 0, 1) := by decide +kernel
theorem dX12_against_31 : decode cX12_against 31 = .ok (.getfield 103, 3) := by decide +kernel
theorem dX12_against_34 : decode cX12_against 34 = .ok (.iload_n 1, 1) := by decide +kernel
theorem dX12_against_35 : decode cX12_against 35 = .ok (.iaload, 1) := by decide +kernel
theorem dX12_against_36 : decode cX12_against 36 = .ok (.iload 4, 2) := by decide +kernel
theorem dX12_against_38 : decode cX12_against 38 = .ok (.isub, 1) := by decide +kernel
theorem dX12_against_39 : decode cX12_against 39 = .ok (.i2l, 1) := by decide +kernel
theorem dX12_against_40 : decode cX12_against 40 = .ok (.invokestatic 130, 3) := by decide +kernel
theorem dX12_against_43 : decode cX12_against 43 = .ok (.ifCond .eq 7, 3) := by decide +kernel
theorem dX12_against_46 : decode cX12_against 46 = .ok (.iconst 0, 1) := by decide +kernel
theorem dX12_against_47 : decode cX12_against 47 = .ok (.goto 5, 3) := by decide +kernel
theorem dX12_against_50 : decode cX12_against 50 = .ok (.bipush (-13), 2) := by decide +kernel
theorem dX12_against_52 : decode cX12_against 52 = .ok (.ireturn, 1) := by decide +kernel
set_option maxRecDepth 20000 in
theorem ggX12_item_X12_isSheet : GoodIn wsX12_item wsX12_isSheet := goodIn_r _ [5, 6, 7, 8, 9, 4, 10] (by decide +kernel) (by decide +kernel)
set_option maxRecDepth 20000 in
theorem gX12_item_X12_isSheet : GoodIn wsX12_item (va_wsS RX12 180 yX12_isSheet wsX12_isSheet) := goodIn_app (goodIn_of _ (by decide +kernel)) ggX12_item_X12_isSheet
set_option maxRecDepth 20000 in
theorem ggX12_item_X12_against : GoodIn wsX12_item wsX12_against := goodIn_r _ [14, 15, 16, 8, 9, 4, 10, 17, 18, 19, 20, 21, 22, 23, 24, 25, 26, 27, 28, 29, 30, 31, 32, 33, 34, 35, 36, 37, 38, 39, 40, 41, 42, 43, 44, 45, 46, 47, 48, 49, 50, 51, 52, 53, 54, 55, 56, 57] (by decide +kernel) (by decide +kernel)
set_option maxRecDepth 20000 in
theorem gX12_item_X12_against : GoodIn wsX12_item (wsV RX12 184 RX12 yX12_against wsX12_against) := goodIn_app (goodIn_of _ (by decide +kernel)) ggX12_item_X12_against
theorem dX12_item_0 : decode cX12_item 0 = .ok (.iload_n 1, 1) := by decide +kernel
theorem dX12_item_1 : decode cX12_item 1 = .ok (.iload_n 2, 1) := by decide +kernel
theorem dX12_item_2 : decode cX12_item 2 = .ok (.invokestatic 180, 3) := by decide +kernel
theorem dX12_item_5 : decode cX12_item 5 = .ok (.ifCond .ne 5, 3) := by decide +kernel
theorem dX12_item_8 : decode cX12_item 8 = .ok (.iconst (-1), 1) := by decide +kernel
theorem dX12_item_9 : decode cX12_item 9 = .ok (.ireturn, 1) := by decide +kernel
theorem dX12_item_10 : decode cX12_item 10 = .ok (.aload_n 0, 1) := by decide +kernel
theorem dX12_item_11 : decode cX12_item 11 = .ok (.iload_n 1, 1) := by decide +kernel
theorem dX12_item_12 : decode cX12_item 12 = .ok (.iload_n 2, 1) := by decide +kernel
theorem dX12_item_13 : decode cX12_item 13 = .ok (.iload_n 3, 1) := by decide +kernel
theorem dX12_item_14 : decode cX12_item 14 = .ok (.iconst 1, 1) := by decide +kernel
theorem dX12_item_15 : decode cX12_item 15 = .ok (.invokevirtual 184, 3) := by decide +kernel
theorem dX12_item_18 : decode cX12_item 18 = .ok (.istore 5, 2) := by decide +kernel
theorem dX12_item_20 : decode cX12_item 20 = .ok (.iload 5, 2) := by decide +kernel
theorem dX12_item_22 : decode cX12_item 22 = .ok (.ifCond .ge 6, 3) := by decide +kernel
theorem dX12_item_25 : decode cX12_item 25 = .ok (.iload 5, 2) := by decide +kernel
theorem dX12_item_27 : decode cX12_item 27 = .ok (.ireturn, 1) := by decide +kernel
theorem dX12_item_28 : decode cX12_item 28 = .ok (.aload_n 0, 1) := by decide +kernel
theorem dX12_item_29 : decode cX12_item 29 = .ok (.getfield 106, 3) := by decide +kernel
theorem dX12_item_32 : decode cX12_item 32 = .ok (.bipush 40, 2) := by decide +kernel
theorem dX12_item_34 : decode cX12_item 34 = .ok (.iload_n 1, 1) := by decide +kernel
theorem dX12_item_35 : decode cX12_item 35 = .ok (.imul, 1) := by decide +kernel
theorem dX12_item_36 : decode cX12_item 36 = .ok (.iload_n 3, 1) := by decide +kernel
theorem dX12_item_37 : decode cX12_item 37 = .ok (.iadd, 1) := by decide +kernel
theorem dX12_item_38 : decode cX12_item 38 = .ok (.iload_n 2, 1) := by decide +kernel
theorem dX12_item_39 : decode cX12_item 39 = .ok (.ifCond .ne 14, 3) := by decide +kernel
theorem dX12_item_42 : decode cX12_item 42 = .ok (.iload 4, 2) := by decide +kernel
theorem dX12_item_44 : decode cX12_item 44 = .ok (.bipush 24, 2) := by decide +kernel
theorem dX12_item_46 : decode cX12_item 46 = .ok (.ishl, 1) := by decide +kernel
theorem dX12_item_47 : decode cX12_item 47 = .ok (.bipush 24, 2) := by decide +kernel
theorem dX12_item_49 : decode cX12_item 49 = .ok (.ishr, 1) := by decide +kernel
theorem dX12_item_50 : decode cX12_item 50 = .ok (.goto 21, 3) := by decide +kernel
theorem dX12_item_53 : decode cX12_item 53 = .ok (.iload_n 2, 1) := by decide +kernel
theorem dX12_item_54 : decode cX12_item 54 = .ok (.iconst 1, 1) := by decide +kernel
theorem dX12_item_55 : decode cX12_item 55 = .ok (.if_icmp .ne 14, 3) := by decide +kernel
theorem dX12_item_58 : decode cX12_item 58 = .ok (.iload 4, 2) := by decide +kernel
theorem dX12_item_60 : decode cX12_item 60 = .ok (.bipush 16, 2) := by decide +kernel
theorem dX12_item_62 : decode cX12_item 62 = .ok (.ishl, 1) := by decide +kernel
theorem dX12_item_63 : decode cX12_item 63 = .ok (.bipush 16, 2) := by decide +kernel
theorem dX12_item_65 : decode cX12_item 65 = .ok (.ishr, 1) := by decide +kernel
theorem dX12_item_66 : decode cX12_item 66 = .ok (.goto 5, 3) := by decide +kernel
theorem dX12_item_69 : decode cX12_item 69 = .ok (.iload 4, 2) := by decide +kernel
theorem dX12_item_71 : decode cX12_item 71 = .ok (.iastore, 1) := by decide +kernel
theorem dX12_item_72 : decode cX12_item 72 = .ok (.iconst 1, 1) := by decide +kernel
theorem dX12_item_73 : decode cX12_item 73 = .ok (.ireturn, 1) := by decide +kernel
set_option maxRecDepth 20000 in
theorem ggX12_board_X12_isSpot : GoodIn wsX12_board wsX12_isSpot := goodIn_r _ [8, 9, 10, 11, 7, 12, 24, 25, 26, 27, 28, 29, 30, 31, 32, 33, 34, 35, 36, 37, 38, 39, 40, 41, 42, 43, 44, 45, 46, 47, 48, 49, 50, 51, 52, 53, 54, 55, 56, 57, 58, 59, 60, 61, 62, 63, 64] (by decide +kernel) (by decide +kernel)
set_option maxRecDepth 20000 in
theorem gX12_board_X12_isSpot : GoodIn wsX12_board (wsV RX12 136 RX12 yX12_isSpot wsX12_isSpot) := goodIn_app (goodIn_of _ (by decide +kernel)) ggX12_board_X12_isSpot
set_option maxRecDepth 20000 in
theorem ggX12_board_X12_isSheet : GoodIn wsX12_board wsX12_isSheet := goodIn_r _ [15, 16, 17, 10, 11, 7, 12] (by decide +kernel) (by decide +kernel)
set_option maxRecDepth 20000 in
theorem gX12_board_X12_isSheet : GoodIn wsX12_board (va_wsS RX12 180 yX12_isSheet wsX12_isSheet) := goodIn_app (goodIn_of _ (by decide +kernel)) ggX12_board_X12_isSheet
set_option maxRecDepth 20000 in
theorem ggX12_board_X12_against : GoodIn wsX12_board wsX12_against := goodIn_r _ [21, 22, 23, 10, 11, 7, 12, 24, 25, 26, 27, 28, 29, 30, 31, 32, 33, 34, 35, 36, 37, 38, 39, 40, 41, 42, 43, 44, 45, 46, 47, 48, 49, 50, 51, 52, 53, 54, 55, 56, 57, 58, 59, 60, 61, 62, 63, 64] (by decide +kernel) (by decide +kernel)
set_option maxRecDepth 20000 in
theorem gX12_board_X12_against : GoodIn wsX12_board (wsV RX12 184 RX12 yX12_against wsX12_against) := goodIn_app (goodIn_of _ (by decide +kernel)) ggX12_board_X12_against
set_option maxRecDepth 20000 in
theorem ggX12_board_X12_in : GoodIn wsX12_board wsX12_in := goodIn_r _ [12] (by decide +kernel) (by decide +kernel)
set_option maxRecDepth 20000 in
theorem gX12_board_X12_in : GoodIn wsX12_board (va_wsS RX12 130 yX12_in wsX12_in) := goodIn_app (goodIn_of _ (by decide +kernel)) ggX12_board_X12_in
theorem dX12_board_0 : decode cX12_board 0 = .ok (.aload_n 0, 1) := by decide +kernel
theorem dX12_board_1 : decode cX12_board 1 = .ok (.iload_n 1, 1) := by decide +kernel
theorem dX12_board_2 : decode cX12_board 2 = .ok (.invokevirtual 136, 3) := by decide +kernel
theorem dX12_board_5 : decode cX12_board 5 = .ok (.ifCond .eq 11, 3) := by decide +kernel
theorem dX12_board_8 : decode cX12_board 8 = .ok (.iload_n 2, 1) := by decide +kernel
theorem dX12_board_9 : decode cX12_board 9 = .ok (.iload_n 3, 1) := by decide +kernel
theorem dX12_board_10 : decode cX12_board 10 = .ok (.invokestatic 180, 3) := by decide +kernel
theorem dX12_board_13 : decode cX12_board 13 = .ok (.ifCond .ne 5, 3) := by decide +kernel
theorem dX12_board_16 : decode cX12_board 16 = .ok (.iconst (-1), 1) := by decide +kernel
theorem dX12_board_17 : decode cX12_board 17 = .ok (.ireturn, 1) := by decide +kernel
theorem dX12_board_18 : decode cX12_board 18 = .ok (.aload_n 0, 1) := by decide +kernel
theorem dX12_board_19 : decode cX12_board 19 = .ok (.iload_n 2, 1) := by decide +kernel
theorem dX12_board_20 : decode cX12_board 20 = .ok (.iload_n 3, 1) := by decide +kernel
theorem dX12_board_21 : decode cX12_board 21 = .ok (.iload 4, 2) := by decide +kernel
theorem dX12_board_23 : decode cX12_board 23 = .ok (.bipush 16, 2) := by decide +kernel
theorem dX12_board_25 : decode cX12_board 25 = .ok (.invokevirtual 184, 3) := by decide +kernel
theorem dX12_board_28 : decode cX12_board 28 = .ok (.istore 5, 2) := by decide +kernel
theorem dX12_board_30 : decode cX12_board 30 = .ok (.iload 5, 2) := by decide +kernel
theorem dX12_board_32 : decode cX12_board 32 = .ok (.ifCond .ge 6, 3) := by decide +kernel
theorem dX12_board_35 : decode cX12_board 35 = .ok (.iload 5, 2) := by decide +kernel
theorem dX12_board_37 : decode cX12_board 37 = .ok (.ireturn, 1) := by decide +kernel
theorem dX12_board_38 : decode cX12_board 38 = .ok (.bipush 40, 2) := by decide +kernel
theorem dX12_board_40 : decode cX12_board 40 = .ok (.iload_n 2, 1) := by decide +kernel
theorem dX12_board_41 : decode cX12_board 41 = .ok (.imul, 1) := by decide +kernel
theorem dX12_board_42 : decode cX12_board 42 = .ok (.iload 4, 2) := by decide +kernel
theorem dX12_board_44 : decode cX12_board 44 = .ok (.iadd, 1) := by decide +kernel
theorem dX12_board_45 : decode cX12_board 45 = .ok (.istore 6, 2) := by decide +kernel
theorem dX12_board_47 : decode cX12_board 47 = .ok (.iconst 0, 1) := by decide +kernel
theorem dX12_board_48 : decode cX12_board 48 = .ok (.istore 7, 2) := by decide +kernel
theorem dX12_board_50 : decode cX12_board 50 = .ok (.iload 7, 2) := by decide +kernel
theorem dX12_board_52 : decode cX12_board 52 = .ok (.bipush 16, 2) := by decide +kernel
theorem dX12_board_54 : decode cX12_board 54 = .ok (.if_icmp .ge 37, 3) := by decide +kernel
theorem dX12_board_57 : decode cX12_board 57 = .ok (.iload_n 3, 1) := by decide +kernel
theorem dX12_board_58 : decode cX12_board 58 = .ok (.ifCond .le 27, 3) := by decide +kernel
theorem dX12_board_61 : decode cX12_board 61 = .ok (.aload_n 0, 1) := by decide +kernel
theorem dX12_board_62 : decode cX12_board 62 = .ok (.getfield 106, 3) := by decide +kernel
theorem dX12_board_65 : decode cX12_board 65 = .ok (.iload 6, 2) := by decide +kernel
theorem dX12_board_67 : decode cX12_board 67 = .ok (.iload 7, 2) := by decide +kernel
theorem dX12_board_69 : decode cX12_board 69 = .ok (.iadd, 1) := by decide +kernel
theorem dX12_board_70 : decode cX12_board 70 = .ok (.iaload, 1) := by decide +kernel
theorem dX12_board_71 : decode cX12_board 71 = .ok (.i2l, 1) := by decide +kernel
theorem dX12_board_72 : decode cX12_board 72 = .ok (.lconst 0, 1) := by decide +kernel
theorem dX12_board_73 : decode cX12_board 73 = .ok (.ldc2_w 142, 3) := by decide +kernel
theorem dX12_board_76 : decode cX12_board 76 = .ok (.invokestatic 130, 3) := by decide +kernel
theorem dX12_board_79 : decode cX12_board 79 = .ok (.ifCond .ne 6, 3) := by decide +kernel
theorem dX12_board_82 : decode cX12_board 82 = .ok (.bipush (-2), 2) := by decide +kernel
theorem dX12_board_84 : decode cX12_board 84 = .ok (.ireturn, 1) := by decide +kernel
theorem dX12_board_85 : decode cX12_board 85 = .ok (.iinc 7 1, 3) := by decide +kernel
theorem dX12_board_88 : decode cX12_board 88 = .ok (.goto (-38), 3) := by decide +kernel
theorem dX12_board_91 : decode cX12_board 91 = .ok (.iconst 0, 1) := by decide +kernel
theorem dX12_board_92 : decode cX12_board 92 = .ok (.istore 7, 2) := by decide +kernel
theorem dX12_board_94 : decode cX12_board 94 = .ok (.iload 7, 2) := by decide +kernel
theorem dX12_board_96 : decode cX12_board 96 = .ok (.bipush 16, 2) := by decide +kernel
theorem dX12_board_98 : decode cX12_board 98 = .ok (.if_icmp .ge 35, 3) := by decide +kernel
theorem dX12_board_101 : decode cX12_board 101 = .ok (.aload_n 0, 1) := by decide +kernel
theorem dX12_board_102 : decode cX12_board 102 = .ok (.getfield 16, 3) := by decide +kernel
theorem dX12_board_105 : decode cX12_board 105 = .ok (.bipush 16, 2) := by decide +kernel
theorem dX12_board_107 : decode cX12_board 107 = .ok (.iload_n 1, 1) := by decide +kernel
theorem dX12_board_108 : decode cX12_board 108 = .ok (.imul, 1) := by decide +kernel
theorem dX12_board_109 : decode cX12_board 109 = .ok (.iload 7, 2) := by decide +kernel
theorem dX12_board_111 : decode cX12_board 111 = .ok (.iadd, 1) := by decide +kernel
theorem dX12_board_112 : decode cX12_board 112 = .ok (.aload_n 0, 1) := by decide +kernel
theorem dX12_board_113 : decode cX12_board 113 = .ok (.getfield 106, 3) := by decide +kernel
theorem dX12_board_116 : decode cX12_board 116 = .ok (.iload 6, 2) := by decide +kernel
theorem dX12_board_118 : decode cX12_board 118 = .ok (.iload 7, 2) := by decide +kernel
theorem dX12_board_120 : decode cX12_board 120 = .ok (.iadd, 1) := by decide +kernel
theorem dX12_board_121 : decode cX12_board 121 = .ok (.iaload, 1) := by decide +kernel
theorem dX12_board_122 : decode cX12_board 122 = .ok (.sipush 255, 3) := by decide +kernel
theorem dX12_board_125 : decode cX12_board 125 = .ok (.iand, 1) := by decide +kernel
theorem dX12_board_126 : decode cX12_board 126 = .ok (.iastore, 1) := by decide +kernel
theorem dX12_board_127 : decode cX12_board 127 = .ok (.iinc 7 1, 3) := by decide +kernel
theorem dX12_board_130 : decode cX12_board 130 = .ok (.goto (-36), 3) := by decide +kernel
theorem dX12_board_133 : decode cX12_board 133 = .ok (.iconst 1, 1) := by decide +kernel
theorem dX12_board_134 : decode cX12_board 134 = .ok (.ireturn, 1) := by decide +kernel
set_option maxRecDepth 20000 in
theorem ggX12_layer_X12_isLayer : GoodIn wsX12_layer wsX12_isLayer := goodIn_r _ [8, 9, 10, 11, 7, 12] (by decide +kernel) (by decide +kernel)
set_option maxRecDepth 20000 in
theorem gX12_layer_X12_isLayer : GoodIn wsX12_layer (va_wsS RX12 278 yX12_isLayer wsX12_isLayer) := goodIn_app (goodIn_of _ (by decide +kernel)) ggX12_layer_X12_isLayer
set_option maxRecDepth 20000 in
theorem ggX12_layer_X12_isSheet : GoodIn wsX12_layer wsX12_isSheet := goodIn_r _ [15, 16, 9, 10, 11, 7, 12] (by decide +kernel) (by decide +kernel)
set_option maxRecDepth 20000 in
theorem gX12_layer_X12_isSheet : GoodIn wsX12_layer (va_wsS RX12 180 yX12_isSheet wsX12_isSheet) := goodIn_app (goodIn_of _ (by decide +kernel)) ggX12_layer_X12_isSheet
set_option maxRecDepth 20000 in
theorem ggX12_layer_X12_against : GoodIn wsX12_layer wsX12_against := goodIn_r _ [20, 21, 22, 10, 11, 7, 12, 23, 24, 25, 26, 27, 28, 29, 30, 31, 32, 33, 34, 35, 36, 37, 38, 39, 40, 41, 42, 43, 44, 45, 46, 47, 48, 49, 50, 51, 52, 53, 54, 55, 56, 57, 58, 59, 60, 61, 62, 63] (by decide +kernel) (by decide +kernel)
set_option maxRecDepth 20000 in
theorem gX12_layer_X12_against : GoodIn wsX12_layer (wsV RX12 184 RX12 yX12_against wsX12_against) := goodIn_app (goodIn_of _ (by decide +kernel)) ggX12_layer_X12_against
set_option maxRecDepth 20000 in
theorem ggX12_layer_X12_in : GoodIn wsX12_layer wsX12_in := goodIn_r _ [12] (by decide +kernel) (by decide +kernel)
set_option maxRecDepth 20000 in
theorem gX12_layer_X12_in : GoodIn wsX12_layer (va_wsS RX12 130 yX12_in wsX12_in) := goodIn_app (goodIn_of _ (by decide +kernel)) ggX12_layer_X12_in
theorem dX12_layer_0 : decode cX12_layer 0 = .ok (.iload_n 1, 1) := by decide +kernel
theorem dX12_layer_1 : decode cX12_layer 1 = .ok (.invokestatic 278, 3) := by decide +kernel
theorem dX12_layer_4 : decode cX12_layer 4 = .ok (.ifCond .eq 11, 3) := by decide +kernel
theorem dX12_layer_7 : decode cX12_layer 7 = .ok (.iload_n 2, 1) := by decide +kernel
theorem dX12_layer_8 : decode cX12_layer 8 = .ok (.iload_n 3, 1) := by decide +kernel
theorem dX12_layer_9 : decode cX12_layer 9 = .ok (.invokestatic 180, 3) := by decide +kernel
theorem dX12_layer_12 : decode cX12_layer 12 = .ok (.ifCond .ne 5, 3) := by decide +kernel
theorem dX12_layer_15 : decode cX12_layer 15 = .ok (.iconst (-1), 1) := by decide +kernel
theorem dX12_layer_16 : decode cX12_layer 16 = .ok (.ireturn, 1) := by decide +kernel
theorem dX12_layer_17 : decode cX12_layer 17 = .ok (.aload_n 0, 1) := by decide +kernel
theorem dX12_layer_18 : decode cX12_layer 18 = .ok (.iload_n 2, 1) := by decide +kernel
theorem dX12_layer_19 : decode cX12_layer 19 = .ok (.iload_n 3, 1) := by decide +kernel
theorem dX12_layer_20 : decode cX12_layer 20 = .ok (.iload 4, 2) := by decide +kernel
theorem dX12_layer_22 : decode cX12_layer 22 = .ok (.bipush 32, 2) := by decide +kernel
theorem dX12_layer_24 : decode cX12_layer 24 = .ok (.invokevirtual 184, 3) := by decide +kernel
theorem dX12_layer_27 : decode cX12_layer 27 = .ok (.istore 5, 2) := by decide +kernel
theorem dX12_layer_29 : decode cX12_layer 29 = .ok (.iload 5, 2) := by decide +kernel
theorem dX12_layer_31 : decode cX12_layer 31 = .ok (.ifCond .ge 6, 3) := by decide +kernel
theorem dX12_layer_34 : decode cX12_layer 34 = .ok (.iload 5, 2) := by decide +kernel
theorem dX12_layer_36 : decode cX12_layer 36 = .ok (.ireturn, 1) := by decide +kernel
theorem dX12_layer_37 : decode cX12_layer 37 = .ok (.bipush 40, 2) := by decide +kernel
theorem dX12_layer_39 : decode cX12_layer 39 = .ok (.iload_n 2, 1) := by decide +kernel
theorem dX12_layer_40 : decode cX12_layer 40 = .ok (.imul, 1) := by decide +kernel
theorem dX12_layer_41 : decode cX12_layer 41 = .ok (.iload 4, 2) := by decide +kernel
theorem dX12_layer_43 : decode cX12_layer 43 = .ok (.iadd, 1) := by decide +kernel
theorem dX12_layer_44 : decode cX12_layer 44 = .ok (.istore 6, 2) := by decide +kernel
theorem dX12_layer_46 : decode cX12_layer 46 = .ok (.iconst 0, 1) := by decide +kernel
theorem dX12_layer_47 : decode cX12_layer 47 = .ok (.istore 7, 2) := by decide +kernel
theorem dX12_layer_49 : decode cX12_layer 49 = .ok (.iload 7, 2) := by decide +kernel
theorem dX12_layer_51 : decode cX12_layer 51 = .ok (.bipush 32, 2) := by decide +kernel
theorem dX12_layer_53 : decode cX12_layer 53 = .ok (.if_icmp .ge 35, 3) := by decide +kernel
theorem dX12_layer_56 : decode cX12_layer 56 = .ok (.aload_n 0, 1) := by decide +kernel
theorem dX12_layer_57 : decode cX12_layer 57 = .ok (.getfield 106, 3) := by decide +kernel
theorem dX12_layer_60 : decode cX12_layer 60 = .ok (.iload 6, 2) := by decide +kernel
theorem dX12_layer_62 : decode cX12_layer 62 = .ok (.iload 7, 2) := by decide +kernel
theorem dX12_layer_64 : decode cX12_layer 64 = .ok (.iadd, 1) := by decide +kernel
theorem dX12_layer_65 : decode cX12_layer 65 = .ok (.iaload, 1) := by decide +kernel
theorem dX12_layer_66 : decode cX12_layer 66 = .ok (.i2l, 1) := by decide +kernel
theorem dX12_layer_67 : decode cX12_layer 67 = .ok (.ldc2_w 283, 3) := by decide +kernel
theorem dX12_layer_70 : decode cX12_layer 70 = .ok (.ldc2_w 178, 3) := by decide +kernel
theorem dX12_layer_73 : decode cX12_layer 73 = .ok (.invokestatic 130, 3) := by decide +kernel
theorem dX12_layer_76 : decode cX12_layer 76 = .ok (.ifCond .ne 6, 3) := by decide +kernel
theorem dX12_layer_79 : decode cX12_layer 79 = .ok (.bipush (-2), 2) := by decide +kernel
theorem dX12_layer_81 : decode cX12_layer 81 = .ok (.ireturn, 1) := by decide +kernel
theorem dX12_layer_82 : decode cX12_layer 82 = .ok (.iinc 7 1, 3) := by decide +kernel
theorem dX12_layer_85 : decode cX12_layer 85 = .ok (.goto (-36), 3) := by decide +kernel
theorem dX12_layer_88 : decode cX12_layer 88 = .ok (.iconst 0, 1) := by decide +kernel
theorem dX12_layer_89 : decode cX12_layer 89 = .ok (.istore 7, 2) := by decide +kernel
theorem dX12_layer_91 : decode cX12_layer 91 = .ok (.iload 7, 2) := by decide +kernel
theorem dX12_layer_93 : decode cX12_layer 93 = .ok (.bipush 32, 2) := by decide +kernel
theorem dX12_layer_95 : decode cX12_layer 95 = .ok (.if_icmp .ge 31, 3) := by decide +kernel
theorem dX12_layer_98 : decode cX12_layer 98 = .ok (.aload_n 0, 1) := by decide +kernel
theorem dX12_layer_99 : decode cX12_layer 99 = .ok (.getfield 94, 3) := by decide +kernel
theorem dX12_layer_102 : decode cX12_layer 102 = .ok (.bipush 32, 2) := by decide +kernel
theorem dX12_layer_104 : decode cX12_layer 104 = .ok (.iload_n 1, 1) := by decide +kernel
theorem dX12_layer_105 : decode cX12_layer 105 = .ok (.imul, 1) := by decide +kernel
theorem dX12_layer_106 : decode cX12_layer 106 = .ok (.iload 7, 2) := by decide +kernel
theorem dX12_layer_108 : decode cX12_layer 108 = .ok (.iadd, 1) := by decide +kernel
theorem dX12_layer_109 : decode cX12_layer 109 = .ok (.aload_n 0, 1) := by decide +kernel
theorem dX12_layer_110 : decode cX12_layer 110 = .ok (.getfield 106, 3) := by decide +kernel
theorem dX12_layer_113 : decode cX12_layer 113 = .ok (.iload 6, 2) := by decide +kernel
theorem dX12_layer_115 : decode cX12_layer 115 = .ok (.iload 7, 2) := by decide +kernel
theorem dX12_layer_117 : decode cX12_layer 117 = .ok (.iadd, 1) := by decide +kernel
theorem dX12_layer_118 : decode cX12_layer 118 = .ok (.iaload, 1) := by decide +kernel
theorem dX12_layer_119 : decode cX12_layer 119 = .ok (.iastore, 1) := by decide +kernel
theorem dX12_layer_120 : decode cX12_layer 120 = .ok (.iinc 7 1, 3) := by decide +kernel
theorem dX12_layer_123 : decode cX12_layer 123 = .ok (.goto (-32), 3) := by decide +kernel
theorem dX12_layer_126 : decode cX12_layer 126 = .ok (.bipush 32, 2) := by decide +kernel
theorem dX12_layer_128 : decode cX12_layer 128 = .ok (.ireturn, 1) := by decide +kernel
theorem dJ6_bitCount_0f7a4_0 : decode cJ6_bitCount_0f7a4 0 = .ok (.iload_n 0, 1) := by decide +kernel
theorem dJ6_bitCount_0f7a4_1 : decode cJ6_bitCount_0f7a4 1 = .ok (.iload_n 0, 1) := by decide +kernel
theorem dJ6_bitCount_0f7a4_2 : decode cJ6_bitCount_0f7a4 2 = .ok (.iconst 1, 1) := by decide +kernel
theorem dJ6_bitCount_0f7a4_3 : decode cJ6_bitCount_0f7a4 3 = .ok (.iushr, 1) := by decide +kernel
theorem dJ6_bitCount_0f7a4_4 : decode cJ6_bitCount_0f7a4 4 = .ok (.ldc_w 265, 3) := by decide +kernel
theorem dJ6_bitCount_0f7a4_7 : decode cJ6_bitCount_0f7a4 7 = .ok (.iand, 1) := by decide +kernel
theorem dJ6_bitCount_0f7a4_8 : decode cJ6_bitCount_0f7a4 8 = .ok (.isub, 1) := by decide +kernel
theorem dJ6_bitCount_0f7a4_9 : decode cJ6_bitCount_0f7a4 9 = .ok (.istore_n 0, 1) := by decide +kernel
theorem dJ6_bitCount_0f7a4_10 : decode cJ6_bitCount_0f7a4 10 = .ok (.iload_n 0, 1) := by decide +kernel
theorem dJ6_bitCount_0f7a4_11 : decode cJ6_bitCount_0f7a4 11 = .ok (.ldc_w 266, 3) := by decide +kernel
theorem dJ6_bitCount_0f7a4_14 : decode cJ6_bitCount_0f7a4 14 = .ok (.iand, 1) := by decide +kernel
theorem dJ6_bitCount_0f7a4_15 : decode cJ6_bitCount_0f7a4 15 = .ok (.iload_n 0, 1) := by decide +kernel
theorem dJ6_bitCount_0f7a4_16 : decode cJ6_bitCount_0f7a4 16 = .ok (.iconst 2, 1) := by decide +kernel
theorem dJ6_bitCount_0f7a4_17 : decode cJ6_bitCount_0f7a4 17 = .ok (.iushr, 1) := by decide +kernel
theorem dJ6_bitCount_0f7a4_18 : decode cJ6_bitCount_0f7a4 18 = .ok (.ldc_w 266, 3) := by decide +kernel
theorem dJ6_bitCount_0f7a4_21 : decode cJ6_bitCount_0f7a4 21 = .ok (.iand, 1) := by decide +kernel
theorem dJ6_bitCount_0f7a4_22 : decode cJ6_bitCount_0f7a4 22 = .ok (.iadd, 1) := by decide +kernel
theorem dJ6_bitCount_0f7a4_23 : decode cJ6_bitCount_0f7a4 23 = .ok (.istore_n 0, 1) := by decide +kernel
theorem dJ6_bitCount_0f7a4_24 : decode cJ6_bitCount_0f7a4 24 = .ok (.iload_n 0, 1) := by decide +kernel
theorem dJ6_bitCount_0f7a4_25 : decode cJ6_bitCount_0f7a4 25 = .ok (.iload_n 0, 1) := by decide +kernel
theorem dJ6_bitCount_0f7a4_26 : decode cJ6_bitCount_0f7a4 26 = .ok (.iconst 4, 1) := by decide +kernel
theorem dJ6_bitCount_0f7a4_27 : decode cJ6_bitCount_0f7a4 27 = .ok (.iushr, 1) := by decide +kernel
theorem dJ6_bitCount_0f7a4_28 : decode cJ6_bitCount_0f7a4 28 = .ok (.iadd, 1) := by decide +kernel
theorem dJ6_bitCount_0f7a4_29 : decode cJ6_bitCount_0f7a4 29 = .ok (.ldc_w 267, 3) := by decide +kernel
theorem dJ6_bitCount_0f7a4_32 : decode cJ6_bitCount_0f7a4 32 = .ok (.iand, 1) := by decide +kernel
theorem dJ6_bitCount_0f7a4_33 : decode cJ6_bitCount_0f7a4 33 = .ok (.istore_n 0, 1) := by decide +kernel
theorem dJ6_bitCount_0f7a4_34 : decode cJ6_bitCount_0f7a4 34 = .ok (.iload_n 0, 1) := by decide +kernel
theorem dJ6_bitCount_0f7a4_35 : decode cJ6_bitCount_0f7a4 35 = .ok (.iload_n 0, 1) := by decide +kernel
theorem dJ6_bitCount_0f7a4_36 : decode cJ6_bitCount_0f7a4 36 = .ok (.bipush 8, 2) := by decide +kernel
theorem dJ6_bitCount_0f7a4_38 : decode cJ6_bitCount_0f7a4 38 = .ok (.iushr, 1) := by decide +kernel
theorem dJ6_bitCount_0f7a4_39 : decode cJ6_bitCount_0f7a4 39 = .ok (.iadd, 1) := by decide +kernel
theorem dJ6_bitCount_0f7a4_40 : decode cJ6_bitCount_0f7a4 40 = .ok (.istore_n 0, 1) := by decide +kernel
theorem dJ6_bitCount_0f7a4_41 : decode cJ6_bitCount_0f7a4 41 = .ok (.iload_n 0, 1) := by decide +kernel
theorem dJ6_bitCount_0f7a4_42 : decode cJ6_bitCount_0f7a4 42 = .ok (.iload_n 0, 1) := by decide +kernel
theorem dJ6_bitCount_0f7a4_43 : decode cJ6_bitCount_0f7a4 43 = .ok (.bipush 16, 2) := by decide +kernel
theorem dJ6_bitCount_0f7a4_45 : decode cJ6_bitCount_0f7a4 45 = .ok (.iushr, 1) := by decide +kernel
theorem dJ6_bitCount_0f7a4_46 : decode cJ6_bitCount_0f7a4 46 = .ok (.iadd, 1) := by decide +kernel
theorem dJ6_bitCount_0f7a4_47 : decode cJ6_bitCount_0f7a4 47 = .ok (.istore_n 0, 1) := by decide +kernel
theorem dJ6_bitCount_0f7a4_48 : decode cJ6_bitCount_0f7a4 48 = .ok (.iload_n 0, 1) := by decide +kernel
theorem dJ6_bitCount_0f7a4_49 : decode cJ6_bitCount_0f7a4 49 = .ok (.bipush 63, 2) := by decide +kernel
theorem dJ6_bitCount_0f7a4_51 : decode cJ6_bitCount_0f7a4 51 = .ok (.iand, 1) := by decide +kernel
theorem dJ6_bitCount_0f7a4_52 : decode cJ6_bitCount_0f7a4 52 = .ok (.ireturn, 1) := by decide +kernel
theorem dJ9_floorMod_7cf53_0 : decode cJ9_floorMod_7cf53 0 = .ok (.iload_n 0, 1) := by decide +kernel
theorem dJ9_floorMod_7cf53_1 : decode cJ9_floorMod_7cf53 1 = .ok (.iload_n 1, 1) := by decide +kernel
theorem dJ9_floorMod_7cf53_2 : decode cJ9_floorMod_7cf53 2 = .ok (.irem, 1) := by decide +kernel
theorem dJ9_floorMod_7cf53_3 : decode cJ9_floorMod_7cf53 3 = .ok (.istore_n 2, 1) := by decide +kernel
theorem dJ9_floorMod_7cf53_4 : decode cJ9_floorMod_7cf53 4 = .ok (.iload_n 0, 1) := by decide +kernel
theorem dJ9_floorMod_7cf53_5 : decode cJ9_floorMod_7cf53 5 = .ok (.iload_n 1, 1) := by decide +kernel
theorem dJ9_floorMod_7cf53_6 : decode cJ9_floorMod_7cf53 6 = .ok (.ixor, 1) := by decide +kernel
theorem dJ9_floorMod_7cf53_7 : decode cJ9_floorMod_7cf53 7 = .ok (.ifCond .ge 11, 3) := by decide +kernel
theorem dJ9_floorMod_7cf53_10 : decode cJ9_floorMod_7cf53 10 = .ok (.iload_n 2, 1) := by decide +kernel
theorem dJ9_floorMod_7cf53_11 : decode cJ9_floorMod_7cf53 11 = .ok (.ifCond .eq 7, 3) := by decide +kernel
theorem dJ9_floorMod_7cf53_14 : decode cJ9_floorMod_7cf53 14 = .ok (.iload_n 2, 1) := by decide +kernel
theorem dJ9_floorMod_7cf53_15 : decode cJ9_floorMod_7cf53 15 = .ok (.iload_n 1, 1) := by decide +kernel
theorem dJ9_floorMod_7cf53_16 : decode cJ9_floorMod_7cf53 16 = .ok (.iadd, 1) := by decide +kernel
theorem dJ9_floorMod_7cf53_17 : decode cJ9_floorMod_7cf53 17 = .ok (.ireturn, 1) := by decide +kernel
theorem dJ9_floorMod_7cf53_18 : decode cJ9_floorMod_7cf53 18 = .ok (.iload_n 2, 1) := by decide +kernel
theorem dJ9_floorMod_7cf53_19 : decode cJ9_floorMod_7cf53 19 = .ok (.ireturn, 1) := by decide +kernel
theorem dJ9_abs_067f4_0 : decode cJ9_abs_067f4 0 = .ok (.lload_n 0, 1) := by decide +kernel
theorem dJ9_abs_067f4_1 : decode cJ9_abs_067f4 1 = .ok (.lconst 0, 1) := by decide +kernel
theorem dJ9_abs_067f4_2 : decode cJ9_abs_067f4 2 = .ok (.lcmp, 1) := by decide +kernel
theorem dJ9_abs_067f4_3 : decode cJ9_abs_067f4 3 = .ok (.ifCond .ge 8, 3) := by decide +kernel
theorem dJ9_abs_067f4_6 : decode cJ9_abs_067f4 6 = .ok (.lload_n 0, 1) := by decide +kernel
theorem dJ9_abs_067f4_7 : decode cJ9_abs_067f4 7 = .ok (.lneg, 1) := by decide +kernel
theorem dJ9_abs_067f4_8 : decode cJ9_abs_067f4 8 = .ok (.goto 4, 3) := by decide +kernel
theorem dJ9_abs_067f4_11 : decode cJ9_abs_067f4 11 = .ok (.lload_n 0, 1) := by decide +kernel
theorem dJ9_abs_067f4_12 : decode cJ9_abs_067f4 12 = .ok (.lreturn, 1) := by decide +kernel
theorem dJ9_max_7cf53_0 : decode cJ9_max_7cf53 0 = .ok (.iload_n 0, 1) := by decide +kernel
theorem dJ9_max_7cf53_1 : decode cJ9_max_7cf53 1 = .ok (.iload_n 1, 1) := by decide +kernel
theorem dJ9_max_7cf53_2 : decode cJ9_max_7cf53 2 = .ok (.if_icmp .lt 7, 3) := by decide +kernel
theorem dJ9_max_7cf53_5 : decode cJ9_max_7cf53 5 = .ok (.iload_n 0, 1) := by decide +kernel
theorem dJ9_max_7cf53_6 : decode cJ9_max_7cf53 6 = .ok (.goto 4, 3) := by decide +kernel
theorem dJ9_max_7cf53_9 : decode cJ9_max_7cf53 9 = .ok (.iload_n 1, 1) := by decide +kernel
theorem dJ9_max_7cf53_10 : decode cJ9_max_7cf53 10 = .ok (.ireturn, 1) := by decide +kernel
theorem dJ9_min_7cf53_0 : decode cJ9_min_7cf53 0 = .ok (.iload_n 0, 1) := by decide +kernel
theorem dJ9_min_7cf53_1 : decode cJ9_min_7cf53 1 = .ok (.iload_n 1, 1) := by decide +kernel
theorem dJ9_min_7cf53_2 : decode cJ9_min_7cf53 2 = .ok (.if_icmp .gt 7, 3) := by decide +kernel
theorem dJ9_min_7cf53_5 : decode cJ9_min_7cf53 5 = .ok (.iload_n 0, 1) := by decide +kernel
theorem dJ9_min_7cf53_6 : decode cJ9_min_7cf53 6 = .ok (.goto 4, 3) := by decide +kernel
theorem dJ9_min_7cf53_9 : decode cJ9_min_7cf53 9 = .ok (.iload_n 1, 1) := by decide +kernel
theorem dJ9_min_7cf53_10 : decode cJ9_min_7cf53 10 = .ok (.ireturn, 1) := by decide +kernel
theorem dJ9_min_f86c9_0 : decode cJ9_min_f86c9 0 = .ok (.lload_n 0, 1) := by decide +kernel
theorem dJ9_min_f86c9_1 : decode cJ9_min_f86c9 1 = .ok (.lload_n 2, 1) := by decide +kernel
theorem dJ9_min_f86c9_2 : decode cJ9_min_f86c9 2 = .ok (.lcmp, 1) := by decide +kernel
theorem dJ9_min_f86c9_3 : decode cJ9_min_f86c9 3 = .ok (.ifCond .gt 7, 3) := by decide +kernel
theorem dJ9_min_f86c9_6 : decode cJ9_min_f86c9 6 = .ok (.lload_n 0, 1) := by decide +kernel
theorem dJ9_min_f86c9_7 : decode cJ9_min_f86c9 7 = .ok (.goto 4, 3) := by decide +kernel
theorem dJ9_min_f86c9_10 : decode cJ9_min_f86c9 10 = .ok (.lload_n 2, 1) := by decide +kernel
theorem dJ9_min_f86c9_11 : decode cJ9_min_f86c9 11 = .ok (.lreturn, 1) := by decide +kernel
theorem dJ7_fill_53178_0 : decode cJ7_fill_53178 0 = .ok (.iconst 0, 1) := by decide +kernel
theorem dJ7_fill_53178_1 : decode cJ7_fill_53178 1 = .ok (.istore_n 2, 1) := by decide +kernel
theorem dJ7_fill_53178_2 : decode cJ7_fill_53178 2 = .ok (.aload_n 0, 1) := by decide +kernel
theorem dJ7_fill_53178_3 : decode cJ7_fill_53178 3 = .ok (.arraylength, 1) := by decide +kernel
theorem dJ7_fill_53178_4 : decode cJ7_fill_53178 4 = .ok (.istore_n 3, 1) := by decide +kernel
theorem dJ7_fill_53178_5 : decode cJ7_fill_53178 5 = .ok (.iload_n 2, 1) := by decide +kernel
theorem dJ7_fill_53178_6 : decode cJ7_fill_53178 6 = .ok (.iload_n 3, 1) := by decide +kernel
theorem dJ7_fill_53178_7 : decode cJ7_fill_53178 7 = .ok (.if_icmp .ge 13, 3) := by decide +kernel
theorem dJ7_fill_53178_10 : decode cJ7_fill_53178 10 = .ok (.aload_n 0, 1) := by decide +kernel
theorem dJ7_fill_53178_11 : decode cJ7_fill_53178 11 = .ok (.iload_n 2, 1) := by decide +kernel
theorem dJ7_fill_53178_12 : decode cJ7_fill_53178 12 = .ok (.iload_n 1, 1) := by decide +kernel
theorem dJ7_fill_53178_13 : decode cJ7_fill_53178 13 = .ok (.iastore, 1) := by decide +kernel
theorem dJ7_fill_53178_14 : decode cJ7_fill_53178 14 = .ok (.iinc 2 1, 3) := by decide +kernel
theorem dJ7_fill_53178_17 : decode cJ7_fill_53178 17 = .ok (.goto (-12), 3) := by decide +kernel
theorem dJ7_fill_53178_20 : decode cJ7_fill_53178 20 = .ok (.return_, 1) := by decide +kernel
set_option maxRecDepth 20000 in
theorem ggL_law_X11_init : GoodIn wsL_law wsX11_init := goodIn_r _ [8, 9, 10, 11, 12, 13, 14, 15, 16, 17, 18, 19, 20, 21, 22, 23, 24, 25, 26, 27, 28, 29, 30, 31, 32, 33, 34, 35, 36, 37, 38, 39, 40, 41, 42, 43, 44, 45, 46, 47, 48, 49, 50, 51, 52, 53, 54, 55, 56, 57, 58, 59, 60, 61, 62, 63, 64, 65, 66, 67, 68, 69, 70, 71, 72, 73, 74, 75, 76, 77, 78, 79, 80, 81, 82, 83, 84, 85, 86, 87, 88, 89, 90, 91, 92, 93, 94, 95, 96, 97, 98, 99, 100, 101, 102, 103, 104, 105, 106, 107, 108, 109, 110, 111, 112, 113, 114, 115, 116, 117, 118, 119, 120, 121, 122, 123, 124, 125, 126, 127, 128, 129, 130, 131, 132, 133, 134, 135, 136, 137, 138, 139, 140, 141, 142, 143, 144, 145, 1057, 1005, 1006, 1007, 1008, 1009, 1010, 1011, 1012, 1013, 1014, 1015, 1058, 1059, 1060, 1061, 1062, 1063, 1064, 1065, 1066, 1067, 1068, 1069, 1070, 1071, 1072, 1073, 1074, 1075, 1076, 1077, 1078, 1079, 1080, 1081, 1082, 1083, 1084, 1085, 1086, 1087, 1088, 1089, 1090, 1091, 1092, 1093, 1094, 1095, 1096, 1097, 1098, 1099, 1100, 1101, 1102, 1103, 1104, 1105] (by decide +kernel) (by decide +kernel)
set_option maxRecDepth 20000 in
theorem gL_law_X11_init : GoodIn wsL_law (wsX11_init) := ggL_law_X11_init
set_option maxRecDepth 20000 in
theorem ggL_law_X12_init : GoodIn wsL_law wsX12_init := goodIn_r _ [148, 149, 10, 11, 150, 151, 59, 152, 153, 154, 155, 156, 157, 158, 159, 160, 75, 161, 105, 162, 163, 164, 165, 166, 167, 168, 169, 170, 171, 172, 173, 174, 175, 176, 177, 178, 179, 180, 181, 182, 183, 184, 5, 185, 186, 187, 188, 189, 190, 1016, 1017, 1018, 1019, 1020, 1021, 1022, 1023, 1024, 1025, 1026, 1027, 1028, 1029, 1030, 1031, 1032, 1033, 1034, 1035, 1036, 1037, 1038, 1039, 1040, 1041, 1042, 1043, 1044, 1045, 1046, 1047, 1048, 1049, 1050, 1051, 1052, 1053, 1054, 1055, 1056] (by decide +kernel) (by decide +kernel)
set_option maxRecDepth 20000 in
theorem gL_law_X12_init : GoodIn wsL_law (wsX12_init) := ggL_law_X12_init
set_option maxRecDepth 20000 in
theorem ggL_law_X11_mirror : GoodIn wsL_law wsX11_mirror := goodIn_r _ [194, 23, 31, 27, 43, 47, 195, 196, 2, 197, 198, 199, 200, 22, 201, 77, 71, 72, 79, 80, 81, 82, 202, 203, 204, 30, 205, 97, 98, 95, 206, 207, 208, 209, 96, 210, 211, 212, 213, 26, 214, 86, 91, 215, 216, 217, 218, 42, 219, 126, 220, 221, 222, 223, 125, 127, 128, 224, 225, 226, 46, 227, 133, 134, 1005, 1006, 1007, 1008, 1009, 1010, 1011, 1012, 1013, 1014, 1015, 1061, 1062, 1063, 1064, 1065, 1066, 1067, 1074, 1075, 1076, 1077, 1068, 1069, 1070, 1071, 1072, 1073, 1094, 1095, 1096, 1097, 1098, 1099, 1100] (by decide +kernel) (by decide +kernel)
set_option maxRecDepth 20000 in
theorem gL_law_X11_mirror : GoodIn wsL_law (wsV RL 13 RX11 yX11_mirror wsX11_mirror) := goodIn_app (goodIn_of _ (by decide +kernel)) ggL_law_X11_mirror
set_option maxRecDepth 20000 in
theorem ggL_law_X12_mirror : GoodIn wsL_law wsX12_mirror := goodIn_r _ [231, 232, 233, 234, 235, 5, 236, 182, 183, 184, 185, 150, 151, 152, 153, 154, 158, 161, 170, 186, 187, 188, 189, 190, 1016, 1017, 1018, 1019, 1020, 1021, 1022, 1023, 1024, 1025, 1026, 1027, 1028, 1029, 1030, 1031, 1032, 1033, 1034, 1035, 1036, 1037, 1038, 1039, 1040, 1041, 1042, 1043, 1044, 1045, 1046, 1047, 1048, 1049, 1050, 1051, 1052, 1053, 1054, 1055, 1056] (by decide +kernel) (by decide +kernel)
set_option maxRecDepth 20000 in
theorem gL_law_X12_mirror : GoodIn wsL_law (wsV RL 17 RX12 yX12_mirror wsX12_mirror) := goodIn_app (goodIn_of _ (by decide +kernel)) ggL_law_X12_mirror
set_option maxRecDepth 20000 in
theorem ggL_law_X11_light : GoodIn wsL_law wsX11_light := goodIn_r _ [240, 23, 241, 242, 243, 2, 244, 245, 246, 247, 22, 248, 77, 195, 196, 197, 249, 250, 251, 252, 71, 1005, 1006, 1007, 1008, 1009, 1010, 1011, 1012, 1013, 1014, 1015, 1061, 1062, 1063, 1064, 1065, 1066, 1067] (by decide +kernel) (by decide +kernel)
set_option maxRecDepth 20000 in
theorem gL_law_X11_light : GoodIn wsL_law (wsV RL 18 RX11 yX11_light wsX11_light) := goodIn_app (goodIn_of _ (by decide +kernel)) ggL_law_X11_light
set_option maxRecDepth 20000 in
theorem ggL_law_X12_light : GoodIn wsL_law wsX12_light := goodIn_r _ [256, 257, 258, 152, 259, 260, 261, 5, 262, 150, 234, 235, 236, 1016, 1017, 1018, 1019, 1020, 1021, 1022, 1023, 1024, 1025, 1026, 1027, 1028, 1029, 1030, 1031, 1032, 1033, 1034, 1035, 1036, 1037, 1038, 1039, 1040, 1041, 1042, 1043, 1044, 1045, 1046, 1047, 1048, 1049, 1050, 1051, 1052, 1053, 1054, 1055, 1056] (by decide +kernel) (by decide +kernel)
set_option maxRecDepth 20000 in
theorem gL_law_X12_light : GoodIn wsL_law (wsV RL 22 RX12 yX12_light wsX12_light) := goodIn_app (goodIn_of _ (by decide +kernel)) ggL_law_X12_light
set_option maxRecDepth 20000 in
theorem ggL_law_X11_board : GoodIn wsL_law wsX11_board := goodIn_r _ [266, 19, 23, 241, 242, 243, 2, 244, 245, 246, 247, 22, 248, 77, 195, 196, 197, 267, 268, 269, 18, 270, 64, 65, 271, 272, 273, 274, 275, 276, 277, 278, 279, 280, 281, 282, 283, 284, 285, 286, 66, 287, 249, 250, 251, 252, 71, 1005, 1006, 1007, 1008, 1009, 1010, 1011, 1012, 1013, 1014, 1015, 1061, 1062, 1063, 1064, 1065, 1066, 1067, 1058, 1059, 1060] (by decide +kernel) (by decide +kernel)
set_option maxRecDepth 20000 in
theorem gL_law_X11_board : GoodIn wsL_law (wsV RL 23 RX11 yX11_board wsX11_board) := goodIn_app (goodIn_of _ (by decide +kernel)) ggL_law_X11_board
set_option maxRecDepth 20000 in
theorem ggL_law_X12_board : GoodIn wsL_law wsX12_board := goodIn_r _ [291, 181, 258, 152, 259, 260, 261, 5, 262, 150, 234, 235, 236, 292, 293, 294, 295, 296, 297, 298, 299, 300, 179, 180, 1016, 1017, 1018, 1019, 1020, 1021, 1022, 1023, 1024, 1025, 1026, 1027, 1028, 1029, 1030, 1031, 1032, 1033, 1034, 1035, 1036, 1037, 1038, 1039, 1040, 1041, 1042, 1043, 1044, 1045, 1046, 1047, 1048, 1049, 1050, 1051, 1052, 1053, 1054, 1055, 1056] (by decide +kernel) (by decide +kernel)
set_option maxRecDepth 20000 in
theorem gL_law_X12_board : GoodIn wsL_law (wsV RL 27 RX12 yX12_board wsX12_board) := goodIn_app (goodIn_of _ (by decide +kernel)) ggL_law_X12_board
set_option maxRecDepth 20000 in
theorem ggL_law_X11_set : GoodIn wsL_law wsX11_set := goodIn_r _ [304, 15, 305, 306, 307, 14, 308, 309, 310, 196, 2, 197, 311, 312, 313, 314, 60, 1005, 1006, 1007, 1008, 1009, 1010, 1011, 1012, 1013, 1014, 1015, 1057] (by decide +kernel) (by decide +kernel)
set_option maxRecDepth 20000 in
theorem gL_law_X11_set : GoodIn wsL_law (wsV RL 28 RX11 yX11_set wsX11_set) := goodIn_app (goodIn_of _ (by decide +kernel)) ggL_law_X11_set
set_option maxRecDepth 20000 in
theorem ggL_law_X12_set : GoodIn wsL_law wsX12_set := goodIn_r _ [318, 319, 156, 157, 155, 234, 235, 5, 236, 1016, 1017, 1018, 1019, 1020, 1021, 1022, 1023, 1024, 1025, 1026, 1027, 1028, 1029, 1030, 1031, 1032, 1033, 1034, 1035, 1036, 1037, 1038, 1039, 1040, 1041, 1042, 1043, 1044, 1045, 1046, 1047, 1048, 1049, 1050, 1051, 1052, 1053, 1054, 1055, 1056] (by decide +kernel) (by decide +kernel)
set_option maxRecDepth 20000 in
theorem gL_law_X12_set : GoodIn wsL_law (wsV RL 31 RX12 yX12_set wsX12_set) := goodIn_app (goodIn_of _ (by decide +kernel)) ggL_law_X12_set
set_option maxRecDepth 20000 in
theorem ggL_law_X11_rest : GoodIn wsL_law wsX11_rest := goodIn_r _ [323, 23, 241, 242, 243, 2, 244, 245, 246, 247, 22, 248, 77, 195, 196, 197, 324, 325, 326, 327, 72, 1005, 1006, 1007, 1008, 1009, 1010, 1011, 1012, 1013, 1014, 1015, 1061, 1062, 1063, 1064, 1065, 1066, 1067] (by decide +kernel) (by decide +kernel)
set_option maxRecDepth 20000 in
theorem gL_law_X11_rest : GoodIn wsL_law (wsV RL 32 RX11 yX11_rest wsX11_rest) := goodIn_app (goodIn_of _ (by decide +kernel)) ggL_law_X11_rest
set_option maxRecDepth 20000 in
theorem ggL_law_X12_rest : GoodIn wsL_law wsX12_rest := goodIn_r _ [331, 332, 153, 259, 260, 261, 5, 262, 150, 234, 235, 236, 1016, 1017, 1018, 1019, 1020, 1021, 1022, 1023, 1024, 1025, 1026, 1027, 1028, 1029, 1030, 1031, 1032, 1033, 1034, 1035, 1036, 1037, 1038, 1039, 1040, 1041, 1042, 1043, 1044, 1045, 1046, 1047, 1048, 1049, 1050, 1051, 1052, 1053, 1054, 1055, 1056] (by decide +kernel) (by decide +kernel)
set_option maxRecDepth 20000 in
theorem gL_law_X12_rest : GoodIn wsL_law (wsV RL 35 RX12 yX12_rest wsX12_rest) := goodIn_app (goodIn_of _ (by decide +kernel)) ggL_law_X12_rest

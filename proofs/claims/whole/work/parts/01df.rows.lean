theorem dX12_foretell_44 : decode cX12_foretell 44 = .ok (.aload_n 0, 1) := by decide +kernel
theorem dX12_foretell_45 : decode cX12_foretell 45 = .ok (.getfield 97, 3) := by decide +kernel
theorem dX12_foretell_48 : decode cX12_foretell 48 = .ok (.iload 4, 2) := by decide +kernel
theorem dX12_foretell_50 : decode cX12_foretell 50 = .ok (.iaload, 1) := by decide +kernel
theorem dX12_foretell_51 : decode cX12_foretell 51 = .ok (.iload_n 2, 1) := by decide +kernel
theorem dX12_foretell_52 : decode cX12_foretell 52 = .ok (.imul, 1) := by decide +kernel
theorem dX12_foretell_53 : decode cX12_foretell 53 = .ok (.iadd, 1) := by decide +kernel
theorem dX12_foretell_54 : decode cX12_foretell 54 = .ok (.bipush 31, 2) := by decide +kernel
theorem dX12_foretell_56 : decode cX12_foretell 56 = .ok (.iand, 1) := by decide +kernel
theorem dX12_foretell_57 : decode cX12_foretell 57 = .ok (.istore 5, 2) := by decide +kernel
theorem dX12_foretell_59 : decode cX12_foretell 59 = .ok (.iload_n 3, 1) := by decide +kernel
theorem dX12_foretell_60 : decode cX12_foretell 60 = .ok (.aload_n 0, 1) := by decide +kernel
theorem dX12_foretell_61 : decode cX12_foretell 61 = .ok (.getfield 94, 3) := by decide +kernel
theorem dX12_foretell_64 : decode cX12_foretell 64 = .ok (.bipush 32, 2) := by decide +kernel
theorem dX12_foretell_66 : decode cX12_foretell 66 = .ok (.iload 4, 2) := by decide +kernel
theorem dX12_foretell_68 : decode cX12_foretell 68 = .ok (.imul, 1) := by decide +kernel
theorem dX12_foretell_69 : decode cX12_foretell 69 = .ok (.iload 5, 2) := by decide +kernel
theorem dX12_foretell_71 : decode cX12_foretell 71 = .ok (.iconst 1, 1) := by decide +kernel
theorem dX12_foretell_72 : decode cX12_foretell 72 = .ok (.iadd, 1) := by decide +kernel
theorem dX12_foretell_73 : decode cX12_foretell 73 = .ok (.bipush 31, 2) := by decide +kernel
theorem dX12_foretell_75 : decode cX12_foretell 75 = .ok (.iand, 1) := by decide +kernel
theorem dX12_foretell_76 : decode cX12_foretell 76 = .ok (.iadd, 1) := by decide +kernel
theorem dX12_foretell_77 : decode cX12_foretell 77 = .ok (.iaload, 1) := by decide +kernel
theorem dX12_foretell_78 : decode cX12_foretell 78 = .ok (.aload_n 0, 1) := by decide +kernel
theorem dX12_foretell_79 : decode cX12_foretell 79 = .ok (.getfield 94, 3) := by decide +kernel
theorem dX12_foretell_82 : decode cX12_foretell 82 = .ok (.bipush 32, 2) := by decide +kernel
theorem dX12_foretell_84 : decode cX12_foretell 84 = .ok (.iload 4, 2) := by decide +kernel
theorem dX12_foretell_86 : decode cX12_foretell 86 = .ok (.imul, 1) := by decide +kernel
theorem dX12_foretell_87 : decode cX12_foretell 87 = .ok (.iload 5, 2) := by decide +kernel
theorem dX12_foretell_89 : decode cX12_foretell 89 = .ok (.iadd, 1) := by decide +kernel
theorem dX12_foretell_90 : decode cX12_foretell 90 = .ok (.iaload, 1) := by decide +kernel
theorem dX12_foretell_91 : decode cX12_foretell 91 = .ok (.isub, 1) := by decide +kernel
theorem dX12_foretell_92 : decode cX12_foretell 92 = .ok (.iadd, 1) := by decide +kernel
theorem dX12_foretell_93 : decode cX12_foretell 93 = .ok (.istore_n 3, 1) := by decide +kernel
theorem dX12_foretell_94 : decode cX12_foretell 94 = .ok (.iinc 4 1, 3) := by decide +kernel
theorem dX12_foretell_97 : decode cX12_foretell 97 = .ok (.goto (-68), 3) := by decide +kernel
theorem dX12_foretell_100 : decode cX12_foretell 100 = .ok (.iload_n 3, 1) := by decide +kernel
theorem dX12_foretell_101 : decode cX12_foretell 101 = .ok (.ireturn, 1) := by decide +kernel
set_option maxRecDepth 20000 in
theorem ggX12_guess_X12_isSheet : GoodIn wsX12_guess wsX12_isSheet := goodIn_r _ [9, 1, 10, 11, 12, 8, 13] (by decide +kernel) (by decide +kernel)
set_option maxRecDepth 20000 in
theorem gX12_guess_X12_isSheet : GoodIn wsX12_guess (va_wsS RX12 180 yX12_isSheet wsX12_isSheet) := goodIn_app (goodIn_of _ (by decide +kernel)) ggX12_guess_X12_isSheet
set_option maxRecDepth 20000 in
theorem ggX12_guess_X12_in : GoodIn wsX12_guess wsX12_in := goodIn_r _ [13] (by decide +kernel) (by decide +kernel)
set_option maxRecDepth 20000 in
theorem gX12_guess_X12_in : GoodIn wsX12_guess (va_wsS RX12 130 yX12_in wsX12_in) := goodIn_app (goodIn_of _ (by decide +kernel)) ggX12_guess_X12_in
set_option maxRecDepth 20000 in
theorem ggX12_guess_X12_size : GoodIn wsX12_guess wsX12_size := goodIn_r _ [16] (by decide +kernel) (by decide +kernel)
set_option maxRecDepth 20000 in
theorem gX12_guess_X12_size : GoodIn wsX12_guess (va_wsS RX12 271 yX12_size wsX12_size) := goodIn_app (goodIn_of _ (by decide +kernel)) ggX12_guess_X12_size
theorem dX12_guess_0 : decode cX12_guess 0 = .ok (.iload_n 1, 1) := by decide +kernel
theorem dX12_guess_1 : decode cX12_guess 1 = .ok (.iload_n 3, 1) := by decide +kernel
theorem dX12_guess_2 : decode cX12_guess 2 = .ok (.invokestatic 180, 3) := by decide +kernel
theorem dX12_guess_5 : decode cX12_guess 5 = .ok (.ifCond .eq 15, 3) := by decide +kernel
theorem dX12_guess_8 : decode cX12_guess 8 = .ok (.iload_n 2, 1) := by decide +kernel
theorem dX12_guess_9 : decode cX12_guess 9 = .ok (.i2l, 1) := by decide +kernel
theorem dX12_guess_10 : decode cX12_guess 10 = .ok (.lconst 0, 1) := by decide +kernel
theorem dX12_guess_11 : decode cX12_guess 11 = .ok (.ldc2_w 159, 3) := by decide +kernel
theorem dX12_guess_14 : decode cX12_guess 14 = .ok (.invokestatic 130, 3) := by decide +kernel
theorem dX12_guess_17 : decode cX12_guess 17 = .ok (.ifCond .ne 5, 3) := by decide +kernel
theorem dX12_guess_20 : decode cX12_guess 20 = .ok (.iconst (-1), 1) := by decide +kernel
theorem dX12_guess_21 : decode cX12_guess 21 = .ok (.ireturn, 1) := by decide +kernel
theorem dX12_guess_22 : decode cX12_guess 22 = .ok (.aload_n 0, 1) := by decide +kernel
theorem dX12_guess_23 : decode cX12_guess 23 = .ok (.getfield 100, 3) := by decide +kernel
theorem dX12_guess_26 : decode cX12_guess 26 = .ok (.iload_n 1, 1) := by decide +kernel
theorem dX12_guess_27 : decode cX12_guess 27 = .ok (.iaload, 1) := by decide +kernel
theorem dX12_guess_28 : decode cX12_guess 28 = .ok (.ifCond .lt 12, 3) := by decide +kernel
theorem dX12_guess_31 : decode cX12_guess 31 = .ok (.aload_n 0, 1) := by decide +kernel
theorem dX12_guess_32 : decode cX12_guess 32 = .ok (.getfield 100, 3) := by decide +kernel
theorem dX12_guess_35 : decode cX12_guess 35 = .ok (.iload_n 2, 1) := by decide +kernel
theorem dX12_guess_36 : decode cX12_guess 36 = .ok (.iaload, 1) := by decide +kernel
theorem dX12_guess_37 : decode cX12_guess 37 = .ok (.ifCond .ge 6, 3) := by decide +kernel
theorem dX12_guess_40 : decode cX12_guess 40 = .ok (.bipush (-11), 2) := by decide +kernel
theorem dX12_guess_42 : decode cX12_guess 42 = .ok (.ireturn, 1) := by decide +kernel
theorem dX12_guess_43 : decode cX12_guess 43 = .ok (.aload_n 0, 1) := by decide +kernel
theorem dX12_guess_44 : decode cX12_guess 44 = .ok (.getfield 100, 3) := by decide +kernel
theorem dX12_guess_47 : decode cX12_guess 47 = .ok (.iload_n 1, 1) := by decide +kernel
theorem dX12_guess_48 : decode cX12_guess 48 = .ok (.iaload, 1) := by decide +kernel
theorem dX12_guess_49 : decode cX12_guess 49 = .ok (.iload_n 3, 1) := by decide +kernel
theorem dX12_guess_50 : decode cX12_guess 50 = .ok (.if_icmp .ne 13, 3) := by decide +kernel
theorem dX12_guess_53 : decode cX12_guess 53 = .ok (.aload_n 0, 1) := by decide +kernel
theorem dX12_guess_54 : decode cX12_guess 54 = .ok (.getfield 100, 3) := by decide +kernel
theorem dX12_guess_57 : decode cX12_guess 57 = .ok (.iload_n 2, 1) := by decide +kernel
theorem dX12_guess_58 : decode cX12_guess 58 = .ok (.iaload, 1) := by decide +kernel
theorem dX12_guess_59 : decode cX12_guess 59 = .ok (.iload_n 3, 1) := by decide +kernel
theorem dX12_guess_60 : decode cX12_guess 60 = .ok (.if_icmp .eq 6, 3) := by decide +kernel
theorem dX12_guess_63 : decode cX12_guess 63 = .ok (.bipush (-12), 2) := by decide +kernel
theorem dX12_guess_65 : decode cX12_guess 65 = .ok (.ireturn, 1) := by decide +kernel
theorem dX12_guess_66 : decode cX12_guess 66 = .ok (.aload_n 0, 1) := by decide +kernel
theorem dX12_guess_67 : decode cX12_guess 67 = .ok (.getfield 103, 3) := by decide +kernel
theorem dX12_guess_70 : decode cX12_guess 70 = .ok (.iload_n 1, 1) := by decide +kernel
theorem dX12_guess_71 : decode cX12_guess 71 = .ok (.iaload, 1) := by decide +kernel
theorem dX12_guess_72 : decode cX12_guess 72 = .ok (.bipush 32, 2) := by decide +kernel
theorem dX12_guess_74 : decode cX12_guess 74 = .ok (.if_icmp .lt 14, 3) := by decide +kernel
theorem dX12_guess_77 : decode cX12_guess 77 = .ok (.aload_n 0, 1) := by decide +kernel
theorem dX12_guess_78 : decode cX12_guess 78 = .ok (.getfield 103, 3) := by decide +kernel
theorem dX12_guess_81 : decode cX12_guess 81 = .ok (.iload_n 2, 1) := by decide +kernel
theorem dX12_guess_82 : decode cX12_guess 82 = .ok (.iaload, 1) := by decide +kernel
theorem dX12_guess_83 : decode cX12_guess 83 = .ok (.bipush 32, 2) := by decide +kernel
theorem dX12_guess_85 : decode cX12_guess 85 = .ok (.if_icmp .ge 6, 3) := by decide +kernel
theorem dX12_guess_88 : decode cX12_guess 88 = .ok (.bipush (-13), 2) := by decide +kernel
theorem dX12_guess_90 : decode cX12_guess 90 = .ok (.ireturn, 1) := by decide +kernel
theorem dX12_guess_91 : decode cX12_guess 91 = .ok (.iconst 0, 1) := by decide +kernel
theorem dX12_guess_92 : decode cX12_guess 92 = .ok (.istore 4, 2) := by decide +kernel
theorem dX12_guess_94 : decode cX12_guess 94 = .ok (.ldc2_w 237, 3) := by decide +kernel
theorem dX12_guess_97 : decode cX12_guess 97 = .ok (.lstore 5, 2) := by decide +kernel
theorem dX12_guess_99 : decode cX12_guess 99 = .ok (.iconst 0, 1) := by decide +kernel
theorem dX12_guess_100 : decode cX12_guess 100 = .ok (.istore 7, 2) := by decide +kernel
theorem dX12_guess_102 : decode cX12_guess 102 = .ok (.iload 7, 2) := by decide +kernel
theorem dX12_guess_104 : decode cX12_guess 104 = .ok (.bipush 32, 2) := by decide +kernel
theorem dX12_guess_106 : decode cX12_guess 106 = .ok (.if_icmp .ge 92, 3) := by decide +kernel
theorem dX12_guess_109 : decode cX12_guess 109 = .ok (.lconst 0, 1) := by decide +kernel
theorem dX12_guess_110 : decode cX12_guess 110 = .ok (.lstore 8, 2) := by decide +kernel
theorem dX12_guess_112 : decode cX12_guess 112 = .ok (.iconst 0, 1) := by decide +kernel
theorem dX12_guess_113 : decode cX12_guess 113 = .ok (.istore 10, 2) := by decide +kernel
theorem dX12_guess_115 : decode cX12_guess 115 = .ok (.iload 10, 2) := by decide +kernel
theorem dX12_guess_117 : decode cX12_guess 117 = .ok (.bipush 32, 2) := by decide +kernel
theorem dX12_guess_119 : decode cX12_guess 119 = .ok (.if_icmp .ge 50, 3) := by decide +kernel
theorem dX12_guess_122 : decode cX12_guess 122 = .ok (.lload 8, 2) := by decide +kernel
theorem dX12_guess_124 : decode cX12_guess 124 = .ok (.aload_n 0, 1) := by decide +kernel
theorem dX12_guess_125 : decode cX12_guess 125 = .ok (.getfield 106, 3) := by decide +kernel
theorem dX12_guess_128 : decode cX12_guess 128 = .ok (.bipush 40, 2) := by decide +kernel
theorem dX12_guess_130 : decode cX12_guess 130 = .ok (.iload_n 1, 1) := by decide +kernel
theorem dX12_guess_131 : decode cX12_guess 131 = .ok (.imul, 1) := by decide +kernel
theorem dX12_guess_132 : decode cX12_guess 132 = .ok (.iload 10, 2) := by decide +kernel
theorem dX12_guess_134 : decode cX12_guess 134 = .ok (.iadd, 1) := by decide +kernel
theorem dX12_guess_135 : decode cX12_guess 135 = .ok (.iaload, 1) := by decide +kernel
theorem dX12_guess_136 : decode cX12_guess 136 = .ok (.i2l, 1) := by decide +kernel
theorem dX12_guess_137 : decode cX12_guess 137 = .ok (.aload_n 0, 1) := by decide +kernel
theorem dX12_guess_138 : decode cX12_guess 138 = .ok (.getfield 106, 3) := by decide +kernel
theorem dX12_guess_141 : decode cX12_guess 141 = .ok (.bipush 40, 2) := by decide +kernel
theorem dX12_guess_143 : decode cX12_guess 143 = .ok (.iload_n 2, 1) := by decide +kernel
theorem dX12_guess_144 : decode cX12_guess 144 = .ok (.imul, 1) := by decide +kernel
theorem dX12_guess_145 : decode cX12_guess 145 = .ok (.iload 10, 2) := by decide +kernel
theorem dX12_guess_147 : decode cX12_guess 147 = .ok (.iload 7, 2) := by decide +kernel
theorem dX12_guess_149 : decode cX12_guess 149 = .ok (.iadd, 1) := by decide +kernel
theorem dX12_guess_150 : decode cX12_guess 150 = .ok (.bipush 32, 2) := by decide +kernel
theorem dX12_guess_152 : decode cX12_guess 152 = .ok (.irem, 1) := by decide +kernel
theorem dX12_guess_153 : decode cX12_guess 153 = .ok (.iadd, 1) := by decide +kernel
theorem dX12_guess_154 : decode cX12_guess 154 = .ok (.iaload, 1) := by decide +kernel
theorem dX12_guess_155 : decode cX12_guess 155 = .ok (.i2l, 1) := by decide +kernel
theorem dX12_guess_156 : decode cX12_guess 156 = .ok (.lsub, 1) := by decide +kernel
theorem dX12_guess_157 : decode cX12_guess 157 = .ok (.invokestatic 271, 3) := by decide +kernel
theorem dX12_guess_160 : decode cX12_guess 160 = .ok (.ladd, 1) := by decide +kernel
theorem dX12_guess_161 : decode cX12_guess 161 = .ok (.lstore 8, 2) := by decide +kernel
theorem dX12_guess_163 : decode cX12_guess 163 = .ok (.iinc 10 1, 3) := by decide +kernel
theorem dX12_guess_166 : decode cX12_guess 166 = .ok (.goto (-51), 3) := by decide +kernel
theorem dX12_guess_169 : decode cX12_guess 169 = .ok (.lload 5, 2) := by decide +kernel
theorem dX12_guess_171 : decode cX12_guess 171 = .ok (.lconst 0, 1) := by decide +kernel
theorem dX12_guess_172 : decode cX12_guess 172 = .ok (.lcmp, 1) := by decide +kernel
theorem dX12_guess_173 : decode cX12_guess 173 = .ok (.ifCond .lt 11, 3) := by decide +kernel
theorem dX12_guess_176 : decode cX12_guess 176 = .ok (.lload 8, 2) := by decide +kernel
theorem dX12_guess_178 : decode cX12_guess 178 = .ok (.lload 5, 2) := by decide +kernel
theorem dX12_guess_180 : decode cX12_guess 180 = .ok (.lcmp, 1) := by decide +kernel
theorem dX12_guess_181 : decode cX12_guess 181 = .ok (.ifCond .ge 11, 3) := by decide +kernel
theorem dX12_guess_184 : decode cX12_guess 184 = .ok (.lload 8, 2) := by decide +kernel
theorem dX12_guess_186 : decode cX12_guess 186 = .ok (.lstore 5, 2) := by decide +kernel
theorem dX12_guess_188 : decode cX12_guess 188 = .ok (.iload 7, 2) := by decide +kernel
theorem dX12_guess_190 : decode cX12_guess 190 = .ok (.istore 4, 2) := by decide +kernel
theorem dX12_guess_192 : decode cX12_guess 192 = .ok (.iinc 7 1, 3) := by decide +kernel
theorem dX12_guess_195 : decode cX12_guess 195 = .ok (.goto (-93), 3) := by decide +kernel
theorem dX12_guess_198 : decode cX12_guess 198 = .ok (.iload 4, 2) := by decide +kernel
theorem dX12_guess_200 : decode cX12_guess 200 = .ok (.ireturn, 1) := by decide +kernel
set_option maxRecDepth 20000 in
theorem ggX12_isSheet_X12_in : GoodIn wsX12_isSheet wsX12_in := goodIn_r _ [6] (by decide +kernel) (by decide +kernel)
set_option maxRecDepth 20000 in
theorem gX12_isSheet_X12_in : GoodIn wsX12_isSheet (va_wsS RX12 130 yX12_in wsX12_in) := goodIn_app (goodIn_of _ (by decide +kernel)) ggX12_isSheet_X12_in
theorem dX12_isSheet_0 : decode cX12_isSheet 0 = .ok (.iload_n 0, 1) := by decide +kernel
theorem dX12_isSheet_1 : decode cX12_isSheet 1 = .ok (.i2l, 1) := by decide +kernel
theorem dX12_isSheet_2 : decode cX12_isSheet 2 = .ok (.lconst 0, 1) := by decide +kernel
theorem dX12_isSheet_3 : decode cX12_isSheet 3 = .ok (.ldc2_w 159, 3) := by decide +kernel
theorem dX12_isSheet_6 : decode cX12_isSheet 6 = .ok (.invokestatic 130, 3) := by decide +kernel
theorem dX12_isSheet_9 : decode cX12_isSheet 9 = .ok (.ifCond .eq 19, 3) := by decide +kernel
theorem dX12_isSheet_12 : decode cX12_isSheet 12 = .ok (.iload_n 1, 1) := by decide +kernel
theorem dX12_isSheet_13 : decode cX12_isSheet 13 = .ok (.i2l, 1) := by decide +kernel
theorem dX12_isSheet_14 : decode cX12_isSheet 14 = .ok (.lconst 0, 1) := by decide +kernel
theorem dX12_isSheet_15 : decode cX12_isSheet 15 = .ok (.ldc2_w 265, 3) := by decide +kernel
theorem dX12_isSheet_18 : decode cX12_isSheet 18 = .ok (.invokestatic 130, 3) := by decide +kernel
theorem dX12_isSheet_21 : decode cX12_isSheet 21 = .ok (.ifCond .eq 7, 3) := by decide +kernel
theorem dX12_isSheet_24 : decode cX12_isSheet 24 = .ok (.iconst 1, 1) := by decide +kernel
theorem dX12_isSheet_25 : decode cX12_isSheet 25 = .ok (.goto 4, 3) := by decide +kernel
theorem dX12_isSheet_28 : decode cX12_isSheet 28 = .ok (.iconst 0, 1) := by decide +kernel
theorem dX12_isSheet_29 : decode cX12_isSheet 29 = .ok (.ireturn, 1) := by decide +kernel
set_option maxRecDepth 20000 in
theorem ggX12_sheet_X12_isSheet : GoodIn wsX12_sheet wsX12_isSheet := goodIn_r _ [7, 8, 9, 10, 11, 6, 12] (by decide +kernel) (by decide +kernel)
set_option maxRecDepth 20000 in
theorem gX12_sheet_X12_isSheet : GoodIn wsX12_sheet (va_wsS RX12 180 yX12_isSheet wsX12_isSheet) := goodIn_app (goodIn_of _ (by decide +kernel)) ggX12_sheet_X12_isSheet
theorem dX12_sheet_0 : decode cX12_sheet 0 = .ok (.iload_n 1, 1) := by decide +kernel
theorem dX12_sheet_1 : decode cX12_sheet 1 = .ok (.iload_n 2, 1) := by decide +kernel
theorem dX12_sheet_2 : decode cX12_sheet 2 = .ok (.invokestatic 180, 3) := by decide +kernel
theorem dX12_sheet_5 : decode cX12_sheet 5 = .ok (.ifCond .eq 9, 3) := by decide +kernel
theorem dX12_sheet_8 : decode cX12_sheet 8 = .ok (.iload_n 3, 1) := by decide +kernel
theorem dX12_sheet_9 : decode cX12_sheet 9 = .ok (.bipush 40, 2) := by decide +kernel
theorem dX12_sheet_11 : decode cX12_sheet 11 = .ok (.if_icmp .le 5, 3) := by decide +kernel
theorem dX12_sheet_14 : decode cX12_sheet 14 = .ok (.iconst (-1), 1) := by decide +kernel
theorem dX12_sheet_15 : decode cX12_sheet 15 = .ok (.ireturn, 1) := by decide +kernel
theorem dX12_sheet_16 : decode cX12_sheet 16 = .ok (.iload_n 3, 1) := by decide +kernel
theorem dX12_sheet_17 : decode cX12_sheet 17 = .ok (.ifCond .ge 6, 3) := by decide +kernel
theorem dX12_sheet_20 : decode cX12_sheet 20 = .ok (.bipush (-14), 2) := by decide +kernel
theorem dX12_sheet_22 : decode cX12_sheet 22 = .ok (.ireturn, 1) := by decide +kernel
theorem dX12_sheet_23 : decode cX12_sheet 23 = .ok (.aload_n 0, 1) := by decide +kernel
theorem dX12_sheet_24 : decode cX12_sheet 24 = .ok (.getfield 100, 3) := by decide +kernel
theorem dX12_sheet_27 : decode cX12_sheet 27 = .ok (.iload_n 1, 1) := by decide +kernel
theorem dX12_sheet_28 : decode cX12_sheet 28 = .ok (.iload_n 2, 1) := by decide +kernel
theorem dX12_sheet_29 : decode cX12_sheet 29 = .ok (.iastore, 1) := by decide +kernel
theorem dX12_sheet_30 : decode cX12_sheet 30 = .ok (.aload_n 0, 1) := by decide +kernel
theorem dX12_sheet_31 : decode cX12_sheet 31 = .ok (.getfield 103, 3) := by decide +kernel
theorem dX12_sheet_34 : decode cX12_sheet 34 = .ok (.iload_n 1, 1) := by decide +kernel
theorem dX12_sheet_35 : decode cX12_sheet 35 = .ok (.iload_n 3, 1) := by decide +kernel
theorem dX12_sheet_36 : decode cX12_sheet 36 = .ok (.iastore, 1) := by decide +kernel
theorem dX12_sheet_37 : decode cX12_sheet 37 = .ok (.iconst 0, 1) := by decide +kernel
theorem dX12_sheet_38 : decode cX12_sheet 38 = .ok (.istore 4, 2) := by decide +kernel
theorem dX12_sheet_40 : decode cX12_sheet 40 = .ok (.iload 4, 2) := by decide +kernel
theorem dX12_sheet_42 : decode cX12_sheet 42 = .ok (.bipush 40, 2) := by decide +kernel
theorem dX12_sheet_44 : decode cX12_sheet 44 = .ok (.if_icmp .ge 22, 3) := by decide +kernel
theorem dX12_sheet_47 : decode cX12_sheet 47 = .ok (.aload_n 0, 1) := by decide +kernel
theorem dX12_sheet_48 : decode cX12_sheet 48 = .ok (.getfield 106, 3) := by decide +kernel
theorem dX12_sheet_51 : decode cX12_sheet 51 = .ok (.bipush 40, 2) := by decide +kernel
theorem dX12_sheet_53 : decode cX12_sheet 53 = .ok (.iload_n 1, 1) := by decide +kernel
theorem dX12_sheet_54 : decode cX12_sheet 54 = .ok (.imul, 1) := by decide +kernel
theorem dX12_sheet_55 : decode cX12_sheet 55 = .ok (.iload 4, 2) := by decide +kernel
theorem dX12_sheet_57 : decode cX12_sheet 57 = .ok (.iadd, 1) := by decide +kernel
theorem dX12_sheet_58 : decode cX12_sheet 58 = .ok (.iconst 0, 1) := by decide +kernel
theorem dX12_sheet_59 : decode cX12_sheet 59 = .ok (.iastore, 1) := by decide +kernel
theorem dX12_sheet_60 : decode cX12_sheet 60 = .ok (.iinc 4 1, 3) := by decide +kernel
theorem dX12_sheet_63 : decode cX12_sheet 63 = .ok (.goto (-23), 3) := by decide +kernel
theorem dX12_sheet_66 : decode cX12_sheet 66 = .ok (.iload_n 3, 1) := by decide +kernel
theorem dX12_sheet_67 : decode cX12_sheet 67 = .ok (.ireturn, 1) := by decide +kernel
set_option maxRecDepth 20000 in
theorem ggX12_drop_X12_in : GoodIn wsX12_drop wsX12_in := goodIn_r _ [7] (by decide +kernel) (by decide +kernel)
set_option maxRecDepth 20000 in
theorem gX12_drop_X12_in : GoodIn wsX12_drop (va_wsS RX12 130 yX12_in wsX12_in) := goodIn_app (goodIn_of _ (by decide +kernel)) ggX12_drop_X12_in
theorem dX12_drop_0 : decode cX12_drop 0 = .ok (.iload_n 1, 1) := by decide +kernel
theorem dX12_drop_1 : decode cX12_drop 1 = .ok (.i2l, 1) := by decide +kernel
theorem dX12_drop_2 : decode cX12_drop 2 = .ok (.lconst 0, 1) := by decide +kernel
theorem dX12_drop_3 : decode cX12_drop 3 = .ok (.ldc2_w 159, 3) := by decide +kernel
theorem dX12_drop_6 : decode cX12_drop 6 = .ok (.invokestatic 130, 3) := by decide +kernel
theorem dX12_drop_9 : decode cX12_drop 9 = .ok (.ifCond .ne 5, 3) := by decide +kernel
theorem dX12_drop_12 : decode cX12_drop 12 = .ok (.iconst (-1), 1) := by decide +kernel
theorem dX12_drop_13 : decode cX12_drop 13 = .ok (.ireturn, 1) := by decide +kernel
theorem dX12_drop_14 : decode cX12_drop 14 = .ok (.aload_n 0, 1) := by decide +kernel
theorem dX12_drop_15 : decode cX12_drop 15 = .ok (.getfield 100, 3) := by decide +kernel
theorem dX12_drop_18 : decode cX12_drop 18 = .ok (.iload_n 1, 1) := by decide +kernel
theorem dX12_drop_19 : decode cX12_drop 19 = .ok (.iaload, 1) := by decide +kernel
theorem dX12_drop_20 : decode cX12_drop 20 = .ok (.ifCond .ge 6, 3) := by decide +kernel
theorem dX12_drop_23 : decode cX12_drop 23 = .ok (.bipush (-11), 2) := by decide +kernel
theorem dX12_drop_25 : decode cX12_drop 25 = .ok (.ireturn, 1) := by decide +kernel
theorem dX12_drop_26 : decode cX12_drop 26 = .ok (.aload_n 0, 1) := by decide +kernel
theorem dX12_drop_27 : decode cX12_drop 27 = .ok (.getfield 100, 3) := by decide +kernel
theorem dX12_drop_30 : decode cX12_drop 30 = .ok (.iload_n 1, 1) := by decide +kernel
theorem dX12_drop_31 : decode cX12_drop 31 = .ok (.iconst (-1), 1) := by decide +kernel
theorem dX12_drop_32 : decode cX12_drop 32 = .ok (.iastore, 1) := by decide +kernel
theorem dX12_drop_33 : decode cX12_drop 33 = .ok (.aload_n 0, 1) := by decide +kernel
theorem dX12_drop_34 : decode cX12_drop 34 = .ok (.getfield 103, 3) := by decide +kernel
theorem dX12_drop_37 : decode cX12_drop 37 = .ok (.iload_n 1, 1) := by decide +kernel
theorem dX12_drop_38 : decode cX12_drop 38 = .ok (.iaload, 1) := by decide +kernel
theorem dX12_drop_39 : decode cX12_drop 39 = .ok (.ireturn, 1) := by decide +kernel
set_option maxRecDepth 20000 in
theorem ggX12_against_X12_in : GoodIn wsX12_against wsX12_in := goodIn_r _ [6] (by decide +kernel) (by decide +kernel)
set_option maxRecDepth 20000 in
theorem gX12_against_X12_in : GoodIn wsX12_against (va_wsS RX12 130 yX12_in wsX12_in) := goodIn_app (goodIn_of _ (by decide +kernel)) ggX12_against_X12_in
theorem dX12_against_0 : decode cX12_against 0 = .ok (.aload_n 0, 1) := by decide +kernel
theorem dX12_against_1 : decode cX12_against 1 = .ok (.getfield 100, 3) := by decide +kernel
theorem dX12_against_4 : decode cX12_against 4 = .ok (.iload_n 1, 1) := by decide +kernel
theorem dX12_against_5 : decode cX12_against 5 = .ok (.iaload, 1) := by decide +kernel
theorem dX12_against_6 : decode cX12_against 6 = .ok (.iload_n 2, 1) := by decide +kernel
theorem dX12_against_7 : decode cX12_against 7 = .ok (.if_icmp .eq 20, 3) := by decide +kernel
theorem dX12_against_10 : decode cX12_against 10 = .ok (.aload_n 0, 1) := by decide +kernel
theorem dX12_against_11 : decode cX12_against 11 = .ok (.getfield 100, 3) := by decide +kernel
theorem dX12_against_14 : decode cX12_against 14 = .ok (.iload_n 1, 1) := by decide +kernel
theorem dX12_against_15 : decode cX12_against 15 = .ok (.iaload, 1) := by decide +kernel
theorem dX12_against_16 : decode cX12_against 16 = .ok (.ifCond .ge 8, 3) := by decide +kernel
theorem dX12_against_19 : decode cX12_against 19 = .ok (.bipush (-11), 2) := by decide +kernel
theorem dX12_against_21 : decode cX12_against 21 = .ok (.goto 5, 3) := by decide +kernel
theorem dX12_against_24 : decode cX12_against 24 = .ok (.bipush (-12), 2) := by decide +kernel
theorem dX12_against_26 : decode cX12_against 26 = .ok (.ireturn, 1) := by decide +kernel
theorem dX12_against_27 : decode cX12_against 27 = .ok (.iload_n 3, 1) := by decide +kernel
theorem dX12_against_28 : decode cX12_against 28 = .ok (.i2l, 1) := by decide +kernel
theorem dX12_against_29 : decode cX12_against 29 = .ok (.lconst 0, 1) := by decide +kernel
theorem dX12_against_30 : decode cX12_against 30 = .ok (.aload_n 0, 1) := by decide +kernel
theorem dX12_against_31 : decode cX12_against 31 = .ok (.getfield 103, 3) := by decide +kernel
theorem dX12_against_34 : decode cX12_against 34 = .ok (.iload_n 1, 1) := by decide +kernel
theorem dX12_against_35 : decode cX12_against 35 = .ok (.iaload, 1) := by decide +kernel
theorem dX12_against_36 : decode cX12_against 36 = .ok (.iload 4, 2) := by decide +kernel
theorem dX12_against_38 : decode cX12_against 38 = .ok (.isub, 1) := by decide +kernel
theorem dX12_against_39 : decode cX12_against 39 = .ok (.i2l, 1) := by decide +kernel
theorem dX12_against_40 : decode cX12_against 40 = .ok (.invokestatic 130, 3) := by decide +kernel
theorem dX12_against_43 : decode cX12_against 43 = .ok (.ifCond .eq 7, 3) := by decide +kernel
theorem dX12_against_46 : decode cX12_against 46 = .ok (.iconst 0, 1) := by decide +kernel
theorem dX12_against_47 : decode cX12_against 47 = .ok (.goto 5, 3) := by decide +kernel
theorem dX12_against_50 : decode cX12_against 50 = .ok (.bipush (-13), 2) := by decide +kernel
theorem dX12_against_52 : decode cX12_against 52 = .ok (.ireturn, 1) := by decide +kernel
set_option maxRecDepth 20000 in
theorem ggX12_item_X12_isSheet : GoodIn wsX12_item wsX12_isSheet := goodIn_r _ [5, 6, 7, 8, 9, 4, 10] (by decide +kernel) (by decide +kernel)
set_option maxRecDepth 20000 in
theorem gX12_item_X12_isSheet : GoodIn wsX12_item (va_wsS RX12 180 yX12_isSheet wsX12_isSheet) := goodIn_app (goodIn_of _ (by decide +kernel)) ggX12_item_X12_isSheet
set_option maxRecDepth 20000 in
theorem ggX12_item_X12_against : GoodIn wsX12_item wsX12_against := goodIn_r _ [14, 15, 16, 8, 9, 4, 10, 17, 18, 19, 20, 21, 22, 23, 24, 25, 26, 27, 28, 29, 30, 31, 32, 33, 34, 35, 36, 37, 38, 39, 40, 41, 42, 43, 44, 45, 46, 47, 48, 49, 50, 51, 52, 53, 54, 55, 56, 57] (by decide +kernel) (by decide +kernel)
set_option maxRecDepth 20000 in
theorem gX12_item_X12_against : GoodIn wsX12_item (wsV RX12 184 RX12 yX12_against wsX12_against) := goodIn_app (goodIn_of _ (by decide +kernel)) ggX12_item_X12_against
theorem dX12_item_0 : decode cX12_item 0 = .ok (.iload_n 1, 1) := by decide +kernel
theorem dX12_item_1 : decode cX12_item 1 = .ok (.iload_n 2, 1) := by decide +kernel
theorem dX12_item_2 : decode cX12_item 2 = .ok (.invokestatic 180, 3) := by decide +kernel
theorem dX12_item_5 : decode cX12_item 5 = .ok (.ifCond .ne 5, 3) := by decide +kernel
theorem dX12_item_8 : decode cX12_item 8 = .ok (.iconst (-1), 1) := by decide +kernel
theorem dX12_item_9 : decode cX12_item 9 = .ok (.ireturn, 1) := by decide +kernel
theorem dX12_item_10 : decode cX12_item 10 = .ok (.aload_n 0, 1) := by decide +kernel
theorem dX12_item_11 : decode cX12_item 11 = .ok (.iload_n 1, 1) := by decide +kernel
theorem dX12_item_12 : decode cX12_item 12 = .ok (.iload_n 2, 1) := by decide +kernel
theorem dX12_item_13 : decode cX12_item 13 = .ok (.iload_n 3, 1) := by decide +kernel
theorem dX12_item_14 : decode cX12_item 14 = .ok (.iconst 1, 1) := by decide +kernel
theorem dX12_item_15 : decode cX12_item 15 = .ok (.invokevirtual 184, 3) := by decide +kernel
theorem dX12_item_18 : decode cX12_item 18 = .ok (.istore 5, 2) := by decide +kernel
theorem dX12_item_20 : decode cX12_item 20 = .ok (.iload 5, 2) := by decide +kernel
theorem dX12_item_22 : decode cX12_item 22 = .ok (.ifCond .ge 6, 3) := by decide +kernel
theorem dX12_item_25 : decode cX12_item 25 = .ok (.iload 5, 2) := by decide +kernel
theorem dX12_item_27 : decode cX12_item 27 = .ok (.ireturn, 1) := by decide +kernel
theorem dX12_item_28 : decode cX12_item 28 = .ok (.aload_n 0, 1) := by decide +kernel
theorem dX12_item_29 : decode cX12_item 29 = .ok (.getfield 106, 3) := by decide +kernel
theorem dX12_item_32 : decode cX12_item 32 = .ok (.bipush 40, 2) := by decide +kernel
theorem dX12_item_34 : decode cX12_item 34 = .ok (.iload_n 1, 1) := by decide +kernel
theorem dX12_item_35 : decode cX12_item 35 = .ok (.imul, 1) := by decide +kernel
theorem dX12_item_36 : decode cX12_item 36 = .ok (.iload_n 3, 1) := by decide +kernel
theorem dX12_item_37 : decode cX12_item 37 = .ok (.iadd, 1) := by decide +kernel
theorem dX12_item_38 : decode cX12_item 38 = .ok (.iload_n 2, 1) := by decide +kernel
theorem dX12_item_39 : decode cX12_item 39 = .ok (.ifCond .ne 14, 3) := by decide +kernel
theorem dX12_item_42 : decode cX12_item 42 = .ok (.iload 4, 2) := by decide +kernel
theorem dX12_item_44 : decode cX12_item 44 = .ok (.bipush 24, 2) := by decide +kernel
theorem dX12_item_46 : decode cX12_item 46 = .ok (.ishl, 1) := by decide +kernel
theorem dX12_item_47 : decode cX12_item 47 = .ok (.bipush 24, 2) := by decide +kernel
theorem dX12_item_49 : decode cX12_item 49 = .ok (.ishr, 1) := by decide +kernel
theorem dX12_item_50 : decode cX12_item 50 = .ok (.goto 21, 3) := by decide +kernel
theorem dX12_item_53 : decode cX12_item 53 = .ok (.iload_n 2, 1) := by decide +kernel
theorem dX12_item_54 : decode cX12_item 54 = .ok (.iconst 1, 1) := by decide +kernel
theorem dX12_item_55 : decode cX12_item 55 = .ok (.if_icmp .ne 14, 3) := by decide +kernel
theorem dX12_item_58 : decode cX12_item 58 = .ok (.iload 4, 2) := by decide +kernel
theorem dX12_item_60 : decode cX12_item 60 = .ok (.bipush 16, 2) := by decide +kernel
theorem dX12_item_62 : decode cX12_item 62 = .ok (.ishl, 1) := by decide +kernel
theorem dX12_item_63 : decode cX12_item 63 = .ok (.bipush 16, 2) := by decide +kernel
theorem dX12_item_65 : decode cX12_item 65 = .ok (.ishr, 1) := by decide +kernel
theorem dX12_item_66 : decode cX12_item 66 = .ok (.goto 5, 3) := by decide +kernel
theorem dX12_item_69 : decode cX12_item 69 = .ok (.iload 4, 2) := by decide +kernel
theorem dX12_item_71 : decode cX12_item 71 = .ok (.iastore, 1) := by decide +kernel
theorem dX12_item_72 : decode cX12_item 72 = .ok (.iconst 1, 1) := by decide +kernel
theorem dX12_item_73 : decode cX12_item 73 = .ok (.ireturn, 1) := by decide +kernel
set_option maxRecDepth 20000 in
theorem ggX12_board_X12_isSpot : GoodIn wsX12_board wsX12_isSpot := goodIn_r _ [8, 9, 10, 11, 7, 12, 24, 25, 26, 27, 28, 29, 30, 31, 32, 33, 34, 35, 36, 37, 38, 39, 40, 41, 42, 43, 44, 45, 46, 47, 48, 49, 50, 51, 52, 53, 54, 55, 56, 57, 58, 59, 60, 61, 62, 63, 64] (by decide +kernel) (by decide +kernel)
set_option maxRecDepth 20000 in
theorem gX12_board_X12_isSpot : GoodIn wsX12_board (wsV RX12 136 RX12 yX12_isSpot wsX12_isSpot) := goodIn_app (goodIn_of _ (by decide +kernel)) ggX12_board_X12_isSpot
set_option maxRecDepth 20000 in
theorem ggX12_board_X12_isSheet : GoodIn wsX12_board wsX12_isSheet := goodIn_r _ [15, 16, 17, 10, 11, 7, 12] (by decide +kernel) (by decide +kernel)
set_option maxRecDepth 20000 in
theorem gX12_board_X12_isSheet : GoodIn wsX12_board (va_wsS RX12 180 yX12_isSheet wsX12_isSheet) := goodIn_app (goodIn_of _ (by decide +kernel)) ggX12_board_X12_isSheet
set_option maxRecDepth 20000 in
theorem ggX12_board_X12_against : GoodIn wsX12_board wsX12_against := goodIn_r _ [21, 22, 23, 10, 11, 7, 12, 24, 25, 26, 27, 28, 29, 30, 31, 32, 33, 34, 35, 36, 37, 38, 39, 40, 41, 42, 43, 44, 45, 46, 47, 48, 49, 50, 51, 52, 53, 54, 55, 56, 57, 58, 59, 60, 61, 62, 63, 64] (by decide +kernel) (by decide +kernel)
set_option maxRecDepth 20000 in
theorem gX12_board_X12_against : GoodIn wsX12_board (wsV RX12 184 RX12 yX12_against wsX12_against) := goodIn_app (goodIn_of _ (by decide +kernel)) ggX12_board_X12_against
set_option maxRecDepth 20000 in
theorem ggX12_board_X12_in : GoodIn wsX12_board wsX12_in := goodIn_r _ [12] (by decide +kernel) (by decide +kernel)
set_option maxRecDepth 20000 in
theorem gX12_board_X12_in : GoodIn wsX12_board (va_wsS RX12 130 yX12_in wsX12_in) := goodIn_app (goodIn_of _ (by decide +kernel)) ggX12_board_X12_in
theorem dX12_board_0 : decode cX12_board 0 = .ok (.aload_n 0, 1) := by decide +kernel
theorem dX12_board_1 : decode cX12_board 1 = .ok (.iload_n 1, 1) := by decide +kernel
theorem dX12_board_2 : decode cX12_board 2 = .ok (.invokevirtual 136, 3) := by decide +kernel
theorem dX12_board_5 : decode cX12_board 5 = .ok (.ifCond .eq 11, 3) := by decide +kernel
theorem dX12_board_8 : decode cX12_board 8 = .ok (.iload_n 2, 1) := by decide +kernel
theorem dX12_board_9 : decode cX12_board 9 = .ok (.iload_n 3, 1) := by decide +kernel
theorem dX12_board_10 : decode cX12_board 10 = .ok (.invokestatic 180, 3) := by decide +kernel
theorem dX12_board_13 : decode cX12_board 13 = .ok (.ifCond .ne 5, 3) := by decide +kernel
theorem dX12_board_16 : decode cX12_board 16 = .ok (.iconst (-1), 1) := by decide +kernel
theorem dX12_board_17 : decode cX12_board 17 = .ok (.ireturn, 1) := by decide +kernel
theorem dX12_board_18 : decode cX12_board 18 = .ok (.aload_n 0, 1) := by decide +kernel
theorem dX12_board_19 : decode cX12_board 19 = .ok (.iload_n 2, 1) := by decide +kernel
theorem dX12_board_20 : decode cX12_board 20 = .ok (.iload_n 3, 1) := by decide +kernel
theorem dX12_board_21 : decode cX12_board 21 = .ok (.iload 4, 2) := by decide +kernel
theorem dX12_board_23 : decode cX12_board 23 = .ok (.bipush 16, 2) := by decide +kernel
theorem dX12_board_25 : decode cX12_board 25 = .ok (.invokevirtual 184, 3) := by decide +kernel
theorem dX12_board_28 : decode cX12_board 28 = .ok (.istore 5, 2) := by decide +kernel
theorem dX12_board_30 : decode cX12_board 30 = .ok (.iload 5, 2) := by decide +kernel
theorem dX12_board_32 : decode cX12_board 32 = .ok (.ifCond .ge 6, 3) := by decide +kernel
theorem dX12_board_35 : decode cX12_board 35 = .ok (.iload 5, 2) := by decide +kernel
theorem dX12_board_37 : decode cX12_board 37 = .ok (.ireturn, 1) := by decide +kernel
theorem dX12_board_38 : decode cX12_board 38 = .ok (.bipush 40, 2) := by decide +kernel
theorem dX12_board_40 : decode cX12_board 40 = .ok (.iload_n 2, 1) := by decide +kernel
theorem dX12_board_41 : decode cX12_board 41 = .ok (.imul, 1) := by decide +kernel
theorem dX12_board_42 : decode cX12_board 42 = .ok (.iload 4, 2) := by decide +kernel
theorem dX12_board_44 : decode cX12_board 44 = .ok (.iadd, 1) := by decide +kernel
theorem dX12_board_45 : decode cX12_board 45 = .ok (.istore 6, 2) := by decide +kernel
theorem dX12_board_47 : decode cX12_board 47 = .ok (.iconst 0, 1) := by decide +kernel
theorem dX12_board_48 : decode cX12_board 48 = .ok (.istore 7, 2) := by decide +kernel
theorem dX12_board_50 : decode cX12_board 50 = .ok (.iload 7, 2) := by decide +kernel
theorem dX12_board_52 : decode cX12_board 52 = .ok (.bipush 16, 2) := by decide +kernel
theorem dX12_board_54 : decode cX12_board 54 = .ok (.if_icmp .ge 37, 3) := by decide +kernel
theorem dX12_board_57 : decode cX12_board 57 = .ok (.iload_n 3, 1) := by decide +kernel
theorem dX12_board_58 : decode cX12_board 58 = .ok (.ifCond .le 27, 3) := by decide +kernel
theorem dX12_board_61 : decode cX12_board 61 = .ok (.aload_n 0, 1) := by decide +kernel
theorem dX12_board_62 : decode cX12_board 62 = .ok (.getfield 106, 3) := by decide +kernel
theorem dX12_board_65 : decode cX12_board 65 = .ok (.iload 6, 2) := by decide +kernel
theorem dX12_board_67 : decode cX12_board 67 = .ok (.iload 7, 2) := by decide +kernel
theorem dX12_board_69 : decode cX12_board 69 = .ok (.iadd, 1) := by decide +kernel
theorem dX12_board_70 : decode cX12_board 70 = .ok (.iaload, 1) := by decide +kernel
theorem dX12_board_71 : decode cX12_board 71 = .ok (.i2l, 1) := by decide +kernel
theorem dX12_board_72 : decode cX12_board 72 = .ok (.lconst 0, 1) := by decide +kernel
theorem dX12_board_73 : decode cX12_board 73 = .ok (.ldc2_w 142, 3) := by decide +kernel
theorem dX12_board_76 : decode cX12_board 76 = .ok (.invokestatic 130, 3) := by decide +kernel
theorem dX12_board_79 : decode cX12_board 79 = .ok (.ifCond .ne 6, 3) := by decide +kernel
theorem dX12_board_82 : decode cX12_board 82 = .ok (.bipush (-2), 2) := by decide +kernel
theorem dX12_board_84 : decode cX12_board 84 = .ok (.ireturn, 1) := by decide +kernel
theorem dX12_board_85 : decode cX12_board 85 = .ok (.iinc 7 1, 3) := by decide +kernel
theorem dX12_board_88 : decode cX12_board 88 = .ok (.goto (-38), 3) := by decide +kernel
theorem dX12_board_91 : decode cX12_board 91 = .ok (.iconst 0, 1) := by decide +kernel
theorem dX12_board_92 : decode cX12_board 92 = .ok (.istore 7, 2) := by decide +kernel
theorem dX12_board_94 : decode cX12_board 94 = .ok (.iload 7, 2) := by decide +kernel
theorem dX12_board_96 : decode cX12_board 96 = .ok (.bipush 16, 2) := by decide +kernel
theorem dX12_board_98 : decode cX12_board 98 = .ok (.if_icmp .ge 35, 3) := by decide +kernel
theorem dX12_board_101 : decode cX12_board 101 = .ok (.aload_n 0, 1) := by decide +kernel
theorem dX12_board_102 : decode cX12_board 102 = .ok (.getfield 16, 3) := by decide +kernel
theorem dX12_board_105 : decode cX12_board 105 = .ok (.bipush 16, 2) := by decide +kernel
theorem dX12_board_107 : decode cX12_board 107 = .ok (.iload_n 1, 1) := by decide +kernel
theorem dX12_board_108 : decode cX12_board 108 = .ok (.imul, 1) := by decide +kernel
theorem dX12_board_109 : decode cX12_board 109 = .ok (.iload 7, 2) := by decide +kernel
theorem dX12_board_111 : decode cX12_board 111 = .ok (.iadd, 1) := by decide +kernel
theorem dX12_board_112 : decode cX12_board 112 = .ok (.aload_n 0, 1) := by decide +kernel
theorem dX12_board_113 : decode cX12_board 113 = .ok (.getfield 106, 3) := by decide +kernel
theorem dX12_board_116 : decode cX12_board 116 = .ok (.iload 6, 2) := by decide +kernel
theorem dX12_board_118 : decode cX12_board 118 = .ok (.iload 7, 2) := by decide +kernel
theorem dX12_board_120 : decode cX12_board 120 = .ok (.iadd, 1) := by decide +kernel
theorem dX12_board_121 : decode cX12_board 121 = .ok (.iaload, 1) := by decide +kernel
theorem dX12_board_122 : decode cX12_board 122 = .ok (.sipush 255, 3) := by decide +kernel
theorem dX12_board_125 : decode cX12_board 125 = .ok (.iand, 1) := by decide +kernel
theorem dX12_board_126 : decode cX12_board 126 = .ok (.iastore, 1) := by decide +kernel
theorem dX12_board_127 : decode cX12_board 127 = .ok (.iinc 7 1, 3) := by decide +kernel
theorem dX12_board_130 : decode cX12_board 130 = .ok (.goto (-36), 3) := by decide +kernel
theorem dX12_board_133 : decode cX12_board 133 = .ok (.iconst 1, 1) := by decide +kernel
theorem dX12_board_134 : decode cX12_board 134 = .ok (.ireturn, 1) := by decide +kernel
set_option maxRecDepth 20000 in
theorem ggX12_layer_X12_isLayer : GoodIn wsX12_layer wsX12_isLayer := goodIn_r _ [8, 9, 10, 11, 7, 12] (by decide +kernel) (by decide +kernel)
set_option maxRecDepth 20000 in
theorem gX12_layer_X12_isLayer : GoodIn wsX12_layer (va_wsS RX12 278 yX12_isLayer wsX12_isLayer) := goodIn_app (goodIn_of _ (by decide +kernel)) ggX12_layer_X12_isLayer
set_option maxRecDepth 20000 in
theorem ggX12_layer_X12_isSheet : GoodIn wsX12_layer wsX12_isSheet := goodIn_r _ [15, 16, 9, 10, 11, 7, 12] (by decide +kernel) (by decide +kernel)
set_option maxRecDepth 20000 in
theorem gX12_layer_X12_isSheet : GoodIn wsX12_layer (va_wsS RX12 180 yX12_isSheet wsX12_isSheet) := goodIn_app (goodIn_of _ (by decide +kernel)) ggX12_layer_X12_isSheet
set_option maxRecDepth 20000 in
theorem ggX12_layer_X12_against : GoodIn wsX12_layer wsX12_against := goodIn_r _ [20, 21, 22, 10, 11, 7, 12, 23, 24, 25, 26, 27, 28, 29, 30, 31, 32, 33, 34, 35, 36, 37, 38, 39, 40, 41, 42, 43, 44, 45, 46, 47, 48, 49, 50, 51, 52, 53, 54, 55, 56, 57, 58, 59, 60, 61, 62, 63] (by decide +kernel) (by decide +kernel)
set_option maxRecDepth 20000 in
theorem gX12_layer_X12_against : GoodIn wsX12_layer (wsV RX12 184 RX12 yX12_against wsX12_against) := goodIn_app (goodIn_of _ (by decide +kernel)) ggX12_layer_X12_against
set_option maxRecDepth 20000 in
theorem ggX12_layer_X12_in : GoodIn wsX12_layer wsX12_in := goodIn_r _ [12] (by decide +kernel) (by decide +kernel)
set_option maxRecDepth 20000 in
theorem gX12_layer_X12_in : GoodIn wsX12_layer (va_wsS RX12 130 yX12_in wsX12_in) := goodIn_app (goodIn_of _ (by decide +kernel)) ggX12_layer_X12_in
theorem dX12_layer_0 : decode cX12_layer 0 = .ok (.iload_n 1, 1) := by decide +kernel
theorem dX12_layer_1 : decode cX12_layer 1 = .ok (.invokestatic 278, 3) := by decide +kernel
theorem dX12_layer_4 : decode cX12_layer 4 = .ok (.ifCond .eq 11, 3) := by decide +kernel
theorem dX12_layer_7 : decode cX12_layer 7 = .ok (.iload_n 2, 1) := by decide +kernel
theorem dX12_layer_8 : decode cX12_layer 8 = .ok (.iload_n 3, 1) := by decide +kernel
theorem dX12_layer_9 : decode cX12_layer 9 = .ok (.invokestatic 180, 3) := by decide +kernel
theorem dX12_layer_12 : decode cX12_layer 12 = .ok (.ifCond .ne 5, 3) := by decide +kernel
theorem dX12_layer_15 : decode cX12_layer 15 = .ok (.iconst (-1), 1) := by decide +kernel
theorem dX12_layer_16 : decode cX12_layer 16 = .ok (.ireturn, 1) := by decide +kernel
theorem dX12_layer_17 : decode cX12_layer 17 = .ok (.aload_n 0, 1) := by decide +kernel
theorem dX12_layer_18 : decode cX12_layer 18 = .ok (.iload_n 2, 1) := by decide +kernel
theorem dX12_layer_19 : decode cX12_layer 19 = .ok (.iload_n 3, 1) := by decide +kernel
theorem dX12_layer_20 : decode cX12_layer 20 = .ok (.iload 4, 2) := by decide +kernel
theorem dX12_layer_22 : decode cX12_layer 22 = .ok (.bipush 32, 2) := by decide +kernel
theorem dX12_layer_24 : decode cX12_layer 24 = .ok (.invokevirtual 184, 3) := by decide +kernel
theorem dX12_layer_27 : decode cX12_layer 27 = .ok (.istore 5, 2) := by decide +kernel
theorem dX12_layer_29 : decode cX12_layer 29 = .ok (.iload 5, 2) := by decide +kernel
theorem dX12_layer_31 : decode cX12_layer 31 = .ok (.ifCond .ge 6, 3) := by decide +kernel
theorem dX12_layer_34 : decode cX12_layer 34 = .ok (.iload 5, 2) := by decide +kernel
theorem dX12_layer_36 : decode cX12_layer 36 = .ok (.ireturn, 1) := by decide +kernel
theorem dX12_layer_37 : decode cX12_layer 37 = .ok (.bipush 40, 2) := by decide +kernel
theorem dX12_layer_39 : decode cX12_layer 39 = .ok (.iload_n 2, 1) := by decide +kernel
theorem dX12_layer_40 : decode cX12_layer 40 = .ok (.imul, 1) := by decide +kernel
theorem dX12_layer_41 : decode cX12_layer 41 = .ok (.iload 4, 2) := by decide +kernel
theorem dX12_layer_43 : decode cX12_layer 43 = .ok (.iadd, 1) := by decide +kernel
theorem dX12_layer_44 : decode cX12_layer 44 = .ok (.istore 6, 2) := by decide +kernel
theorem dX12_layer_46 : decode cX12_layer 46 = .ok (.iconst 0, 1) := by decide +kernel
theorem dX12_layer_47 : decode cX12_layer 47 = .ok (.istore 7, 2) := by decide +kernel
theorem dX12_layer_49 : decode cX12_layer 49 = .ok (.iload 7, 2) := by decide +kernel
theorem dX12_layer_51 : decode cX12_layer 51 = .ok (.bipush 32, 2) := by decide +kernel
theorem dX12_layer_53 : decode cX12_layer 53 = .ok (.if_icmp .ge 35, 3) := by decide +kernel
theorem dX12_layer_56 : decode cX12_layer 56 = .ok (.aload_n 0, 1) := by decide +kernel
theorem dX12_layer_57 : decode cX12_layer 57 = .ok (.getfield 106, 3) := by decide +kernel
theorem dX12_layer_60 : decode cX12_layer 60 = .ok (.iload 6, 2) := by decide +kernel
theorem dX12_layer_62 : decode cX12_layer 62 = .ok (.iload 7, 2) := by decide +kernel
theorem dX12_layer_64 : decode cX12_layer 64 = .ok (.iadd, 1) := by decide +kernel
theorem dX12_layer_65 : decode cX12_layer 65 = .ok (.iaload, 1) := by decide +kernel
theorem dX12_layer_66 : decode cX12_layer 66 = .ok (.i2l, 1) := by decide +kernel
theorem dX12_layer_67 : decode cX12_layer 67 = .ok (.ldc2_w 283, 3) := by decide +kernel
theorem dX12_layer_70 : decode cX12_layer 70 = .ok (.ldc2_w 178, 3) := by decide +kernel
theorem dX12_layer_73 : decode cX12_layer 73 = .ok (.invokestatic 130, 3) := by decide +kernel
theorem dX12_layer_76 : decode cX12_layer 76 = .ok (.ifCond .ne 6, 3) := by decide +kernel
theorem dX12_layer_79 : decode cX12_layer 79 = .ok (.bipush (-2), 2) := by decide +kernel
theorem dX12_layer_81 : decode cX12_layer 81 = .ok (.ireturn, 1) := by decide +kernel
theorem dX12_layer_82 : decode cX12_layer 82 = .ok (.iinc 7 1, 3) := by decide +kernel
theorem dX12_layer_85 : decode cX12_layer 85 = .ok (.goto (-36), 3) := by decide +kernel
theorem dX12_layer_88 : decode cX12_layer 88 = .ok (.iconst 0, 1) := by decide +kernel
theorem dX12_layer_89 : decode cX12_layer 89 = .ok (.istore 7, 2) := by decide +kernel
theorem dX12_layer_91 : decode cX12_layer 91 = .ok (.iload 7, 2) := by decide +kernel
theorem dX12_layer_93 : decode cX12_layer 93 = .ok (.bipush 32, 2) := by decide +kernel
theorem dX12_layer_95 : decode cX12_layer 95 = .ok (.if_icmp .ge 31, 3) := by decide +kernel
theorem dX12_layer_98 : decode cX12_layer 98 = .ok (.aload_n 0, 1) := by decide +kernel
theorem dX12_layer_99 : decode cX12_layer 99 = .ok (.getfield 94, 3) := by decide +kernel
theorem dX12_layer_102 : decode cX12_layer 102 = .ok (.bipush 32, 2) := by decide +kernel
theorem dX12_layer_104 : decode cX12_layer 104 = .ok (.iload_n 1, 1) := by decide +kernel
theorem dX12_layer_105 : decode cX12_layer 105 = .ok (.imul, 1) := by decide +kernel
theorem dX12_layer_106 : decode cX12_layer 106 = .ok (.iload 7, 2) := by decide +kernel
theorem dX12_layer_108 : decode cX12_layer 108 = .ok (.iadd, 1) := by decide +kernel
theorem dX12_layer_109 : decode cX12_layer 109 = .ok (.aload_n 0, 1) := by decide +kernel
theorem dX12_layer_110 : decode cX12_layer 110 = .ok (.getfield 106, 3) := by decide +kernel
theorem dX12_layer_113 : decode cX12_layer 113 = .ok (.iload 6, 2) := by decide +kernel
theorem dX12_layer_115 : decode cX12_layer 115 = .ok (.iload 7, 2) := by decide +kernel
theorem dX12_layer_117 : decode cX12_layer 117 = .ok (.iadd, 1) := by decide +kernel
theorem dX12_layer_118 : decode cX12_layer 118 = .ok (.iaload, 1) := by decide +kernel
theorem dX12_layer_119 : decode cX12_layer 119 = .ok (.iastore, 1) := by decide +kernel
theorem dX12_layer_120 : decode cX12_layer 120 = .ok (.iinc 7 1, 3) := by decide +kernel
theorem dX12_layer_123 : decode cX12_layer 123 = .ok (.goto (-32), 3) := by decide +kernel
theorem dX12_layer_126 : decode cX12_layer 126 = .ok (.bipush 32, 2) := by decide +kernel
theorem dX12_layer_128 : decode cX12_layer 128 = .ok (.ireturn, 1) := by decide +kernel
theorem dJ6_bitCount_0f7a4_0 : decode cJ6_bitCount_0f7a4 0 = .ok (.iload_n 0, 1) := by decide +kernel
theorem dJ6_bitCount_0f7a4_1 : decode cJ6_bitCount_0f7a4 1 = .ok (.iload_n 0, 1) := by decide +kernel
theorem dJ6_bitCount_0f7a4_2 : decode cJ6_bitCount_0f7a4 2 = .ok (.iconst 1, 1) := by decide +kernel
theorem dJ6_bitCount_0f7a4_3 : decode cJ6_bitCount_0f7a4 3 = .ok (.iushr, 1) := by decide +kernel
theorem dJ6_bitCount_0f7a4_4 : decode cJ6_bitCount_0f7a4 4 = .ok (.ldc_w 265, 3) := by decide +kernel
theorem dJ6_bitCount_0f7a4_7 : decode cJ6_bitCount_0f7a4 7 = .ok (.iand, 1) := by decide +kernel
theorem dJ6_bitCount_0f7a4_8 : decode cJ6_bitCount_0f7a4 8 = .ok (.isub, 1) := by decide +kernel
theorem dJ6_bitCount_0f7a4_9 : decode cJ6_bitCount_0f7a4 9 = .ok (.istore_n 0, 1) := by decide +kernel
theorem dJ6_bitCount_0f7a4_10 : decode cJ6_bitCount_0f7a4 10 = .ok (.iload_n 0, 1) := by decide +kernel
theorem dJ6_bitCount_0f7a4_11 : decode cJ6_bitCount_0f7a4 11 = .ok (.ldc_w 266, 3) := by decide +kernel
theorem dJ6_bitCount_0f7a4_14 : decode cJ6_bitCount_0f7a4 14 = .ok (.iand, 1) := by decide +kernel
theorem dJ6_bitCount_0f7a4_15 : decode cJ6_bitCount_0f7a4 15 = .ok (.iload_n 0, 1) := by decide +kernel
theorem dJ6_bitCount_0f7a4_16 : decode cJ6_bitCount_0f7a4 16 = .ok (.iconst 2, 1) := by decide +kernel
theorem dJ6_bitCount_0f7a4_17 : decode cJ6_bitCount_0f7a4 17 = .ok (.iushr, 1) := by decide +kernel
theorem dJ6_bitCount_0f7a4_18 : decode cJ6_bitCount_0f7a4 18 = .ok (.ldc_w 266, 3) := by decide +kernel
theorem dJ6_bitCount_0f7a4_21 : decode cJ6_bitCount_0f7a4 21 = .ok (.iand, 1) := by decide +kernel
theorem dJ6_bitCount_0f7a4_22 : decode cJ6_bitCount_0f7a4 22 = .ok (.iadd, 1) := by decide +kernel
theorem dJ6_bitCount_0f7a4_23 : decode cJ6_bitCount_0f7a4 23 = .ok (.istore_n 0, 1) := by decide +kernel
theorem dJ6_bitCount_0f7a4_24 : decode cJ6_bitCount_0f7a4 24 = .ok (.iload_n 0, 1) := by decide +kernel
theorem dJ6_bitCount_0f7a4_25 : decode cJ6_bitCount_0f7a4 25 = .ok (.iload_n 0, 1) := by decide +kernel
theorem dJ6_bitCount_0f7a4_26 : decode cJ6_bitCount_0f7a4 26 = .ok (.iconst 4, 1) := by decide +kernel
theorem dJ6_bitCount_0f7a4_27 : decode cJ6_bitCount_0f7a4 27 = .ok (.iushr, 1) := by decide +kernel
theorem dJ6_bitCount_0f7a4_28 : decode cJ6_bitCount_0f7a4 28 = .ok (.iadd, 1) := by decide +kernel
theorem dJ6_bitCount_0f7a4_29 : decode cJ6_bitCount_0f7a4 29 = .ok (.ldc_w 267, 3) := by decide +kernel
theorem dJ6_bitCount_0f7a4_32 : decode cJ6_bitCount_0f7a4 32 = .ok (.iand, 1) := by decide +kernel
theorem dJ6_bitCount_0f7a4_33 : decode cJ6_bitCount_0f7a4 33 = .ok (.istore_n 0, 1) := by decide +kernel
theorem dJ6_bitCount_0f7a4_34 : decode cJ6_bitCount_0f7a4 34 = .ok (.iload_n 0, 1) := by decide +kernel
theorem dJ6_bitCount_0f7a4_35 : decode cJ6_bitCount_0f7a4 35 = .ok (.iload_n 0, 1) := by decide +kernel
theorem dJ6_bitCount_0f7a4_36 : decode cJ6_bitCount_0f7a4 36 = .ok (.bipush 8, 2) := by decide +kernel
theorem dJ6_bitCount_0f7a4_38 : decode cJ6_bitCount_0f7a4 38 = .ok (.iushr, 1) := by decide +kernel
theorem dJ6_bitCount_0f7a4_39 : decode cJ6_bitCount_0f7a4 39 = .ok (.iadd, 1) := by decide +kernel
theorem dJ6_bitCount_0f7a4_40 : decode cJ6_bitCount_0f7a4 40 = .ok (.istore_n 0, 1) := by decide +kernel
theorem dJ6_bitCount_0f7a4_41 : decode cJ6_bitCount_0f7a4 41 = .ok (.iload_n 0, 1) := by decide +kernel
theorem dJ6_bitCount_0f7a4_42 : decode cJ6_bitCount_0f7a4 42 = .ok (.iload_n 0, 1) := by decide +kernel
theorem dJ6_bitCount_0f7a4_43 : decode cJ6_bitCount_0f7a4 43 = .ok (.bipush 16, 2) := by decide +kernel
theorem dJ6_bitCount_0f7a4_45 : decode cJ6_bitCount_0f7a4 45 = .ok (.iushr, 1) := by decide +kernel
theorem dJ6_bitCount_0f7a4_46 : decode cJ6_bitCount_0f7a4 46 = .ok (.iadd, 1) := by decide +kernel
theorem dJ6_bitCount_0f7a4_47 : decode cJ6_bitCount_0f7a4 47 = .ok (.istore_n 0, 1) := by decide +kernel
theorem dJ6_bitCount_0f7a4_48 : decode cJ6_bitCount_0f7a4 48 = .ok (.iload_n 0, 1) := by decide +kernel
theorem dJ6_bitCount_0f7a4_49 : decode cJ6_bitCount_0f7a4 49 = .ok (.bipush 63, 2) := by decide +kernel
theorem dJ6_bitCount_0f7a4_51 : decode cJ6_bitCount_0f7a4 51 = .ok (.iand, 1) := by decide +kernel
theorem dJ6_bitCount_0f7a4_52 : decode cJ6_bitCount_0f7a4 52 = .ok (.ireturn, 1) := by decide +kernel
theorem dJ9_floorMod_7cf53_0 : decode cJ9_floorMod_7cf53 0 = .ok (.iload_n 0, 1) := by decide +kernel
theorem dJ9_floorMod_7cf53_1 : decode cJ9_floorMod_7cf53 1 = .ok (.iload_n 1, 1) := by decide +kernel
theorem dJ9_floorMod_7cf53_2 : decode cJ9_floorMod_7cf53 2 = .ok (.irem, 1) := by decide +kernel
theorem dJ9_floorMod_7cf53_3 : decode cJ9_floorMod_7cf53 3 = .ok (.istore_n 2, 1) := by decide +kernel
theorem dJ9_floorMod_7cf53_4 : decode cJ9_floorMod_7cf53 4 = .ok (.iload_n 0, 1) := by decide +kernel
theorem dJ9_floorMod_7cf53_5 : decode cJ9_floorMod_7cf53 5 = .ok (.iload_n 1, 1) := by decide +kernel
theorem dJ9_floorMod_7cf53_6 : decode cJ9_floorMod_7cf53 6 = .ok (.ixor, 1) := by decide +kernel
theorem dJ9_floorMod_7cf53_7 : decode cJ9_floorMod_7cf53 7 = .ok (.ifCond .ge 11, 3) := by decide +kernel
theorem dJ9_floorMod_7cf53_10 : decode cJ9_floorMod_7cf53 10 = .ok (.iload_n 2, 1) := by decide +kernel
theorem dJ9_floorMod_7cf53_11 : decode cJ9_floorMod_7cf53 11 = .ok (.ifCond .eq 7, 3) := by decide +kernel
theorem dJ9_floorMod_7cf53_14 : decode cJ9_floorMod_7cf53 14 = .ok (.iload_n 2, 1) := by decide +kernel
theorem dJ9_floorMod_7cf53_15 : decode cJ9_floorMod_7cf53 15 = .ok (.iload_n 1, 1) := by decide +kernel
theorem dJ9_floorMod_7cf53_16 : decode cJ9_floorMod_7cf53 16 = .ok (.iadd, 1) := by decide +kernel
theorem dJ9_floorMod_7cf53_17 : decode cJ9_floorMod_7cf53 17 = .ok (.ireturn, 1) := by decide +kernel
theorem dJ9_floorMod_7cf53_18 : decode cJ9_floorMod_7cf53 18 = .ok (.iload_n 2, 1) := by decide +kernel
theorem dJ9_floorMod_7cf53_19 : decode cJ9_floorMod_7cf53 19 = .ok (.ireturn, 1) := by decide +kernel
theorem dJ9_abs_067f4_0 : decode cJ9_abs_067f4 0 = .ok (.lload_n 0, 1) := by decide +kernel
theorem dJ9_abs_067f4_1 : decode cJ9_abs_067f4 1 = .ok (.lconst 0, 1) := by decide +kernel
theorem dJ9_abs_067f4_2 : decode cJ9_abs_067f4 2 = .ok (.lcmp, 1) := by decide +kernel
theorem dJ9_abs_067f4_3 : decode cJ9_abs_067f4 3 = .ok (.ifCond .ge 8, 3) := by decide +kernel
theorem dJ9_abs_067f4_6 : decode cJ9_abs_067f4 6 = .ok (.lload_n 0, 1) := by decide +kernel
theorem dJ9_abs_067f4_7 : decode cJ9_abs_067f4 7 = .ok (.lneg, 1) := by decide +kernel
theorem dJ9_abs_067f4_8 : decode cJ9_abs_067f4 8 = .ok (.goto 4, 3) := by decide +kernel
theorem dJ9_abs_067f4_11 : decode cJ9_abs_067f4 11 = .ok (.lload_n 0, 1) := by decide +kernel
theorem dJ9_abs_067f4_12 : decode cJ9_abs_067f4 12 = .ok (.lreturn, 1) := by decide +kernel
theorem dJ9_max_7cf53_0 : decode cJ9_max_7cf53 0 = .ok (.iload_n 0, 1) := by decide +kernel
theorem dJ9_max_7cf53_1 : decode cJ9_max_7cf53 1 = .ok (.iload_n 1, 1) := by decide +kernel
theorem dJ9_max_7cf53_2 : decode cJ9_max_7cf53 2 = .ok (.if_icmp .lt 7, 3) := by decide +kernel
theorem dJ9_max_7cf53_5 : decode cJ9_max_7cf53 5 = .ok (.iload_n 0, 1) := by decide +kernel
theorem dJ9_max_7cf53_6 : decode cJ9_max_7cf53 6 = .ok (.goto 4, 3) := by decide +kernel
theorem dJ9_max_7cf53_9 : decode cJ9_max_7cf53 9 = .ok (.iload_n 1, 1) := by decide +kernel
theorem dJ9_max_7cf53_10 : decode cJ9_max_7cf53 10 = .ok (.ireturn, 1) := by decide +kernel
theorem dJ9_min_7cf53_0 : decode cJ9_min_7cf53 0 = .ok (.iload_n 0, 1) := by decide +kernel
theorem dJ9_min_7cf53_1 : decode cJ9_min_7cf53 1 = .ok (.iload_n 1, 1) := by decide +kernel
theorem dJ9_min_7cf53_2 : decode cJ9_min_7cf53 2 = .ok (.if_icmp .gt 7, 3) := by decide +kernel
theorem dJ9_min_7cf53_5 : decode cJ9_min_7cf53 5 = .ok (.iload_n 0, 1) := by decide +kernel
theorem dJ9_min_7cf53_6 : decode cJ9_min_7cf53 6 = .ok (.goto 4, 3) := by decide +kernel
theorem dJ9_min_7cf53_9 : decode cJ9_min_7cf53 9 = .ok (.iload_n 1, 1) := by decide +kernel
theorem dJ9_min_7cf53_10 : decode cJ9_min_7cf53 10 = .ok (.ireturn, 1) := by decide +kernel
theorem dJ9_min_f86c9_0 : decode cJ9_min_f86c9 0 = .ok (.lload_n 0, 1) := by decide +kernel
theorem dJ9_min_f86c9_1 : decode cJ9_min_f86c9 1 = .ok (.lload_n 2, 1) := by decide +kernel
theorem dJ9_min_f86c9_2 : decode cJ9_min_f86c9 2 = .ok (.lcmp, 1) := by decide +kernel
theorem dJ9_min_f86c9_3 : decode cJ9_min_f86c9 3 = .ok (.ifCond .gt 7, 3) := by decide +kernel
theorem dJ9_min_f86c9_6 : decode cJ9_min_f86c9 6 = .ok (.lload_n 0, 1) := by decide +kernel
theorem dJ9_min_f86c9_7 : decode cJ9_min_f86c9 7 = .ok (.goto 4, 3) := by decide +kernel
theorem dJ9_min_f86c9_10 : decode cJ9_min_f86c9 10 = .ok (.lload_n 2, 1) := by decide +kernel
theorem dJ9_min_f86c9_11 : decode cJ9_min_f86c9 11 = .ok (.lreturn, 1) := by decide +kernel
theorem dJ7_fill_53178_0 : decode cJ7_fill_53178 0 = .ok (.iconst 0, 1) := by decide +kernel
theorem dJ7_fill_53178_1 : decode cJ7_fill_53178 1 = .ok (.istore_n 2, 1) := by decide +kernel
theorem dJ7_fill_53178_2 : decode cJ7_fill_53178 2 = .ok (.aload_n 0, 1) := by decide +kernel
theorem dJ7_fill_53178_3 : decode cJ7_fill_53178 3 = .ok (.arraylength, 1) := by decide +kernel
theorem dJ7_fill_53178_4 : decode cJ7_fill_53178 4 = .ok (.istore_n 3, 1) := by decide +kernel
theorem dJ7_fill_53178_5 : decode cJ7_fill_53178 5 = .ok (.iload_n 2, 1) := by decide +kernel
theorem dJ7_fill_53178_6 : decode cJ7_fill_53178 6 = .ok (.iload_n 3, 1) := by decide +kernel
theorem dJ7_fill_53178_7 : decode cJ7_fill_53178 7 = .ok (.if_icmp .ge 13, 3) := by decide +kernel
theorem dJ7_fill_53178_10 : decode cJ7_fill_53178 10 = .ok (.aload_n 0, 1) := by decide +kernel
theorem dJ7_fill_53178_11 : decode cJ7_fill_53178 11 = .ok (.iload_n 2, 1) := by decide +kernel
theorem dJ7_fill_53178_12 : decode cJ7_fill_53178 12 = .ok (.iload_n 1, 1) := by decide +kernel
theorem dJ7_fill_53178_13 : decode cJ7_fill_53178 13 = .ok (.iastore, 1) := by decide +kernel
theorem dJ7_fill_53178_14 : decode cJ7_fill_53178 14 = .ok (.iinc 2 1, 3) := by decide +kernel
theorem dJ7_fill_53178_17 : decode cJ7_fill_53178 17 = .ok (.goto (-12), 3) := by decide +kernel
theorem dJ7_fill_53178_20 : decode cJ7_fill_53178 20 = .ok (.return_, 1) := by decide +kernel

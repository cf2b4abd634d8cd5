theorem dX12_poke_175 : decode cX12_poke 175 = .ok (.iaload, 1) := by decide +kernel
theorem dX12_poke_176 : decode cX12_poke 176 = .ok (.iastore, 1) := by decide +kernel
theorem dX12_poke_177 : decode cX12_poke 177 = .ok (.iinc 9 1, 3) := by decide +kernel
theorem dX12_poke_180 : decode cX12_poke 180 = .ok (.goto (-35), 3) := by decide +kernel
theorem dX12_poke_183 : decode cX12_poke 183 = .ok (.aload_n 0, 1) := by decide +kernel
theorem dX12_poke_184 : decode cX12_poke 184 = .ok (.getfield 35, 3) := by decide +kernel
theorem dX12_poke_187 : decode cX12_poke 187 = .ok (.iload_n 1, 1) := by decide +kernel
theorem dX12_poke_188 : decode cX12_poke 188 = .ok (.dup2, 1) := by decide +kernel
theorem dX12_poke_189 : decode cX12_poke 189 = .ok (.iaload, 1) := by decide +kernel
theorem dX12_poke_190 : decode cX12_poke 190 = .ok (.iconst 1, 1) := by decide +kernel
theorem dX12_poke_191 : decode cX12_poke 191 = .ok (.iadd, 1) := by decide +kernel
theorem dX12_poke_192 : decode cX12_poke 192 = .ok (.iastore, 1) := by decide +kernel
theorem dX12_poke_193 : decode cX12_poke 193 = .ok (.aload_n 0, 1) := by decide +kernel
theorem dX12_poke_194 : decode cX12_poke 194 = .ok (.iload_n 1, 1) := by decide +kernel
theorem dX12_poke_195 : decode cX12_poke 195 = .ok (.invokevirtual 192, 3) := by decide +kernel
theorem dX12_poke_198 : decode cX12_poke 198 = .ok (.aload_n 0, 1) := by decide +kernel
theorem dX12_poke_199 : decode cX12_poke 199 = .ok (.getfield 35, 3) := by decide +kernel
theorem dX12_poke_202 : decode cX12_poke 202 = .ok (.iload_n 1, 1) := by decide +kernel
theorem dX12_poke_203 : decode cX12_poke 203 = .ok (.iaload, 1) := by decide +kernel
theorem dX12_poke_204 : decode cX12_poke 204 = .ok (.ireturn, 1) := by decide +kernel
set_option maxRecDepth 20000 in
theorem ggX12_told_X12_isSpot : GoodIn wsX12_told wsX12_isSpot := goodIn_r _ [8, 9, 10, 11, 7, 12, 23, 24, 25, 26, 27, 28, 29, 30, 31, 32, 33, 34, 35, 36, 37, 38, 39, 40, 41, 42, 43, 44, 45, 46, 47, 48, 49, 50, 51, 52, 53, 54, 55, 56, 57, 58, 59, 60, 61, 62, 63] (by decide +kernel) (by decide +kernel)
set_option maxRecDepth 20000 in
theorem gX12_told_X12_isSpot : GoodIn wsX12_told (wsV RX12 136 RX12 yX12_isSpot wsX12_isSpot) := goodIn_app (goodIn_of _ (by decide +kernel)) ggX12_told_X12_isSpot
set_option maxRecDepth 20000 in
theorem ggX12_told_X12_isPart : GoodIn wsX12_told wsX12_isPart := goodIn_r _ [16, 17, 10, 11, 7, 12, 23, 24, 25, 26, 27, 28, 29, 30, 31, 32, 33, 34, 35, 36, 37, 38, 39, 40, 41, 42, 43, 44, 45, 46, 47, 48, 49, 50, 51, 52, 53, 54, 55, 56, 57, 58, 59, 60, 61, 62, 63] (by decide +kernel) (by decide +kernel)
set_option maxRecDepth 20000 in
theorem gX12_told_X12_isPart : GoodIn wsX12_told (wsV RX12 167 RX12 yX12_isPart wsX12_isPart) := goodIn_app (goodIn_of _ (by decide +kernel)) ggX12_told_X12_isPart
set_option maxRecDepth 20000 in
theorem ggX12_told_X12_in : GoodIn wsX12_told wsX12_in := goodIn_r _ [12] (by decide +kernel) (by decide +kernel)
set_option maxRecDepth 20000 in
theorem gX12_told_X12_in : GoodIn wsX12_told (va_wsS RX12 130 yX12_in wsX12_in) := goodIn_app (goodIn_of _ (by decide +kernel)) ggX12_told_X12_in
set_option maxRecDepth 20000 in
theorem ggX12_told_X12_changeOf : GoodIn wsX12_told wsX12_changeOf := goodIn_r _ [21, 22, 23, 24, 25, 26, 27, 28, 29, 30, 31, 32, 33, 34, 35, 36, 37, 38, 39, 40, 41, 42, 43, 44, 45, 46, 47, 48, 49, 50, 51, 52, 53, 54, 55, 56, 57, 58, 59, 60, 61, 62, 63] (by decide +kernel) (by decide +kernel)
set_option maxRecDepth 20000 in
theorem gX12_told_X12_changeOf : GoodIn wsX12_told (wsV RX12 174 RX12 yX12_changeOf wsX12_changeOf) := goodIn_app (goodIn_of _ (by decide +kernel)) ggX12_told_X12_changeOf
theorem dX12_told_0 : decode cX12_told 0 = .ok (.aload_n 0, 1) := by decide +kernel
theorem dX12_told_1 : decode cX12_told 1 = .ok (.iload_n 1, 1) := by decide +kernel
theorem dX12_told_2 : decode cX12_told 2 = .ok (.invokevirtual 136, 3) := by decide +kernel
theorem dX12_told_5 : decode cX12_told 5 = .ok (.ifCond .eq 21, 3) := by decide +kernel
theorem dX12_told_8 : decode cX12_told 8 = .ok (.aload_n 0, 1) := by decide +kernel
theorem dX12_told_9 : decode cX12_told 9 = .ok (.iload_n 2, 1) := by decide +kernel
theorem dX12_told_10 : decode cX12_told 10 = .ok (.invokevirtual 167, 3) := by decide +kernel
theorem dX12_told_13 : decode cX12_told 13 = .ok (.ifCond .eq 13, 3) := by decide +kernel
theorem dX12_told_16 : decode cX12_told 16 = .ok (.iload_n 3, 1) := by decide +kernel
theorem dX12_told_17 : decode cX12_told 17 = .ok (.i2l, 1) := by decide +kernel
theorem dX12_told_18 : decode cX12_told 18 = .ok (.lconst 0, 1) := by decide +kernel
theorem dX12_told_19 : decode cX12_told 19 = .ok (.lconst 1, 1) := by decide +kernel
theorem dX12_told_20 : decode cX12_told 20 = .ok (.invokestatic 130, 3) := by decide +kernel
theorem dX12_told_23 : decode cX12_told 23 = .ok (.ifCond .ne 7, 3) := by decide +kernel
theorem dX12_told_26 : decode cX12_told 26 = .ok (.sipush (-10001), 3) := by decide +kernel
theorem dX12_told_29 : decode cX12_told 29 = .ok (.ireturn, 1) := by decide +kernel
theorem dX12_told_30 : decode cX12_told 30 = .ok (.iload_n 3, 1) := by decide +kernel
theorem dX12_told_31 : decode cX12_told 31 = .ok (.ifCond .ne 14, 3) := by decide +kernel
theorem dX12_told_34 : decode cX12_told 34 = .ok (.aload_n 0, 1) := by decide +kernel
theorem dX12_told_35 : decode cX12_told 35 = .ok (.getfield 23, 3) := by decide +kernel
theorem dX12_told_38 : decode cX12_told 38 = .ok (.iconst 5, 1) := by decide +kernel
theorem dX12_told_39 : decode cX12_told 39 = .ok (.iload_n 1, 1) := by decide +kernel
theorem dX12_told_40 : decode cX12_told 40 = .ok (.imul, 1) := by decide +kernel
theorem dX12_told_41 : decode cX12_told 41 = .ok (.iload_n 2, 1) := by decide +kernel
theorem dX12_told_42 : decode cX12_told 42 = .ok (.iadd, 1) := by decide +kernel
theorem dX12_told_43 : decode cX12_told 43 = .ok (.iaload, 1) := by decide +kernel
theorem dX12_told_44 : decode cX12_told 44 = .ok (.ireturn, 1) := by decide +kernel
theorem dX12_told_45 : decode cX12_told 45 = .ok (.aload_n 0, 1) := by decide +kernel
theorem dX12_told_46 : decode cX12_told 46 = .ok (.getfield 35, 3) := by decide +kernel
theorem dX12_told_49 : decode cX12_told 49 = .ok (.iload_n 2, 1) := by decide +kernel
theorem dX12_told_50 : decode cX12_told 50 = .ok (.iaload, 1) := by decide +kernel
theorem dX12_told_51 : decode cX12_told 51 = .ok (.ifCond .ne 7, 3) := by decide +kernel
theorem dX12_told_54 : decode cX12_told 54 = .ok (.sipush (-10004), 3) := by decide +kernel
theorem dX12_told_57 : decode cX12_told 57 = .ok (.ireturn, 1) := by decide +kernel
theorem dX12_told_58 : decode cX12_told 58 = .ok (.sipush 1000, 3) := by decide +kernel
theorem dX12_told_61 : decode cX12_told 61 = .ok (.istore 4, 2) := by decide +kernel
theorem dX12_told_63 : decode cX12_told 63 = .ok (.sipush (-1000), 3) := by decide +kernel
theorem dX12_told_66 : decode cX12_told 66 = .ok (.istore 5, 2) := by decide +kernel
theorem dX12_told_68 : decode cX12_told 68 = .ok (.iconst 0, 1) := by decide +kernel
theorem dX12_told_69 : decode cX12_told 69 = .ok (.istore 6, 2) := by decide +kernel
theorem dX12_told_71 : decode cX12_told 71 = .ok (.iload 6, 2) := by decide +kernel
theorem dX12_told_73 : decode cX12_told 73 = .ok (.aload_n 0, 1) := by decide +kernel
theorem dX12_told_74 : decode cX12_told 74 = .ok (.getfield 35, 3) := by decide +kernel
theorem dX12_told_77 : decode cX12_told 77 = .ok (.iload_n 2, 1) := by decide +kernel
theorem dX12_told_78 : decode cX12_told 78 = .ok (.iaload, 1) := by decide +kernel
theorem dX12_told_79 : decode cX12_told 79 = .ok (.if_icmp .ge 64, 3) := by decide +kernel
theorem dX12_told_82 : decode cX12_told 82 = .ok (.aload_n 0, 1) := by decide +kernel
theorem dX12_told_83 : decode cX12_told 83 = .ok (.iload_n 2, 1) := by decide +kernel
theorem dX12_told_84 : decode cX12_told 84 = .ok (.iload 6, 2) := by decide +kernel
theorem dX12_told_86 : decode cX12_told 86 = .ok (.iload_n 1, 1) := by decide +kernel
theorem dX12_told_87 : decode cX12_told 87 = .ok (.invokevirtual 174, 3) := by decide +kernel
theorem dX12_told_90 : decode cX12_told 90 = .ok (.aload_n 0, 1) := by decide +kernel
theorem dX12_told_91 : decode cX12_told 91 = .ok (.getfield 38, 3) := by decide +kernel
theorem dX12_told_94 : decode cX12_told 94 = .ok (.bipush 9, 2) := by decide +kernel
theorem dX12_told_96 : decode cX12_told 96 = .ok (.iload_n 2, 1) := by decide +kernel
theorem dX12_told_97 : decode cX12_told 97 = .ok (.imul, 1) := by decide +kernel
theorem dX12_told_98 : decode cX12_told 98 = .ok (.iload 6, 2) := by decide +kernel
theorem dX12_told_100 : decode cX12_told 100 = .ok (.iadd, 1) := by decide +kernel
theorem dX12_told_101 : decode cX12_told 101 = .ok (.iaload, 1) := by decide +kernel
theorem dX12_told_102 : decode cX12_told 102 = .ok (.idiv, 1) := by decide +kernel
theorem dX12_told_103 : decode cX12_told 103 = .ok (.istore 7, 2) := by decide +kernel
theorem dX12_told_105 : decode cX12_told 105 = .ok (.iload 7, 2) := by decide +kernel
theorem dX12_told_107 : decode cX12_told 107 = .ok (.iload 4, 2) := by decide +kernel
theorem dX12_told_109 : decode cX12_told 109 = .ok (.if_icmp .ge 8, 3) := by decide +kernel
theorem dX12_told_112 : decode cX12_told 112 = .ok (.iload 7, 2) := by decide +kernel
theorem dX12_told_114 : decode cX12_told 114 = .ok (.goto 5, 3) := by decide +kernel
theorem dX12_told_117 : decode cX12_told 117 = .ok (.iload 4, 2) := by decide +kernel
theorem dX12_told_119 : decode cX12_told 119 = .ok (.istore 4, 2) := by decide +kernel
theorem dX12_told_121 : decode cX12_told 121 = .ok (.iload 7, 2) := by decide +kernel
theorem dX12_told_123 : decode cX12_told 123 = .ok (.iload 5, 2) := by decide +kernel
theorem dX12_told_125 : decode cX12_told 125 = .ok (.if_icmp .le 8, 3) := by decide +kernel
theorem dX12_told_128 : decode cX12_told 128 = .ok (.iload 7, 2) := by decide +kernel
theorem dX12_told_130 : decode cX12_told 130 = .ok (.goto 5, 3) := by decide +kernel
theorem dX12_told_133 : decode cX12_told 133 = .ok (.iload 5, 2) := by decide +kernel
theorem dX12_told_135 : decode cX12_told 135 = .ok (.istore 5, 2) := by decide +kernel
theorem dX12_told_137 : decode cX12_told 137 = .ok (.iinc 6 1, 3) := by decide +kernel
theorem dX12_told_140 : decode cX12_told 140 = .ok (.goto (-69), 3) := by decide +kernel
theorem dX12_told_143 : decode cX12_told 143 = .ok (.iload 5, 2) := by decide +kernel
theorem dX12_told_145 : decode cX12_told 145 = .ok (.iload 4, 2) := by decide +kernel
theorem dX12_told_147 : decode cX12_told 147 = .ok (.isub, 1) := by decide +kernel
theorem dX12_told_148 : decode cX12_told 148 = .ok (.ireturn, 1) := by decide +kernel
set_option maxRecDepth 20000 in
theorem ggX12_dead_X12_isPart : GoodIn wsX12_dead wsX12_isPart := goodIn_r _ [6, 7, 8, 9, 5, 10, 11, 12, 13, 14, 15, 16, 17, 18, 19, 20, 21, 22, 23, 24, 25, 26, 27, 28, 29, 30, 31, 32, 33, 34, 35, 36, 37, 38, 39, 40, 41, 42, 43, 44, 45, 46, 47, 48, 49, 50, 51] (by decide +kernel) (by decide +kernel)
set_option maxRecDepth 20000 in
theorem gX12_dead_X12_isPart : GoodIn wsX12_dead (wsV RX12 167 RX12 yX12_isPart wsX12_isPart) := goodIn_app (goodIn_of _ (by decide +kernel)) ggX12_dead_X12_isPart
theorem dX12_dead_0 : decode cX12_dead 0 = .ok (.aload_n 0, 1) := by decide +kernel
theorem dX12_dead_1 : decode cX12_dead 1 = .ok (.iload_n 1, 1) := by decide +kernel
theorem dX12_dead_2 : decode cX12_dead 2 = .ok (.invokevirtual 167, 3) := by decide +kernel
theorem dX12_dead_5 : decode cX12_dead 5 = .ok (.ifCond .eq 7, 3) := by decide +kernel
theorem dX12_dead_8 : decode cX12_dead 8 = .ok (.iload_n 1, 1) := by decide +kernel
theorem dX12_dead_9 : decode cX12_dead 9 = .ok (.ifCond .ne 5, 3) := by decide +kernel
theorem dX12_dead_12 : decode cX12_dead 12 = .ok (.iconst (-1), 1) := by decide +kernel
theorem dX12_dead_13 : decode cX12_dead 13 = .ok (.ireturn, 1) := by decide +kernel
theorem dX12_dead_14 : decode cX12_dead 14 = .ok (.aload_n 0, 1) := by decide +kernel
theorem dX12_dead_15 : decode cX12_dead 15 = .ok (.getfield 44, 3) := by decide +kernel
theorem dX12_dead_18 : decode cX12_dead 18 = .ok (.iload_n 1, 1) := by decide +kernel
theorem dX12_dead_19 : decode cX12_dead 19 = .ok (.baload, 1) := by decide +kernel
theorem dX12_dead_20 : decode cX12_dead 20 = .ok (.ifCond .eq 7, 3) := by decide +kernel
theorem dX12_dead_23 : decode cX12_dead 23 = .ok (.iconst 1, 1) := by decide +kernel
theorem dX12_dead_24 : decode cX12_dead 24 = .ok (.goto 4, 3) := by decide +kernel
theorem dX12_dead_27 : decode cX12_dead 27 = .ok (.iconst 0, 1) := by decide +kernel
theorem dX12_dead_28 : decode cX12_dead 28 = .ok (.istore_n 3, 1) := by decide +kernel
theorem dX12_dead_29 : decode cX12_dead 29 = .ok (.aload_n 0, 1) := by decide +kernel
theorem dX12_dead_30 : decode cX12_dead 30 = .ok (.getfield 44, 3) := by decide +kernel
theorem dX12_dead_33 : decode cX12_dead 33 = .ok (.iload_n 1, 1) := by decide +kernel
theorem dX12_dead_34 : decode cX12_dead 34 = .ok (.iload_n 2, 1) := by decide +kernel
theorem dX12_dead_35 : decode cX12_dead 35 = .ok (.bastore, 1) := by decide +kernel
theorem dX12_dead_36 : decode cX12_dead 36 = .ok (.iload_n 3, 1) := by decide +kernel
theorem dX12_dead_37 : decode cX12_dead 37 = .ok (.ireturn, 1) := by decide +kernel
theorem dX12_productOf_0 : decode cX12_productOf 0 = .ok (.lconst 0, 1) := by decide +kernel
theorem dX12_productOf_1 : decode cX12_productOf 1 = .ok (.lstore_n 3, 1) := by decide +kernel
theorem dX12_productOf_2 : decode cX12_productOf 2 = .ok (.iconst 0, 1) := by decide +kernel
theorem dX12_productOf_3 : decode cX12_productOf 3 = .ok (.istore 5, 2) := by decide +kernel
theorem dX12_productOf_5 : decode cX12_productOf 5 = .ok (.iload 5, 2) := by decide +kernel
theorem dX12_productOf_7 : decode cX12_productOf 7 = .ok (.aload_n 0, 1) := by decide +kernel
theorem dX12_productOf_8 : decode cX12_productOf 8 = .ok (.getfield 7, 3) := by decide +kernel
theorem dX12_productOf_11 : decode cX12_productOf 11 = .ok (.if_icmp .ge 37, 3) := by decide +kernel
theorem dX12_productOf_14 : decode cX12_productOf 14 = .ok (.lload_n 3, 1) := by decide +kernel
theorem dX12_productOf_15 : decode cX12_productOf 15 = .ok (.aload_n 0, 1) := by decide +kernel
theorem dX12_productOf_16 : decode cX12_productOf 16 = .ok (.getfield 48, 3) := by decide +kernel
theorem dX12_productOf_19 : decode cX12_productOf 19 = .ok (.bipush 8, 2) := by decide +kernel
theorem dX12_productOf_21 : decode cX12_productOf 21 = .ok (.iload_n 1, 1) := by decide +kernel
theorem dX12_productOf_22 : decode cX12_productOf 22 = .ok (.imul, 1) := by decide +kernel
theorem dX12_productOf_23 : decode cX12_productOf 23 = .ok (.iload 5, 2) := by decide +kernel
theorem dX12_productOf_25 : decode cX12_productOf 25 = .ok (.iadd, 1) := by decide +kernel
theorem dX12_productOf_26 : decode cX12_productOf 26 = .ok (.laload, 1) := by decide +kernel
theorem dX12_productOf_27 : decode cX12_productOf 27 = .ok (.aload_n 0, 1) := by decide +kernel
theorem dX12_productOf_28 : decode cX12_productOf 28 = .ok (.getfield 48, 3) := by decide +kernel
theorem dX12_productOf_31 : decode cX12_productOf 31 = .ok (.bipush 8, 2) := by decide +kernel
theorem dX12_productOf_33 : decode cX12_productOf 33 = .ok (.iload_n 2, 1) := by decide +kernel
theorem dX12_productOf_34 : decode cX12_productOf 34 = .ok (.imul, 1) := by decide +kernel
theorem dX12_productOf_35 : decode cX12_productOf 35 = .ok (.iload 5, 2) := by decide +kernel
theorem dX12_productOf_37 : decode cX12_productOf 37 = .ok (.iadd, 1) := by decide +kernel
theorem dX12_productOf_38 : decode cX12_productOf 38 = .ok (.laload, 1) := by decide +kernel
theorem dX12_productOf_39 : decode cX12_productOf 39 = .ok (.lmul, 1) := by decide +kernel
theorem dX12_productOf_40 : decode cX12_productOf 40 = .ok (.ladd, 1) := by decide +kernel
theorem dX12_productOf_41 : decode cX12_productOf 41 = .ok (.lstore_n 3, 1) := by decide +kernel
theorem dX12_productOf_42 : decode cX12_productOf 42 = .ok (.iinc 5 1, 3) := by decide +kernel
theorem dX12_productOf_45 : decode cX12_productOf 45 = .ok (.goto (-40), 3) := by decide +kernel
theorem dX12_productOf_48 : decode cX12_productOf 48 = .ok (.lload_n 3, 1) := by decide +kernel
theorem dX12_productOf_49 : decode cX12_productOf 49 = .ok (.lreturn, 1) := by decide +kernel
set_option maxRecDepth 20000 in
theorem ggX12_slopesBy_X12_isLost : GoodIn wsX12_slopesBy wsX12_isLost := goodIn_r _ [7, 8, 9, 10, 11, 6, 12, 13, 14, 15, 16, 17, 27, 28, 29, 30, 31, 32, 33, 34, 35, 36, 37, 38, 39, 40, 41, 42, 43, 44, 45, 46, 47, 48, 49, 50, 51, 52, 53, 54, 55, 56, 57, 58, 59, 60, 61, 62, 63, 64, 65, 66, 67] (by decide +kernel) (by decide +kernel)
set_option maxRecDepth 20000 in
theorem gX12_slopesBy_X12_isLost : GoodIn wsX12_slopesBy (wsV RX12 161 RX12 yX12_isLost wsX12_isLost) := goodIn_app (goodIn_of _ (by decide +kernel)) ggX12_slopesBy_X12_isLost
set_option maxRecDepth 20000 in
theorem ggX12_slopesBy_X12_slopeOf : GoodIn wsX12_slopesBy wsX12_slopeOf := goodIn_r _ [21, 22, 23, 24, 25, 6, 26, 13, 14, 15, 16, 17, 8, 9, 10, 11, 12, 27, 28, 29, 30, 31, 32, 33, 34, 35, 36, 37, 38, 39, 40, 41, 42, 43, 44, 45, 46, 47, 48, 49, 50, 51, 52, 53, 54, 55, 56, 57, 58, 59, 60, 61, 62, 63, 64, 65, 66, 67] (by decide +kernel) (by decide +kernel)
set_option maxRecDepth 20000 in
theorem gX12_slopesBy_X12_slopeOf : GoodIn wsX12_slopesBy (wsV RX12 164 RX12 yX12_slopeOf wsX12_slopeOf) := goodIn_app (goodIn_of _ (by decide +kernel)) ggX12_slopesBy_X12_slopeOf
theorem dX12_slopesBy_0 : decode cX12_slopesBy 0 = .ok (.lconst 0, 1) := by decide +kernel
theorem dX12_slopesBy_1 : decode cX12_slopesBy 1 = .ok (.lstore_n 2, 1) := by decide +kernel
theorem dX12_slopesBy_2 : decode cX12_slopesBy 2 = .ok (.iconst 0, 1) := by decide +kernel
theorem dX12_slopesBy_3 : decode cX12_slopesBy 3 = .ok (.istore 4, 2) := by decide +kernel
theorem dX12_slopesBy_5 : decode cX12_slopesBy 5 = .ok (.iload 4, 2) := by decide +kernel
theorem dX12_slopesBy_7 : decode cX12_slopesBy 7 = .ok (.aload_n 0, 1) := by decide +kernel
theorem dX12_slopesBy_8 : decode cX12_slopesBy 8 = .ok (.getfield 7, 3) := by decide +kernel
theorem dX12_slopesBy_11 : decode cX12_slopesBy 11 = .ok (.if_icmp .ge 45, 3) := by decide +kernel
theorem dX12_slopesBy_14 : decode cX12_slopesBy 14 = .ok (.lload_n 2, 1) := by decide +kernel
theorem dX12_slopesBy_15 : decode cX12_slopesBy 15 = .ok (.aload_n 0, 1) := by decide +kernel
theorem dX12_slopesBy_16 : decode cX12_slopesBy 16 = .ok (.iload 4, 2) := by decide +kernel
theorem dX12_slopesBy_18 : decode cX12_slopesBy 18 = .ok (.invokevirtual 161, 3) := by decide +kernel
theorem dX12_slopesBy_21 : decode cX12_slopesBy 21 = .ok (.ifCond .eq 7, 3) := by decide +kernel
theorem dX12_slopesBy_24 : decode cX12_slopesBy 24 = .ok (.lconst 0, 1) := by decide +kernel
theorem dX12_slopesBy_25 : decode cX12_slopesBy 25 = .ok (.goto 23, 3) := by decide +kernel
theorem dX12_slopesBy_28 : decode cX12_slopesBy 28 = .ok (.aload_n 0, 1) := by decide +kernel
theorem dX12_slopesBy_29 : decode cX12_slopesBy 29 = .ok (.getfield 48, 3) := by decide +kernel
theorem dX12_slopesBy_32 : decode cX12_slopesBy 32 = .ok (.bipush 8, 2) := by decide +kernel
theorem dX12_slopesBy_34 : decode cX12_slopesBy 34 = .ok (.iload_n 1, 1) := by decide +kernel
theorem dX12_slopesBy_35 : decode cX12_slopesBy 35 = .ok (.imul, 1) := by decide +kernel
theorem dX12_slopesBy_36 : decode cX12_slopesBy 36 = .ok (.iload 4, 2) := by decide +kernel
theorem dX12_slopesBy_38 : decode cX12_slopesBy 38 = .ok (.iadd, 1) := by decide +kernel
theorem dX12_slopesBy_39 : decode cX12_slopesBy 39 = .ok (.laload, 1) := by decide +kernel
theorem dX12_slopesBy_40 : decode cX12_slopesBy 40 = .ok (.aload_n 0, 1) := by decide +kernel
theorem dX12_slopesBy_41 : decode cX12_slopesBy 41 = .ok (.iload 4, 2) := by decide +kernel
theorem dX12_slopesBy_43 : decode cX12_slopesBy 43 = .ok (.invokevirtual 164, 3) := by decide +kernel
theorem dX12_slopesBy_46 : decode cX12_slopesBy 46 = .ok (.i2l, 1) := by decide +kernel
theorem dX12_slopesBy_47 : decode cX12_slopesBy 47 = .ok (.lmul, 1) := by decide +kernel
theorem dX12_slopesBy_48 : decode cX12_slopesBy 48 = .ok (.ladd, 1) := by decide +kernel
theorem dX12_slopesBy_49 : decode cX12_slopesBy 49 = .ok (.lstore_n 2, 1) := by decide +kernel
theorem dX12_slopesBy_50 : decode cX12_slopesBy 50 = .ok (.iinc 4 1, 3) := by decide +kernel
theorem dX12_slopesBy_53 : decode cX12_slopesBy 53 = .ok (.goto (-48), 3) := by decide +kernel
theorem dX12_slopesBy_56 : decode cX12_slopesBy 56 = .ok (.lload_n 2, 1) := by decide +kernel
theorem dX12_slopesBy_57 : decode cX12_slopesBy 57 = .ok (.lreturn, 1) := by decide +kernel
theorem dX12_spanOf_0 : decode cX12_spanOf 0 = .ok (.aload_n 0, 1) := by decide +kernel
theorem dX12_spanOf_1 : decode cX12_spanOf 1 = .ok (.getfield 58, 3) := by decide +kernel
theorem dX12_spanOf_4 : decode cX12_spanOf 4 = .ok (.iconst 0, 1) := by decide +kernel
theorem dX12_spanOf_5 : decode cX12_spanOf 5 = .ok (.lconst 1, 1) := by decide +kernel
theorem dX12_spanOf_6 : decode cX12_spanOf 6 = .ok (.lastore, 1) := by decide +kernel
theorem dX12_spanOf_7 : decode cX12_spanOf 7 = .ok (.iconst 1, 1) := by decide +kernel
theorem dX12_spanOf_8 : decode cX12_spanOf 8 = .ok (.istore_n 3, 1) := by decide +kernel
theorem dX12_spanOf_9 : decode cX12_spanOf 9 = .ok (.iload_n 3, 1) := by decide +kernel
theorem dX12_spanOf_10 : decode cX12_spanOf 10 = .ok (.iconst 1, 1) := by decide +kernel
theorem dX12_spanOf_11 : decode cX12_spanOf 11 = .ok (.iload_n 1, 1) := by decide +kernel
theorem dX12_spanOf_12 : decode cX12_spanOf 12 = .ok (.ishl, 1) := by decide +kernel
theorem dX12_spanOf_13 : decode cX12_spanOf 13 = .ok (.if_icmp .ge 137, 3) := by decide +kernel
theorem dX12_spanOf_16 : decode cX12_spanOf 16 = .ok (.iconst (-1), 1) := by decide +kernel
theorem dX12_spanOf_17 : decode cX12_spanOf 17 = .ok (.istore 4, 2) := by decide +kernel
theorem dX12_spanOf_19 : decode cX12_spanOf 19 = .ok (.iload_n 3, 1) := by decide +kernel
theorem dX12_spanOf_20 : decode cX12_spanOf 20 = .ok (.istore 5, 2) := by decide +kernel
theorem dX12_spanOf_22 : decode cX12_spanOf 22 = .ok (.iload 5, 2) := by decide +kernel
theorem dX12_spanOf_24 : decode cX12_spanOf 24 = .ok (.ifCond .eq 18, 3) := by decide +kernel
theorem dX12_spanOf_27 : decode cX12_spanOf 27 = .ok (.iinc 4 1, 3) := by decide +kernel
theorem dX12_spanOf_30 : decode cX12_spanOf 30 = .ok (.iload 5, 2) := by decide +kernel
theorem dX12_spanOf_32 : decode cX12_spanOf 32 = .ok (.iload 5, 2) := by decide +kernel
theorem dX12_spanOf_34 : decode cX12_spanOf 34 = .ok (.iconst 1, 1) := by decide +kernel
theorem dX12_spanOf_35 : decode cX12_spanOf 35 = .ok (.isub, 1) := by decide +kernel
theorem dX12_spanOf_36 : decode cX12_spanOf 36 = .ok (.iand, 1) := by decide +kernel
theorem dX12_spanOf_37 : decode cX12_spanOf 37 = .ok (.istore 5, 2) := by decide +kernel
theorem dX12_spanOf_39 : decode cX12_spanOf 39 = .ok (.goto (-17), 3) := by decide +kernel
theorem dX12_spanOf_42 : decode cX12_spanOf 42 = .ok (.lconst 0, 1) := by decide +kernel
theorem dX12_spanOf_43 : decode cX12_spanOf 43 = .ok (.lstore 5, 2) := by decide +kernel
theorem dX12_spanOf_45 : decode cX12_spanOf 45 = .ok (.iload 4, 2) := by decide +kernel
theorem dX12_spanOf_47 : decode cX12_spanOf 47 = .ok (.istore 7, 2) := by decide +kernel
theorem dX12_spanOf_49 : decode cX12_spanOf 49 = .ok (.iconst 0, 1) := by decide +kernel
theorem dX12_spanOf_50 : decode cX12_spanOf 50 = .ok (.istore 8, 2) := by decide +kernel
theorem dX12_spanOf_52 : decode cX12_spanOf 52 = .ok (.iload 8, 2) := by decide +kernel
theorem dX12_spanOf_54 : decode cX12_spanOf 54 = .ok (.iload_n 1, 1) := by decide +kernel
theorem dX12_spanOf_55 : decode cX12_spanOf 55 = .ok (.if_icmp .ge 81, 3) := by decide +kernel
theorem dX12_spanOf_58 : decode cX12_spanOf 58 = .ok (.iload_n 3, 1) := by decide +kernel
theorem dX12_spanOf_59 : decode cX12_spanOf 59 = .ok (.iload 8, 2) := by decide +kernel
theorem dX12_spanOf_61 : decode cX12_spanOf 61 = .ok (.ishr, 1) := by decide +kernel
theorem dX12_spanOf_62 : decode cX12_spanOf 62 = .ok (.iconst 1, 1) := by decide +kernel
theorem dX12_spanOf_63 : decode cX12_spanOf 63 = .ok (.iand, 1) := by decide +kernel
theorem dX12_spanOf_64 : decode cX12_spanOf 64 = .ok (.iconst 1, 1) := by decide +kernel
theorem dX12_spanOf_65 : decode cX12_spanOf 65 = .ok (.if_icmp .ne 65, 3) := by decide +kernel
theorem dX12_spanOf_68 : decode cX12_spanOf 68 = .ok (.aload_n 0, 1) := by decide +kernel
theorem dX12_spanOf_69 : decode cX12_spanOf 69 = .ok (.getfield 55, 3) := by decide +kernel
theorem dX12_spanOf_72 : decode cX12_spanOf 72 = .ok (.bipush 6, 2) := by decide +kernel
theorem dX12_spanOf_74 : decode cX12_spanOf 74 = .ok (.iload 4, 2) := by decide +kernel
theorem dX12_spanOf_76 : decode cX12_spanOf 76 = .ok (.imul, 1) := by decide +kernel
theorem dX12_spanOf_77 : decode cX12_spanOf 77 = .ok (.iload 8, 2) := by decide +kernel
theorem dX12_spanOf_79 : decode cX12_spanOf 79 = .ok (.iload_n 2, 1) := by decide +kernel
theorem dX12_spanOf_80 : decode cX12_spanOf 80 = .ok (.if_icmp .ne 7, 3) := by decide +kernel
theorem dX12_spanOf_83 : decode cX12_spanOf 83 = .ok (.iconst 5, 1) := by decide +kernel
theorem dX12_spanOf_84 : decode cX12_spanOf 84 = .ok (.goto 5, 3) := by decide +kernel
theorem dX12_spanOf_87 : decode cX12_spanOf 87 = .ok (.iload 8, 2) := by decide +kernel
theorem dX12_spanOf_89 : decode cX12_spanOf 89 = .ok (.iadd, 1) := by decide +kernel
theorem dX12_spanOf_90 : decode cX12_spanOf 90 = .ok (.laload, 1) := by decide +kernel
theorem dX12_spanOf_91 : decode cX12_spanOf 91 = .ok (.aload_n 0, 1) := by decide +kernel
theorem dX12_spanOf_92 : decode cX12_spanOf 92 = .ok (.getfield 58, 3) := by decide +kernel
theorem dX12_spanOf_95 : decode cX12_spanOf 95 = .ok (.iload_n 3, 1) := by decide +kernel
theorem dX12_spanOf_96 : decode cX12_spanOf 96 = .ok (.iconst 1, 1) := by decide +kernel
theorem dX12_spanOf_97 : decode cX12_spanOf 97 = .ok (.iload 8, 2) := by decide +kernel
theorem dX12_spanOf_99 : decode cX12_spanOf 99 = .ok (.ishl, 1) := by decide +kernel
theorem dX12_spanOf_100 : decode cX12_spanOf 100 = .ok (.iconst (-1), 1) := by decide +kernel
theorem dX12_spanOf_101 : decode cX12_spanOf 101 = .ok (.ixor, 1) := by decide +kernel
theorem dX12_spanOf_102 : decode cX12_spanOf 102 = .ok (.iand, 1) := by decide +kernel
theorem dX12_spanOf_103 : decode cX12_spanOf 103 = .ok (.laload, 1) := by decide +kernel
theorem dX12_spanOf_104 : decode cX12_spanOf 104 = .ok (.lmul, 1) := by decide +kernel
theorem dX12_spanOf_105 : decode cX12_spanOf 105 = .ok (.lstore 9, 2) := by decide +kernel
theorem dX12_spanOf_107 : decode cX12_spanOf 107 = .ok (.lload 5, 2) := by decide +kernel
theorem dX12_spanOf_109 : decode cX12_spanOf 109 = .ok (.iload 7, 2) := by decide +kernel
theorem dX12_spanOf_111 : decode cX12_spanOf 111 = .ok (.iconst 2, 1) := by decide +kernel
theorem dX12_spanOf_112 : decode cX12_spanOf 112 = .ok (.irem, 1) := by decide +kernel
theorem dX12_spanOf_113 : decode cX12_spanOf 113 = .ok (.ifCond .ne 8, 3) := by decide +kernel
theorem dX12_spanOf_116 : decode cX12_spanOf 116 = .ok (.lload 9, 2) := by decide +kernel
theorem dX12_spanOf_118 : decode cX12_spanOf 118 = .ok (.goto 6, 3) := by decide +kernel
theorem dX12_spanOf_121 : decode cX12_spanOf 121 = .ok (.lload 9, 2) := by decide +kernel
theorem dX12_spanOf_123 : decode cX12_spanOf 123 = .ok (.lneg, 1) := by decide +kernel
theorem dX12_spanOf_124 : decode cX12_spanOf 124 = .ok (.ladd, 1) := by decide +kernel
theorem dX12_spanOf_125 : decode cX12_spanOf 125 = .ok (.lstore 5, 2) := by decide +kernel
theorem dX12_spanOf_127 : decode cX12_spanOf 127 = .ok (.iinc 7 (-1), 3) := by decide +kernel
theorem dX12_spanOf_130 : decode cX12_spanOf 130 = .ok (.iinc 8 1, 3) := by decide +kernel
theorem dX12_spanOf_133 : decode cX12_spanOf 133 = .ok (.goto (-81), 3) := by decide +kernel
theorem dX12_spanOf_136 : decode cX12_spanOf 136 = .ok (.aload_n 0, 1) := by decide +kernel
theorem dX12_spanOf_137 : decode cX12_spanOf 137 = .ok (.getfield 58, 3) := by decide +kernel
theorem dX12_spanOf_140 : decode cX12_spanOf 140 = .ok (.iload_n 3, 1) := by decide +kernel
theorem dX12_spanOf_141 : decode cX12_spanOf 141 = .ok (.lload 5, 2) := by decide +kernel
theorem dX12_spanOf_143 : decode cX12_spanOf 143 = .ok (.lastore, 1) := by decide +kernel
theorem dX12_spanOf_144 : decode cX12_spanOf 144 = .ok (.iinc 3 1, 3) := by decide +kernel
theorem dX12_spanOf_147 : decode cX12_spanOf 147 = .ok (.goto (-138), 3) := by decide +kernel
theorem dX12_spanOf_150 : decode cX12_spanOf 150 = .ok (.aload_n 0, 1) := by decide +kernel
theorem dX12_spanOf_151 : decode cX12_spanOf 151 = .ok (.getfield 58, 3) := by decide +kernel
theorem dX12_spanOf_154 : decode cX12_spanOf 154 = .ok (.iconst 1, 1) := by decide +kernel
theorem dX12_spanOf_155 : decode cX12_spanOf 155 = .ok (.iload_n 1, 1) := by decide +kernel
theorem dX12_spanOf_156 : decode cX12_spanOf 156 = .ok (.ishl, 1) := by decide +kernel
theorem dX12_spanOf_157 : decode cX12_spanOf 157 = .ok (.iconst 1, 1) := by decide +kernel
theorem dX12_spanOf_158 : decode cX12_spanOf 158 = .ok (.isub, 1) := by decide +kernel
theorem dX12_spanOf_159 : decode cX12_spanOf 159 = .ok (.laload, 1) := by decide +kernel
theorem dX12_spanOf_160 : decode cX12_spanOf 160 = .ok (.lreturn, 1) := by decide +kernel
set_option maxRecDepth 20000 in
theorem ggX12_findColumns_X12_isLost : GoodIn wsX12_findColumns wsX12_isLost := goodIn_r _ [14, 15, 16, 17, 18, 13, 19, 20, 21, 22, 23, 24, 47, 48, 49, 50, 51, 52, 53, 54, 55, 56, 57, 58, 59, 60, 61, 62, 63, 64, 65, 66, 67, 68, 69, 70, 71, 72, 73, 74, 75, 76, 77, 78, 79, 80, 81, 82, 83, 84, 85, 86, 87] (by decide +kernel) (by decide +kernel)
set_option maxRecDepth 20000 in
theorem gX12_findColumns_X12_isLost : GoodIn wsX12_findColumns (wsV RX12 161 RX12 yX12_isLost wsX12_isLost) := goodIn_app (goodIn_of _ (by decide +kernel)) ggX12_findColumns_X12_isLost
set_option maxRecDepth 20000 in
theorem ggX12_findColumns_X12_productOf : GoodIn wsX12_findColumns wsX12_productOf := goodIn_r _ [28, 4, 1, 47, 48, 49, 50, 51, 52, 53, 54, 55, 56, 57, 58, 59, 60, 61, 62, 63, 64, 65, 66, 67, 68, 69, 70, 71, 72, 73, 74, 75, 76, 77, 78, 79, 80, 81, 82, 83, 84, 85, 86, 87] (by decide +kernel) (by decide +kernel)
set_option maxRecDepth 20000 in
theorem gX12_findColumns_X12_productOf : GoodIn wsX12_findColumns (wsV RX12 202 RX12 yX12_productOf wsX12_productOf) := goodIn_app (goodIn_of _ (by decide +kernel)) ggX12_findColumns_X12_productOf
set_option maxRecDepth 20000 in
theorem ggX12_findColumns_X12_slopesBy : GoodIn wsX12_findColumns wsX12_slopesBy := goodIn_r _ [32, 4, 1, 10, 11, 12, 13, 14, 15, 16, 17, 18, 19, 20, 21, 22, 23, 24, 33, 34, 35, 36, 37, 38, 39, 40, 41, 47, 48, 49, 50, 51, 52, 53, 54, 55, 56, 57, 58, 59, 60, 61, 62, 63, 64, 65, 66, 67, 68, 69, 70, 71, 72, 73, 74, 75, 76, 77, 78, 79, 80, 81, 82, 83, 84, 85, 86, 87] (by decide +kernel) (by decide +kernel)
set_option maxRecDepth 20000 in
theorem gX12_findColumns_X12_slopesBy : GoodIn wsX12_findColumns (wsV RX12 206 RX12 yX12_slopesBy wsX12_slopesBy) := goodIn_app (goodIn_of _ (by decide +kernel)) ggX12_findColumns_X12_slopesBy
set_option maxRecDepth 20000 in
theorem ggX12_findColumns_X12_spanOf : GoodIn wsX12_findColumns wsX12_spanOf := goodIn_r _ [45, 46, 9, 47, 48, 49, 50, 51, 52, 53, 54, 55, 56, 57, 58, 59, 60, 61, 62, 63, 64, 65, 66, 67, 68, 69, 70, 71, 72, 73, 74, 75, 76, 77, 78, 79, 80, 81, 82, 83, 84, 85, 86, 87] (by decide +kernel) (by decide +kernel)
set_option maxRecDepth 20000 in
theorem gX12_findColumns_X12_spanOf : GoodIn wsX12_findColumns (wsV RX12 210 RX12 yX12_spanOf wsX12_spanOf) := goodIn_app (goodIn_of _ (by decide +kernel)) ggX12_findColumns_X12_spanOf
theorem dX12_findColumns_0 : decode cX12_findColumns 0 = .ok (.iconst 0, 1) := by decide +kernel
theorem dX12_findColumns_1 : decode cX12_findColumns 1 = .ok (.istore_n 1, 1) := by decide +kernel
theorem dX12_findColumns_2 : decode cX12_findColumns 2 = .ok (.iload_n 1, 1) := by decide +kernel
theorem dX12_findColumns_3 : decode cX12_findColumns 3 = .ok (.bipush 40, 2) := by decide +kernel
theorem dX12_findColumns_5 : decode cX12_findColumns 5 = .ok (.if_icmp .ge 16, 3) := by decide +kernel
theorem dX12_findColumns_8 : decode cX12_findColumns 8 = .ok (.aload_n 0, 1) := by decide +kernel
theorem dX12_findColumns_9 : decode cX12_findColumns 9 = .ok (.getfield 48, 3) := by decide +kernel
theorem dX12_findColumns_12 : decode cX12_findColumns 12 = .ok (.iload_n 1, 1) := by decide +kernel
theorem dX12_findColumns_13 : decode cX12_findColumns 13 = .ok (.lconst 0, 1) := by decide +kernel
theorem dX12_findColumns_14 : decode cX12_findColumns 14 = .ok (.lastore, 1) := by decide +kernel
theorem dX12_findColumns_15 : decode cX12_findColumns 15 = .ok (.iinc 1 1, 3) := by decide +kernel
theorem dX12_findColumns_18 : decode cX12_findColumns 18 = .ok (.goto (-16), 3) := by decide +kernel
theorem dX12_findColumns_21 : decode cX12_findColumns 21 = .ok (.iconst 0, 1) := by decide +kernel
theorem dX12_findColumns_22 : decode cX12_findColumns 22 = .ok (.istore_n 1, 1) := by decide +kernel
theorem dX12_findColumns_23 : decode cX12_findColumns 23 = .ok (.iconst 0, 1) := by decide +kernel
theorem dX12_findColumns_24 : decode cX12_findColumns 24 = .ok (.istore_n 2, 1) := by decide +kernel
theorem dX12_findColumns_25 : decode cX12_findColumns 25 = .ok (.iload_n 2, 1) := by decide +kernel
theorem dX12_findColumns_26 : decode cX12_findColumns 26 = .ok (.aload_n 0, 1) := by decide +kernel
theorem dX12_findColumns_27 : decode cX12_findColumns 27 = .ok (.getfield 13, 3) := by decide +kernel
theorem dX12_findColumns_30 : decode cX12_findColumns 30 = .ok (.if_icmp .ge 77, 3) := by decide +kernel
theorem dX12_findColumns_33 : decode cX12_findColumns 33 = .ok (.aload_n 0, 1) := by decide +kernel
theorem dX12_findColumns_34 : decode cX12_findColumns 34 = .ok (.getfield 44, 3) := by decide +kernel
theorem dX12_findColumns_37 : decode cX12_findColumns 37 = .ok (.iload_n 2, 1) := by decide +kernel
theorem dX12_findColumns_38 : decode cX12_findColumns 38 = .ok (.baload, 1) := by decide +kernel
theorem dX12_findColumns_39 : decode cX12_findColumns 39 = .ok (.ifCond .eq 7, 3) := by decide +kernel
theorem dX12_findColumns_42 : decode cX12_findColumns 42 = .ok (.iload_n 1, 1) := by decide +kernel
theorem dX12_findColumns_43 : decode cX12_findColumns 43 = .ok (.goto 4, 3) := by decide +kernel
theorem dX12_findColumns_46 : decode cX12_findColumns 46 = .ok (.iload_n 2, 1) := by decide +kernel
theorem dX12_findColumns_47 : decode cX12_findColumns 47 = .ok (.istore_n 1, 1) := by decide +kernel
theorem dX12_findColumns_48 : decode cX12_findColumns 48 = .ok (.iconst 0, 1) := by decide +kernel
theorem dX12_findColumns_49 : decode cX12_findColumns 49 = .ok (.istore_n 3, 1) := by decide +kernel
theorem dX12_findColumns_50 : decode cX12_findColumns 50 = .ok (.iload_n 3, 1) := by decide +kernel
theorem dX12_findColumns_51 : decode cX12_findColumns 51 = .ok (.aload_n 0, 1) := by decide +kernel
theorem dX12_findColumns_52 : decode cX12_findColumns 52 = .ok (.getfield 7, 3) := by decide +kernel
theorem dX12_findColumns_55 : decode cX12_findColumns 55 = .ok (.if_icmp .ge 46, 3) := by decide +kernel
theorem dX12_findColumns_58 : decode cX12_findColumns 58 = .ok (.aload_n 0, 1) := by decide +kernel
theorem dX12_findColumns_59 : decode cX12_findColumns 59 = .ok (.getfield 48, 3) := by decide +kernel
theorem dX12_findColumns_62 : decode cX12_findColumns 62 = .ok (.bipush 8, 2) := by decide +kernel
theorem dX12_findColumns_64 : decode cX12_findColumns 64 = .ok (.iload_n 1, 1) := by decide +kernel
theorem dX12_findColumns_65 : decode cX12_findColumns 65 = .ok (.imul, 1) := by decide +kernel
theorem dX12_findColumns_66 : decode cX12_findColumns 66 = .ok (.iload_n 3, 1) := by decide +kernel
theorem dX12_findColumns_67 : decode cX12_findColumns 67 = .ok (.iadd, 1) := by decide +kernel
theorem dX12_findColumns_68 : decode cX12_findColumns 68 = .ok (.dup2, 1) := by decide +kernel
theorem dX12_findColumns_69 : decode cX12_findColumns 69 = .ok (.laload, 1) := by decide +kernel
theorem dX12_findColumns_70 : decode cX12_findColumns 70 = .ok (.aload_n 0, 1) := by decide +kernel
theorem dX12_findColumns_71 : decode cX12_findColumns 71 = .ok (.iload_n 3, 1) := by decide +kernel
theorem dX12_findColumns_72 : decode cX12_findColumns 72 = .ok (.invokevirtual 161, 3) := by decide +kernel
theorem dX12_findColumns_75 : decode cX12_findColumns 75 = .ok (.ifCond .eq 7, 3) := by decide +kernel
theorem dX12_findColumns_78 : decode cX12_findColumns 78 = .ok (.lconst 0, 1) := by decide +kernel
theorem dX12_findColumns_79 : decode cX12_findColumns 79 = .ok (.goto 14, 3) := by decide +kernel
theorem dX12_findColumns_82 : decode cX12_findColumns 82 = .ok (.aload_n 0, 1) := by decide +kernel
theorem dX12_findColumns_83 : decode cX12_findColumns 83 = .ok (.getfield 23, 3) := by decide +kernel
theorem dX12_findColumns_86 : decode cX12_findColumns 86 = .ok (.iconst 5, 1) := by decide +kernel
theorem dX12_findColumns_87 : decode cX12_findColumns 87 = .ok (.iload_n 3, 1) := by decide +kernel
theorem dX12_findColumns_88 : decode cX12_findColumns 88 = .ok (.imul, 1) := by decide +kernel
theorem dX12_findColumns_89 : decode cX12_findColumns 89 = .ok (.iload_n 2, 1) := by decide +kernel
theorem dX12_findColumns_90 : decode cX12_findColumns 90 = .ok (.iadd, 1) := by decide +kernel
theorem dX12_findColumns_91 : decode cX12_findColumns 91 = .ok (.iaload, 1) := by decide +kernel
theorem dX12_findColumns_92 : decode cX12_findColumns 92 = .ok (.i2l, 1) := by decide +kernel
theorem dX12_findColumns_93 : decode cX12_findColumns 93 = .ok (.ladd, 1) := by decide +kernel
theorem dX12_findColumns_94 : decode cX12_findColumns 94 = .ok (.lastore, 1) := by decide +kernel
theorem dX12_findColumns_95 : decode cX12_findColumns 95 = .ok (.iinc 3 1, 3) := by decide +kernel
theorem dX12_findColumns_98 : decode cX12_findColumns 98 = .ok (.goto (-48), 3) := by decide +kernel
theorem dX12_findColumns_101 : decode cX12_findColumns 101 = .ok (.iinc 2 1, 3) := by decide +kernel
theorem dX12_findColumns_104 : decode cX12_findColumns 104 = .ok (.goto (-79), 3) := by decide +kernel
theorem dX12_findColumns_107 : decode cX12_findColumns 107 = .ok (.aload_n 0, 1) := by decide +kernel
theorem dX12_findColumns_108 : decode cX12_findColumns 108 = .ok (.iconst 0, 1) := by decide +kernel
theorem dX12_findColumns_109 : decode cX12_findColumns 109 = .ok (.putfield 196, 3) := by decide +kernel
theorem dX12_findColumns_112 : decode cX12_findColumns 112 = .ok (.aload_n 0, 1) := by decide +kernel
theorem dX12_findColumns_113 : decode cX12_findColumns 113 = .ok (.iconst 0, 1) := by decide +kernel
theorem dX12_findColumns_114 : decode cX12_findColumns 114 = .ok (.putfield 199, 3) := by decide +kernel
theorem dX12_findColumns_117 : decode cX12_findColumns 117 = .ok (.iconst 0, 1) := by decide +kernel
theorem dX12_findColumns_118 : decode cX12_findColumns 118 = .ok (.istore_n 2, 1) := by decide +kernel
theorem dX12_findColumns_119 : decode cX12_findColumns 119 = .ok (.iload_n 2, 1) := by decide +kernel
theorem dX12_findColumns_120 : decode cX12_findColumns 120 = .ok (.aload_n 0, 1) := by decide +kernel
theorem dX12_findColumns_121 : decode cX12_findColumns 121 = .ok (.getfield 13, 3) := by decide +kernel
theorem dX12_findColumns_124 : decode cX12_findColumns 124 = .ok (.if_icmp .ge 154, 3) := by decide +kernel
theorem dX12_findColumns_127 : decode cX12_findColumns 127 = .ok (.aload_n 0, 1) := by decide +kernel
theorem dX12_findColumns_128 : decode cX12_findColumns 128 = .ok (.getfield 44, 3) := by decide +kernel
theorem dX12_findColumns_131 : decode cX12_findColumns 131 = .ok (.iload_n 2, 1) := by decide +kernel
theorem dX12_findColumns_132 : decode cX12_findColumns 132 = .ok (.baload, 1) := by decide +kernel
theorem dX12_findColumns_133 : decode cX12_findColumns 133 = .ok (.ifCond .ne 139, 3) := by decide +kernel
theorem dX12_findColumns_136 : decode cX12_findColumns 136 = .ok (.aload_n 0, 1) := by decide +kernel
theorem dX12_findColumns_137 : decode cX12_findColumns 137 = .ok (.getfield 52, 3) := by decide +kernel
theorem dX12_findColumns_140 : decode cX12_findColumns 140 = .ok (.aload_n 0, 1) := by decide +kernel
theorem dX12_findColumns_141 : decode cX12_findColumns 141 = .ok (.getfield 196, 3) := by decide +kernel
theorem dX12_findColumns_144 : decode cX12_findColumns 144 = .ok (.iload_n 2, 1) := by decide +kernel
theorem dX12_findColumns_145 : decode cX12_findColumns 145 = .ok (.iastore, 1) := by decide +kernel
theorem dX12_findColumns_146 : decode cX12_findColumns 146 = .ok (.iconst 0, 1) := by decide +kernel
theorem dX12_findColumns_147 : decode cX12_findColumns 147 = .ok (.istore_n 3, 1) := by decide +kernel
theorem dX12_findColumns_148 : decode cX12_findColumns 148 = .ok (.iload_n 3, 1) := by decide +kernel
theorem dX12_findColumns_149 : decode cX12_findColumns 149 = .ok (.aload_n 0, 1) := by decide +kernel
theorem dX12_findColumns_150 : decode cX12_findColumns 150 = .ok (.getfield 196, 3) := by decide +kernel
theorem dX12_findColumns_153 : decode cX12_findColumns 153 = .ok (.if_icmp .gt 62, 3) := by decide +kernel
theorem dX12_findColumns_156 : decode cX12_findColumns 156 = .ok (.aload_n 0, 1) := by decide +kernel
theorem dX12_findColumns_157 : decode cX12_findColumns 157 = .ok (.getfield 55, 3) := by decide +kernel
theorem dX12_findColumns_160 : decode cX12_findColumns 160 = .ok (.bipush 6, 2) := by decide +kernel
theorem dX12_findColumns_162 : decode cX12_findColumns 162 = .ok (.aload_n 0, 1) := by decide +kernel
theorem dX12_findColumns_163 : decode cX12_findColumns 163 = .ok (.getfield 196, 3) := by decide +kernel
theorem dX12_findColumns_166 : decode cX12_findColumns 166 = .ok (.imul, 1) := by decide +kernel
theorem dX12_findColumns_167 : decode cX12_findColumns 167 = .ok (.iload_n 3, 1) := by decide +kernel
theorem dX12_findColumns_168 : decode cX12_findColumns 168 = .ok (.iadd, 1) := by decide +kernel
theorem dX12_findColumns_169 : decode cX12_findColumns 169 = .ok (.aload_n 0, 1) := by decide +kernel
theorem dX12_findColumns_170 : decode cX12_findColumns 170 = .ok (.iload_n 2, 1) := by decide +kernel
theorem dX12_findColumns_171 : decode cX12_findColumns 171 = .ok (.aload_n 0, 1) := by decide +kernel
theorem dX12_findColumns_172 : decode cX12_findColumns 172 = .ok (.getfield 52, 3) := by decide +kernel
theorem dX12_findColumns_175 : decode cX12_findColumns 175 = .ok (.iload_n 3, 1) := by decide +kernel
theorem dX12_findColumns_176 : decode cX12_findColumns 176 = .ok (.iaload, 1) := by decide +kernel
theorem dX12_findColumns_177 : decode cX12_findColumns 177 = .ok (.invokevirtual 202, 3) := by decide +kernel
theorem dX12_findColumns_180 : decode cX12_findColumns 180 = .ok (.lastore, 1) := by decide +kernel
theorem dX12_findColumns_181 : decode cX12_findColumns 181 = .ok (.aload_n 0, 1) := by decide +kernel
theorem dX12_findColumns_182 : decode cX12_findColumns 182 = .ok (.getfield 55, 3) := by decide +kernel
theorem dX12_findColumns_185 : decode cX12_findColumns 185 = .ok (.bipush 6, 2) := by decide +kernel
theorem dX12_findColumns_187 : decode cX12_findColumns 187 = .ok (.iload_n 3, 1) := by decide +kernel
theorem dX12_findColumns_188 : decode cX12_findColumns 188 = .ok (.imul, 1) := by decide +kernel
theorem dX12_findColumns_189 : decode cX12_findColumns 189 = .ok (.aload_n 0, 1) := by decide +kernel
theorem dX12_findColumns_190 : decode cX12_findColumns 190 = .ok (.getfield 196, 3) := by decide +kernel
theorem dX12_findColumns_193 : decode cX12_findColumns 193 = .ok (.iadd, 1) := by decide +kernel
theorem dX12_findColumns_194 : decode cX12_findColumns 194 = .ok (.aload_n 0, 1) := by decide +kernel
theorem dX12_findColumns_195 : decode cX12_findColumns 195 = .ok (.getfield 55, 3) := by decide +kernel
theorem dX12_findColumns_198 : decode cX12_findColumns 198 = .ok (.bipush 6, 2) := by decide +kernel
theorem dX12_findColumns_200 : decode cX12_findColumns 200 = .ok (.aload_n 0, 1) := by decide +kernel
theorem dX12_findColumns_201 : decode cX12_findColumns 201 = .ok (.getfield 196, 3) := by decide +kernel
theorem dX12_findColumns_204 : decode cX12_findColumns 204 = .ok (.imul, 1) := by decide +kernel
theorem dX12_findColumns_205 : decode cX12_findColumns 205 = .ok (.iload_n 3, 1) := by decide +kernel
theorem dX12_findColumns_206 : decode cX12_findColumns 206 = .ok (.iadd, 1) := by decide +kernel
theorem dX12_findColumns_207 : decode cX12_findColumns 207 = .ok (.laload, 1) := by decide +kernel
theorem dX12_findColumns_208 : decode cX12_findColumns 208 = .ok (.lastore, 1) := by decide +kernel
theorem dX12_findColumns_209 : decode cX12_findColumns 209 = .ok (.iinc 3 1, 3) := by decide +kernel
theorem dX12_findColumns_212 : decode cX12_findColumns 212 = .ok (.goto (-64), 3) := by decide +kernel
theorem dX12_findColumns_215 : decode cX12_findColumns 215 = .ok (.aload_n 0, 1) := by decide +kernel
theorem dX12_findColumns_216 : decode cX12_findColumns 216 = .ok (.getfield 55, 3) := by decide +kernel
theorem dX12_findColumns_219 : decode cX12_findColumns 219 = .ok (.bipush 6, 2) := by decide +kernel
theorem dX12_findColumns_221 : decode cX12_findColumns 221 = .ok (.aload_n 0, 1) := by decide +kernel
theorem dX12_findColumns_222 : decode cX12_findColumns 222 = .ok (.getfield 196, 3) := by decide +kernel
theorem dX12_findColumns_225 : decode cX12_findColumns 225 = .ok (.imul, 1) := by decide +kernel
theorem dX12_findColumns_226 : decode cX12_findColumns 226 = .ok (.iconst 5, 1) := by decide +kernel
theorem dX12_findColumns_227 : decode cX12_findColumns 227 = .ok (.iadd, 1) := by decide +kernel
theorem dX12_findColumns_228 : decode cX12_findColumns 228 = .ok (.aload_n 0, 1) := by decide +kernel
theorem dX12_findColumns_229 : decode cX12_findColumns 229 = .ok (.iload_n 2, 1) := by decide +kernel
theorem dX12_findColumns_230 : decode cX12_findColumns 230 = .ok (.invokevirtual 206, 3) := by decide +kernel
theorem dX12_findColumns_233 : decode cX12_findColumns 233 = .ok (.lastore, 1) := by decide +kernel
theorem dX12_findColumns_234 : decode cX12_findColumns 234 = .ok (.aload_n 0, 1) := by decide +kernel
theorem dX12_findColumns_235 : decode cX12_findColumns 235 = .ok (.aload_n 0, 1) := by decide +kernel
theorem dX12_findColumns_236 : decode cX12_findColumns 236 = .ok (.getfield 196, 3) := by decide +kernel
theorem dX12_findColumns_239 : decode cX12_findColumns 239 = .ok (.iconst 1, 1) := by decide +kernel
theorem dX12_findColumns_240 : decode cX12_findColumns 240 = .ok (.iadd, 1) := by decide +kernel
theorem dX12_findColumns_241 : decode cX12_findColumns 241 = .ok (.iconst (-1), 1) := by decide +kernel
theorem dX12_findColumns_242 : decode cX12_findColumns 242 = .ok (.invokevirtual 210, 3) := by decide +kernel
theorem dX12_findColumns_245 : decode cX12_findColumns 245 = .ok (.lconst 0, 1) := by decide +kernel
theorem dX12_findColumns_246 : decode cX12_findColumns 246 = .ok (.lcmp, 1) := by decide +kernel
theorem dX12_findColumns_247 : decode cX12_findColumns 247 = .ok (.ifCond .eq 25, 3) := by decide +kernel
theorem dX12_findColumns_250 : decode cX12_findColumns 250 = .ok (.aload_n 0, 1) := by decide +kernel
theorem dX12_findColumns_251 : decode cX12_findColumns 251 = .ok (.dup, 1) := by decide +kernel
theorem dX12_findColumns_252 : decode cX12_findColumns 252 = .ok (.getfield 196, 3) := by decide +kernel
theorem dX12_findColumns_255 : decode cX12_findColumns 255 = .ok (.iconst 1, 1) := by decide +kernel
theorem dX12_findColumns_256 : decode cX12_findColumns 256 = .ok (.iadd, 1) := by decide +kernel
theorem dX12_findColumns_257 : decode cX12_findColumns 257 = .ok (.putfield 196, 3) := by decide +kernel
theorem dX12_findColumns_260 : decode cX12_findColumns 260 = .ok (.aload_n 0, 1) := by decide +kernel
theorem dX12_findColumns_261 : decode cX12_findColumns 261 = .ok (.dup, 1) := by decide +kernel
theorem dX12_findColumns_262 : decode cX12_findColumns 262 = .ok (.getfield 199, 3) := by decide +kernel
theorem dX12_findColumns_265 : decode cX12_findColumns 265 = .ok (.iconst 1, 1) := by decide +kernel
theorem dX12_findColumns_266 : decode cX12_findColumns 266 = .ok (.iload_n 2, 1) := by decide +kernel
theorem dX12_findColumns_267 : decode cX12_findColumns 267 = .ok (.ishl, 1) := by decide +kernel
theorem dX12_findColumns_268 : decode cX12_findColumns 268 = .ok (.ior, 1) := by decide +kernel
theorem dX12_findColumns_269 : decode cX12_findColumns 269 = .ok (.putfield 199, 3) := by decide +kernel
theorem dX12_findColumns_272 : decode cX12_findColumns 272 = .ok (.iinc 2 1, 3) := by decide +kernel
theorem dX12_findColumns_275 : decode cX12_findColumns 275 = .ok (.goto (-156), 3) := by decide +kernel
theorem dX12_findColumns_278 : decode cX12_findColumns 278 = .ok (.return_, 1) := by decide +kernel
set_option maxRecDepth 20000 in
theorem ggX12_seen_X12_findColumns : GoodIn wsX12_seen wsX12_findColumns := goodIn_r _ [6, 7, 8, 9, 10, 11, 12, 1, 13, 14, 15, 16, 17, 5, 18, 19, 20, 21, 22, 23, 24, 25, 26, 27, 28, 29, 30, 31, 32, 33, 34, 35, 36, 37, 38, 39, 40, 41, 42, 43, 44, 45, 46, 47, 48, 49, 50, 51, 52, 53, 54, 55, 56, 57, 58, 59, 60, 61, 62, 63, 64, 65, 66, 67, 68, 69, 70, 71, 72, 73, 74, 75, 76, 77, 78, 79, 80, 81, 82, 83, 84, 85, 86, 87, 88, 89, 90, 91] (by decide +kernel) (by decide +kernel)
set_option maxRecDepth 20000 in
theorem gX12_seen_X12_findColumns : GoodIn wsX12_seen (wsV RX12 213 RX12 yX12_findColumns wsX12_findColumns) := goodIn_app (goodIn_of _ (by decide +kernel)) ggX12_seen_X12_findColumns
theorem dX12_seen_0 : decode cX12_seen 0 = .ok (.aload_n 0, 1) := by decide +kernel
theorem dX12_seen_1 : decode cX12_seen 1 = .ok (.invokevirtual 213, 3) := by decide +kernel
theorem dX12_seen_4 : decode cX12_seen 4 = .ok (.aload_n 0, 1) := by decide +kernel
theorem dX12_seen_5 : decode cX12_seen 5 = .ok (.getfield 199, 3) := by decide +kernel
theorem dX12_seen_8 : decode cX12_seen 8 = .ok (.ireturn, 1) := by decide +kernel
theorem dX12_common_0 : decode cX12_common 0 = .ok (.lload_n 0, 1) := by decide +kernel
theorem dX12_common_1 : decode cX12_common 1 = .ok (.lconst 0, 1) := by decide +kernel
theorem dX12_common_2 : decode cX12_common 2 = .ok (.lcmp, 1) := by decide +kernel
theorem dX12_common_3 : decode cX12_common 3 = .ok (.ifCond .ge 8, 3) := by decide +kernel
theorem dX12_common_6 : decode cX12_common 6 = .ok (.lload_n 0, 1) := by decide +kernel
theorem dX12_common_7 : decode cX12_common 7 = .ok (.lneg, 1) := by decide +kernel
theorem dX12_common_8 : decode cX12_common 8 = .ok (.goto 4, 3) := by decide +kernel
theorem dX12_common_11 : decode cX12_common 11 = .ok (.lload_n 0, 1) := by decide +kernel
theorem dX12_common_12 : decode cX12_common 12 = .ok (.lstore 4, 2) := by decide +kernel
theorem dX12_common_14 : decode cX12_common 14 = .ok (.lload_n 2, 1) := by decide +kernel
theorem dX12_common_15 : decode cX12_common 15 = .ok (.lstore 6, 2) := by decide +kernel
theorem dX12_common_17 : decode cX12_common 17 = .ok (.lload 6, 2) := by decide +kernel
theorem dX12_common_19 : decode cX12_common 19 = .ok (.lconst 0, 1) := by decide +kernel
theorem dX12_common_20 : decode cX12_common 20 = .ok (.lcmp, 1) := by decide +kernel
theorem dX12_common_21 : decode cX12_common 21 = .ok (.ifCond .eq 21, 3) := by decide +kernel
theorem dX12_common_24 : decode cX12_common 24 = .ok (.lload 4, 2) := by decide +kernel
theorem dX12_common_26 : decode cX12_common 26 = .ok (.lload 6, 2) := by decide +kernel
theorem dX12_common_28 : decode cX12_common 28 = .ok (.lrem, 1) := by decide +kernel
theorem dX12_common_29 : decode cX12_common 29 = .ok (.lstore 8, 2) := by decide +kernel
theorem dX12_common_31 : decode cX12_common 31 = .ok (.lload 6, 2) := by decide +kernel
theorem dX12_common_33 : decode cX12_common 33 = .ok (.lstore 4, 2) := by decide +kernel
theorem dX12_common_35 : decode cX12_common 35 = .ok (.lload 8, 2) := by decide +kernel
theorem dX12_common_37 : decode cX12_common 37 = .ok (.lstore 6, 2) := by decide +kernel
theorem dX12_common_39 : decode cX12_common 39 = .ok (.goto (-22), 3) := by decide +kernel
theorem dX12_common_42 : decode cX12_common 42 = .ok (.lload 4, 2) := by decide +kernel
theorem dX12_common_44 : decode cX12_common 44 = .ok (.lreturn, 1) := by decide +kernel
set_option maxRecDepth 20000 in
theorem ggX12_findBend_X12_spanOf : GoodIn wsX12_findBend wsX12_spanOf := goodIn_r _ [10, 11, 12, 16, 17, 18, 19, 20, 21, 22, 23, 24, 25, 26, 27, 28, 29, 30, 31, 32, 33, 34, 35, 36, 37, 38, 39, 40, 41, 42, 43, 44, 45, 46, 47, 48, 49, 50, 51, 52, 53, 54, 55, 56] (by decide +kernel) (by decide +kernel)
set_option maxRecDepth 20000 in
theorem gX12_findBend_X12_spanOf : GoodIn wsX12_findBend (wsV RX12 210 RX12 yX12_spanOf wsX12_spanOf) := goodIn_app (goodIn_of _ (by decide +kernel)) ggX12_findBend_X12_spanOf
set_option maxRecDepth 20000 in
theorem ggX12_findBend_X12_common : GoodIn wsX12_findBend wsX12_common := goodIn_r _ [15] (by decide +kernel) (by decide +kernel)
set_option maxRecDepth 20000 in
theorem gX12_findBend_X12_common : GoodIn wsX12_findBend (va_wsS RX12 223 yX12_common wsX12_common) := goodIn_app (goodIn_of _ (by decide +kernel)) ggX12_findBend_X12_common
theorem dX12_findBend_0 : decode cX12_findBend 0 = .ok (.iload_n 1, 1) := by decide +kernel
theorem dX12_findBend_1 : decode cX12_findBend 1 = .ok (.istore_n 2, 1) := by decide +kernel
theorem dX12_findBend_2 : decode cX12_findBend 2 = .ok (.aload_n 0, 1) := by decide +kernel
theorem dX12_findBend_3 : decode cX12_findBend 3 = .ok (.getfield 44, 3) := by decide +kernel
theorem dX12_findBend_6 : decode cX12_findBend 6 = .ok (.iload_n 2, 1) := by decide +kernel
theorem dX12_findBend_7 : decode cX12_findBend 7 = .ok (.baload, 1) := by decide +kernel
theorem dX12_findBend_8 : decode cX12_findBend 8 = .ok (.ifCond .eq 9, 3) := by decide +kernel
theorem dX12_findBend_11 : decode cX12_findBend 11 = .ok (.iinc 2 (-1), 3) := by decide +kernel
theorem dX12_findBend_14 : decode cX12_findBend 14 = .ok (.goto (-12), 3) := by decide +kernel
theorem dX12_findBend_17 : decode cX12_findBend 17 = .ok (.aload_n 0, 1) := by decide +kernel
theorem dX12_findBend_18 : decode cX12_findBend 18 = .ok (.lconst 0, 1) := by decide +kernel
theorem dX12_findBend_19 : decode cX12_findBend 19 = .ok (.putfield 216, 3) := by decide +kernel
theorem dX12_findBend_22 : decode cX12_findBend 22 = .ok (.aload_n 0, 1) := by decide +kernel
theorem dX12_findBend_23 : decode cX12_findBend 23 = .ok (.lconst 1, 1) := by decide +kernel
theorem dX12_findBend_24 : decode cX12_findBend 24 = .ok (.putfield 220, 3) := by decide +kernel
theorem dX12_findBend_27 : decode cX12_findBend 27 = .ok (.iconst 0, 1) := by decide +kernel
theorem dX12_findBend_28 : decode cX12_findBend 28 = .ok (.istore_n 3, 1) := by decide +kernel
theorem dX12_findBend_29 : decode cX12_findBend 29 = .ok (.iload_n 3, 1) := by decide +kernel
theorem dX12_findBend_30 : decode cX12_findBend 30 = .ok (.aload_n 0, 1) := by decide +kernel
theorem dX12_findBend_31 : decode cX12_findBend 31 = .ok (.getfield 196, 3) := by decide +kernel
theorem dX12_findBend_34 : decode cX12_findBend 34 = .ok (.if_icmp .ge 45, 3) := by decide +kernel
theorem dX12_findBend_37 : decode cX12_findBend 37 = .ok (.aload_n 0, 1) := by decide +kernel
theorem dX12_findBend_38 : decode cX12_findBend 38 = .ok (.getfield 52, 3) := by decide +kernel
theorem dX12_findBend_41 : decode cX12_findBend 41 = .ok (.iload_n 3, 1) := by decide +kernel
theorem dX12_findBend_42 : decode cX12_findBend 42 = .ok (.iaload, 1) := by decide +kernel
theorem dX12_findBend_43 : decode cX12_findBend 43 = .ok (.iload_n 2, 1) := by decide +kernel
theorem dX12_findBend_44 : decode cX12_findBend 44 = .ok (.if_icmp .ne 29, 3) := by decide +kernel
theorem dX12_findBend_47 : decode cX12_findBend 47 = .ok (.aload_n 0, 1) := by decide +kernel
theorem dX12_findBend_48 : decode cX12_findBend 48 = .ok (.aload_n 0, 1) := by decide +kernel
theorem dX12_findBend_49 : decode cX12_findBend 49 = .ok (.aload_n 0, 1) := by decide +kernel
theorem dX12_findBend_50 : decode cX12_findBend 50 = .ok (.getfield 196, 3) := by decide +kernel
theorem dX12_findBend_53 : decode cX12_findBend 53 = .ok (.iload_n 3, 1) := by decide +kernel
theorem dX12_findBend_54 : decode cX12_findBend 54 = .ok (.invokevirtual 210, 3) := by decide +kernel
theorem dX12_findBend_57 : decode cX12_findBend 57 = .ok (.putfield 216, 3) := by decide +kernel
theorem dX12_findBend_60 : decode cX12_findBend 60 = .ok (.aload_n 0, 1) := by decide +kernel
theorem dX12_findBend_61 : decode cX12_findBend 61 = .ok (.aload_n 0, 1) := by decide +kernel
theorem dX12_findBend_62 : decode cX12_findBend 62 = .ok (.aload_n 0, 1) := by decide +kernel
theorem dX12_findBend_63 : decode cX12_findBend 63 = .ok (.getfield 196, 3) := by decide +kernel
theorem dX12_findBend_66 : decode cX12_findBend 66 = .ok (.iconst (-1), 1) := by decide +kernel
theorem dX12_findBend_67 : decode cX12_findBend 67 = .ok (.invokevirtual 210, 3) := by decide +kernel
theorem dX12_findBend_70 : decode cX12_findBend 70 = .ok (.putfield 220, 3) := by decide +kernel
theorem dX12_findBend_73 : decode cX12_findBend 73 = .ok (.iinc 3 1, 3) := by decide +kernel
theorem dX12_findBend_76 : decode cX12_findBend 76 = .ok (.goto (-47), 3) := by decide +kernel
theorem dX12_findBend_79 : decode cX12_findBend 79 = .ok (.aload_n 0, 1) := by decide +kernel
theorem dX12_findBend_80 : decode cX12_findBend 80 = .ok (.getfield 216, 3) := by decide +kernel
theorem dX12_findBend_83 : decode cX12_findBend 83 = .ok (.aload_n 0, 1) := by decide +kernel
theorem dX12_findBend_84 : decode cX12_findBend 84 = .ok (.getfield 220, 3) := by decide +kernel
theorem dX12_findBend_87 : decode cX12_findBend 87 = .ok (.invokestatic 223, 3) := by decide +kernel
theorem dX12_findBend_90 : decode cX12_findBend 90 = .ok (.lstore_n 3, 1) := by decide +kernel
theorem dX12_findBend_91 : decode cX12_findBend 91 = .ok (.aload_n 0, 1) := by decide +kernel
theorem dX12_findBend_92 : decode cX12_findBend 92 = .ok (.dup, 1) := by decide +kernel
theorem dX12_findBend_93 : decode cX12_findBend 93 = .ok (.getfield 216, 3) := by decide +kernel
theorem dX12_findBend_96 : decode cX12_findBend 96 = .ok (.lload_n 3, 1) := by decide +kernel
theorem dX12_findBend_97 : decode cX12_findBend 97 = .ok (.ldiv, 1) := by decide +kernel
theorem dX12_findBend_98 : decode cX12_findBend 98 = .ok (.putfield 216, 3) := by decide +kernel
theorem dX12_findBend_101 : decode cX12_findBend 101 = .ok (.aload_n 0, 1) := by decide +kernel
theorem dX12_findBend_102 : decode cX12_findBend 102 = .ok (.dup, 1) := by decide +kernel
theorem dX12_findBend_103 : decode cX12_findBend 103 = .ok (.getfield 220, 3) := by decide +kernel
theorem dX12_findBend_106 : decode cX12_findBend 106 = .ok (.lload_n 3, 1) := by decide +kernel
theorem dX12_findBend_107 : decode cX12_findBend 107 = .ok (.ldiv, 1) := by decide +kernel
theorem dX12_findBend_108 : decode cX12_findBend 108 = .ok (.putfield 220, 3) := by decide +kernel
theorem dX12_findBend_111 : decode cX12_findBend 111 = .ok (.return_, 1) := by decide +kernel
set_option maxRecDepth 20000 in
theorem ggX12_bend_X12_isPart : GoodIn wsX12_bend wsX12_isPart := goodIn_r _ [8, 9, 10, 11, 7, 12, 68, 69, 70, 71, 72, 73, 74, 75, 76, 77, 78, 79, 80, 81, 82, 83, 84, 85, 86, 87, 88, 89, 90, 91, 92, 93, 94, 95, 96, 97, 98, 99, 100, 101, 102, 103, 104, 105, 106, 107, 108] (by decide +kernel) (by decide +kernel)
set_option maxRecDepth 20000 in
theorem gX12_bend_X12_isPart : GoodIn wsX12_bend (wsV RX12 167 RX12 yX12_isPart wsX12_isPart) := goodIn_app (goodIn_of _ (by decide +kernel)) ggX12_bend_X12_isPart
set_option maxRecDepth 20000 in
theorem ggX12_bend_X12_in : GoodIn wsX12_bend wsX12_in := goodIn_r _ [12] (by decide +kernel) (by decide +kernel)
set_option maxRecDepth 20000 in
theorem gX12_bend_X12_in : GoodIn wsX12_bend (va_wsS RX12 130 yX12_in wsX12_in) := goodIn_app (goodIn_of _ (by decide +kernel)) ggX12_bend_X12_in
set_option maxRecDepth 20000 in
theorem ggX12_bend_X12_findColumns : GoodIn wsX12_bend wsX12_findColumns := goodIn_r _ [16, 17, 9, 18, 19, 20, 21, 22, 23, 24, 25, 26, 27, 7, 28, 29, 30, 31, 32, 33, 34, 35, 36, 37, 38, 39, 40, 41, 42, 43, 44, 45, 46, 47, 48, 49, 50, 51, 52, 53, 54, 55, 56, 57, 58, 59, 60, 68, 69, 70, 71, 72, 73, 74, 75, 76, 77, 78, 79, 80, 81, 82, 83, 84, 85, 86, 87, 88, 89, 90, 91, 92, 93, 94, 95, 96, 97, 98, 99, 100, 101, 102, 103, 104, 105, 106, 107, 108] (by decide +kernel) (by decide +kernel)
set_option maxRecDepth 20000 in
theorem gX12_bend_X12_findColumns : GoodIn wsX12_bend (wsV RX12 213 RX12 yX12_findColumns wsX12_findColumns) := goodIn_app (goodIn_of _ (by decide +kernel)) ggX12_bend_X12_findColumns
set_option maxRecDepth 20000 in
theorem ggX12_bend_X12_findBend : GoodIn wsX12_bend wsX12_findBend := goodIn_r _ [64, 18, 2, 3, 21, 23, 56, 57, 58, 7, 59, 60, 24, 65, 66, 67, 68, 69, 70, 71, 72, 73, 74, 75, 76, 77, 78, 79, 80, 81, 82, 83, 84, 85, 86, 87, 88, 89, 90, 91, 92, 93, 94, 95, 96, 97, 98, 99, 100, 101, 102, 103, 104, 105, 106, 107, 108] (by decide +kernel) (by decide +kernel)
set_option maxRecDepth 20000 in
theorem gX12_bend_X12_findBend : GoodIn wsX12_bend (wsV RX12 229 RX12 yX12_findBend wsX12_findBend) := goodIn_app (goodIn_of _ (by decide +kernel)) ggX12_bend_X12_findBend
theorem dX12_bend_0 : decode cX12_bend 0 = .ok (.aload_n 0, 1) := by decide +kernel
theorem dX12_bend_1 : decode cX12_bend 1 = .ok (.iload_n 1, 1) := by decide +kernel
theorem dX12_bend_2 : decode cX12_bend 2 = .ok (.invokevirtual 167, 3) := by decide +kernel
theorem dX12_bend_5 : decode cX12_bend 5 = .ok (.ifCond .eq 13, 3) := by decide +kernel
theorem dX12_bend_8 : decode cX12_bend 8 = .ok (.iload_n 2, 1) := by decide +kernel
theorem dX12_bend_9 : decode cX12_bend 9 = .ok (.i2l, 1) := by decide +kernel
theorem dX12_bend_10 : decode cX12_bend 10 = .ok (.lconst 0, 1) := by decide +kernel
theorem dX12_bend_11 : decode cX12_bend 11 = .ok (.lconst 1, 1) := by decide +kernel
theorem dX12_bend_12 : decode cX12_bend 12 = .ok (.invokestatic 130, 3) := by decide +kernel
theorem dX12_bend_15 : decode cX12_bend 15 = .ok (.ifCond .ne 7, 3) := by decide +kernel
theorem dX12_bend_18 : decode cX12_bend 18 = .ok (.ldc2_w 227, 3) := by decide +kernel
theorem dX12_bend_21 : decode cX12_bend 21 = .ok (.lreturn, 1) := by decide +kernel
theorem dX12_bend_22 : decode cX12_bend 22 = .ok (.aload_n 0, 1) := by decide +kernel
theorem dX12_bend_23 : decode cX12_bend 23 = .ok (.invokevirtual 213, 3) := by decide +kernel
theorem dX12_bend_26 : decode cX12_bend 26 = .ok (.aload_n 0, 1) := by decide +kernel
theorem dX12_bend_27 : decode cX12_bend 27 = .ok (.iload_n 1, 1) := by decide +kernel
theorem dX12_bend_28 : decode cX12_bend 28 = .ok (.invokevirtual 229, 3) := by decide +kernel
theorem dX12_bend_31 : decode cX12_bend 31 = .ok (.iload_n 2, 1) := by decide +kernel
theorem dX12_bend_32 : decode cX12_bend 32 = .ok (.ifCond .ne 10, 3) := by decide +kernel
theorem dX12_bend_35 : decode cX12_bend 35 = .ok (.aload_n 0, 1) := by decide +kernel
theorem dX12_bend_36 : decode cX12_bend 36 = .ok (.getfield 216, 3) := by decide +kernel
theorem dX12_bend_39 : decode cX12_bend 39 = .ok (.goto 7, 3) := by decide +kernel
theorem dX12_bend_42 : decode cX12_bend 42 = .ok (.aload_n 0, 1) := by decide +kernel
theorem dX12_bend_43 : decode cX12_bend 43 = .ok (.getfield 220, 3) := by decide +kernel
theorem dX12_bend_46 : decode cX12_bend 46 = .ok (.lreturn, 1) := by decide +kernel
set_option maxRecDepth 20000 in
theorem ggX12_findWholes_X12_findColumns : GoodIn wsX12_findWholes wsX12_findColumns := goodIn_r _ [10, 11, 1, 12, 13, 14, 15, 16, 17, 18, 19, 20, 21, 9, 22, 23, 24, 25, 26, 27, 28, 29, 30, 31, 32, 33, 34, 35, 36, 37, 38, 39, 40, 41, 42, 43, 44, 45, 46, 47, 48, 49, 50, 51, 52, 53, 54, 62, 63, 64, 65, 66, 67, 68, 69, 70, 71, 72, 73, 74, 75, 76, 77, 78, 79, 80, 81, 82, 83, 84, 85, 86, 87, 88, 89, 90, 91, 92, 93, 94, 95, 96, 97, 98, 99, 100, 101, 102] (by decide +kernel) (by decide +kernel)
set_option maxRecDepth 20000 in
theorem gX12_findWholes_X12_findColumns : GoodIn wsX12_findWholes (wsV RX12 213 RX12 yX12_findColumns wsX12_findColumns) := goodIn_app (goodIn_of _ (by decide +kernel)) ggX12_findWholes_X12_findColumns
set_option maxRecDepth 20000 in
theorem ggX12_findWholes_X12_findBend : GoodIn wsX12_findWholes wsX12_findBend := goodIn_r _ [58, 12, 2, 3, 15, 17, 50, 51, 52, 9, 53, 54, 18, 59, 60, 61, 62, 63, 64, 65, 66, 67, 68, 69, 70, 71, 72, 73, 74, 75, 76, 77, 78, 79, 80, 81, 82, 83, 84, 85, 86, 87, 88, 89, 90, 91, 92, 93, 94, 95, 96, 97, 98, 99, 100, 101, 102] (by decide +kernel) (by decide +kernel)
set_option maxRecDepth 20000 in
theorem gX12_findWholes_X12_findBend : GoodIn wsX12_findWholes (wsV RX12 229 RX12 yX12_findBend wsX12_findBend) := goodIn_app (goodIn_of _ (by decide +kernel)) ggX12_findWholes_X12_findBend
theorem dX12_findWholes_0 : decode cX12_findWholes 0 = .ok (.aload_n 0, 1) := by decide +kernel
theorem dX12_findWholes_1 : decode cX12_findWholes 1 = .ok (.invokevirtual 213, 3) := by decide +kernel
theorem dX12_findWholes_4 : decode cX12_findWholes 4 = .ok (.iconst 0, 1) := by decide +kernel
theorem dX12_findWholes_5 : decode cX12_findWholes 5 = .ok (.istore_n 1, 1) := by decide +kernel
theorem dX12_findWholes_6 : decode cX12_findWholes 6 = .ok (.iload_n 1, 1) := by decide +kernel
theorem dX12_findWholes_7 : decode cX12_findWholes 7 = .ok (.aload_n 0, 1) := by decide +kernel
theorem dX12_findWholes_8 : decode cX12_findWholes 8 = .ok (.getfield 13, 3) := by decide +kernel
theorem dX12_findWholes_11 : decode cX12_findWholes 11 = .ok (.if_icmp .ge 114, 3) := by decide +kernel
theorem dX12_findWholes_14 : decode cX12_findWholes 14 = .ok (.aload_n 0, 1) := by decide +kernel
theorem dX12_findWholes_15 : decode cX12_findWholes 15 = .ok (.iload_n 1, 1) := by decide +kernel
theorem dX12_findWholes_16 : decode cX12_findWholes 16 = .ok (.invokevirtual 229, 3) := by decide +kernel
theorem dX12_findWholes_19 : decode cX12_findWholes 19 = .ok (.aload_n 0, 1) := by decide +kernel
theorem dX12_findWholes_20 : decode cX12_findWholes 20 = .ok (.getfield 216, 3) := by decide +kernel
theorem dX12_findWholes_23 : decode cX12_findWholes 23 = .ok (.lconst 0, 1) := by decide +kernel
theorem dX12_findWholes_24 : decode cX12_findWholes 24 = .ok (.lcmp, 1) := by decide +kernel
theorem dX12_findWholes_25 : decode cX12_findWholes 25 = .ok (.ifCond .ge 11, 3) := by decide +kernel
theorem dX12_findWholes_28 : decode cX12_findWholes 28 = .ok (.aload_n 0, 1) := by decide +kernel
theorem dX12_findWholes_29 : decode cX12_findWholes 29 = .ok (.getfield 216, 3) := by decide +kernel
theorem dX12_findWholes_32 : decode cX12_findWholes 32 = .ok (.lneg, 1) := by decide +kernel
theorem dX12_findWholes_33 : decode cX12_findWholes 33 = .ok (.goto 7, 3) := by decide +kernel
theorem dX12_findWholes_36 : decode cX12_findWholes 36 = .ok (.aload_n 0, 1) := by decide +kernel
theorem dX12_findWholes_37 : decode cX12_findWholes 37 = .ok (.getfield 216, 3) := by decide +kernel
theorem dX12_findWholes_40 : decode cX12_findWholes 40 = .ok (.lstore_n 2, 1) := by decide +kernel
theorem dX12_findWholes_41 : decode cX12_findWholes 41 = .ok (.lload_n 2, 1) := by decide +kernel
theorem dX12_findWholes_42 : decode cX12_findWholes 42 = .ok (.aload_n 0, 1) := by decide +kernel
theorem dX12_findWholes_43 : decode cX12_findWholes 43 = .ok (.getfield 220, 3) := by decide +kernel
theorem dX12_findWholes_46 : decode cX12_findWholes 46 = .ok (.ldiv, 1) := by decide +kernel
theorem dX12_findWholes_47 : decode cX12_findWholes 47 = .ok (.lload_n 2, 1) := by decide +kernel
theorem dX12_findWholes_48 : decode cX12_findWholes 48 = .ok (.aload_n 0, 1) := by decide +kernel
theorem dX12_findWholes_49 : decode cX12_findWholes 49 = .ok (.getfield 220, 3) := by decide +kernel
theorem dX12_findWholes_52 : decode cX12_findWholes 52 = .ok (.lrem, 1) := by decide +kernel
theorem dX12_findWholes_53 : decode cX12_findWholes 53 = .ok (.aload_n 0, 1) := by decide +kernel
theorem dX12_findWholes_54 : decode cX12_findWholes 54 = .ok (.getfield 220, 3) := by decide +kernel
theorem dX12_findWholes_57 : decode cX12_findWholes 57 = .ok (.lload_n 2, 1) := by decide +kernel
theorem dX12_findWholes_58 : decode cX12_findWholes 58 = .ok (.aload_n 0, 1) := by decide +kernel
theorem dX12_findWholes_59 : decode cX12_findWholes 59 = .ok (.getfield 220, 3) := by decide +kernel
theorem dX12_findWholes_62 : decode cX12_findWholes 62 = .ok (.lrem, 1) := by decide +kernel
theorem dX12_findWholes_63 : decode cX12_findWholes 63 = .ok (.lsub, 1) := by decide +kernel
theorem dX12_findWholes_64 : decode cX12_findWholes 64 = .ok (.lcmp, 1) := by decide +kernel
theorem dX12_findWholes_65 : decode cX12_findWholes 65 = .ok (.ifCond .lt 7, 3) := by decide +kernel
theorem dX12_findWholes_68 : decode cX12_findWholes 68 = .ok (.lconst 1, 1) := by decide +kernel
theorem dX12_findWholes_69 : decode cX12_findWholes 69 = .ok (.goto 4, 3) := by decide +kernel
theorem dX12_findWholes_72 : decode cX12_findWholes 72 = .ok (.lconst 0, 1) := by decide +kernel
theorem dX12_findWholes_73 : decode cX12_findWholes 73 = .ok (.ladd, 1) := by decide +kernel
theorem dX12_findWholes_74 : decode cX12_findWholes 74 = .ok (.lstore 4, 2) := by decide +kernel
theorem dX12_findWholes_76 : decode cX12_findWholes 76 = .ok (.lload 4, 2) := by decide +kernel
theorem dX12_findWholes_78 : decode cX12_findWholes 78 = .ok (.ldc2_w 232, 3) := by decide +kernel
theorem dX12_findWholes_81 : decode cX12_findWholes 81 = .ok (.lcmp, 1) := by decide +kernel
theorem dX12_findWholes_82 : decode cX12_findWholes 82 = .ok (.ifCond .le 9, 3) := by decide +kernel
theorem dX12_findWholes_85 : decode cX12_findWholes 85 = .ok (.ldc2_w 232, 3) := by decide +kernel
theorem dX12_findWholes_88 : decode cX12_findWholes 88 = .ok (.goto 5, 3) := by decide +kernel
theorem dX12_findWholes_91 : decode cX12_findWholes 91 = .ok (.lload 4, 2) := by decide +kernel
theorem dX12_findWholes_93 : decode cX12_findWholes 93 = .ok (.lstore 4, 2) := by decide +kernel
theorem dX12_findWholes_95 : decode cX12_findWholes 95 = .ok (.aload_n 0, 1) := by decide +kernel
theorem dX12_findWholes_96 : decode cX12_findWholes 96 = .ok (.getfield 61, 3) := by decide +kernel
theorem dX12_findWholes_99 : decode cX12_findWholes 99 = .ok (.iload_n 1, 1) := by decide +kernel
theorem dX12_findWholes_100 : decode cX12_findWholes 100 = .ok (.aload_n 0, 1) := by decide +kernel
theorem dX12_findWholes_101 : decode cX12_findWholes 101 = .ok (.getfield 216, 3) := by decide +kernel
theorem dX12_findWholes_104 : decode cX12_findWholes 104 = .ok (.lconst 0, 1) := by decide +kernel
theorem dX12_findWholes_105 : decode cX12_findWholes 105 = .ok (.lcmp, 1) := by decide +kernel
theorem dX12_findWholes_106 : decode cX12_findWholes 106 = .ok (.ifCond .ge 9, 3) := by decide +kernel
theorem dX12_findWholes_109 : decode cX12_findWholes 109 = .ok (.lload 4, 2) := by decide +kernel
theorem dX12_findWholes_111 : decode cX12_findWholes 111 = .ok (.lneg, 1) := by decide +kernel
theorem dX12_findWholes_112 : decode cX12_findWholes 112 = .ok (.goto 5, 3) := by decide +kernel
theorem dX12_findWholes_115 : decode cX12_findWholes 115 = .ok (.lload 4, 2) := by decide +kernel
theorem dX12_findWholes_117 : decode cX12_findWholes 117 = .ok (.l2i, 1) := by decide +kernel
theorem dX12_findWholes_118 : decode cX12_findWholes 118 = .ok (.iastore, 1) := by decide +kernel
theorem dX12_findWholes_119 : decode cX12_findWholes 119 = .ok (.iinc 1 1, 3) := by decide +kernel
theorem dX12_findWholes_122 : decode cX12_findWholes 122 = .ok (.goto (-116), 3) := by decide +kernel
theorem dX12_findWholes_125 : decode cX12_findWholes 125 = .ok (.return_, 1) := by decide +kernel
set_option maxRecDepth 20000 in
theorem ggX12_whole_X12_isPart : GoodIn wsX12_whole wsX12_isPart := goodIn_r _ [6, 7, 8, 9, 5, 10, 73, 74, 75, 76, 77, 78, 79, 80, 81, 82, 83, 84, 85, 86, 87, 88, 89, 90, 91, 92, 93, 94, 95, 96, 97, 98, 99, 100, 101, 102, 103, 104, 105, 106, 107, 108, 109, 110, 111, 112, 113] (by decide +kernel) (by decide +kernel)
set_option maxRecDepth 20000 in
theorem gX12_whole_X12_isPart : GoodIn wsX12_whole (wsV RX12 167 RX12 yX12_isPart wsX12_isPart) := goodIn_app (goodIn_of _ (by decide +kernel)) ggX12_whole_X12_isPart
set_option maxRecDepth 20000 in
theorem ggX12_whole_X12_findWholes : GoodIn wsX12_whole wsX12_findWholes := goodIn_r _ [14, 7, 15, 16, 17, 1, 18, 19, 20, 5, 21, 22, 23, 24, 25, 26, 27, 28, 29, 30, 31, 32, 33, 34, 35, 36, 37, 38, 39, 40, 41, 42, 43, 44, 45, 46, 47, 48, 49, 50, 51, 52, 53, 54, 55, 56, 57, 58, 59, 60, 61, 62, 63, 64, 65, 66, 67, 68, 69, 70, 71, 72, 73, 74, 75, 76, 77, 78, 79, 80, 81, 82, 83, 84, 85, 86, 87, 88, 89, 90, 91, 92, 93, 94, 95, 96, 97, 98, 99, 100, 101, 102, 103, 104, 105, 106, 107, 108, 109, 110, 111, 112, 113] (by decide +kernel) (by decide +kernel)
set_option maxRecDepth 20000 in
theorem gX12_whole_X12_findWholes : GoodIn wsX12_whole (wsV RX12 234 RX12 yX12_findWholes wsX12_findWholes) := goodIn_app (goodIn_of _ (by decide +kernel)) ggX12_whole_X12_findWholes
theorem dX12_whole_0 : decode cX12_whole 0 = .ok (.aload_n 0, 1) := by decide +kernel
theorem dX12_whole_1 : decode cX12_whole 1 = .ok (.iload_n 1, 1) := by decide +kernel
theorem dX12_whole_2 : decode cX12_whole 2 = .ok (.invokevirtual 167, 3) := by decide +kernel
theorem dX12_whole_5 : decode cX12_whole 5 = .ok (.ifCond .ne 7, 3) := by decide +kernel
theorem dX12_whole_8 : decode cX12_whole 8 = .ok (.sipush (-10001), 3) := by decide +kernel
theorem dX12_whole_11 : decode cX12_whole 11 = .ok (.ireturn, 1) := by decide +kernel
theorem dX12_whole_12 : decode cX12_whole 12 = .ok (.aload_n 0, 1) := by decide +kernel
theorem dX12_whole_13 : decode cX12_whole 13 = .ok (.invokevirtual 234, 3) := by decide +kernel
theorem dX12_whole_16 : decode cX12_whole 16 = .ok (.aload_n 0, 1) := by decide +kernel
theorem dX12_whole_17 : decode cX12_whole 17 = .ok (.getfield 61, 3) := by decide +kernel
theorem dX12_whole_20 : decode cX12_whole 20 = .ok (.iload_n 1, 1) := by decide +kernel
theorem dX12_whole_21 : decode cX12_whole 21 = .ok (.iaload, 1) := by decide +kernel
theorem dX12_whole_22 : decode cX12_whole 22 = .ok (.ireturn, 1) := by decide +kernel
set_option maxRecDepth 20000 in
theorem ggX12_isBeside_X12_in : GoodIn wsX12_isBeside wsX12_in := goodIn_r _ [6] (by decide +kernel) (by decide +kernel)
set_option maxRecDepth 20000 in
theorem gX12_isBeside_X12_in : GoodIn wsX12_isBeside (va_wsS RX12 130 yX12_in wsX12_in) := goodIn_app (goodIn_of _ (by decide +kernel)) ggX12_isBeside_X12_in
theorem dX12_isBeside_0 : decode cX12_isBeside 0 = .ok (.aload_n 0, 1) := by decide +kernel
theorem dX12_isBeside_1 : decode cX12_isBeside 1 = .ok (.getfield 44, 3) := by decide +kernel
theorem dX12_isBeside_4 : decode cX12_isBeside 4 = .ok (.iload_n 1, 1) := by decide +kernel
theorem dX12_isBeside_5 : decode cX12_isBeside 5 = .ok (.baload, 1) := by decide +kernel
theorem dX12_isBeside_6 : decode cX12_isBeside 6 = .ok (.ifCond .eq 16, 3) := by decide +kernel
theorem dX12_isBeside_9 : decode cX12_isBeside 9 = .ok (.iload_n 2, 1) := by decide +kernel
theorem dX12_isBeside_10 : decode cX12_isBeside 10 = .ok (.iload_n 3, 1) := by decide +kernel
theorem dX12_isBeside_11 : decode cX12_isBeside 11 = .ok (.if_icmp .ne 7, 3) := by decide +kernel
theorem dX12_isBeside_14 : decode cX12_isBeside 14 = .ok (.iconst 1, 1) := by decide +kernel
theorem dX12_isBeside_15 : decode cX12_isBeside 15 = .ok (.goto 29, 3) := by decide +kernel
theorem dX12_isBeside_18 : decode cX12_isBeside 18 = .ok (.iconst 0, 1) := by decide +kernel
theorem dX12_isBeside_19 : decode cX12_isBeside 19 = .ok (.goto 25, 3) := by decide +kernel
theorem dX12_isBeside_22 : decode cX12_isBeside 22 = .ok (.iload_n 2, 1) := by decide +kernel
theorem dX12_isBeside_23 : decode cX12_isBeside 23 = .ok (.iload_n 3, 1) := by decide +kernel
theorem dX12_isBeside_24 : decode cX12_isBeside 24 = .ok (.isub, 1) := by decide +kernel
theorem dX12_isBeside_25 : decode cX12_isBeside 25 = .ok (.i2l, 1) := by decide +kernel
theorem dX12_isBeside_26 : decode cX12_isBeside 26 = .ok (.aload_n 0, 1) := by decide +kernel
theorem dX12_isBeside_27 : decode cX12_isBeside 27 = .ok (.getfield 26, 3) := by decide +kernel
theorem dX12_isBeside_30 : decode cX12_isBeside 30 = .ok (.iconst 5, 1) := by decide +kernel
theorem dX12_isBeside_31 : decode cX12_isBeside 31 = .ok (.iaload, 1) := by decide +kernel
theorem dX12_isBeside_32 : decode cX12_isBeside 32 = .ok (.ineg, 1) := by decide +kernel
theorem dX12_isBeside_33 : decode cX12_isBeside 33 = .ok (.i2l, 1) := by decide +kernel
theorem dX12_isBeside_34 : decode cX12_isBeside 34 = .ok (.aload_n 0, 1) := by decide +kernel
theorem dX12_isBeside_35 : decode cX12_isBeside 35 = .ok (.getfield 26, 3) := by decide +kernel
theorem dX12_isBeside_38 : decode cX12_isBeside 38 = .ok (.iconst 5, 1) := by decide +kernel
theorem dX12_isBeside_39 : decode cX12_isBeside 39 = .ok (.iaload, 1) := by decide +kernel
theorem dX12_isBeside_40 : decode cX12_isBeside 40 = .ok (.i2l, 1) := by decide +kernel
theorem dX12_isBeside_41 : decode cX12_isBeside 41 = .ok (.invokestatic 130, 3) := by decide +kernel
theorem dX12_isBeside_44 : decode cX12_isBeside 44 = .ok (.ireturn, 1) := by decide +kernel
set_option maxRecDepth 20000 in
theorem ggX12_findNearest_X12_isBeside : GoodIn wsX12_findNearest wsX12_isBeside := goodIn_r _ [11, 12, 1, 13, 14, 10, 15, 16, 17, 18, 19, 20, 21, 22, 23, 24, 25, 26, 27, 28, 29, 30, 31, 32, 33, 34, 35, 36, 37, 38, 39, 40, 41, 42, 43, 44, 45, 46, 47, 48, 49, 50, 51, 52, 53, 54, 55, 56] (by decide +kernel) (by decide +kernel)
set_option maxRecDepth 20000 in
theorem gX12_findNearest_X12_isBeside : GoodIn wsX12_findNearest (wsV RX12 239 RX12 yX12_isBeside wsX12_isBeside) := goodIn_app (goodIn_of _ (by decide +kernel)) ggX12_findNearest_X12_isBeside
theorem dX12_findNearest_0 : decode cX12_findNearest 0 = .ok (.aload_n 0, 1) := by decide +kernel
theorem dX12_findNearest_1 : decode cX12_findNearest 1 = .ok (.getfield 26, 3) := by decide +kernel
theorem dX12_findNearest_4 : decode cX12_findNearest 4 = .ok (.iconst 4, 1) := by decide +kernel
theorem dX12_findNearest_5 : decode cX12_findNearest 5 = .ok (.iaload, 1) := by decide +kernel
theorem dX12_findNearest_6 : decode cX12_findNearest 6 = .ok (.istore_n 1, 1) := by decide +kernel
theorem dX12_findNearest_7 : decode cX12_findNearest 7 = .ok (.aload_n 0, 1) := by decide +kernel
theorem dX12_findNearest_8 : decode cX12_findNearest 8 = .ok (.getfield 13, 3) := by decide +kernel
theorem dX12_findNearest_11 : decode cX12_findNearest 11 = .ok (.iconst 1, 1) := by decide +kernel
theorem dX12_findNearest_12 : decode cX12_findNearest 12 = .ok (.isub, 1) := by decide +kernel
theorem dX12_findNearest_13 : decode cX12_findNearest 13 = .ok (.istore_n 2, 1) := by decide +kernel
theorem dX12_findNearest_14 : decode cX12_findNearest 14 = .ok (.iload_n 2, 1) := by decide +kernel
theorem dX12_findNearest_15 : decode cX12_findNearest 15 = .ok (.ifCond .lt 157, 3) := by decide +kernel
theorem dX12_findNearest_18 : decode cX12_findNearest 18 = .ok (.iload_n 1, 1) := by decide +kernel
theorem dX12_findNearest_19 : decode cX12_findNearest 19 = .ok (.ineg, 1) := by decide +kernel
theorem dX12_findNearest_20 : decode cX12_findNearest 20 = .ok (.istore_n 3, 1) := by decide +kernel
theorem dX12_findNearest_21 : decode cX12_findNearest 21 = .ok (.iload_n 3, 1) := by decide +kernel
theorem dX12_findNearest_22 : decode cX12_findNearest 22 = .ok (.iload_n 1, 1) := by decide +kernel
theorem dX12_findNearest_23 : decode cX12_findNearest 23 = .ok (.if_icmp .gt 143, 3) := by decide +kernel
theorem dX12_findNearest_26 : decode cX12_findNearest 26 = .ok (.iload_n 2, 1) := by decide +kernel
theorem dX12_findNearest_27 : decode cX12_findNearest 27 = .ok (.aload_n 0, 1) := by decide +kernel
theorem dX12_findNearest_28 : decode cX12_findNearest 28 = .ok (.getfield 13, 3) := by decide +kernel
theorem dX12_findNearest_31 : decode cX12_findNearest 31 = .ok (.iconst 1, 1) := by decide +kernel
theorem dX12_findNearest_32 : decode cX12_findNearest 32 = .ok (.isub, 1) := by decide +kernel
theorem dX12_findNearest_33 : decode cX12_findNearest 33 = .ok (.if_icmp .ne 7, 3) := by decide +kernel
theorem dX12_findNearest_36 : decode cX12_findNearest 36 = .ok (.lconst 0, 1) := by decide +kernel
theorem dX12_findNearest_37 : decode cX12_findNearest 37 = .ok (.goto 6, 3) := by decide +kernel
theorem dX12_findNearest_40 : decode cX12_findNearest 40 = .ok (.ldc2_w 237, 3) := by decide +kernel
theorem dX12_findNearest_43 : decode cX12_findNearest 43 = .ok (.lstore 4, 2) := by decide +kernel
theorem dX12_findNearest_45 : decode cX12_findNearest 45 = .ok (.iload_n 1, 1) := by decide +kernel
theorem dX12_findNearest_46 : decode cX12_findNearest 46 = .ok (.ineg, 1) := by decide +kernel
theorem dX12_findNearest_47 : decode cX12_findNearest 47 = .ok (.istore 6, 2) := by decide +kernel
theorem dX12_findNearest_49 : decode cX12_findNearest 49 = .ok (.iload 6, 2) := by decide +kernel
theorem dX12_findNearest_51 : decode cX12_findNearest 51 = .ok (.iload_n 1, 1) := by decide +kernel
theorem dX12_findNearest_52 : decode cX12_findNearest 52 = .ok (.if_icmp .gt 75, 3) := by decide +kernel
theorem dX12_findNearest_55 : decode cX12_findNearest 55 = .ok (.iload_n 2, 1) := by decide +kernel
theorem dX12_findNearest_56 : decode cX12_findNearest 56 = .ok (.aload_n 0, 1) := by decide +kernel
theorem dX12_findNearest_57 : decode cX12_findNearest 57 = .ok (.getfield 13, 3) := by decide +kernel
theorem dX12_findNearest_60 : decode cX12_findNearest 60 = .ok (.iconst 1, 1) := by decide +kernel
theorem dX12_findNearest_61 : decode cX12_findNearest 61 = .ok (.isub, 1) := by decide +kernel
theorem dX12_findNearest_62 : decode cX12_findNearest 62 = .ok (.if_icmp .ge 65, 3) := by decide +kernel
theorem dX12_findNearest_65 : decode cX12_findNearest 65 = .ok (.aload_n 0, 1) := by decide +kernel
theorem dX12_findNearest_66 : decode cX12_findNearest 66 = .ok (.getfield 64, 3) := by decide +kernel
theorem dX12_findNearest_69 : decode cX12_findNearest 69 = .ok (.bipush 121, 2) := by decide +kernel
theorem dX12_findNearest_71 : decode cX12_findNearest 71 = .ok (.iload_n 2, 1) := by decide +kernel
theorem dX12_findNearest_72 : decode cX12_findNearest 72 = .ok (.iconst 1, 1) := by decide +kernel
theorem dX12_findNearest_73 : decode cX12_findNearest 73 = .ok (.iadd, 1) := by decide +kernel
theorem dX12_findNearest_74 : decode cX12_findNearest 74 = .ok (.imul, 1) := by decide +kernel
theorem dX12_findNearest_75 : decode cX12_findNearest 75 = .ok (.iload 6, 2) := by decide +kernel
theorem dX12_findNearest_77 : decode cX12_findNearest 77 = .ok (.iadd, 1) := by decide +kernel
theorem dX12_findNearest_78 : decode cX12_findNearest 78 = .ok (.bipush 60, 2) := by decide +kernel
theorem dX12_findNearest_80 : decode cX12_findNearest 80 = .ok (.iadd, 1) := by decide +kernel
theorem dX12_findNearest_81 : decode cX12_findNearest 81 = .ok (.laload, 1) := by decide +kernel
theorem dX12_findNearest_82 : decode cX12_findNearest 82 = .ok (.lstore 7, 2) := by decide +kernel
theorem dX12_findNearest_84 : decode cX12_findNearest 84 = .ok (.aload_n 0, 1) := by decide +kernel
theorem dX12_findNearest_85 : decode cX12_findNearest 85 = .ok (.iload_n 2, 1) := by decide +kernel
theorem dX12_findNearest_86 : decode cX12_findNearest 86 = .ok (.iconst 1, 1) := by decide +kernel
theorem dX12_findNearest_87 : decode cX12_findNearest 87 = .ok (.iadd, 1) := by decide +kernel
theorem dX12_findNearest_88 : decode cX12_findNearest 88 = .ok (.iload 6, 2) := by decide +kernel
theorem dX12_findNearest_90 : decode cX12_findNearest 90 = .ok (.iload_n 3, 1) := by decide +kernel
theorem dX12_findNearest_91 : decode cX12_findNearest 91 = .ok (.invokevirtual 239, 3) := by decide +kernel
theorem dX12_findNearest_94 : decode cX12_findNearest 94 = .ok (.ifCond .eq 23, 3) := by decide +kernel
theorem dX12_findNearest_97 : decode cX12_findNearest 97 = .ok (.lload 4, 2) := by decide +kernel
theorem dX12_findNearest_99 : decode cX12_findNearest 99 = .ok (.lconst 0, 1) := by decide +kernel
theorem dX12_findNearest_100 : decode cX12_findNearest 100 = .ok (.lcmp, 1) := by decide +kernel
theorem dX12_findNearest_101 : decode cX12_findNearest 101 = .ok (.ifCond .lt 11, 3) := by decide +kernel
theorem dX12_findNearest_104 : decode cX12_findNearest 104 = .ok (.lload 7, 2) := by decide +kernel
theorem dX12_findNearest_106 : decode cX12_findNearest 106 = .ok (.lload 4, 2) := by decide +kernel
theorem dX12_findNearest_108 : decode cX12_findNearest 108 = .ok (.lcmp, 1) := by decide +kernel
theorem dX12_findNearest_109 : decode cX12_findNearest 109 = .ok (.ifCond .ge 8, 3) := by decide +kernel
theorem dX12_findNearest_112 : decode cX12_findNearest 112 = .ok (.lload 7, 2) := by decide +kernel
theorem dX12_findNearest_114 : decode cX12_findNearest 114 = .ok (.goto 5, 3) := by decide +kernel
theorem dX12_findNearest_117 : decode cX12_findNearest 117 = .ok (.lload 4, 2) := by decide +kernel
theorem dX12_findNearest_119 : decode cX12_findNearest 119 = .ok (.lstore 4, 2) := by decide +kernel
theorem dX12_findNearest_121 : decode cX12_findNearest 121 = .ok (.iinc 6 1, 3) := by decide +kernel
theorem dX12_findNearest_124 : decode cX12_findNearest 124 = .ok (.goto (-75), 3) := by decide +kernel
theorem dX12_findNearest_127 : decode cX12_findNearest 127 = .ok (.iload_n 3, 1) := by decide +kernel
theorem dX12_findNearest_128 : decode cX12_findNearest 128 = .ok (.aload_n 0, 1) := by decide +kernel
theorem dX12_findNearest_129 : decode cX12_findNearest 129 = .ok (.getfield 67, 3) := by decide +kernel
theorem dX12_findNearest_132 : decode cX12_findNearest 132 = .ok (.iload_n 2, 1) := by decide +kernel
theorem dX12_findNearest_133 : decode cX12_findNearest 133 = .ok (.iaload, 1) := by decide +kernel
theorem dX12_findNearest_134 : decode cX12_findNearest 134 = .ok (.isub, 1) := by decide +kernel
theorem dX12_findNearest_135 : decode cX12_findNearest 135 = .ok (.i2l, 1) := by decide +kernel
theorem dX12_findNearest_136 : decode cX12_findNearest 136 = .ok (.lstore 6, 2) := by decide +kernel
theorem dX12_findNearest_138 : decode cX12_findNearest 138 = .ok (.aload_n 0, 1) := by decide +kernel
theorem dX12_findNearest_139 : decode cX12_findNearest 139 = .ok (.getfield 64, 3) := by decide +kernel
theorem dX12_findNearest_142 : decode cX12_findNearest 142 = .ok (.bipush 121, 2) := by decide +kernel
theorem dX12_findNearest_144 : decode cX12_findNearest 144 = .ok (.iload_n 2, 1) := by decide +kernel
theorem dX12_findNearest_145 : decode cX12_findNearest 145 = .ok (.imul, 1) := by decide +kernel
theorem dX12_findNearest_146 : decode cX12_findNearest 146 = .ok (.iload_n 3, 1) := by decide +kernel
theorem dX12_findNearest_147 : decode cX12_findNearest 147 = .ok (.iadd, 1) := by decide +kernel
theorem dX12_findNearest_148 : decode cX12_findNearest 148 = .ok (.bipush 60, 2) := by decide +kernel
theorem dX12_findNearest_150 : decode cX12_findNearest 150 = .ok (.iadd, 1) := by decide +kernel
theorem dX12_findNearest_151 : decode cX12_findNearest 151 = .ok (.lload 6, 2) := by decide +kernel
theorem dX12_findNearest_153 : decode cX12_findNearest 153 = .ok (.lload 6, 2) := by decide +kernel
theorem dX12_findNearest_155 : decode cX12_findNearest 155 = .ok (.lmul, 1) := by decide +kernel
theorem dX12_findNearest_156 : decode cX12_findNearest 156 = .ok (.lload 4, 2) := by decide +kernel
theorem dX12_findNearest_158 : decode cX12_findNearest 158 = .ok (.ladd, 1) := by decide +kernel
theorem dX12_findNearest_159 : decode cX12_findNearest 159 = .ok (.lastore, 1) := by decide +kernel
theorem dX12_findNearest_160 : decode cX12_findNearest 160 = .ok (.iinc 3 1, 3) := by decide +kernel
theorem dX12_findNearest_163 : decode cX12_findNearest 163 = .ok (.goto (-142), 3) := by decide +kernel
theorem dX12_findNearest_166 : decode cX12_findNearest 166 = .ok (.iinc 2 (-1), 3) := by decide +kernel
theorem dX12_findNearest_169 : decode cX12_findNearest 169 = .ok (.goto (-155), 3) := by decide +kernel
theorem dX12_findNearest_172 : decode cX12_findNearest 172 = .ok (.iconst 0, 1) := by decide +kernel
theorem dX12_findNearest_173 : decode cX12_findNearest 173 = .ok (.istore_n 2, 1) := by decide +kernel
theorem dX12_findNearest_174 : decode cX12_findNearest 174 = .ok (.iload_n 2, 1) := by decide +kernel
theorem dX12_findNearest_175 : decode cX12_findNearest 175 = .ok (.aload_n 0, 1) := by decide +kernel
theorem dX12_findNearest_176 : decode cX12_findNearest 176 = .ok (.getfield 13, 3) := by decide +kernel
theorem dX12_findNearest_179 : decode cX12_findNearest 179 = .ok (.if_icmp .ge 95, 3) := by decide +kernel
theorem dX12_findNearest_182 : decode cX12_findNearest 182 = .ok (.iconst 0, 1) := by decide +kernel
theorem dX12_findNearest_183 : decode cX12_findNearest 183 = .ok (.istore_n 3, 1) := by decide +kernel
theorem dX12_findNearest_184 : decode cX12_findNearest 184 = .ok (.lconst 0, 1) := by decide +kernel
theorem dX12_findNearest_185 : decode cX12_findNearest 185 = .ok (.lstore 4, 2) := by decide +kernel
theorem dX12_findNearest_187 : decode cX12_findNearest 187 = .ok (.iload_n 1, 1) := by decide +kernel
theorem dX12_findNearest_188 : decode cX12_findNearest 188 = .ok (.ineg, 1) := by decide +kernel
theorem dX12_findNearest_189 : decode cX12_findNearest 189 = .ok (.istore 6, 2) := by decide +kernel
theorem dX12_findNearest_191 : decode cX12_findNearest 191 = .ok (.iload 6, 2) := by decide +kernel
theorem dX12_findNearest_193 : decode cX12_findNearest 193 = .ok (.iload_n 1, 1) := by decide +kernel
theorem dX12_findNearest_194 : decode cX12_findNearest 194 = .ok (.if_icmp .gt 74, 3) := by decide +kernel
theorem dX12_findNearest_197 : decode cX12_findNearest 197 = .ok (.aload_n 0, 1) := by decide +kernel
theorem dX12_findNearest_198 : decode cX12_findNearest 198 = .ok (.getfield 64, 3) := by decide +kernel
theorem dX12_findNearest_201 : decode cX12_findNearest 201 = .ok (.bipush 121, 2) := by decide +kernel
theorem dX12_findNearest_203 : decode cX12_findNearest 203 = .ok (.iload_n 2, 1) := by decide +kernel
theorem dX12_findNearest_204 : decode cX12_findNearest 204 = .ok (.imul, 1) := by decide +kernel
theorem dX12_findNearest_205 : decode cX12_findNearest 205 = .ok (.iload 6, 2) := by decide +kernel
theorem dX12_findNearest_207 : decode cX12_findNearest 207 = .ok (.iadd, 1) := by decide +kernel
theorem dX12_findNearest_208 : decode cX12_findNearest 208 = .ok (.bipush 60, 2) := by decide +kernel
theorem dX12_findNearest_210 : decode cX12_findNearest 210 = .ok (.iadd, 1) := by decide +kernel
theorem dX12_findNearest_211 : decode cX12_findNearest 211 = .ok (.laload, 1) := by decide +kernel
theorem dX12_findNearest_212 : decode cX12_findNearest 212 = .ok (.lstore 7, 2) := by decide +kernel
theorem dX12_findNearest_214 : decode cX12_findNearest 214 = .ok (.iload_n 2, 1) := by decide +kernel
theorem dX12_findNearest_215 : decode cX12_findNearest 215 = .ok (.ifCond .eq 21, 3) := by decide +kernel
theorem dX12_findNearest_218 : decode cX12_findNearest 218 = .ok (.aload_n 0, 1) := by decide +kernel
theorem dX12_findNearest_219 : decode cX12_findNearest 219 = .ok (.iload_n 2, 1) := by decide +kernel
theorem dX12_findNearest_220 : decode cX12_findNearest 220 = .ok (.iload 6, 2) := by decide +kernel
theorem dX12_findNearest_222 : decode cX12_findNearest 222 = .ok (.aload_n 0, 1) := by decide +kernel
theorem dX12_findNearest_223 : decode cX12_findNearest 223 = .ok (.getfield 70, 3) := by decide +kernel
theorem dX12_findNearest_226 : decode cX12_findNearest 226 = .ok (.iload_n 2, 1) := by decide +kernel
theorem dX12_findNearest_227 : decode cX12_findNearest 227 = .ok (.iconst 1, 1) := by decide +kernel
theorem dX12_findNearest_228 : decode cX12_findNearest 228 = .ok (.isub, 1) := by decide +kernel
theorem dX12_findNearest_229 : decode cX12_findNearest 229 = .ok (.iaload, 1) := by decide +kernel
theorem dX12_findNearest_230 : decode cX12_findNearest 230 = .ok (.invokevirtual 239, 3) := by decide +kernel
theorem dX12_findNearest_233 : decode cX12_findNearest 233 = .ok (.ifCond .eq 29, 3) := by decide +kernel
theorem dX12_findNearest_236 : decode cX12_findNearest 236 = .ok (.iload_n 3, 1) := by decide +kernel
theorem dX12_findNearest_237 : decode cX12_findNearest 237 = .ok (.ifCond .eq 11, 3) := by decide +kernel
theorem dX12_findNearest_240 : decode cX12_findNearest 240 = .ok (.lload 7, 2) := by decide +kernel
theorem dX12_findNearest_242 : decode cX12_findNearest 242 = .ok (.lload 4, 2) := by decide +kernel
theorem dX12_findNearest_244 : decode cX12_findNearest 244 = .ok (.lcmp, 1) := by decide +kernel
theorem dX12_findNearest_245 : decode cX12_findNearest 245 = .ok (.ifCond .ge 17, 3) := by decide +kernel
theorem dX12_findNearest_248 : decode cX12_findNearest 248 = .ok (.iconst 1, 1) := by decide +kernel
theorem dX12_findNearest_249 : decode cX12_findNearest 249 = .ok (.istore_n 3, 1) := by decide +kernel
theorem dX12_findNearest_250 : decode cX12_findNearest 250 = .ok (.lload 7, 2) := by decide +kernel
theorem dX12_findNearest_252 : decode cX12_findNearest 252 = .ok (.lstore 4, 2) := by decide +kernel
theorem dX12_findNearest_254 : decode cX12_findNearest 254 = .ok (.aload_n 0, 1) := by decide +kernel
theorem dX12_findNearest_255 : decode cX12_findNearest 255 = .ok (.getfield 70, 3) := by decide +kernel
theorem dX12_findNearest_258 : decode cX12_findNearest 258 = .ok (.iload_n 2, 1) := by decide +kernel
theorem dX12_findNearest_259 : decode cX12_findNearest 259 = .ok (.iload 6, 2) := by decide +kernel
theorem dX12_findNearest_261 : decode cX12_findNearest 261 = .ok (.iastore, 1) := by decide +kernel
theorem dX12_findNearest_262 : decode cX12_findNearest 262 = .ok (.iinc 6 1, 3) := by decide +kernel
theorem dX12_findNearest_265 : decode cX12_findNearest 265 = .ok (.goto (-74), 3) := by decide +kernel
theorem dX12_findNearest_268 : decode cX12_findNearest 268 = .ok (.iinc 2 1, 3) := by decide +kernel
theorem dX12_findNearest_271 : decode cX12_findNearest 271 = .ok (.goto (-97), 3) := by decide +kernel
theorem dX12_findNearest_274 : decode cX12_findNearest 274 = .ok (.aload_n 0, 1) := by decide +kernel
theorem dX12_findNearest_275 : decode cX12_findNearest 275 = .ok (.getfield 64, 3) := by decide +kernel
theorem dX12_findNearest_278 : decode cX12_findNearest 278 = .ok (.aload_n 0, 1) := by decide +kernel
theorem dX12_findNearest_279 : decode cX12_findNearest 279 = .ok (.getfield 70, 3) := by decide +kernel
theorem dX12_findNearest_282 : decode cX12_findNearest 282 = .ok (.iconst 0, 1) := by decide +kernel
theorem dX12_findNearest_283 : decode cX12_findNearest 283 = .ok (.iaload, 1) := by decide +kernel
theorem dX12_findNearest_284 : decode cX12_findNearest 284 = .ok (.bipush 60, 2) := by decide +kernel
theorem dX12_findNearest_286 : decode cX12_findNearest 286 = .ok (.iadd, 1) := by decide +kernel
theorem dX12_findNearest_287 : decode cX12_findNearest 287 = .ok (.laload, 1) := by decide +kernel
theorem dX12_findNearest_288 : decode cX12_findNearest 288 = .ok (.lreturn, 1) := by decide +kernel
set_option maxRecDepth 20000 in
theorem ggX12_nearestToWholes_X12_findWholes : GoodIn wsX12_nearestToWholes wsX12_findWholes := goodIn_r _ [8, 1, 9, 10, 11, 3, 12, 13, 14, 7, 15, 16, 17, 18, 19, 20, 21, 22, 23, 24, 25, 26, 27, 28, 29, 30, 31, 32, 33, 34, 35, 36, 37, 38, 39, 40, 41, 42, 43, 44, 45, 46, 47, 48, 49, 50, 51, 52, 53, 54, 55, 56, 57, 58, 59, 60, 61, 62, 63, 64, 65, 66, 81, 82, 83, 84, 85, 86, 87, 88, 89, 90, 91, 92, 93, 94, 95, 96, 97, 98, 99, 100, 101, 102, 103, 104, 105, 106, 107, 108, 109, 110, 111, 112, 113, 114, 115, 116, 117, 118, 119, 120, 121] (by decide +kernel) (by decide +kernel)
set_option maxRecDepth 20000 in
theorem gX12_nearestToWholes_X12_findWholes : GoodIn wsX12_nearestToWholes (wsV RX12 234 RX12 yX12_findWholes wsX12_findWholes) := goodIn_app (goodIn_of _ (by decide +kernel)) ggX12_nearestToWholes_X12_findWholes
set_option maxRecDepth 20000 in
theorem ggX12_nearestToWholes_X12_findNearest : GoodIn wsX12_nearestToWholes wsX12_findNearest := goodIn_r _ [70, 28, 1, 71, 72, 2, 73, 74, 75, 76, 7, 77, 17, 78, 79, 80, 81, 82, 83, 84, 85, 86, 87, 88, 89, 90, 91, 92, 93, 94, 95, 96, 97, 98, 99, 100, 101, 102, 103, 104, 105, 106, 107, 108, 109, 110, 111, 112, 113, 114, 115, 116, 117, 118, 119, 120, 121] (by decide +kernel) (by decide +kernel)
set_option maxRecDepth 20000 in
theorem gX12_nearestToWholes_X12_findNearest : GoodIn wsX12_nearestToWholes (wsV RX12 243 RX12 yX12_findNearest wsX12_findNearest) := goodIn_app (goodIn_of _ (by decide +kernel)) ggX12_nearestToWholes_X12_findNearest
theorem dX12_nearestToWholes_0 : decode cX12_nearestToWholes 0 = .ok (.aload_n 0, 1) := by decide +kernel
theorem dX12_nearestToWholes_1 : decode cX12_nearestToWholes 1 = .ok (.invokevirtual 234, 3) := by decide +kernel
theorem dX12_nearestToWholes_4 : decode cX12_nearestToWholes 4 = .ok (.iconst 0, 1) := by decide +kernel
theorem dX12_nearestToWholes_5 : decode cX12_nearestToWholes 5 = .ok (.istore_n 1, 1) := by decide +kernel
theorem dX12_nearestToWholes_6 : decode cX12_nearestToWholes 6 = .ok (.iload_n 1, 1) := by decide +kernel
theorem dX12_nearestToWholes_7 : decode cX12_nearestToWholes 7 = .ok (.aload_n 0, 1) := by decide +kernel
theorem dX12_nearestToWholes_8 : decode cX12_nearestToWholes 8 = .ok (.getfield 13, 3) := by decide +kernel
theorem dX12_nearestToWholes_11 : decode cX12_nearestToWholes 11 = .ok (.if_icmp .ge 21, 3) := by decide +kernel
theorem dX12_nearestToWholes_14 : decode cX12_nearestToWholes 14 = .ok (.aload_n 0, 1) := by decide +kernel
theorem dX12_nearestToWholes_15 : decode cX12_nearestToWholes 15 = .ok (.getfield 67, 3) := by decide +kernel
theorem dX12_nearestToWholes_18 : decode cX12_nearestToWholes 18 = .ok (.iload_n 1, 1) := by decide +kernel
theorem dX12_nearestToWholes_19 : decode cX12_nearestToWholes 19 = .ok (.aload_n 0, 1) := by decide +kernel
theorem dX12_nearestToWholes_20 : decode cX12_nearestToWholes 20 = .ok (.getfield 61, 3) := by decide +kernel
theorem dX12_nearestToWholes_23 : decode cX12_nearestToWholes 23 = .ok (.iload_n 1, 1) := by decide +kernel
theorem dX12_nearestToWholes_24 : decode cX12_nearestToWholes 24 = .ok (.iaload, 1) := by decide +kernel
theorem dX12_nearestToWholes_25 : decode cX12_nearestToWholes 25 = .ok (.iastore, 1) := by decide +kernel
theorem dX12_nearestToWholes_26 : decode cX12_nearestToWholes 26 = .ok (.iinc 1 1, 3) := by decide +kernel
theorem dX12_nearestToWholes_29 : decode cX12_nearestToWholes 29 = .ok (.goto (-23), 3) := by decide +kernel
theorem dX12_nearestToWholes_32 : decode cX12_nearestToWholes 32 = .ok (.aload_n 0, 1) := by decide +kernel
theorem dX12_nearestToWholes_33 : decode cX12_nearestToWholes 33 = .ok (.invokevirtual 243, 3) := by decide +kernel
theorem dX12_nearestToWholes_36 : decode cX12_nearestToWholes 36 = .ok (.lreturn, 1) := by decide +kernel
set_option maxRecDepth 20000 in
theorem ggX12_nearest_X12_isPart : GoodIn wsX12_nearest wsX12_isPart := goodIn_r _ [6, 7, 8, 9, 5, 10, 89, 90, 91, 92, 93, 94, 95, 96, 97, 98, 99, 100, 101, 102, 103, 104, 105, 106, 107, 108, 109, 110, 111, 112, 113, 114, 115, 116, 117, 118, 119, 120, 121, 122, 123, 124, 125, 126, 127, 128, 129] (by decide +kernel) (by decide +kernel)
set_option maxRecDepth 20000 in
theorem gX12_nearest_X12_isPart : GoodIn wsX12_nearest (wsV RX12 167 RX12 yX12_isPart wsX12_isPart) := goodIn_app (goodIn_of _ (by decide +kernel)) ggX12_nearest_X12_isPart
set_option maxRecDepth 20000 in
theorem ggX12_nearest_X12_nearestToWholes : GoodIn wsX12_nearest wsX12_nearestToWholes := goodIn_r _ [14, 7, 15, 16, 17, 18, 19, 5, 20, 21, 22, 23, 24, 25, 26, 27, 28, 29, 30, 31, 32, 33, 34, 35, 36, 37, 38, 39, 40, 41, 42, 43, 44, 45, 46, 47, 48, 49, 50, 51, 52, 53, 54, 55, 56, 57, 58, 59, 60, 61, 62, 63, 64, 65, 66, 67, 68, 69, 70, 71, 72, 73, 74, 75, 76, 77, 78, 79, 80, 81, 82, 83, 84, 1, 85, 86, 87, 88, 8, 9, 10, 89, 90, 91, 92, 93, 94, 95, 96, 97, 98, 99, 100, 101, 102, 103, 104, 105, 106, 107, 108, 109, 110, 111, 112, 113, 114, 115, 116, 117, 118, 119, 120, 121, 122, 123, 124, 125, 126, 127, 128, 129] (by decide +kernel) (by decide +kernel)
set_option maxRecDepth 20000 in
theorem gX12_nearest_X12_nearestToWholes : GoodIn wsX12_nearest (wsV RX12 247 RX12 yX12_nearestToWholes wsX12_nearestToWholes) := goodIn_app (goodIn_of _ (by decide +kernel)) ggX12_nearest_X12_nearestToWholes
theorem dX12_nearest_0 : decode cX12_nearest 0 = .ok (.aload_n 0, 1) := by decide +kernel
theorem dX12_nearest_1 : decode cX12_nearest 1 = .ok (.iload_n 1, 1) := by decide +kernel
theorem dX12_nearest_2 : decode cX12_nearest 2 = .ok (.invokevirtual 167, 3) := by decide +kernel
theorem dX12_nearest_5 : decode cX12_nearest 5 = .ok (.ifCond .ne 7, 3) := by decide +kernel
theorem dX12_nearest_8 : decode cX12_nearest 8 = .ok (.sipush (-10001), 3) := by decide +kernel
theorem dX12_nearest_11 : decode cX12_nearest 11 = .ok (.ireturn, 1) := by decide +kernel
theorem dX12_nearest_12 : decode cX12_nearest 12 = .ok (.aload_n 0, 1) := by decide +kernel
theorem dX12_nearest_13 : decode cX12_nearest 13 = .ok (.invokevirtual 247, 3) := by decide +kernel
theorem dX12_nearest_16 : decode cX12_nearest 16 = .ok (.lconst 0, 1) := by decide +kernel
theorem dX12_nearest_17 : decode cX12_nearest 17 = .ok (.lcmp, 1) := by decide +kernel
theorem dX12_nearest_18 : decode cX12_nearest 18 = .ok (.ifCond .ge 7, 3) := by decide +kernel
theorem dX12_nearest_21 : decode cX12_nearest 21 = .ok (.iconst 0, 1) := by decide +kernel
theorem dX12_nearest_22 : decode cX12_nearest 22 = .ok (.goto 9, 3) := by decide +kernel
theorem dX12_nearest_25 : decode cX12_nearest 25 = .ok (.aload_n 0, 1) := by decide +kernel
theorem dX12_nearest_26 : decode cX12_nearest 26 = .ok (.getfield 70, 3) := by decide +kernel
theorem dX12_nearest_29 : decode cX12_nearest 29 = .ok (.iload_n 1, 1) := by decide +kernel
theorem dX12_nearest_30 : decode cX12_nearest 30 = .ok (.iaload, 1) := by decide +kernel
theorem dX12_nearest_31 : decode cX12_nearest 31 = .ok (.ireturn, 1) := by decide +kernel
set_option maxRecDepth 20000 in
theorem ggX12_off_X12_nearestToWholes : GoodIn wsX12_off wsX12_nearestToWholes := goodIn_r _ [5, 6, 7, 8, 9, 10, 11, 4, 12, 13, 14, 15, 16, 17, 18, 19, 20, 21, 22, 23, 24, 25, 26, 27, 28, 29, 30, 31, 32, 33, 34, 35, 36, 37, 38, 39, 40, 41, 42, 43, 44, 45, 46, 47, 48, 49, 50, 51, 52, 53, 54, 55, 56, 57, 58, 59, 60, 61, 62, 63, 64, 65, 66, 67, 68, 69, 70, 71, 72, 73, 74, 75, 76, 77, 78, 79, 80, 81, 82, 83, 84, 85, 86, 87, 88, 89, 90, 91, 92, 93, 94, 95, 96, 97, 98, 99, 100, 101, 102, 103, 104, 105, 106, 107, 108, 109, 110, 111, 112, 113, 114, 115, 116, 117, 118, 119, 120, 121, 122, 123, 124, 125] (by decide +kernel) (by decide +kernel)
set_option maxRecDepth 20000 in
theorem gX12_off_X12_nearestToWholes : GoodIn wsX12_off (wsV RX12 247 RX12 yX12_nearestToWholes wsX12_nearestToWholes) := goodIn_app (goodIn_of _ (by decide +kernel)) ggX12_off_X12_nearestToWholes
theorem dX12_off_0 : decode cX12_off 0 = .ok (.aload_n 0, 1) := by decide +kernel
theorem dX12_off_1 : decode cX12_off 1 = .ok (.invokevirtual 247, 3) := by decide +kernel
theorem dX12_off_4 : decode cX12_off 4 = .ok (.lreturn, 1) := by decide +kernel
theorem dX12_become_0 : decode cX12_become 0 = .ok (.aload_n 0, 1) := by decide +kernel
theorem dX12_become_1 : decode cX12_become 1 = .ok (.iload_n 1, 1) := by decide +kernel
theorem dX12_become_2 : decode cX12_become 2 = .ok (.putfield 116, 3) := by decide +kernel
theorem dX12_become_5 : decode cX12_become 5 = .ok (.aload_n 0, 1) := by decide +kernel
theorem dX12_become_6 : decode cX12_become 6 = .ok (.iconst 0, 1) := by decide +kernel
theorem dX12_become_7 : decode cX12_become 7 = .ok (.putfield 119, 3) := by decide +kernel
theorem dX12_become_10 : decode cX12_become 10 = .ok (.aload_n 0, 1) := by decide +kernel
theorem dX12_become_11 : decode cX12_become 11 = .ok (.iconst 0, 1) := by decide +kernel
theorem dX12_become_12 : decode cX12_become 12 = .ok (.putfield 122, 3) := by decide +kernel
theorem dX12_become_15 : decode cX12_become 15 = .ok (.return_, 1) := by decide +kernel
set_option maxRecDepth 20000 in
theorem ggX12_start_X12_become : GoodIn wsX12_start wsX12_become := goodIn_r _ [6, 1, 7, 8, 9, 10, 11, 12, 13, 14, 15, 16, 17, 18, 19, 20, 21, 22, 23, 24, 25, 26, 27, 28, 29, 30, 31, 32, 33, 34, 35, 36, 37, 38, 39, 40, 41, 42, 43, 44, 45, 46, 47, 48, 49] (by decide +kernel) (by decide +kernel)
set_option maxRecDepth 20000 in
theorem gX12_start_X12_become : GoodIn wsX12_start (wsV RX12 250 RX12 yX12_become wsX12_become) := goodIn_app (goodIn_of _ (by decide +kernel)) ggX12_start_X12_become
theorem dX12_start_0 : decode cX12_start 0 = .ok (.aload_n 0, 1) := by decide +kernel
theorem dX12_start_1 : decode cX12_start 1 = .ok (.getfield 116, 3) := by decide +kernel
theorem dX12_start_4 : decode cX12_start 4 = .ok (.ifCond .eq 6, 3) := by decide +kernel
theorem dX12_start_7 : decode cX12_start 7 = .ok (.bipush (-2), 2) := by decide +kernel
theorem dX12_start_9 : decode cX12_start 9 = .ok (.ireturn, 1) := by decide +kernel
theorem dX12_start_10 : decode cX12_start 10 = .ok (.aload_n 0, 1) := by decide +kernel
theorem dX12_start_11 : decode cX12_start 11 = .ok (.iconst 1, 1) := by decide +kernel
theorem dX12_start_12 : decode cX12_start 12 = .ok (.invokevirtual 250, 3) := by decide +kernel
theorem dX12_start_15 : decode cX12_start 15 = .ok (.iconst 1, 1) := by decide +kernel
theorem dX12_start_16 : decode cX12_start 16 = .ok (.ireturn, 1) := by decide +kernel
set_option maxRecDepth 20000 in
theorem ggX12_stop_X12_become : GoodIn wsX12_stop wsX12_become := goodIn_r _ [6, 1, 7, 8, 9, 10, 11, 12, 13, 14, 15, 16, 17, 18, 19, 20, 21, 22, 23, 24, 25, 26, 27, 28, 29, 30, 31, 32, 33, 34, 35, 36, 37, 38, 39, 40, 41, 42, 43, 44, 45, 46, 47, 48, 49] (by decide +kernel) (by decide +kernel)
set_option maxRecDepth 20000 in
theorem gX12_stop_X12_become : GoodIn wsX12_stop (wsV RX12 250 RX12 yX12_become wsX12_become) := goodIn_app (goodIn_of _ (by decide +kernel)) ggX12_stop_X12_become
theorem dX12_stop_0 : decode cX12_stop 0 = .ok (.aload_n 0, 1) := by decide +kernel
theorem dX12_stop_1 : decode cX12_stop 1 = .ok (.getfield 116, 3) := by decide +kernel
theorem dX12_stop_4 : decode cX12_stop 4 = .ok (.istore_n 1, 1) := by decide +kernel
theorem dX12_stop_5 : decode cX12_stop 5 = .ok (.aload_n 0, 1) := by decide +kernel
theorem dX12_stop_6 : decode cX12_stop 6 = .ok (.iconst 0, 1) := by decide +kernel
theorem dX12_stop_7 : decode cX12_stop 7 = .ok (.invokevirtual 250, 3) := by decide +kernel
theorem dX12_stop_10 : decode cX12_stop 10 = .ok (.iload_n 1, 1) := by decide +kernel
theorem dX12_stop_11 : decode cX12_stop 11 = .ok (.ireturn, 1) := by decide +kernel
theorem dX12_unitsAll_0 : decode cX12_unitsAll 0 = .ok (.iconst 0, 1) := by decide +kernel
theorem dX12_unitsAll_1 : decode cX12_unitsAll 1 = .ok (.istore_n 1, 1) := by decide +kernel
theorem dX12_unitsAll_2 : decode cX12_unitsAll 2 = .ok (.iconst 0, 1) := by decide +kernel
theorem dX12_unitsAll_3 : decode cX12_unitsAll 3 = .ok (.istore_n 2, 1) := by decide +kernel
theorem dX12_unitsAll_4 : decode cX12_unitsAll 4 = .ok (.iload_n 2, 1) := by decide +kernel
theorem dX12_unitsAll_5 : decode cX12_unitsAll 5 = .ok (.aload_n 0, 1) := by decide +kernel
theorem dX12_unitsAll_6 : decode cX12_unitsAll 6 = .ok (.getfield 13, 3) := by decide +kernel
theorem dX12_unitsAll_9 : decode cX12_unitsAll 9 = .ok (.if_icmp .ge 18, 3) := by decide +kernel
theorem dX12_unitsAll_12 : decode cX12_unitsAll 12 = .ok (.iload_n 1, 1) := by decide +kernel
theorem dX12_unitsAll_13 : decode cX12_unitsAll 13 = .ok (.aload_n 0, 1) := by decide +kernel
theorem dX12_unitsAll_14 : decode cX12_unitsAll 14 = .ok (.getfield 73, 3) := by decide +kernel
theorem dX12_unitsAll_17 : decode cX12_unitsAll 17 = .ok (.iload_n 2, 1) := by decide +kernel
theorem dX12_unitsAll_18 : decode cX12_unitsAll 18 = .ok (.iaload, 1) := by decide +kernel
theorem dX12_unitsAll_19 : decode cX12_unitsAll 19 = .ok (.iadd, 1) := by decide +kernel
theorem dX12_unitsAll_20 : decode cX12_unitsAll 20 = .ok (.istore_n 1, 1) := by decide +kernel
theorem dX12_unitsAll_21 : decode cX12_unitsAll 21 = .ok (.iinc 2 1, 3) := by decide +kernel
theorem dX12_unitsAll_24 : decode cX12_unitsAll 24 = .ok (.goto (-20), 3) := by decide +kernel
theorem dX12_unitsAll_27 : decode cX12_unitsAll 27 = .ok (.iload_n 1, 1) := by decide +kernel
theorem dX12_unitsAll_28 : decode cX12_unitsAll 28 = .ok (.ireturn, 1) := by decide +kernel
set_option maxRecDepth 20000 in
theorem ggX12_bendMore_X12_findWholes : GoodIn wsX12_bendMore wsX12_findWholes := goodIn_r _ [11, 1, 12, 13, 14, 5, 15, 16, 17, 10, 18, 19, 20, 21, 22, 23, 24, 25, 26, 27, 28, 29, 30, 4, 31, 32, 33, 34, 35, 36, 37, 38, 39, 40, 41, 42, 43, 44, 45, 46, 47, 48, 49, 50, 51, 52, 53, 54, 55, 56, 57, 58, 59, 60, 61, 62, 63, 64, 65, 66, 67, 68, 82, 83, 84, 85, 86, 87, 88, 89, 90, 91, 92, 93, 94, 95, 96, 97, 98, 99, 100, 101, 102, 103, 104, 105, 106, 107, 108, 109, 110, 111, 112, 113, 114, 115, 116, 117, 118, 119, 120, 121, 122] (by decide +kernel) (by decide +kernel)
set_option maxRecDepth 20000 in
theorem gX12_bendMore_X12_findWholes : GoodIn wsX12_bendMore (wsV RX12 234 RX12 yX12_findWholes wsX12_findWholes) := goodIn_app (goodIn_of _ (by decide +kernel)) ggX12_bendMore_X12_findWholes
set_option maxRecDepth 20000 in
theorem ggX12_bendMore_X12_findNearest : GoodIn wsX12_bendMore wsX12_findNearest := goodIn_r _ [72, 4, 1, 73, 74, 2, 6, 75, 76, 77, 10, 78, 20, 79, 80, 81, 82, 83, 84, 85, 86, 87, 88, 89, 90, 91, 92, 93, 94, 95, 96, 97, 98, 99, 100, 101, 102, 103, 104, 105, 106, 107, 108, 109, 110, 111, 112, 113, 114, 115, 116, 117, 118, 119, 120, 121, 122] (by decide +kernel) (by decide +kernel)
set_option maxRecDepth 20000 in
theorem gX12_bendMore_X12_findNearest : GoodIn wsX12_bendMore (wsV RX12 243 RX12 yX12_findNearest wsX12_findNearest) := goodIn_app (goodIn_of _ (by decide +kernel)) ggX12_bendMore_X12_findNearest
theorem dX12_bendMore_0 : decode cX12_bendMore 0 = .ok (.aload_n 0, 1) := by decide +kernel
theorem dX12_bendMore_1 : decode cX12_bendMore 1 = .ok (.invokevirtual 234, 3) := by decide +kernel
theorem dX12_bendMore_4 : decode cX12_bendMore 4 = .ok (.iconst 0, 1) := by decide +kernel
theorem dX12_bendMore_5 : decode cX12_bendMore 5 = .ok (.istore_n 1, 1) := by decide +kernel
theorem dX12_bendMore_6 : decode cX12_bendMore 6 = .ok (.iload_n 1, 1) := by decide +kernel
theorem dX12_bendMore_7 : decode cX12_bendMore 7 = .ok (.aload_n 0, 1) := by decide +kernel
theorem dX12_bendMore_8 : decode cX12_bendMore 8 = .ok (.getfield 13, 3) := by decide +kernel
theorem dX12_bendMore_11 : decode cX12_bendMore 11 = .ok (.if_icmp .ge 38, 3) := by decide +kernel
theorem dX12_bendMore_14 : decode cX12_bendMore 14 = .ok (.aload_n 0, 1) := by decide +kernel
theorem dX12_bendMore_15 : decode cX12_bendMore 15 = .ok (.getfield 67, 3) := by decide +kernel
theorem dX12_bendMore_18 : decode cX12_bendMore 18 = .ok (.iload_n 1, 1) := by decide +kernel
theorem dX12_bendMore_19 : decode cX12_bendMore 19 = .ok (.aload_n 0, 1) := by decide +kernel
theorem dX12_bendMore_20 : decode cX12_bendMore 20 = .ok (.getfield 73, 3) := by decide +kernel
theorem dX12_bendMore_23 : decode cX12_bendMore 23 = .ok (.iload_n 1, 1) := by decide +kernel
theorem dX12_bendMore_24 : decode cX12_bendMore 24 = .ok (.iaload, 1) := by decide +kernel
theorem dX12_bendMore_25 : decode cX12_bendMore 25 = .ok (.aload_n 0, 1) := by decide +kernel
theorem dX12_bendMore_26 : decode cX12_bendMore 26 = .ok (.getfield 26, 3) := by decide +kernel
theorem dX12_bendMore_29 : decode cX12_bendMore 29 = .ok (.iconst 3, 1) := by decide +kernel
theorem dX12_bendMore_30 : decode cX12_bendMore 30 = .ok (.iaload, 1) := by decide +kernel
theorem dX12_bendMore_31 : decode cX12_bendMore 31 = .ok (.aload_n 0, 1) := by decide +kernel
theorem dX12_bendMore_32 : decode cX12_bendMore 32 = .ok (.getfield 61, 3) := by decide +kernel
theorem dX12_bendMore_35 : decode cX12_bendMore 35 = .ok (.iload_n 1, 1) := by decide +kernel
theorem dX12_bendMore_36 : decode cX12_bendMore 36 = .ok (.iaload, 1) := by decide +kernel
theorem dX12_bendMore_37 : decode cX12_bendMore 37 = .ok (.imul, 1) := by decide +kernel
theorem dX12_bendMore_38 : decode cX12_bendMore 38 = .ok (.bipush 100, 2) := by decide +kernel
theorem dX12_bendMore_40 : decode cX12_bendMore 40 = .ok (.idiv, 1) := by decide +kernel
theorem dX12_bendMore_41 : decode cX12_bendMore 41 = .ok (.isub, 1) := by decide +kernel
theorem dX12_bendMore_42 : decode cX12_bendMore 42 = .ok (.iastore, 1) := by decide +kernel
theorem dX12_bendMore_43 : decode cX12_bendMore 43 = .ok (.iinc 1 1, 3) := by decide +kernel
theorem dX12_bendMore_46 : decode cX12_bendMore 46 = .ok (.goto (-40), 3) := by decide +kernel
theorem dX12_bendMore_49 : decode cX12_bendMore 49 = .ok (.aload_n 0, 1) := by decide +kernel
theorem dX12_bendMore_50 : decode cX12_bendMore 50 = .ok (.invokevirtual 243, 3) := by decide +kernel
theorem dX12_bendMore_53 : decode cX12_bendMore 53 = .ok (.lconst 0, 1) := by decide +kernel
theorem dX12_bendMore_54 : decode cX12_bendMore 54 = .ok (.lcmp, 1) := by decide +kernel
theorem dX12_bendMore_55 : decode cX12_bendMore 55 = .ok (.ifCond .lt 31, 3) := by decide +kernel
theorem dX12_bendMore_58 : decode cX12_bendMore 58 = .ok (.iconst 0, 1) := by decide +kernel
theorem dX12_bendMore_59 : decode cX12_bendMore 59 = .ok (.istore_n 1, 1) := by decide +kernel
theorem dX12_bendMore_60 : decode cX12_bendMore 60 = .ok (.iload_n 1, 1) := by decide +kernel
theorem dX12_bendMore_61 : decode cX12_bendMore 61 = .ok (.aload_n 0, 1) := by decide +kernel
theorem dX12_bendMore_62 : decode cX12_bendMore 62 = .ok (.getfield 13, 3) := by decide +kernel
theorem dX12_bendMore_65 : decode cX12_bendMore 65 = .ok (.if_icmp .ge 21, 3) := by decide +kernel
theorem dX12_bendMore_68 : decode cX12_bendMore 68 = .ok (.aload_n 0, 1) := by decide +kernel
theorem dX12_bendMore_69 : decode cX12_bendMore 69 = .ok (.getfield 73, 3) := by decide +kernel
theorem dX12_bendMore_72 : decode cX12_bendMore 72 = .ok (.iload_n 1, 1) := by decide +kernel
theorem dX12_bendMore_73 : decode cX12_bendMore 73 = .ok (.aload_n 0, 1) := by decide +kernel
theorem dX12_bendMore_74 : decode cX12_bendMore 74 = .ok (.getfield 70, 3) := by decide +kernel
theorem dX12_bendMore_77 : decode cX12_bendMore 77 = .ok (.iload_n 1, 1) := by decide +kernel
theorem dX12_bendMore_78 : decode cX12_bendMore 78 = .ok (.iaload, 1) := by decide +kernel
theorem dX12_bendMore_79 : decode cX12_bendMore 79 = .ok (.iastore, 1) := by decide +kernel
theorem dX12_bendMore_80 : decode cX12_bendMore 80 = .ok (.iinc 1 1, 3) := by decide +kernel
theorem dX12_bendMore_83 : decode cX12_bendMore 83 = .ok (.goto (-23), 3) := by decide +kernel
theorem dX12_bendMore_86 : decode cX12_bendMore 86 = .ok (.return_, 1) := by decide +kernel
set_option maxRecDepth 20000 in
theorem ggX12_frame_X12_isLost : GoodIn wsX12_frame wsX12_isLost := goodIn_r _ [15, 2, 16, 17, 18, 14, 19, 20, 21, 22, 23, 24, 101, 102, 103, 104, 105, 106, 107, 108, 109, 110, 111, 112, 113, 114, 115, 116, 117, 118, 119, 120, 121, 122, 123, 124, 125, 126, 127, 128, 129, 130, 131, 132, 133, 134, 135, 136, 137, 138, 139, 140, 141] (by decide +kernel) (by decide +kernel)
set_option maxRecDepth 20000 in
theorem gX12_frame_X12_isLost : GoodIn wsX12_frame (wsV RX12 161 RX12 yX12_isLost wsX12_isLost) := goodIn_app (goodIn_of _ (by decide +kernel)) ggX12_frame_X12_isLost
set_option maxRecDepth 20000 in
theorem ggX12_frame_X12_become : GoodIn wsX12_frame wsX12_become := goodIn_r _ [28, 5, 3, 4, 101, 102, 103, 104, 105, 106, 107, 108, 109, 110, 111, 112, 113, 114, 115, 116, 117, 118, 119, 120, 121, 122, 123, 124, 125, 126, 127, 128, 129, 130, 131, 132, 133, 134, 135, 136, 137, 138, 139, 140, 141] (by decide +kernel) (by decide +kernel)
set_option maxRecDepth 20000 in
theorem gX12_frame_X12_become : GoodIn wsX12_frame (wsV RX12 250 RX12 yX12_become wsX12_become) := goodIn_app (goodIn_of _ (by decide +kernel)) ggX12_frame_X12_become
set_option maxRecDepth 20000 in
theorem ggX12_frame_X12_bendMore : GoodIn wsX12_frame wsX12_bendMore := goodIn_r _ [32, 33, 34, 6, 2, 35, 36, 37, 38, 39, 14, 40, 41, 42, 43, 44, 45, 46, 47, 48, 49, 1, 50, 51, 52, 53, 54, 11, 12, 13, 15, 16, 17, 18, 19, 20, 21, 22, 23, 24, 55, 56, 57, 58, 59, 60, 61, 62, 63, 64, 65, 66, 67, 68, 69, 70, 71, 72, 73, 74, 75, 76, 77, 78, 79, 80, 81, 82, 83, 84, 85, 86, 87, 88, 89, 90, 91, 92, 93, 94, 95, 96, 101, 102, 103, 104, 105, 106, 107, 108, 109, 110, 111, 112, 113, 114, 115, 116, 117, 118, 119, 120, 121, 122, 123, 124, 125, 126, 127, 128, 129, 130, 131, 132, 133, 134, 135, 136, 137, 138, 139, 140, 141] (by decide +kernel) (by decide +kernel)
set_option maxRecDepth 20000 in
theorem gX12_frame_X12_bendMore : GoodIn wsX12_frame (wsV RX12 253 RX12 yX12_bendMore wsX12_bendMore) := goodIn_app (goodIn_of _ (by decide +kernel)) ggX12_frame_X12_bendMore
set_option maxRecDepth 20000 in
theorem ggX12_frame_X12_unitsAll : GoodIn wsX12_frame wsX12_unitsAll := goodIn_r _ [100, 33, 6, 101, 102, 103, 104, 105, 106, 107, 108, 109, 110, 111, 112, 113, 114, 115, 116, 117, 118, 119, 120, 121, 122, 123, 124, 125, 126, 127, 128, 129, 130, 131, 132, 133, 134, 135, 136, 137, 138, 139, 140, 141] (by decide +kernel) (by decide +kernel)
set_option maxRecDepth 20000 in
theorem gX12_frame_X12_unitsAll : GoodIn wsX12_frame (wsV RX12 256 RX12 yX12_unitsAll wsX12_unitsAll) := goodIn_app (goodIn_of _ (by decide +kernel)) ggX12_frame_X12_unitsAll
theorem dX12_frame_0 : decode cX12_frame 0 = .ok (.iconst 0, 1) := by decide +kernel
theorem dX12_frame_1 : decode cX12_frame 1 = .ok (.istore_n 1, 1) := by decide +kernel
theorem dX12_frame_2 : decode cX12_frame 2 = .ok (.iconst 0, 1) := by decide +kernel
theorem dX12_frame_3 : decode cX12_frame 3 = .ok (.istore_n 2, 1) := by decide +kernel
theorem dX12_frame_4 : decode cX12_frame 4 = .ok (.iload_n 2, 1) := by decide +kernel
theorem dX12_frame_5 : decode cX12_frame 5 = .ok (.aload_n 0, 1) := by decide +kernel
theorem dX12_frame_6 : decode cX12_frame 6 = .ok (.getfield 7, 3) := by decide +kernel
theorem dX12_frame_9 : decode cX12_frame 9 = .ok (.if_icmp .ge 25, 3) := by decide +kernel
theorem dX12_frame_12 : decode cX12_frame 12 = .ok (.iload_n 1, 1) := by decide +kernel
theorem dX12_frame_13 : decode cX12_frame 13 = .ok (.aload_n 0, 1) := by decide +kernel
theorem dX12_frame_14 : decode cX12_frame 14 = .ok (.iload_n 2, 1) := by decide +kernel
theorem dX12_frame_15 : decode cX12_frame 15 = .ok (.invokevirtual 161, 3) := by decide +kernel
theorem dX12_frame_18 : decode cX12_frame 18 = .ok (.ifCond .eq 7, 3) := by decide +kernel
theorem dX12_frame_21 : decode cX12_frame 21 = .ok (.iconst 1, 1) := by decide +kernel
theorem dX12_frame_22 : decode cX12_frame 22 = .ok (.goto 4, 3) := by decide +kernel
theorem dX12_frame_25 : decode cX12_frame 25 = .ok (.iconst 0, 1) := by decide +kernel
theorem dX12_frame_26 : decode cX12_frame 26 = .ok (.iadd, 1) := by decide +kernel
theorem dX12_frame_27 : decode cX12_frame 27 = .ok (.istore_n 1, 1) := by decide +kernel
theorem dX12_frame_28 : decode cX12_frame 28 = .ok (.iinc 2 1, 3) := by decide +kernel
theorem dX12_frame_31 : decode cX12_frame 31 = .ok (.goto (-27), 3) := by decide +kernel
theorem dX12_frame_34 : decode cX12_frame 34 = .ok (.iload_n 1, 1) := by decide +kernel
theorem dX12_frame_35 : decode cX12_frame 35 = .ok (.aload_n 0, 1) := by decide +kernel
theorem dX12_frame_36 : decode cX12_frame 36 = .ok (.getfield 26, 3) := by decide +kernel
theorem dX12_frame_39 : decode cX12_frame 39 = .ok (.iconst 2, 1) := by decide +kernel
theorem dX12_frame_40 : decode cX12_frame 40 = .ok (.iaload, 1) := by decide +kernel
theorem dX12_frame_41 : decode cX12_frame 41 = .ok (.if_icmp .gt 7, 3) := by decide +kernel
theorem dX12_frame_44 : decode cX12_frame 44 = .ok (.iconst 1, 1) := by decide +kernel
theorem dX12_frame_45 : decode cX12_frame 45 = .ok (.goto 4, 3) := by decide +kernel
theorem dX12_frame_48 : decode cX12_frame 48 = .ok (.iconst 0, 1) := by decide +kernel
theorem dX12_frame_49 : decode cX12_frame 49 = .ok (.istore_n 2, 1) := by decide +kernel
theorem dX12_frame_50 : decode cX12_frame 50 = .ok (.aload_n 0, 1) := by decide +kernel
theorem dX12_frame_51 : decode cX12_frame 51 = .ok (.iload_n 2, 1) := by decide +kernel
theorem dX12_frame_52 : decode cX12_frame 52 = .ok (.ifCond .eq 12, 3) := by decide +kernel
theorem dX12_frame_55 : decode cX12_frame 55 = .ok (.aload_n 0, 1) := by decide +kernel
theorem dX12_frame_56 : decode cX12_frame 56 = .ok (.getfield 119, 3) := by decide +kernel
theorem dX12_frame_59 : decode cX12_frame 59 = .ok (.iconst 1, 1) := by decide +kernel
theorem dX12_frame_60 : decode cX12_frame 60 = .ok (.iadd, 1) := by decide +kernel
theorem dX12_frame_61 : decode cX12_frame 61 = .ok (.goto 4, 3) := by decide +kernel
theorem dX12_frame_64 : decode cX12_frame 64 = .ok (.iconst 0, 1) := by decide +kernel
theorem dX12_frame_65 : decode cX12_frame 65 = .ok (.putfield 119, 3) := by decide +kernel
theorem dX12_frame_68 : decode cX12_frame 68 = .ok (.aload_n 0, 1) := by decide +kernel
theorem dX12_frame_69 : decode cX12_frame 69 = .ok (.dup, 1) := by decide +kernel
theorem dX12_frame_70 : decode cX12_frame 70 = .ok (.getfield 122, 3) := by decide +kernel
theorem dX12_frame_73 : decode cX12_frame 73 = .ok (.iconst 1, 1) := by decide +kernel
theorem dX12_frame_74 : decode cX12_frame 74 = .ok (.iadd, 1) := by decide +kernel
theorem dX12_frame_75 : decode cX12_frame 75 = .ok (.putfield 122, 3) := by decide +kernel
theorem dX12_frame_78 : decode cX12_frame 78 = .ok (.aload_n 0, 1) := by decide +kernel
theorem dX12_frame_79 : decode cX12_frame 79 = .ok (.getfield 116, 3) := by decide +kernel
theorem dX12_frame_82 : decode cX12_frame 82 = .ok (.iconst 1, 1) := by decide +kernel
theorem dX12_frame_83 : decode cX12_frame 83 = .ok (.if_icmp .ne 19, 3) := by decide +kernel
theorem dX12_frame_86 : decode cX12_frame 86 = .ok (.aload_n 0, 1) := by decide +kernel
theorem dX12_frame_87 : decode cX12_frame 87 = .ok (.getfield 119, 3) := by decide +kernel
theorem dX12_frame_90 : decode cX12_frame 90 = .ok (.iconst 3, 1) := by decide +kernel
theorem dX12_frame_91 : decode cX12_frame 91 = .ok (.if_icmp .ne 96, 3) := by decide +kernel
theorem dX12_frame_94 : decode cX12_frame 94 = .ok (.aload_n 0, 1) := by decide +kernel
theorem dX12_frame_95 : decode cX12_frame 95 = .ok (.iconst 2, 1) := by decide +kernel
theorem dX12_frame_96 : decode cX12_frame 96 = .ok (.invokevirtual 250, 3) := by decide +kernel
theorem dX12_frame_99 : decode cX12_frame 99 = .ok (.goto 88, 3) := by decide +kernel
theorem dX12_frame_102 : decode cX12_frame 102 = .ok (.aload_n 0, 1) := by decide +kernel
theorem dX12_frame_103 : decode cX12_frame 103 = .ok (.getfield 116, 3) := by decide +kernel
theorem dX12_frame_106 : decode cX12_frame 106 = .ok (.iconst 2, 1) := by decide +kernel
theorem dX12_frame_107 : decode cX12_frame 107 = .ok (.if_icmp .ne 22, 3) := by decide +kernel
theorem dX12_frame_110 : decode cX12_frame 110 = .ok (.iload_n 2, 1) := by decide +kernel
theorem dX12_frame_111 : decode cX12_frame 111 = .ok (.ifCond .eq 10, 3) := by decide +kernel
theorem dX12_frame_114 : decode cX12_frame 114 = .ok (.aload_n 0, 1) := by decide +kernel
theorem dX12_frame_115 : decode cX12_frame 115 = .ok (.invokevirtual 253, 3) := by decide +kernel
theorem dX12_frame_118 : decode cX12_frame 118 = .ok (.goto 69, 3) := by decide +kernel
theorem dX12_frame_121 : decode cX12_frame 121 = .ok (.aload_n 0, 1) := by decide +kernel
theorem dX12_frame_122 : decode cX12_frame 122 = .ok (.iconst 3, 1) := by decide +kernel
theorem dX12_frame_123 : decode cX12_frame 123 = .ok (.invokevirtual 250, 3) := by decide +kernel
theorem dX12_frame_126 : decode cX12_frame 126 = .ok (.goto 61, 3) := by decide +kernel
theorem dX12_frame_129 : decode cX12_frame 129 = .ok (.aload_n 0, 1) := by decide +kernel
theorem dX12_frame_130 : decode cX12_frame 130 = .ok (.getfield 116, 3) := by decide +kernel
theorem dX12_frame_133 : decode cX12_frame 133 = .ok (.iconst 3, 1) := by decide +kernel
theorem dX12_frame_134 : decode cX12_frame 134 = .ok (.if_icmp .ne 53, 3) := by decide +kernel
theorem dX12_frame_137 : decode cX12_frame 137 = .ok (.aload_n 0, 1) := by decide +kernel
theorem dX12_frame_138 : decode cX12_frame 138 = .ok (.getfield 119, 3) := by decide +kernel
theorem dX12_frame_141 : decode cX12_frame 141 = .ok (.iconst 5, 1) := by decide +kernel
theorem dX12_frame_142 : decode cX12_frame 142 = .ok (.if_icmp .ne 11, 3) := by decide +kernel
theorem dX12_frame_145 : decode cX12_frame 145 = .ok (.aload_n 0, 1) := by decide +kernel
theorem dX12_frame_146 : decode cX12_frame 146 = .ok (.iconst 2, 1) := by decide +kernel
theorem dX12_frame_147 : decode cX12_frame 147 = .ok (.invokevirtual 250, 3) := by decide +kernel
theorem dX12_frame_150 : decode cX12_frame 150 = .ok (.goto 37, 3) := by decide +kernel
theorem dX12_frame_153 : decode cX12_frame 153 = .ok (.aload_n 0, 1) := by decide +kernel
theorem dX12_frame_154 : decode cX12_frame 154 = .ok (.getfield 122, 3) := by decide +kernel
theorem dX12_frame_157 : decode cX12_frame 157 = .ok (.bipush 20, 2) := by decide +kernel
theorem dX12_frame_159 : decode cX12_frame 159 = .ok (.if_icmp .ne 28, 3) := by decide +kernel
theorem dX12_frame_162 : decode cX12_frame 162 = .ok (.aload_n 0, 1) := by decide +kernel
theorem dX12_frame_163 : decode cX12_frame 163 = .ok (.iconst 0, 1) := by decide +kernel
theorem dX12_frame_164 : decode cX12_frame 164 = .ok (.invokevirtual 250, 3) := by decide +kernel
theorem dX12_frame_167 : decode cX12_frame 167 = .ok (.iconst 0, 1) := by decide +kernel
theorem dX12_frame_168 : decode cX12_frame 168 = .ok (.istore_n 3, 1) := by decide +kernel
theorem dX12_frame_169 : decode cX12_frame 169 = .ok (.iload_n 3, 1) := by decide +kernel
theorem dX12_frame_170 : decode cX12_frame 170 = .ok (.iconst 5, 1) := by decide +kernel
theorem dX12_frame_171 : decode cX12_frame 171 = .ok (.if_icmp .ge 16, 3) := by decide +kernel
theorem dX12_frame_174 : decode cX12_frame 174 = .ok (.aload_n 0, 1) := by decide +kernel
theorem dX12_frame_175 : decode cX12_frame 175 = .ok (.getfield 73, 3) := by decide +kernel
theorem dX12_frame_178 : decode cX12_frame 178 = .ok (.iload_n 3, 1) := by decide +kernel
theorem dX12_frame_179 : decode cX12_frame 179 = .ok (.iconst 0, 1) := by decide +kernel
theorem dX12_frame_180 : decode cX12_frame 180 = .ok (.iastore, 1) := by decide +kernel
theorem dX12_frame_181 : decode cX12_frame 181 = .ok (.iinc 3 1, 3) := by decide +kernel
theorem dX12_frame_184 : decode cX12_frame 184 = .ok (.goto (-15), 3) := by decide +kernel
theorem dX12_frame_187 : decode cX12_frame 187 = .ok (.aload_n 0, 1) := by decide +kernel
theorem dX12_frame_188 : decode cX12_frame 188 = .ok (.getfield 125, 3) := by decide +kernel
theorem dX12_frame_191 : decode cX12_frame 191 = .ok (.bipush 30, 2) := by decide +kernel
theorem dX12_frame_193 : decode cX12_frame 193 = .ok (.irem, 1) := by decide +kernel
theorem dX12_frame_194 : decode cX12_frame 194 = .ok (.istore_n 3, 1) := by decide +kernel
theorem dX12_frame_195 : decode cX12_frame 195 = .ok (.aload_n 0, 1) := by decide +kernel
theorem dX12_frame_196 : decode cX12_frame 196 = .ok (.getfield 76, 3) := by decide +kernel
theorem dX12_frame_199 : decode cX12_frame 199 = .ok (.iload_n 3, 1) := by decide +kernel
theorem dX12_frame_200 : decode cX12_frame 200 = .ok (.aload_n 0, 1) := by decide +kernel
theorem dX12_frame_201 : decode cX12_frame 201 = .ok (.getfield 116, 3) := by decide +kernel
theorem dX12_frame_204 : decode cX12_frame 204 = .ok (.iastore, 1) := by decide +kernel
theorem dX12_frame_205 : decode cX12_frame 205 = .ok (.aload_n 0, 1) := by decide +kernel
theorem dX12_frame_206 : decode cX12_frame 206 = .ok (.getfield 79, 3) := by decide +kernel
theorem dX12_frame_209 : decode cX12_frame 209 = .ok (.iload_n 3, 1) := by decide +kernel
theorem dX12_frame_210 : decode cX12_frame 210 = .ok (.iload_n 1, 1) := by decide +kernel
theorem dX12_frame_211 : decode cX12_frame 211 = .ok (.iastore, 1) := by decide +kernel
theorem dX12_frame_212 : decode cX12_frame 212 = .ok (.aload_n 0, 1) := by decide +kernel
theorem dX12_frame_213 : decode cX12_frame 213 = .ok (.getfield 82, 3) := by decide +kernel
theorem dX12_frame_216 : decode cX12_frame 216 = .ok (.iload_n 3, 1) := by decide +kernel
theorem dX12_frame_217 : decode cX12_frame 217 = .ok (.aload_n 0, 1) := by decide +kernel
theorem dX12_frame_218 : decode cX12_frame 218 = .ok (.invokevirtual 256, 3) := by decide +kernel
theorem dX12_frame_221 : decode cX12_frame 221 = .ok (.iastore, 1) := by decide +kernel
theorem dX12_frame_222 : decode cX12_frame 222 = .ok (.aload_n 0, 1) := by decide +kernel
theorem dX12_frame_223 : decode cX12_frame 223 = .ok (.dup, 1) := by decide +kernel
theorem dX12_frame_224 : decode cX12_frame 224 = .ok (.getfield 125, 3) := by decide +kernel
theorem dX12_frame_227 : decode cX12_frame 227 = .ok (.iconst 1, 1) := by decide +kernel
theorem dX12_frame_228 : decode cX12_frame 228 = .ok (.iadd, 1) := by decide +kernel
theorem dX12_frame_229 : decode cX12_frame 229 = .ok (.putfield 125, 3) := by decide +kernel
theorem dX12_frame_232 : decode cX12_frame 232 = .ok (.return_, 1) := by decide +kernel
set_option maxRecDepth 20000 in
theorem ggX12_frames_X12_in : GoodIn wsX12_frames wsX12_in := goodIn_r _ [6] (by decide +kernel) (by decide +kernel)
set_option maxRecDepth 20000 in
theorem gX12_frames_X12_in : GoodIn wsX12_frames (va_wsS RX12 130 yX12_in wsX12_in) := goodIn_app (goodIn_of _ (by decide +kernel)) ggX12_frames_X12_in
set_option maxRecDepth 20000 in
theorem ggX12_frames_X12_frame : GoodIn wsX12_frames wsX12_frame := goodIn_r _ [10, 11, 12, 13, 14, 2, 15, 16, 17, 18, 19, 20, 21, 22, 5, 23, 24, 25, 26, 27, 28, 29, 30, 31, 32, 33, 34, 35, 36, 37, 38, 39, 40, 41, 42, 43, 44, 45, 46, 47, 48, 49, 50, 51, 52, 53, 54, 55, 56, 57, 58, 59, 60, 61, 62, 63, 64, 65, 66, 67, 68, 69, 70, 71, 72, 73, 74, 75, 76, 77, 78, 79, 80, 81, 82, 83, 84, 85, 86, 87, 88, 89, 90, 91, 92, 93, 94, 95, 96, 97, 98, 99, 100, 101, 3, 4, 6, 102, 103, 104, 105, 106, 107, 108, 109, 110, 111, 112, 113, 114, 115, 116, 117, 118, 119, 120, 121, 122, 123, 124, 125, 126, 127, 128, 129, 130, 131, 132, 133, 134, 135, 136, 137, 138, 139, 140, 141, 142, 143, 144, 145, 146] (by decide +kernel) (by decide +kernel)
set_option maxRecDepth 20000 in
theorem gX12_frames_X12_frame : GoodIn wsX12_frames (wsV RX12 262 RX12 yX12_frame wsX12_frame) := goodIn_app (goodIn_of _ (by decide +kernel)) ggX12_frames_X12_frame
theorem dX12_frames_0 : decode cX12_frames 0 = .ok (.iload_n 1, 1) := by decide +kernel
theorem dX12_frames_1 : decode cX12_frames 1 = .ok (.i2l, 1) := by decide +kernel
theorem dX12_frames_2 : decode cX12_frames 2 = .ok (.lconst 1, 1) := by decide +kernel
theorem dX12_frames_3 : decode cX12_frames 3 = .ok (.ldc2_w 260, 3) := by decide +kernel
theorem dX12_frames_6 : decode cX12_frames 6 = .ok (.invokestatic 130, 3) := by decide +kernel
theorem dX12_frames_9 : decode cX12_frames 9 = .ok (.ifCond .ne 5, 3) := by decide +kernel
theorem dX12_frames_12 : decode cX12_frames 12 = .ok (.iconst (-1), 1) := by decide +kernel
theorem dX12_frames_13 : decode cX12_frames 13 = .ok (.ireturn, 1) := by decide +kernel
theorem dX12_frames_14 : decode cX12_frames 14 = .ok (.iconst 0, 1) := by decide +kernel
theorem dX12_frames_15 : decode cX12_frames 15 = .ok (.istore_n 2, 1) := by decide +kernel
theorem dX12_frames_16 : decode cX12_frames 16 = .ok (.iload_n 2, 1) := by decide +kernel
theorem dX12_frames_17 : decode cX12_frames 17 = .ok (.iload_n 1, 1) := by decide +kernel
theorem dX12_frames_18 : decode cX12_frames 18 = .ok (.if_icmp .ge 13, 3) := by decide +kernel
theorem dX12_frames_21 : decode cX12_frames 21 = .ok (.aload_n 0, 1) := by decide +kernel

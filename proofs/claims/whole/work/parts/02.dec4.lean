theorem dX12_greatest_64 : decode cX12_greatest 64 = .ok (.iconst 1, 1) := by decide +kernel
theorem dX12_greatest_65 : decode cX12_greatest 65 = .ok (.goto 4, 3) := by decide +kernel
theorem dX12_greatest_68 : decode cX12_greatest 68 = .ok (.iconst 0, 1) := by decide +kernel
theorem dX12_greatest_69 : decode cX12_greatest 69 = .ok (.ireturn, 1) := by decide +kernel
set_option maxRecDepth 20000 in
theorem ggX12_best_X12_in : GoodIn wsX12_best wsX12_in := goodIn_r _ [14] (by decide +kernel) (by decide +kernel)
set_option maxRecDepth 20000 in
theorem gX12_best_X12_in : GoodIn wsX12_best (va_wsS RX12 61 yX12_in wsX12_in) := goodIn_app (goodIn_of _ (by decide +kernel)) ggX12_best_X12_in
set_option maxRecDepth 20000 in
theorem ggX12_best_X12_threadOf : GoodIn wsX12_best wsX12_threadOf := goodIn_r _ [18, 9, 60, 61, 62, 63, 64, 65, 66, 67, 68, 69, 70, 71, 72, 73, 74, 75, 76, 77, 78, 79, 80, 81, 82, 83, 84, 85, 86, 87, 88, 89, 90, 91] (by decide +kernel) (by decide +kernel)
set_option maxRecDepth 20000 in
theorem gX12_best_X12_threadOf : GoodIn wsX12_best (wsV RX12 200 RX12 yX12_threadOf wsX12_threadOf) := goodIn_app (goodIn_of _ (by decide +kernel)) ggX12_best_X12_threadOf
set_option maxRecDepth 20000 in
theorem ggX12_best_X12_runGreatest : GoodIn wsX12_best wsX12_runGreatest := goodIn_r _ [22, 10, 23, 24, 25, 26, 27, 13, 28, 29, 30, 31, 32, 33, 34, 35, 36, 37, 38, 39, 40, 41, 42, 43, 44, 45, 46, 47, 48, 49, 50, 51, 15, 16, 17, 18, 9, 52, 53, 54, 55, 56, 57, 58, 59, 60, 61, 62, 63, 64, 65, 66, 67, 68, 69, 70, 71, 72, 73, 74, 75, 76, 77, 78, 79, 80, 81, 82, 83, 84, 85, 86, 87, 88, 89, 90, 91] (by decide +kernel) (by decide +kernel)
set_option maxRecDepth 20000 in
theorem gX12_best_X12_runGreatest : GoodIn wsX12_best (wsV RX12 279 RX12 yX12_runGreatest wsX12_runGreatest) := goodIn_app (goodIn_of _ (by decide +kernel)) ggX12_best_X12_runGreatest
theorem dX12_best_0 : decode cX12_best 0 = .ok (.aload_n 0, 1) := by decide +kernel
theorem dX12_best_1 : decode cX12_best 1 = .ok (.iconst 0, 1) := by decide +kernel
theorem dX12_best_2 : decode cX12_best 2 = .ok (.putfield 52, 3) := by decide +kernel
theorem dX12_best_5 : decode cX12_best 5 = .ok (.aload_n 0, 1) := by decide +kernel
theorem dX12_best_6 : decode cX12_best 6 = .ok (.getfield 196, 3) := by decide +kernel
theorem dX12_best_9 : decode cX12_best 9 = .ok (.ifCond .ne 6, 3) := by decide +kernel
theorem dX12_best_12 : decode cX12_best 12 = .ok (.ldc 255, 2) := by decide +kernel
theorem dX12_best_14 : decode cX12_best 14 = .ok (.ireturn, 1) := by decide +kernel
theorem dX12_best_15 : decode cX12_best 15 = .ok (.iload_n 1, 1) := by decide +kernel
theorem dX12_best_16 : decode cX12_best 16 = .ok (.i2l, 1) := by decide +kernel
theorem dX12_best_17 : decode cX12_best 17 = .ok (.lconst 1, 1) := by decide +kernel
theorem dX12_best_18 : decode cX12_best 18 = .ok (.ldc2_w 212, 3) := by decide +kernel
theorem dX12_best_21 : decode cX12_best 21 = .ok (.invokestatic 61, 3) := by decide +kernel
theorem dX12_best_24 : decode cX12_best 24 = .ok (.ifCond .eq 27, 3) := by decide +kernel
theorem dX12_best_27 : decode cX12_best 27 = .ok (.iload_n 2, 1) := by decide +kernel
theorem dX12_best_28 : decode cX12_best 28 = .ok (.i2l, 1) := by decide +kernel
theorem dX12_best_29 : decode cX12_best 29 = .ok (.lconst 0, 1) := by decide +kernel
theorem dX12_best_30 : decode cX12_best 30 = .ok (.ldc2_w 264, 3) := by decide +kernel
theorem dX12_best_33 : decode cX12_best 33 = .ok (.invokestatic 61, 3) := by decide +kernel
theorem dX12_best_36 : decode cX12_best 36 = .ok (.ifCond .eq 15, 3) := by decide +kernel
theorem dX12_best_39 : decode cX12_best 39 = .ok (.iload_n 3, 1) := by decide +kernel
theorem dX12_best_40 : decode cX12_best 40 = .ok (.i2l, 1) := by decide +kernel
theorem dX12_best_41 : decode cX12_best 41 = .ok (.lconst 1, 1) := by decide +kernel
theorem dX12_best_42 : decode cX12_best 42 = .ok (.ldc2_w 266, 3) := by decide +kernel
theorem dX12_best_45 : decode cX12_best 45 = .ok (.invokestatic 61, 3) := by decide +kernel
theorem dX12_best_48 : decode cX12_best 48 = .ok (.ifCond .ne 6, 3) := by decide +kernel
theorem dX12_best_51 : decode cX12_best 51 = .ok (.ldc 71, 2) := by decide +kernel
theorem dX12_best_53 : decode cX12_best 53 = .ok (.ireturn, 1) := by decide +kernel
theorem dX12_best_54 : decode cX12_best 54 = .ok (.ldc 31, 2) := by decide +kernel
theorem dX12_best_56 : decode cX12_best 56 = .ok (.istore 4, 2) := by decide +kernel
theorem dX12_best_58 : decode cX12_best 58 = .ok (.iconst (-1), 1) := by decide +kernel
theorem dX12_best_59 : decode cX12_best 59 = .ok (.istore 5, 2) := by decide +kernel
theorem dX12_best_61 : decode cX12_best 61 = .ok (.iconst 0, 1) := by decide +kernel
theorem dX12_best_62 : decode cX12_best 62 = .ok (.istore 6, 2) := by decide +kernel
theorem dX12_best_64 : decode cX12_best 64 = .ok (.iload 6, 2) := by decide +kernel
theorem dX12_best_66 : decode cX12_best 66 = .ok (.aload_n 0, 1) := by decide +kernel
theorem dX12_best_67 : decode cX12_best 67 = .ok (.getfield 19, 3) := by decide +kernel
theorem dX12_best_70 : decode cX12_best 70 = .ok (.iconst 0, 1) := by decide +kernel
theorem dX12_best_71 : decode cX12_best 71 = .ok (.iaload, 1) := by decide +kernel
theorem dX12_best_72 : decode cX12_best 72 = .ok (.if_icmp .ge 92, 3) := by decide +kernel
theorem dX12_best_75 : decode cX12_best 75 = .ok (.iconst 0, 1) := by decide +kernel
theorem dX12_best_76 : decode cX12_best 76 = .ok (.istore 7, 2) := by decide +kernel
theorem dX12_best_78 : decode cX12_best 78 = .ok (.iload 7, 2) := by decide +kernel
theorem dX12_best_80 : decode cX12_best 80 = .ok (.aload_n 0, 1) := by decide +kernel
theorem dX12_best_81 : decode cX12_best 81 = .ok (.getfield 19, 3) := by decide +kernel
theorem dX12_best_84 : decode cX12_best 84 = .ok (.iconst 1, 1) := by decide +kernel
theorem dX12_best_85 : decode cX12_best 85 = .ok (.iaload, 1) := by decide +kernel
theorem dX12_best_86 : decode cX12_best 86 = .ok (.if_icmp .ge 72, 3) := by decide +kernel
theorem dX12_best_89 : decode cX12_best 89 = .ok (.aload_n 0, 1) := by decide +kernel
theorem dX12_best_90 : decode cX12_best 90 = .ok (.iload 6, 2) := by decide +kernel
theorem dX12_best_92 : decode cX12_best 92 = .ok (.iload 7, 2) := by decide +kernel
theorem dX12_best_94 : decode cX12_best 94 = .ok (.iload_n 1, 1) := by decide +kernel
theorem dX12_best_95 : decode cX12_best 95 = .ok (.aload_n 0, 1) := by decide +kernel
theorem dX12_best_96 : decode cX12_best 96 = .ok (.iload 7, 2) := by decide +kernel
theorem dX12_best_98 : decode cX12_best 98 = .ok (.iconst 2, 1) := by decide +kernel
theorem dX12_best_99 : decode cX12_best 99 = .ok (.invokevirtual 200, 3) := by decide +kernel
theorem dX12_best_102 : decode cX12_best 102 = .ok (.if_icmp .ge 7, 3) := by decide +kernel
theorem dX12_best_105 : decode cX12_best 105 = .ok (.iload_n 1, 1) := by decide +kernel
theorem dX12_best_106 : decode cX12_best 106 = .ok (.goto 10, 3) := by decide +kernel
theorem dX12_best_109 : decode cX12_best 109 = .ok (.aload_n 0, 1) := by decide +kernel
theorem dX12_best_110 : decode cX12_best 110 = .ok (.iload 7, 2) := by decide +kernel
theorem dX12_best_112 : decode cX12_best 112 = .ok (.iconst 2, 1) := by decide +kernel
theorem dX12_best_113 : decode cX12_best 113 = .ok (.invokevirtual 200, 3) := by decide +kernel
theorem dX12_best_116 : decode cX12_best 116 = .ok (.iload_n 2, 1) := by decide +kernel
theorem dX12_best_117 : decode cX12_best 117 = .ok (.iload_n 3, 1) := by decide +kernel
theorem dX12_best_118 : decode cX12_best 118 = .ok (.iconst 0, 1) := by decide +kernel
theorem dX12_best_119 : decode cX12_best 119 = .ok (.invokevirtual 279, 3) := by decide +kernel
theorem dX12_best_122 : decode cX12_best 122 = .ok (.istore 8, 2) := by decide +kernel
theorem dX12_best_124 : decode cX12_best 124 = .ok (.aload_n 0, 1) := by decide +kernel
theorem dX12_best_125 : decode cX12_best 125 = .ok (.getfield 223, 3) := by decide +kernel
theorem dX12_best_128 : decode cX12_best 128 = .ok (.ifCond .ne 24, 3) := by decide +kernel
theorem dX12_best_131 : decode cX12_best 131 = .ok (.iload 8, 2) := by decide +kernel
theorem dX12_best_133 : decode cX12_best 133 = .ok (.iload 5, 2) := by decide +kernel
theorem dX12_best_135 : decode cX12_best 135 = .ok (.if_icmp .le 17, 3) := by decide +kernel
theorem dX12_best_138 : decode cX12_best 138 = .ok (.bipush 8, 2) := by decide +kernel
theorem dX12_best_140 : decode cX12_best 140 = .ok (.iload 6, 2) := by decide +kernel
theorem dX12_best_142 : decode cX12_best 142 = .ok (.imul, 1) := by decide +kernel
theorem dX12_best_143 : decode cX12_best 143 = .ok (.iload 7, 2) := by decide +kernel
theorem dX12_best_145 : decode cX12_best 145 = .ok (.iadd, 1) := by decide +kernel
theorem dX12_best_146 : decode cX12_best 146 = .ok (.istore 4, 2) := by decide +kernel
theorem dX12_best_148 : decode cX12_best 148 = .ok (.iload 8, 2) := by decide +kernel
theorem dX12_best_150 : decode cX12_best 150 = .ok (.istore 5, 2) := by decide +kernel
theorem dX12_best_152 : decode cX12_best 152 = .ok (.iinc 7 1, 3) := by decide +kernel
theorem dX12_best_155 : decode cX12_best 155 = .ok (.goto (-77), 3) := by decide +kernel
theorem dX12_best_158 : decode cX12_best 158 = .ok (.iinc 6 1, 3) := by decide +kernel
theorem dX12_best_161 : decode cX12_best 161 = .ok (.goto (-97), 3) := by decide +kernel
theorem dX12_best_164 : decode cX12_best 164 = .ok (.iload 4, 2) := by decide +kernel
theorem dX12_best_166 : decode cX12_best 166 = .ok (.ireturn, 1) := by decide +kernel
set_option maxRecDepth 20000 in
theorem ggX12_from_X12_isAsked : GoodIn wsX12_from wsX12_isAsked := goodIn_r _ [9, 10, 11, 12, 13, 14, 8, 15, 16, 17, 18, 19, 20, 21, 22, 23, 24, 25, 26, 27, 69, 70, 71, 72, 73, 74, 75, 76, 77, 78, 79, 80, 81, 82, 83, 84, 85, 86, 87, 88, 89, 90, 91, 92, 93, 94, 95, 96, 97, 98, 99, 100] (by decide +kernel) (by decide +kernel)
set_option maxRecDepth 20000 in
theorem gX12_from_X12_isAsked : GoodIn wsX12_from (wsV RX12 275 RX12 yX12_isAsked wsX12_isAsked) := goodIn_app (goodIn_of _ (by decide +kernel)) ggX12_from_X12_isAsked
set_option maxRecDepth 20000 in
theorem ggX12_from_X12_runGreatest : GoodIn wsX12_from wsX12_runGreatest := goodIn_r _ [31, 4, 32, 33, 34, 35, 36, 8, 37, 38, 39, 40, 41, 42, 43, 44, 45, 46, 47, 48, 49, 50, 51, 52, 53, 54, 55, 56, 57, 58, 59, 60, 24, 25, 26, 27, 16, 61, 62, 63, 64, 65, 66, 67, 68, 69, 70, 71, 72, 73, 74, 75, 76, 77, 78, 79, 80, 81, 82, 83, 84, 85, 86, 87, 88, 89, 90, 91, 92, 93, 94, 95, 96, 97, 98, 99, 100] (by decide +kernel) (by decide +kernel)
set_option maxRecDepth 20000 in
theorem gX12_from_X12_runGreatest : GoodIn wsX12_from (wsV RX12 279 RX12 yX12_runGreatest wsX12_runGreatest) := goodIn_app (goodIn_of _ (by decide +kernel)) ggX12_from_X12_runGreatest
theorem dX12_from_0 : decode cX12_from 0 = .ok (.aload_n 0, 1) := by decide +kernel
theorem dX12_from_1 : decode cX12_from 1 = .ok (.iconst 0, 1) := by decide +kernel
theorem dX12_from_2 : decode cX12_from 2 = .ok (.putfield 52, 3) := by decide +kernel
theorem dX12_from_5 : decode cX12_from 5 = .ok (.aload_n 0, 1) := by decide +kernel
theorem dX12_from_6 : decode cX12_from 6 = .ok (.iload_n 1, 1) := by decide +kernel
theorem dX12_from_7 : decode cX12_from 7 = .ok (.iload_n 2, 1) := by decide +kernel
theorem dX12_from_8 : decode cX12_from 8 = .ok (.iload_n 3, 1) := by decide +kernel
theorem dX12_from_9 : decode cX12_from 9 = .ok (.iload 4, 2) := by decide +kernel
theorem dX12_from_11 : decode cX12_from 11 = .ok (.iload 5, 2) := by decide +kernel
theorem dX12_from_13 : decode cX12_from 13 = .ok (.invokevirtual 275, 3) := by decide +kernel
theorem dX12_from_16 : decode cX12_from 16 = .ok (.ifCond .ne 6, 3) := by decide +kernel
theorem dX12_from_19 : decode cX12_from 19 = .ok (.ldc 71, 2) := by decide +kernel
theorem dX12_from_21 : decode cX12_from 21 = .ok (.ireturn, 1) := by decide +kernel
theorem dX12_from_22 : decode cX12_from 22 = .ok (.ldc 31, 2) := by decide +kernel
theorem dX12_from_24 : decode cX12_from 24 = .ok (.istore 6, 2) := by decide +kernel
theorem dX12_from_26 : decode cX12_from 26 = .ok (.iconst (-1), 1) := by decide +kernel
theorem dX12_from_27 : decode cX12_from 27 = .ok (.istore 7, 2) := by decide +kernel
theorem dX12_from_29 : decode cX12_from 29 = .ok (.iload_n 3, 1) := by decide +kernel
theorem dX12_from_30 : decode cX12_from 30 = .ok (.istore 8, 2) := by decide +kernel
theorem dX12_from_32 : decode cX12_from 32 = .ok (.iload 8, 2) := by decide +kernel
theorem dX12_from_34 : decode cX12_from 34 = .ok (.ifCond .lt 46, 3) := by decide +kernel
theorem dX12_from_37 : decode cX12_from 37 = .ok (.aload_n 0, 1) := by decide +kernel
theorem dX12_from_38 : decode cX12_from 38 = .ok (.iload_n 1, 1) := by decide +kernel
theorem dX12_from_39 : decode cX12_from 39 = .ok (.iload_n 2, 1) := by decide +kernel
theorem dX12_from_40 : decode cX12_from 40 = .ok (.iload_n 3, 1) := by decide +kernel
theorem dX12_from_41 : decode cX12_from 41 = .ok (.iload 4, 2) := by decide +kernel
theorem dX12_from_43 : decode cX12_from 43 = .ok (.iload 5, 2) := by decide +kernel
theorem dX12_from_45 : decode cX12_from 45 = .ok (.iload 8, 2) := by decide +kernel
theorem dX12_from_47 : decode cX12_from 47 = .ok (.invokevirtual 279, 3) := by decide +kernel
theorem dX12_from_50 : decode cX12_from 50 = .ok (.istore 9, 2) := by decide +kernel
theorem dX12_from_52 : decode cX12_from 52 = .ok (.aload_n 0, 1) := by decide +kernel
theorem dX12_from_53 : decode cX12_from 53 = .ok (.getfield 223, 3) := by decide +kernel
theorem dX12_from_56 : decode cX12_from 56 = .ok (.ifCond .ne 18, 3) := by decide +kernel
theorem dX12_from_59 : decode cX12_from 59 = .ok (.iload 9, 2) := by decide +kernel
theorem dX12_from_61 : decode cX12_from 61 = .ok (.iload 7, 2) := by decide +kernel
theorem dX12_from_63 : decode cX12_from 63 = .ok (.if_icmp .le 11, 3) := by decide +kernel
theorem dX12_from_66 : decode cX12_from 66 = .ok (.iload 8, 2) := by decide +kernel
theorem dX12_from_68 : decode cX12_from 68 = .ok (.istore 6, 2) := by decide +kernel
theorem dX12_from_70 : decode cX12_from 70 = .ok (.iload 9, 2) := by decide +kernel
theorem dX12_from_72 : decode cX12_from 72 = .ok (.istore 7, 2) := by decide +kernel
theorem dX12_from_74 : decode cX12_from 74 = .ok (.iinc 8 (-1), 3) := by decide +kernel
theorem dX12_from_77 : decode cX12_from 77 = .ok (.goto (-45), 3) := by decide +kernel
theorem dX12_from_80 : decode cX12_from 80 = .ok (.iload 6, 2) := by decide +kernel
theorem dX12_from_82 : decode cX12_from 82 = .ok (.ireturn, 1) := by decide +kernel
set_option maxRecDepth 20000 in
theorem ggX12_grows_X12_rest : GoodIn wsX12_grows wsX12_rest := goodIn_r _ [7, 2, 8, 1, 45, 46, 47, 48, 49, 50, 51, 52, 53, 54, 55, 56, 57, 58, 59, 60, 61, 62, 63, 64, 65, 66, 67, 68, 69, 70, 71, 72, 73, 74, 75, 76] (by decide +kernel) (by decide +kernel)
set_option maxRecDepth 20000 in
theorem gX12_grows_X12_rest : GoodIn wsX12_grows (wsV RX12 268 RX12 yX12_rest wsX12_rest) := goodIn_app (goodIn_of _ (by decide +kernel)) ggX12_grows_X12_rest
set_option maxRecDepth 20000 in
theorem ggX12_grows_X12_size : GoodIn wsX12_grows wsX12_size := goodIn_r _ [11] (by decide +kernel) (by decide +kernel)
set_option maxRecDepth 20000 in
theorem gX12_grows_X12_size : GoodIn wsX12_grows (va_wsS RX12 226 yX12_size wsX12_size) := goodIn_app (goodIn_of _ (by decide +kernel)) ggX12_grows_X12_size
set_option maxRecDepth 20000 in
theorem ggX12_grows_X12_unwinds : GoodIn wsX12_grows wsX12_unwinds := goodIn_r _ [15, 8, 2, 45, 46, 47, 48, 49, 50, 51, 52, 53, 54, 55, 56, 57, 58, 59, 60, 61, 62, 63, 64, 65, 66, 67, 68, 69, 70, 71, 72, 73, 74, 75, 76] (by decide +kernel) (by decide +kernel)
set_option maxRecDepth 20000 in
theorem gX12_grows_X12_unwinds : GoodIn wsX12_grows (wsV RX12 271 RX12 yX12_unwinds wsX12_unwinds) := goodIn_app (goodIn_of _ (by decide +kernel)) ggX12_grows_X12_unwinds
set_option maxRecDepth 20000 in
theorem ggX12_grows_X12_tick : GoodIn wsX12_grows wsX12_tick := goodIn_r _ [19, 2, 8, 20, 21, 22, 1, 23, 9, 10, 6, 11, 24, 25, 26, 27, 28, 29, 30, 31, 32, 33, 34, 35, 36, 37, 38, 39, 40, 41, 42, 43, 44, 45, 46, 47, 48, 49, 50, 51, 52, 53, 54, 55, 56, 57, 58, 59, 60, 61, 62, 63, 64, 65, 66, 67, 68, 69, 70, 71, 72, 73, 74, 75, 76] (by decide +kernel) (by decide +kernel)
set_option maxRecDepth 20000 in
theorem gX12_grows_X12_tick : GoodIn wsX12_grows (wsV RX12 249 RX12 yX12_tick wsX12_tick) := goodIn_app (goodIn_of _ (by decide +kernel)) ggX12_grows_X12_tick
set_option maxRecDepth 20000 in
theorem ggX12_grows_X12_threadOf : GoodIn wsX12_grows wsX12_threadOf := goodIn_r _ [35, 36, 45, 46, 47, 48, 49, 50, 51, 52, 53, 54, 55, 56, 57, 58, 59, 60, 61, 62, 63, 64, 65, 66, 67, 68, 69, 70, 71, 72, 73, 74, 75, 76] (by decide +kernel) (by decide +kernel)
set_option maxRecDepth 20000 in
theorem gX12_grows_X12_threadOf : GoodIn wsX12_grows (wsV RX12 200 RX12 yX12_threadOf wsX12_threadOf) := goodIn_app (goodIn_of _ (by decide +kernel)) ggX12_grows_X12_threadOf
theorem dX12_grows_0 : decode cX12_grows 0 = .ok (.aload_n 0, 1) := by decide +kernel
theorem dX12_grows_1 : decode cX12_grows 1 = .ok (.iload_n 3, 1) := by decide +kernel
theorem dX12_grows_2 : decode cX12_grows 2 = .ok (.invokevirtual 268, 3) := by decide +kernel
theorem dX12_grows_5 : decode cX12_grows 5 = .ok (.iconst 0, 1) := by decide +kernel
theorem dX12_grows_6 : decode cX12_grows 6 = .ok (.istore 7, 2) := by decide +kernel
theorem dX12_grows_8 : decode cX12_grows 8 = .ok (.iconst 0, 1) := by decide +kernel
theorem dX12_grows_9 : decode cX12_grows 9 = .ok (.istore 8, 2) := by decide +kernel
theorem dX12_grows_11 : decode cX12_grows 11 = .ok (.iload 8, 2) := by decide +kernel
theorem dX12_grows_13 : decode cX12_grows 13 = .ok (.iload 5, 2) := by decide +kernel
theorem dX12_grows_15 : decode cX12_grows 15 = .ok (.if_icmp .ge 111, 3) := by decide +kernel
theorem dX12_grows_18 : decode cX12_grows 18 = .ok (.aload_n 0, 1) := by decide +kernel
theorem dX12_grows_19 : decode cX12_grows 19 = .ok (.getfield 223, 3) := by decide +kernel
theorem dX12_grows_22 : decode cX12_grows 22 = .ok (.ifCond .ne 104, 3) := by decide +kernel
theorem dX12_grows_25 : decode cX12_grows 25 = .ok (.aload_n 0, 1) := by decide +kernel
theorem dX12_grows_26 : decode cX12_grows 26 = .ok (.getfield 217, 3) := by decide +kernel
theorem dX12_grows_29 : decode cX12_grows 29 = .ok (.invokestatic 226, 3) := by decide +kernel
theorem dX12_grows_32 : decode cX12_grows 32 = .ok (.istore 9, 2) := by decide +kernel
theorem dX12_grows_34 : decode cX12_grows 34 = .ok (.aload_n 0, 1) := by decide +kernel
theorem dX12_grows_35 : decode cX12_grows 35 = .ok (.invokevirtual 271, 3) := by decide +kernel
theorem dX12_grows_38 : decode cX12_grows 38 = .ok (.istore 10, 2) := by decide +kernel
theorem dX12_grows_40 : decode cX12_grows 40 = .ok (.iload 10, 2) := by decide +kernel
theorem dX12_grows_42 : decode cX12_grows 42 = .ok (.ifCond .eq 10, 3) := by decide +kernel
theorem dX12_grows_45 : decode cX12_grows 45 = .ok (.iload 7, 2) := by decide +kernel
theorem dX12_grows_47 : decode cX12_grows 47 = .ok (.iconst 1, 1) := by decide +kernel
theorem dX12_grows_48 : decode cX12_grows 48 = .ok (.iadd, 1) := by decide +kernel
theorem dX12_grows_49 : decode cX12_grows 49 = .ok (.goto 4, 3) := by decide +kernel
theorem dX12_grows_52 : decode cX12_grows 52 = .ok (.iconst 0, 1) := by decide +kernel
theorem dX12_grows_53 : decode cX12_grows 53 = .ok (.istore 7, 2) := by decide +kernel
theorem dX12_grows_55 : decode cX12_grows 55 = .ok (.aload_n 0, 1) := by decide +kernel
theorem dX12_grows_56 : decode cX12_grows 56 = .ok (.iload_n 1, 1) := by decide +kernel
theorem dX12_grows_57 : decode cX12_grows 57 = .ok (.iload_n 2, 1) := by decide +kernel
theorem dX12_grows_58 : decode cX12_grows 58 = .ok (.iload 10, 2) := by decide +kernel
theorem dX12_grows_60 : decode cX12_grows 60 = .ok (.ifCond .eq 15, 3) := by decide +kernel
theorem dX12_grows_63 : decode cX12_grows 63 = .ok (.iload 7, 2) := by decide +kernel
theorem dX12_grows_65 : decode cX12_grows 65 = .ok (.iload 6, 2) := by decide +kernel
theorem dX12_grows_67 : decode cX12_grows 67 = .ok (.if_icmp .le 8, 3) := by decide +kernel
theorem dX12_grows_70 : decode cX12_grows 70 = .ok (.iload 4, 2) := by decide +kernel
theorem dX12_grows_72 : decode cX12_grows 72 = .ok (.goto 4, 3) := by decide +kernel
theorem dX12_grows_75 : decode cX12_grows 75 = .ok (.iconst 0, 1) := by decide +kernel
theorem dX12_grows_76 : decode cX12_grows 76 = .ok (.iconst 0, 1) := by decide +kernel
theorem dX12_grows_77 : decode cX12_grows 77 = .ok (.invokevirtual 249, 3) := by decide +kernel
theorem dX12_grows_80 : decode cX12_grows 80 = .ok (.aload_n 0, 1) := by decide +kernel
theorem dX12_grows_81 : decode cX12_grows 81 = .ok (.getfield 217, 3) := by decide +kernel
theorem dX12_grows_84 : decode cX12_grows 84 = .ok (.invokestatic 226, 3) := by decide +kernel
theorem dX12_grows_87 : decode cX12_grows 87 = .ok (.iload_n 3, 1) := by decide +kernel
theorem dX12_grows_88 : decode cX12_grows 88 = .ok (.if_icmp .gt 30, 3) := by decide +kernel
theorem dX12_grows_91 : decode cX12_grows 91 = .ok (.aload_n 0, 1) := by decide +kernel
theorem dX12_grows_92 : decode cX12_grows 92 = .ok (.getfield 217, 3) := by decide +kernel
theorem dX12_grows_95 : decode cX12_grows 95 = .ok (.invokestatic 226, 3) := by decide +kernel
theorem dX12_grows_98 : decode cX12_grows 98 = .ok (.aload_n 0, 1) := by decide +kernel
theorem dX12_grows_99 : decode cX12_grows 99 = .ok (.iload_n 2, 1) := by decide +kernel
theorem dX12_grows_100 : decode cX12_grows 100 = .ok (.iconst 2, 1) := by decide +kernel
theorem dX12_grows_101 : decode cX12_grows 101 = .ok (.invokevirtual 200, 3) := by decide +kernel
theorem dX12_grows_104 : decode cX12_grows 104 = .ok (.if_icmp .ne 16, 3) := by decide +kernel
theorem dX12_grows_107 : decode cX12_grows 107 = .ok (.iload 9, 2) := by decide +kernel
theorem dX12_grows_109 : decode cX12_grows 109 = .ok (.aload_n 0, 1) := by decide +kernel
theorem dX12_grows_110 : decode cX12_grows 110 = .ok (.iload_n 2, 1) := by decide +kernel
theorem dX12_grows_111 : decode cX12_grows 111 = .ok (.iconst 2, 1) := by decide +kernel
theorem dX12_grows_112 : decode cX12_grows 112 = .ok (.invokevirtual 200, 3) := by decide +kernel
theorem dX12_grows_115 : decode cX12_grows 115 = .ok (.if_icmp .ge 5, 3) := by decide +kernel
theorem dX12_grows_118 : decode cX12_grows 118 = .ok (.iconst 1, 1) := by decide +kernel
theorem dX12_grows_119 : decode cX12_grows 119 = .ok (.ireturn, 1) := by decide +kernel
theorem dX12_grows_120 : decode cX12_grows 120 = .ok (.iinc 8 1, 3) := by decide +kernel
theorem dX12_grows_123 : decode cX12_grows 123 = .ok (.goto (-112), 3) := by decide +kernel
theorem dX12_grows_126 : decode cX12_grows 126 = .ok (.iconst 0, 1) := by decide +kernel
theorem dX12_grows_127 : decode cX12_grows 127 = .ok (.ireturn, 1) := by decide +kernel
set_option maxRecDepth 20000 in
theorem ggX12_late_X12_isAsked : GoodIn wsX12_late wsX12_isAsked := goodIn_r _ [8, 9, 10, 11, 12, 13, 7, 14, 15, 16, 17, 18, 19, 20, 21, 22, 23, 24, 25, 26, 69, 70, 71, 72, 73, 74, 75, 76, 77, 78, 79, 80, 81, 82, 83, 84, 85, 86, 87, 88, 89, 90, 91, 92, 93, 94, 95, 96, 97, 98, 99, 100] (by decide +kernel) (by decide +kernel)
set_option maxRecDepth 20000 in
theorem gX12_late_X12_isAsked : GoodIn wsX12_late (wsV RX12 275 RX12 yX12_isAsked wsX12_isAsked) := goodIn_app (goodIn_of _ (by decide +kernel)) ggX12_late_X12_isAsked
set_option maxRecDepth 20000 in
theorem ggX12_late_X12_grows : GoodIn wsX12_late wsX12_grows := goodIn_r _ [30, 31, 32, 33, 34, 35, 7, 36, 37, 38, 39, 40, 41, 42, 43, 44, 45, 46, 47, 48, 49, 50, 51, 52, 53, 54, 55, 56, 57, 58, 59, 60, 23, 24, 25, 26, 15, 61, 62, 63, 64, 65, 66, 67, 68, 69, 70, 71, 72, 73, 74, 75, 76, 77, 78, 79, 80, 81, 82, 83, 84, 85, 86, 87, 88, 89, 90, 91, 92, 93, 94, 95, 96, 97, 98, 99, 100] (by decide +kernel) (by decide +kernel)
set_option maxRecDepth 20000 in
theorem gX12_late_X12_grows : GoodIn wsX12_late (wsV RX12 283 RX12 yX12_grows wsX12_grows) := goodIn_app (goodIn_of _ (by decide +kernel)) ggX12_late_X12_grows
theorem dX12_late_0 : decode cX12_late 0 = .ok (.aload_n 0, 1) := by decide +kernel
theorem dX12_late_1 : decode cX12_late 1 = .ok (.iconst 0, 1) := by decide +kernel
theorem dX12_late_2 : decode cX12_late 2 = .ok (.putfield 52, 3) := by decide +kernel
theorem dX12_late_5 : decode cX12_late 5 = .ok (.aload_n 0, 1) := by decide +kernel
theorem dX12_late_6 : decode cX12_late 6 = .ok (.iload_n 1, 1) := by decide +kernel
theorem dX12_late_7 : decode cX12_late 7 = .ok (.iload_n 2, 1) := by decide +kernel
theorem dX12_late_8 : decode cX12_late 8 = .ok (.iload_n 3, 1) := by decide +kernel
theorem dX12_late_9 : decode cX12_late 9 = .ok (.iload 4, 2) := by decide +kernel
theorem dX12_late_11 : decode cX12_late 11 = .ok (.iload 5, 2) := by decide +kernel
theorem dX12_late_13 : decode cX12_late 13 = .ok (.invokevirtual 275, 3) := by decide +kernel
theorem dX12_late_16 : decode cX12_late 16 = .ok (.ifCond .ne 6, 3) := by decide +kernel
theorem dX12_late_19 : decode cX12_late 19 = .ok (.ldc 71, 2) := by decide +kernel
theorem dX12_late_21 : decode cX12_late 21 = .ok (.ireturn, 1) := by decide +kernel
theorem dX12_late_22 : decode cX12_late 22 = .ok (.iconst 0, 1) := by decide +kernel
theorem dX12_late_23 : decode cX12_late 23 = .ok (.istore 6, 2) := by decide +kernel
theorem dX12_late_25 : decode cX12_late 25 = .ok (.iload 6, 2) := by decide +kernel
theorem dX12_late_27 : decode cX12_late 27 = .ok (.bipush 30, 2) := by decide +kernel
theorem dX12_late_29 : decode cX12_late 29 = .ok (.if_icmp .gt 25, 3) := by decide +kernel
theorem dX12_late_32 : decode cX12_late 32 = .ok (.aload_n 0, 1) := by decide +kernel
theorem dX12_late_33 : decode cX12_late 33 = .ok (.iload_n 1, 1) := by decide +kernel
theorem dX12_late_34 : decode cX12_late 34 = .ok (.iload_n 2, 1) := by decide +kernel
theorem dX12_late_35 : decode cX12_late 35 = .ok (.iload_n 3, 1) := by decide +kernel
theorem dX12_late_36 : decode cX12_late 36 = .ok (.iload 4, 2) := by decide +kernel
theorem dX12_late_38 : decode cX12_late 38 = .ok (.iload 5, 2) := by decide +kernel
theorem dX12_late_40 : decode cX12_late 40 = .ok (.iload 6, 2) := by decide +kernel
theorem dX12_late_42 : decode cX12_late 42 = .ok (.invokevirtual 283, 3) := by decide +kernel
theorem dX12_late_45 : decode cX12_late 45 = .ok (.ifCond .eq 9, 3) := by decide +kernel
theorem dX12_late_48 : decode cX12_late 48 = .ok (.iinc 6 1, 3) := by decide +kernel
theorem dX12_late_51 : decode cX12_late 51 = .ok (.goto (-26), 3) := by decide +kernel
theorem dX12_late_54 : decode cX12_late 54 = .ok (.iload 6, 2) := by decide +kernel
theorem dX12_late_56 : decode cX12_late 56 = .ok (.ifCond .ne 8, 3) := by decide +kernel
theorem dX12_late_59 : decode cX12_late 59 = .ok (.ldc 31, 2) := by decide +kernel
theorem dX12_late_61 : decode cX12_late 61 = .ok (.goto 7, 3) := by decide +kernel
theorem dX12_late_64 : decode cX12_late 64 = .ok (.iload 6, 2) := by decide +kernel
theorem dX12_late_66 : decode cX12_late 66 = .ok (.iconst 1, 1) := by decide +kernel
theorem dX12_late_67 : decode cX12_late 67 = .ok (.isub, 1) := by decide +kernel
theorem dX12_late_68 : decode cX12_late 68 = .ok (.ireturn, 1) := by decide +kernel
set_option maxRecDepth 20000 in
theorem ggX12_parts_X12_isAsked : GoodIn wsX12_parts wsX12_isAsked := goodIn_r _ [12, 13, 14, 15, 16, 17, 11, 18, 19, 20, 21, 22, 23, 24, 25, 26, 27, 28, 29, 30, 67, 68, 69, 70, 71, 72, 73, 74, 75, 76, 77, 78, 79, 80, 81, 82, 83, 84, 85, 86, 87, 88, 89, 90, 91, 92, 93, 94, 95, 96, 97, 98] (by decide +kernel) (by decide +kernel)
set_option maxRecDepth 20000 in
theorem gX12_parts_X12_isAsked : GoodIn wsX12_parts (wsV RX12 275 RX12 yX12_isAsked wsX12_isAsked) := goodIn_app (goodIn_of _ (by decide +kernel)) ggX12_parts_X12_isAsked
set_option maxRecDepth 20000 in
theorem ggX12_parts_X12_in : GoodIn wsX12_parts wsX12_in := goodIn_r _ [22] (by decide +kernel) (by decide +kernel)
set_option maxRecDepth 20000 in
theorem gX12_parts_X12_in : GoodIn wsX12_parts (va_wsS RX12 61 yX12_in wsX12_in) := goodIn_app (goodIn_of _ (by decide +kernel)) ggX12_parts_X12_in
set_option maxRecDepth 20000 in
theorem ggX12_parts_X12_rest : GoodIn wsX12_parts wsX12_rest := goodIn_r _ [34, 35, 36, 4, 67, 68, 69, 70, 71, 72, 73, 74, 75, 76, 77, 78, 79, 80, 81, 82, 83, 84, 85, 86, 87, 88, 89, 90, 91, 92, 93, 94, 95, 96, 97, 98] (by decide +kernel) (by decide +kernel)
set_option maxRecDepth 20000 in
theorem gX12_parts_X12_rest : GoodIn wsX12_parts (wsV RX12 268 RX12 yX12_rest wsX12_rest) := goodIn_app (goodIn_of _ (by decide +kernel)) ggX12_parts_X12_rest
set_option maxRecDepth 20000 in
theorem ggX12_parts_X12_unwinds : GoodIn wsX12_parts wsX12_unwinds := goodIn_r _ [40, 36, 35, 67, 68, 69, 70, 71, 72, 73, 74, 75, 76, 77, 78, 79, 80, 81, 82, 83, 84, 85, 86, 87, 88, 89, 90, 91, 92, 93, 94, 95, 96, 97, 98] (by decide +kernel) (by decide +kernel)
set_option maxRecDepth 20000 in
theorem gX12_parts_X12_unwinds : GoodIn wsX12_parts (wsV RX12 271 RX12 yX12_unwinds wsX12_unwinds) := goodIn_app (goodIn_of _ (by decide +kernel)) ggX12_parts_X12_unwinds
set_option maxRecDepth 20000 in
theorem ggX12_parts_X12_tick : GoodIn wsX12_parts wsX12_tick := goodIn_r _ [44, 35, 36, 45, 46, 5, 4, 47, 48, 49, 11, 50, 51, 52, 53, 54, 55, 56, 57, 58, 27, 28, 29, 30, 19, 59, 60, 61, 62, 63, 64, 65, 66, 67, 68, 69, 70, 71, 72, 73, 74, 75, 76, 77, 78, 79, 80, 81, 82, 83, 84, 85, 86, 87, 88, 89, 90, 91, 92, 93, 94, 95, 96, 97, 98] (by decide +kernel) (by decide +kernel)
set_option maxRecDepth 20000 in
theorem gX12_parts_X12_tick : GoodIn wsX12_parts (wsV RX12 249 RX12 yX12_tick wsX12_tick) := goodIn_app (goodIn_of _ (by decide +kernel)) ggX12_parts_X12_tick
theorem dX12_parts_0 : decode cX12_parts 0 = .ok (.aload_n 0, 1) := by decide +kernel
theorem dX12_parts_1 : decode cX12_parts 1 = .ok (.iconst 0, 1) := by decide +kernel
theorem dX12_parts_2 : decode cX12_parts 2 = .ok (.putfield 52, 3) := by decide +kernel
theorem dX12_parts_5 : decode cX12_parts 5 = .ok (.aload_n 0, 1) := by decide +kernel
theorem dX12_parts_6 : decode cX12_parts 6 = .ok (.iload_n 1, 1) := by decide +kernel
theorem dX12_parts_7 : decode cX12_parts 7 = .ok (.iload_n 2, 1) := by decide +kernel
theorem dX12_parts_8 : decode cX12_parts 8 = .ok (.iload_n 3, 1) := by decide +kernel
theorem dX12_parts_9 : decode cX12_parts 9 = .ok (.iload 4, 2) := by decide +kernel
theorem dX12_parts_11 : decode cX12_parts 11 = .ok (.iconst 1, 1) := by decide +kernel
theorem dX12_parts_12 : decode cX12_parts 12 = .ok (.invokevirtual 275, 3) := by decide +kernel
theorem dX12_parts_15 : decode cX12_parts 15 = .ok (.ifCond .eq 16, 3) := by decide +kernel
theorem dX12_parts_18 : decode cX12_parts 18 = .ok (.iload 5, 2) := by decide +kernel
theorem dX12_parts_20 : decode cX12_parts 20 = .ok (.i2l, 1) := by decide +kernel
theorem dX12_parts_21 : decode cX12_parts 21 = .ok (.lconst 1, 1) := by decide +kernel
theorem dX12_parts_22 : decode cX12_parts 22 = .ok (.ldc2_w 287, 3) := by decide +kernel
theorem dX12_parts_25 : decode cX12_parts 25 = .ok (.invokestatic 61, 3) := by decide +kernel
theorem dX12_parts_28 : decode cX12_parts 28 = .ok (.ifCond .ne 6, 3) := by decide +kernel
theorem dX12_parts_31 : decode cX12_parts 31 = .ok (.ldc 71, 2) := by decide +kernel
theorem dX12_parts_33 : decode cX12_parts 33 = .ok (.ireturn, 1) := by decide +kernel
theorem dX12_parts_34 : decode cX12_parts 34 = .ok (.aload_n 0, 1) := by decide +kernel
theorem dX12_parts_35 : decode cX12_parts 35 = .ok (.iload_n 3, 1) := by decide +kernel
theorem dX12_parts_36 : decode cX12_parts 36 = .ok (.invokevirtual 268, 3) := by decide +kernel
theorem dX12_parts_39 : decode cX12_parts 39 = .ok (.lconst 0, 1) := by decide +kernel
theorem dX12_parts_40 : decode cX12_parts 40 = .ok (.lstore 6, 2) := by decide +kernel
theorem dX12_parts_42 : decode cX12_parts 42 = .ok (.iconst 1, 1) := by decide +kernel
theorem dX12_parts_43 : decode cX12_parts 43 = .ok (.istore 8, 2) := by decide +kernel
theorem dX12_parts_45 : decode cX12_parts 45 = .ok (.iload 8, 2) := by decide +kernel
theorem dX12_parts_47 : decode cX12_parts 47 = .ok (.sipush 500, 3) := by decide +kernel
theorem dX12_parts_50 : decode cX12_parts 50 = .ok (.if_icmp .gt 68, 3) := by decide +kernel
theorem dX12_parts_53 : decode cX12_parts 53 = .ok (.aload_n 0, 1) := by decide +kernel
theorem dX12_parts_54 : decode cX12_parts 54 = .ok (.getfield 223, 3) := by decide +kernel
theorem dX12_parts_57 : decode cX12_parts 57 = .ok (.ifCond .ne 61, 3) := by decide +kernel
theorem dX12_parts_60 : decode cX12_parts 60 = .ok (.aload_n 0, 1) := by decide +kernel
theorem dX12_parts_61 : decode cX12_parts 61 = .ok (.iload_n 1, 1) := by decide +kernel
theorem dX12_parts_62 : decode cX12_parts 62 = .ok (.iload_n 2, 1) := by decide +kernel
theorem dX12_parts_63 : decode cX12_parts 63 = .ok (.aload_n 0, 1) := by decide +kernel
theorem dX12_parts_64 : decode cX12_parts 64 = .ok (.invokevirtual 271, 3) := by decide +kernel
theorem dX12_parts_67 : decode cX12_parts 67 = .ok (.ifCond .eq 8, 3) := by decide +kernel
theorem dX12_parts_70 : decode cX12_parts 70 = .ok (.iload 4, 2) := by decide +kernel
theorem dX12_parts_72 : decode cX12_parts 72 = .ok (.goto 4, 3) := by decide +kernel
theorem dX12_parts_75 : decode cX12_parts 75 = .ok (.iconst 0, 1) := by decide +kernel
theorem dX12_parts_76 : decode cX12_parts 76 = .ok (.iconst 0, 1) := by decide +kernel
theorem dX12_parts_77 : decode cX12_parts 77 = .ok (.invokevirtual 249, 3) := by decide +kernel
theorem dX12_parts_80 : decode cX12_parts 80 = .ok (.lload 6, 2) := by decide +kernel
theorem dX12_parts_82 : decode cX12_parts 82 = .ok (.aload_n 0, 1) := by decide +kernel
theorem dX12_parts_83 : decode cX12_parts 83 = .ok (.getfield 236, 3) := by decide +kernel
theorem dX12_parts_86 : decode cX12_parts 86 = .ok (.i2l, 1) := by decide +kernel
theorem dX12_parts_87 : decode cX12_parts 87 = .ok (.aload_n 0, 1) := by decide +kernel
theorem dX12_parts_88 : decode cX12_parts 88 = .ok (.getfield 236, 3) := by decide +kernel
theorem dX12_parts_91 : decode cX12_parts 91 = .ok (.i2l, 1) := by decide +kernel
theorem dX12_parts_92 : decode cX12_parts 92 = .ok (.lmul, 1) := by decide +kernel
theorem dX12_parts_93 : decode cX12_parts 93 = .ok (.ladd, 1) := by decide +kernel
theorem dX12_parts_94 : decode cX12_parts 94 = .ok (.lstore 6, 2) := by decide +kernel
theorem dX12_parts_96 : decode cX12_parts 96 = .ok (.lload 6, 2) := by decide +kernel
theorem dX12_parts_98 : decode cX12_parts 98 = .ok (.ldc2_w 289, 3) := by decide +kernel
theorem dX12_parts_101 : decode cX12_parts 101 = .ok (.iload 5, 2) := by decide +kernel
theorem dX12_parts_103 : decode cX12_parts 103 = .ok (.i2l, 1) := by decide +kernel
theorem dX12_parts_104 : decode cX12_parts 104 = .ok (.lmul, 1) := by decide +kernel
theorem dX12_parts_105 : decode cX12_parts 105 = .ok (.lcmp, 1) := by decide +kernel
theorem dX12_parts_106 : decode cX12_parts 106 = .ok (.ifCond .lt 6, 3) := by decide +kernel
theorem dX12_parts_109 : decode cX12_parts 109 = .ok (.iload 8, 2) := by decide +kernel
theorem dX12_parts_111 : decode cX12_parts 111 = .ok (.ireturn, 1) := by decide +kernel
theorem dX12_parts_112 : decode cX12_parts 112 = .ok (.iinc 8 1, 3) := by decide +kernel
theorem dX12_parts_115 : decode cX12_parts 115 = .ok (.goto (-70), 3) := by decide +kernel
theorem dX12_parts_118 : decode cX12_parts 118 = .ok (.ldc 31, 2) := by decide +kernel
theorem dX12_parts_120 : decode cX12_parts 120 = .ok (.ireturn, 1) := by decide +kernel
set_option maxRecDepth 20000 in
theorem ggX12_shines_X12_rest : GoodIn wsX12_shines wsX12_rest := goodIn_r _ [7, 8, 9, 1, 45, 46, 47, 48, 49, 50, 51, 52, 53, 54, 55, 56, 57, 58, 59, 60, 61, 62, 63, 64, 65, 66, 67, 68, 69, 70, 71, 72, 73, 74, 75, 76] (by decide +kernel) (by decide +kernel)
set_option maxRecDepth 20000 in
theorem gX12_shines_X12_rest : GoodIn wsX12_shines (wsV RX12 268 RX12 yX12_rest wsX12_rest) := goodIn_app (goodIn_of _ (by decide +kernel)) ggX12_shines_X12_rest
set_option maxRecDepth 20000 in
theorem ggX12_shines_X12_unwinds : GoodIn wsX12_shines wsX12_unwinds := goodIn_r _ [13, 9, 8, 45, 46, 47, 48, 49, 50, 51, 52, 53, 54, 55, 56, 57, 58, 59, 60, 61, 62, 63, 64, 65, 66, 67, 68, 69, 70, 71, 72, 73, 74, 75, 76] (by decide +kernel) (by decide +kernel)
set_option maxRecDepth 20000 in
theorem gX12_shines_X12_unwinds : GoodIn wsX12_shines (wsV RX12 271 RX12 yX12_unwinds wsX12_unwinds) := goodIn_app (goodIn_of _ (by decide +kernel)) ggX12_shines_X12_unwinds
set_option maxRecDepth 20000 in
theorem ggX12_shines_X12_tick : GoodIn wsX12_shines wsX12_tick := goodIn_r _ [17, 8, 9, 18, 19, 20, 1, 2, 21, 22, 6, 23, 24, 25, 26, 27, 28, 29, 30, 31, 32, 33, 34, 35, 36, 37, 38, 39, 40, 41, 42, 43, 44, 45, 46, 47, 48, 49, 50, 51, 52, 53, 54, 55, 56, 57, 58, 59, 60, 61, 62, 63, 64, 65, 66, 67, 68, 69, 70, 71, 72, 73, 74, 75, 76] (by decide +kernel) (by decide +kernel)
set_option maxRecDepth 20000 in
theorem gX12_shines_X12_tick : GoodIn wsX12_shines (wsV RX12 249 RX12 yX12_tick wsX12_tick) := goodIn_app (goodIn_of _ (by decide +kernel)) ggX12_shines_X12_tick
theorem dX12_shines_0 : decode cX12_shines 0 = .ok (.aload_n 0, 1) := by decide +kernel
theorem dX12_shines_1 : decode cX12_shines 1 = .ok (.iload_n 3, 1) := by decide +kernel
theorem dX12_shines_2 : decode cX12_shines 2 = .ok (.invokevirtual 268, 3) := by decide +kernel
theorem dX12_shines_5 : decode cX12_shines 5 = .ok (.iconst 0, 1) := by decide +kernel
theorem dX12_shines_6 : decode cX12_shines 6 = .ok (.istore 7, 2) := by decide +kernel
theorem dX12_shines_8 : decode cX12_shines 8 = .ok (.iconst 0, 1) := by decide +kernel
theorem dX12_shines_9 : decode cX12_shines 9 = .ok (.istore 8, 2) := by decide +kernel
theorem dX12_shines_11 : decode cX12_shines 11 = .ok (.iload 8, 2) := by decide +kernel
theorem dX12_shines_13 : decode cX12_shines 13 = .ok (.iload 5, 2) := by decide +kernel
theorem dX12_shines_15 : decode cX12_shines 15 = .ok (.if_icmp .ge 54, 3) := by decide +kernel
theorem dX12_shines_18 : decode cX12_shines 18 = .ok (.aload_n 0, 1) := by decide +kernel
theorem dX12_shines_19 : decode cX12_shines 19 = .ok (.getfield 223, 3) := by decide +kernel
theorem dX12_shines_22 : decode cX12_shines 22 = .ok (.ifCond .ne 47, 3) := by decide +kernel
theorem dX12_shines_25 : decode cX12_shines 25 = .ok (.aload_n 0, 1) := by decide +kernel
theorem dX12_shines_26 : decode cX12_shines 26 = .ok (.iload_n 1, 1) := by decide +kernel
theorem dX12_shines_27 : decode cX12_shines 27 = .ok (.iload_n 2, 1) := by decide +kernel
theorem dX12_shines_28 : decode cX12_shines 28 = .ok (.aload_n 0, 1) := by decide +kernel
theorem dX12_shines_29 : decode cX12_shines 29 = .ok (.invokevirtual 271, 3) := by decide +kernel
theorem dX12_shines_32 : decode cX12_shines 32 = .ok (.ifCond .eq 8, 3) := by decide +kernel
theorem dX12_shines_35 : decode cX12_shines 35 = .ok (.iload 4, 2) := by decide +kernel
theorem dX12_shines_37 : decode cX12_shines 37 = .ok (.goto 4, 3) := by decide +kernel
theorem dX12_shines_40 : decode cX12_shines 40 = .ok (.iconst 0, 1) := by decide +kernel
theorem dX12_shines_41 : decode cX12_shines 41 = .ok (.iload 6, 2) := by decide +kernel
theorem dX12_shines_43 : decode cX12_shines 43 = .ok (.invokevirtual 249, 3) := by decide +kernel
theorem dX12_shines_46 : decode cX12_shines 46 = .ok (.iload 7, 2) := by decide +kernel
theorem dX12_shines_48 : decode cX12_shines 48 = .ok (.aload_n 0, 1) := by decide +kernel
theorem dX12_shines_49 : decode cX12_shines 49 = .ok (.getfield 239, 3) := by decide +kernel
theorem dX12_shines_52 : decode cX12_shines 52 = .ok (.ifCond .eq 7, 3) := by decide +kernel
theorem dX12_shines_55 : decode cX12_shines 55 = .ok (.iconst 1, 1) := by decide +kernel
theorem dX12_shines_56 : decode cX12_shines 56 = .ok (.goto 4, 3) := by decide +kernel
theorem dX12_shines_59 : decode cX12_shines 59 = .ok (.iconst 0, 1) := by decide +kernel
theorem dX12_shines_60 : decode cX12_shines 60 = .ok (.iadd, 1) := by decide +kernel
theorem dX12_shines_61 : decode cX12_shines 61 = .ok (.istore 7, 2) := by decide +kernel
theorem dX12_shines_63 : decode cX12_shines 63 = .ok (.iinc 8 1, 3) := by decide +kernel
theorem dX12_shines_66 : decode cX12_shines 66 = .ok (.goto (-55), 3) := by decide +kernel
theorem dX12_shines_69 : decode cX12_shines 69 = .ok (.iload 7, 2) := by decide +kernel
theorem dX12_shines_71 : decode cX12_shines 71 = .ok (.iconst 2, 1) := by decide +kernel
theorem dX12_shines_72 : decode cX12_shines 72 = .ok (.if_icmp .le 7, 3) := by decide +kernel
theorem dX12_shines_75 : decode cX12_shines 75 = .ok (.iconst 1, 1) := by decide +kernel
theorem dX12_shines_76 : decode cX12_shines 76 = .ok (.goto 4, 3) := by decide +kernel
theorem dX12_shines_79 : decode cX12_shines 79 = .ok (.iconst 0, 1) := by decide +kernel
theorem dX12_shines_80 : decode cX12_shines 80 = .ok (.ireturn, 1) := by decide +kernel
set_option maxRecDepth 20000 in
theorem ggX12_lamp_X12_isAsked : GoodIn wsX12_lamp wsX12_isAsked := goodIn_r _ [8, 9, 10, 11, 12, 13, 7, 14, 15, 16, 17, 18, 19, 20, 21, 22, 23, 24, 25, 26, 69, 70, 71, 72, 73, 74, 75, 76, 77, 78, 79, 80, 81, 82, 83, 84, 85, 86, 87, 88, 89, 90, 91, 92, 93, 94, 95, 96, 97, 98, 99, 100] (by decide +kernel) (by decide +kernel)
set_option maxRecDepth 20000 in
theorem gX12_lamp_X12_isAsked : GoodIn wsX12_lamp (wsV RX12 275 RX12 yX12_isAsked wsX12_isAsked) := goodIn_app (goodIn_of _ (by decide +kernel)) ggX12_lamp_X12_isAsked
set_option maxRecDepth 20000 in
theorem ggX12_lamp_X12_shines : GoodIn wsX12_lamp wsX12_shines := goodIn_r _ [30, 31, 32, 33, 34, 35, 7, 36, 37, 38, 39, 40, 41, 42, 43, 44, 45, 46, 47, 48, 49, 50, 51, 52, 53, 54, 55, 56, 57, 58, 59, 60, 23, 24, 25, 26, 15, 61, 62, 63, 64, 65, 66, 67, 68, 69, 70, 71, 72, 73, 74, 75, 76, 77, 78, 79, 80, 81, 82, 83, 84, 85, 86, 87, 88, 89, 90, 91, 92, 93, 94, 95, 96, 97, 98, 99, 100] (by decide +kernel) (by decide +kernel)
set_option maxRecDepth 20000 in
theorem gX12_lamp_X12_shines : GoodIn wsX12_lamp (wsV RX12 291 RX12 yX12_shines wsX12_shines) := goodIn_app (goodIn_of _ (by decide +kernel)) ggX12_lamp_X12_shines
theorem dX12_lamp_0 : decode cX12_lamp 0 = .ok (.aload_n 0, 1) := by decide +kernel
theorem dX12_lamp_1 : decode cX12_lamp 1 = .ok (.iconst 0, 1) := by decide +kernel
theorem dX12_lamp_2 : decode cX12_lamp 2 = .ok (.putfield 52, 3) := by decide +kernel
theorem dX12_lamp_5 : decode cX12_lamp 5 = .ok (.aload_n 0, 1) := by decide +kernel
theorem dX12_lamp_6 : decode cX12_lamp 6 = .ok (.iload_n 1, 1) := by decide +kernel
theorem dX12_lamp_7 : decode cX12_lamp 7 = .ok (.iload_n 2, 1) := by decide +kernel
theorem dX12_lamp_8 : decode cX12_lamp 8 = .ok (.iload_n 3, 1) := by decide +kernel
theorem dX12_lamp_9 : decode cX12_lamp 9 = .ok (.iload 4, 2) := by decide +kernel
theorem dX12_lamp_11 : decode cX12_lamp 11 = .ok (.iload 5, 2) := by decide +kernel
theorem dX12_lamp_13 : decode cX12_lamp 13 = .ok (.invokevirtual 275, 3) := by decide +kernel
theorem dX12_lamp_16 : decode cX12_lamp 16 = .ok (.ifCond .ne 6, 3) := by decide +kernel
theorem dX12_lamp_19 : decode cX12_lamp 19 = .ok (.ldc 71, 2) := by decide +kernel
theorem dX12_lamp_21 : decode cX12_lamp 21 = .ok (.ireturn, 1) := by decide +kernel
theorem dX12_lamp_22 : decode cX12_lamp 22 = .ok (.bipush 50, 2) := by decide +kernel
theorem dX12_lamp_24 : decode cX12_lamp 24 = .ok (.istore 6, 2) := by decide +kernel
theorem dX12_lamp_26 : decode cX12_lamp 26 = .ok (.iload 6, 2) := by decide +kernel
theorem dX12_lamp_28 : decode cX12_lamp 28 = .ok (.ifCond .lt 25, 3) := by decide +kernel
theorem dX12_lamp_31 : decode cX12_lamp 31 = .ok (.aload_n 0, 1) := by decide +kernel
theorem dX12_lamp_32 : decode cX12_lamp 32 = .ok (.iload_n 1, 1) := by decide +kernel
theorem dX12_lamp_33 : decode cX12_lamp 33 = .ok (.iload_n 2, 1) := by decide +kernel
theorem dX12_lamp_34 : decode cX12_lamp 34 = .ok (.iload_n 3, 1) := by decide +kernel
theorem dX12_lamp_35 : decode cX12_lamp 35 = .ok (.iload 4, 2) := by decide +kernel
theorem dX12_lamp_37 : decode cX12_lamp 37 = .ok (.iload 5, 2) := by decide +kernel
theorem dX12_lamp_39 : decode cX12_lamp 39 = .ok (.iload 6, 2) := by decide +kernel
theorem dX12_lamp_41 : decode cX12_lamp 41 = .ok (.invokevirtual 291, 3) := by decide +kernel
theorem dX12_lamp_44 : decode cX12_lamp 44 = .ok (.ifCond .ne 9, 3) := by decide +kernel
theorem dX12_lamp_47 : decode cX12_lamp 47 = .ok (.iinc 6 (-1), 3) := by decide +kernel
theorem dX12_lamp_50 : decode cX12_lamp 50 = .ok (.goto (-24), 3) := by decide +kernel
theorem dX12_lamp_53 : decode cX12_lamp 53 = .ok (.iload 6, 2) := by decide +kernel
theorem dX12_lamp_55 : decode cX12_lamp 55 = .ok (.ifCond .ge 8, 3) := by decide +kernel
theorem dX12_lamp_58 : decode cX12_lamp 58 = .ok (.ldc 31, 2) := by decide +kernel
theorem dX12_lamp_60 : decode cX12_lamp 60 = .ok (.goto 5, 3) := by decide +kernel
theorem dX12_lamp_63 : decode cX12_lamp 63 = .ok (.iload 6, 2) := by decide +kernel
theorem dX12_lamp_65 : decode cX12_lamp 65 = .ok (.ireturn, 1) := by decide +kernel
set_option maxRecDepth 20000 in
theorem ggX12_wobble_X12_isDisc : GoodIn wsX12_wobble wsX12_isDisc := goodIn_r _ [8, 9, 10, 11, 7, 12, 17, 18, 19, 20, 21, 22, 23, 24, 25, 26, 27, 28, 29, 30, 31, 32, 33, 34, 35, 36, 37, 38, 39, 40, 41, 42, 43, 44, 45, 46, 47, 48] (by decide +kernel) (by decide +kernel)
set_option maxRecDepth 20000 in
theorem gX12_wobble_X12_isDisc : GoodIn wsX12_wobble (wsV RX12 242 RX12 yX12_isDisc wsX12_isDisc) := goodIn_app (goodIn_of _ (by decide +kernel)) ggX12_wobble_X12_isDisc
set_option maxRecDepth 20000 in
theorem ggX12_wobble_X12_in : GoodIn wsX12_wobble wsX12_in := goodIn_r _ [12] (by decide +kernel) (by decide +kernel)
set_option maxRecDepth 20000 in
theorem gX12_wobble_X12_in : GoodIn wsX12_wobble (va_wsS RX12 61 yX12_in wsX12_in) := goodIn_app (goodIn_of _ (by decide +kernel)) ggX12_wobble_X12_in
set_option maxRecDepth 20000 in
theorem ggX12_wobble_X12_discOf : GoodIn wsX12_wobble wsX12_discOf := goodIn_r _ [16, 9, 17, 18, 19, 20, 21, 22, 23, 24, 25, 26, 27, 28, 29, 30, 31, 32, 33, 34, 35, 36, 37, 38, 39, 40, 41, 42, 43, 44, 45, 46, 47, 48] (by decide +kernel) (by decide +kernel)
set_option maxRecDepth 20000 in
theorem gX12_wobble_X12_discOf : GoodIn wsX12_wobble (wsV RX12 229 RX12 yX12_discOf wsX12_discOf) := goodIn_app (goodIn_of _ (by decide +kernel)) ggX12_wobble_X12_discOf
theorem dX12_wobble_0 : decode cX12_wobble 0 = .ok (.aload_n 0, 1) := by decide +kernel
theorem dX12_wobble_1 : decode cX12_wobble 1 = .ok (.iconst 0, 1) := by decide +kernel
theorem dX12_wobble_2 : decode cX12_wobble 2 = .ok (.putfield 52, 3) := by decide +kernel
theorem dX12_wobble_5 : decode cX12_wobble 5 = .ok (.aload_n 0, 1) := by decide +kernel
theorem dX12_wobble_6 : decode cX12_wobble 6 = .ok (.iload_n 1, 1) := by decide +kernel
theorem dX12_wobble_7 : decode cX12_wobble 7 = .ok (.invokevirtual 242, 3) := by decide +kernel
theorem dX12_wobble_10 : decode cX12_wobble 10 = .ok (.ifCond .eq 15, 3) := by decide +kernel
theorem dX12_wobble_13 : decode cX12_wobble 13 = .ok (.iload_n 2, 1) := by decide +kernel
theorem dX12_wobble_14 : decode cX12_wobble 14 = .ok (.i2l, 1) := by decide +kernel
theorem dX12_wobble_15 : decode cX12_wobble 15 = .ok (.lconst 1, 1) := by decide +kernel
theorem dX12_wobble_16 : decode cX12_wobble 16 = .ok (.ldc2_w 294, 3) := by decide +kernel
theorem dX12_wobble_19 : decode cX12_wobble 19 = .ok (.invokestatic 61, 3) := by decide +kernel
theorem dX12_wobble_22 : decode cX12_wobble 22 = .ok (.ifCond .ne 6, 3) := by decide +kernel
theorem dX12_wobble_25 : decode cX12_wobble 25 = .ok (.ldc 71, 2) := by decide +kernel
theorem dX12_wobble_27 : decode cX12_wobble 27 = .ok (.ireturn, 1) := by decide +kernel
theorem dX12_wobble_28 : decode cX12_wobble 28 = .ok (.iconst 0, 1) := by decide +kernel
theorem dX12_wobble_29 : decode cX12_wobble 29 = .ok (.istore_n 3, 1) := by decide +kernel
theorem dX12_wobble_30 : decode cX12_wobble 30 = .ok (.iload_n 2, 1) := by decide +kernel
theorem dX12_wobble_31 : decode cX12_wobble 31 = .ok (.iload_n 3, 1) := by decide +kernel
theorem dX12_wobble_32 : decode cX12_wobble 32 = .ok (.iconst 1, 1) := by decide +kernel
theorem dX12_wobble_33 : decode cX12_wobble 33 = .ok (.iadd, 1) := by decide +kernel
theorem dX12_wobble_34 : decode cX12_wobble 34 = .ok (.imul, 1) := by decide +kernel
theorem dX12_wobble_35 : decode cX12_wobble 35 = .ok (.iload_n 3, 1) := by decide +kernel
theorem dX12_wobble_36 : decode cX12_wobble 36 = .ok (.iconst 1, 1) := by decide +kernel
theorem dX12_wobble_37 : decode cX12_wobble 37 = .ok (.iadd, 1) := by decide +kernel
theorem dX12_wobble_38 : decode cX12_wobble 38 = .ok (.imul, 1) := by decide +kernel
theorem dX12_wobble_39 : decode cX12_wobble 39 = .ok (.bipush 100, 2) := by decide +kernel
theorem dX12_wobble_41 : decode cX12_wobble 41 = .ok (.idiv, 1) := by decide +kernel
theorem dX12_wobble_42 : decode cX12_wobble 42 = .ok (.aload_n 0, 1) := by decide +kernel
theorem dX12_wobble_43 : decode cX12_wobble 43 = .ok (.iload_n 1, 1) := by decide +kernel
theorem dX12_wobble_44 : decode cX12_wobble 44 = .ok (.iconst 0, 1) := by decide +kernel
theorem dX12_wobble_45 : decode cX12_wobble 45 = .ok (.invokevirtual 229, 3) := by decide +kernel
theorem dX12_wobble_48 : decode cX12_wobble 48 = .ok (.if_icmp .gt 9, 3) := by decide +kernel
theorem dX12_wobble_51 : decode cX12_wobble 51 = .ok (.iinc 3 1, 3) := by decide +kernel
theorem dX12_wobble_54 : decode cX12_wobble 54 = .ok (.goto (-24), 3) := by decide +kernel
theorem dX12_wobble_57 : decode cX12_wobble 57 = .ok (.iload_n 3, 1) := by decide +kernel
theorem dX12_wobble_58 : decode cX12_wobble 58 = .ok (.ireturn, 1) := by decide +kernel
set_option maxRecDepth 20000 in
theorem ggX12_noTones_X12_in : GoodIn wsX12_noTones wsX12_in := goodIn_r _ [8] (by decide +kernel) (by decide +kernel)
set_option maxRecDepth 20000 in
theorem gX12_noTones_X12_in : GoodIn wsX12_noTones (va_wsS RX12 61 yX12_in wsX12_in) := goodIn_app (goodIn_of _ (by decide +kernel)) ggX12_noTones_X12_in
theorem dX12_noTones_0 : decode cX12_noTones 0 = .ok (.aload_n 0, 1) := by decide +kernel
theorem dX12_noTones_1 : decode cX12_noTones 1 = .ok (.getfield 7, 3) := by decide +kernel
theorem dX12_noTones_4 : decode cX12_noTones 4 = .ok (.iload_n 1, 1) := by decide +kernel
theorem dX12_noTones_5 : decode cX12_noTones 5 = .ok (.iaload, 1) := by decide +kernel
theorem dX12_noTones_6 : decode cX12_noTones 6 = .ok (.ifCond .ge 5, 3) := by decide +kernel
theorem dX12_noTones_9 : decode cX12_noTones 9 = .ok (.iconst 1, 1) := by decide +kernel
theorem dX12_noTones_10 : decode cX12_noTones 10 = .ok (.ireturn, 1) := by decide +kernel
theorem dX12_noTones_11 : decode cX12_noTones 11 = .ok (.iload_n 2, 1) := by decide +kernel
theorem dX12_noTones_12 : decode cX12_noTones 12 = .ok (.ifCond .lt 19, 3) := by decide +kernel
theorem dX12_noTones_15 : decode cX12_noTones 15 = .ok (.iload_n 2, 1) := by decide +kernel
theorem dX12_noTones_16 : decode cX12_noTones 16 = .ok (.i2l, 1) := by decide +kernel
theorem dX12_noTones_17 : decode cX12_noTones 17 = .ok (.iload_n 3, 1) := by decide +kernel
theorem dX12_noTones_18 : decode cX12_noTones 18 = .ok (.i2l, 1) := by decide +kernel
theorem dX12_noTones_19 : decode cX12_noTones 19 = .ok (.ladd, 1) := by decide +kernel
theorem dX12_noTones_20 : decode cX12_noTones 20 = .ok (.aload_n 0, 1) := by decide +kernel
theorem dX12_noTones_21 : decode cX12_noTones 21 = .ok (.getfield 13, 3) := by decide +kernel
theorem dX12_noTones_24 : decode cX12_noTones 24 = .ok (.iload_n 1, 1) := by decide +kernel
theorem dX12_noTones_25 : decode cX12_noTones 25 = .ok (.iaload, 1) := by decide +kernel
theorem dX12_noTones_26 : decode cX12_noTones 26 = .ok (.i2l, 1) := by decide +kernel
theorem dX12_noTones_27 : decode cX12_noTones 27 = .ok (.lcmp, 1) := by decide +kernel
theorem dX12_noTones_28 : decode cX12_noTones 28 = .ok (.ifCond .le 5, 3) := by decide +kernel
theorem dX12_noTones_31 : decode cX12_noTones 31 = .ok (.iconst 2, 1) := by decide +kernel
theorem dX12_noTones_32 : decode cX12_noTones 32 = .ok (.ireturn, 1) := by decide +kernel
theorem dX12_noTones_33 : decode cX12_noTones 33 = .ok (.iconst 1, 1) := by decide +kernel
theorem dX12_noTones_34 : decode cX12_noTones 34 = .ok (.istore 4, 2) := by decide +kernel
theorem dX12_noTones_36 : decode cX12_noTones 36 = .ok (.iconst 0, 1) := by decide +kernel
theorem dX12_noTones_37 : decode cX12_noTones 37 = .ok (.istore 5, 2) := by decide +kernel
theorem dX12_noTones_39 : decode cX12_noTones 39 = .ok (.iload 5, 2) := by decide +kernel
theorem dX12_noTones_41 : decode cX12_noTones 41 = .ok (.iload_n 3, 1) := by decide +kernel
theorem dX12_noTones_42 : decode cX12_noTones 42 = .ok (.if_icmp .ge 46, 3) := by decide +kernel
theorem dX12_noTones_45 : decode cX12_noTones 45 = .ok (.iload 4, 2) := by decide +kernel
theorem dX12_noTones_47 : decode cX12_noTones 47 = .ok (.ifCond .eq 32, 3) := by decide +kernel
theorem dX12_noTones_50 : decode cX12_noTones 50 = .ok (.aload_n 0, 1) := by decide +kernel
theorem dX12_noTones_51 : decode cX12_noTones 51 = .ok (.getfield 16, 3) := by decide +kernel
theorem dX12_noTones_54 : decode cX12_noTones 54 = .ok (.bipush 40, 2) := by decide +kernel
theorem dX12_noTones_56 : decode cX12_noTones 56 = .ok (.iload_n 1, 1) := by decide +kernel
theorem dX12_noTones_57 : decode cX12_noTones 57 = .ok (.imul, 1) := by decide +kernel
theorem dX12_noTones_58 : decode cX12_noTones 58 = .ok (.iload_n 2, 1) := by decide +kernel
theorem dX12_noTones_59 : decode cX12_noTones 59 = .ok (.iadd, 1) := by decide +kernel
theorem dX12_noTones_60 : decode cX12_noTones 60 = .ok (.iload 5, 2) := by decide +kernel
theorem dX12_noTones_62 : decode cX12_noTones 62 = .ok (.iadd, 1) := by decide +kernel
theorem dX12_noTones_63 : decode cX12_noTones 63 = .ok (.iaload, 1) := by decide +kernel
theorem dX12_noTones_64 : decode cX12_noTones 64 = .ok (.i2l, 1) := by decide +kernel
theorem dX12_noTones_65 : decode cX12_noTones 65 = .ok (.lconst 0, 1) := by decide +kernel
theorem dX12_noTones_66 : decode cX12_noTones 66 = .ok (.ldc2_w 296, 3) := by decide +kernel
theorem dX12_noTones_69 : decode cX12_noTones 69 = .ok (.invokestatic 61, 3) := by decide +kernel
theorem dX12_noTones_72 : decode cX12_noTones 72 = .ok (.ifCond .eq 7, 3) := by decide +kernel
theorem dX12_noTones_75 : decode cX12_noTones 75 = .ok (.iconst 1, 1) := by decide +kernel
theorem dX12_noTones_76 : decode cX12_noTones 76 = .ok (.goto 4, 3) := by decide +kernel
theorem dX12_noTones_79 : decode cX12_noTones 79 = .ok (.iconst 0, 1) := by decide +kernel
theorem dX12_noTones_80 : decode cX12_noTones 80 = .ok (.istore 4, 2) := by decide +kernel
theorem dX12_noTones_82 : decode cX12_noTones 82 = .ok (.iinc 5 1, 3) := by decide +kernel
theorem dX12_noTones_85 : decode cX12_noTones 85 = .ok (.goto (-46), 3) := by decide +kernel
theorem dX12_noTones_88 : decode cX12_noTones 88 = .ok (.iload 4, 2) := by decide +kernel
theorem dX12_noTones_90 : decode cX12_noTones 90 = .ok (.ifCond .eq 7, 3) := by decide +kernel
theorem dX12_noTones_93 : decode cX12_noTones 93 = .ok (.iconst 0, 1) := by decide +kernel
theorem dX12_noTones_94 : decode cX12_noTones 94 = .ok (.goto 4, 3) := by decide +kernel
theorem dX12_noTones_97 : decode cX12_noTones 97 = .ok (.iconst (-1), 1) := by decide +kernel
theorem dX12_noTones_98 : decode cX12_noTones 98 = .ok (.ireturn, 1) := by decide +kernel
set_option maxRecDepth 20000 in
theorem ggX12_sound_X12_isDisc : GoodIn wsX12_sound wsX12_isDisc := goodIn_r _ [11, 12, 13, 14, 10, 15, 36, 37, 38, 39, 40, 41, 42, 43, 44, 45, 46, 47, 48, 49, 50, 51, 52, 53, 54, 55, 56, 57, 58, 59, 60, 61, 62, 63, 64, 65, 66, 67] (by decide +kernel) (by decide +kernel)
set_option maxRecDepth 20000 in
theorem gX12_sound_X12_isDisc : GoodIn wsX12_sound (wsV RX12 242 RX12 yX12_isDisc wsX12_isDisc) := goodIn_app (goodIn_of _ (by decide +kernel)) ggX12_sound_X12_isDisc
set_option maxRecDepth 20000 in
theorem ggX12_sound_X12_isRow : GoodIn wsX12_sound wsX12_isRow := goodIn_r _ [18, 19, 13, 14, 10, 15] (by decide +kernel) (by decide +kernel)
set_option maxRecDepth 20000 in
theorem gX12_sound_X12_isRow : GoodIn wsX12_sound (va_wsS RX12 65 yX12_isRow wsX12_isRow) := goodIn_app (goodIn_of _ (by decide +kernel)) ggX12_sound_X12_isRow
set_option maxRecDepth 20000 in
theorem ggX12_sound_X12_in : GoodIn wsX12_sound wsX12_in := goodIn_r _ [15] (by decide +kernel) (by decide +kernel)
set_option maxRecDepth 20000 in
theorem gX12_sound_X12_in : GoodIn wsX12_sound (va_wsS RX12 61 yX12_in wsX12_in) := goodIn_app (goodIn_of _ (by decide +kernel)) ggX12_sound_X12_in
set_option maxRecDepth 20000 in
theorem ggX12_sound_X12_noTones : GoodIn wsX12_sound wsX12_noTones := goodIn_r _ [23, 24, 25, 6, 26, 13, 14, 10, 15, 36, 37, 38, 39, 40, 41, 42, 43, 44, 45, 46, 47, 48, 49, 50, 51, 52, 53, 54, 55, 56, 57, 58, 59, 60, 61, 62, 63, 64, 65, 66, 67] (by decide +kernel) (by decide +kernel)
set_option maxRecDepth 20000 in
theorem gX12_sound_X12_noTones : GoodIn wsX12_sound (wsV RX12 298 RX12 yX12_noTones wsX12_noTones) := goodIn_app (goodIn_of _ (by decide +kernel)) ggX12_sound_X12_noTones
set_option maxRecDepth 20000 in
theorem ggX12_sound_X12_finding : GoodIn wsX12_sound wsX12_finding := goodIn_r _ [30, 5, 31, 36, 37, 38, 39, 40, 41, 42, 43, 44, 45, 46, 47, 48, 49, 50, 51, 52, 53, 54, 55, 56, 57, 58, 59, 60, 61, 62, 63, 64, 65, 66, 67] (by decide +kernel) (by decide +kernel)
set_option maxRecDepth 20000 in
theorem gX12_sound_X12_finding : GoodIn wsX12_sound (wsV RX12 72 RX12 yX12_finding wsX12_finding) := goodIn_app (goodIn_of _ (by decide +kernel)) ggX12_sound_X12_finding
set_option maxRecDepth 20000 in
theorem ggX12_sound_X12_discOf : GoodIn wsX12_sound wsX12_discOf := goodIn_r _ [35, 12, 36, 37, 38, 39, 40, 41, 42, 43, 44, 45, 46, 47, 48, 49, 50, 51, 52, 53, 54, 55, 56, 57, 58, 59, 60, 61, 62, 63, 64, 65, 66, 67] (by decide +kernel) (by decide +kernel)
set_option maxRecDepth 20000 in
theorem gX12_sound_X12_discOf : GoodIn wsX12_sound (wsV RX12 229 RX12 yX12_discOf wsX12_discOf) := goodIn_app (goodIn_of _ (by decide +kernel)) ggX12_sound_X12_discOf
theorem dX12_sound_0 : decode cX12_sound 0 = .ok (.aload_n 0, 1) := by decide +kernel
theorem dX12_sound_1 : decode cX12_sound 1 = .ok (.iconst 0, 1) := by decide +kernel
theorem dX12_sound_2 : decode cX12_sound 2 = .ok (.putfield 52, 3) := by decide +kernel
theorem dX12_sound_5 : decode cX12_sound 5 = .ok (.aload_n 0, 1) := by decide +kernel
theorem dX12_sound_6 : decode cX12_sound 6 = .ok (.iload_n 1, 1) := by decide +kernel
theorem dX12_sound_7 : decode cX12_sound 7 = .ok (.invokevirtual 242, 3) := by decide +kernel
theorem dX12_sound_10 : decode cX12_sound 10 = .ok (.ifCond .eq 36, 3) := by decide +kernel
theorem dX12_sound_13 : decode cX12_sound 13 = .ok (.iload_n 2, 1) := by decide +kernel
theorem dX12_sound_14 : decode cX12_sound 14 = .ok (.invokestatic 65, 3) := by decide +kernel
theorem dX12_sound_17 : decode cX12_sound 17 = .ok (.ifCond .eq 29, 3) := by decide +kernel
theorem dX12_sound_20 : decode cX12_sound 20 = .ok (.iload 4, 2) := by decide +kernel
theorem dX12_sound_22 : decode cX12_sound 22 = .ok (.i2l, 1) := by decide +kernel
theorem dX12_sound_23 : decode cX12_sound 23 = .ok (.ldc2_w 69, 3) := by decide +kernel
theorem dX12_sound_26 : decode cX12_sound 26 = .ok (.ldc2_w 262, 3) := by decide +kernel
theorem dX12_sound_29 : decode cX12_sound 29 = .ok (.invokestatic 61, 3) := by decide +kernel
theorem dX12_sound_32 : decode cX12_sound 32 = .ok (.ifCond .eq 14, 3) := by decide +kernel
theorem dX12_sound_35 : decode cX12_sound 35 = .ok (.iload 5, 2) := by decide +kernel
theorem dX12_sound_37 : decode cX12_sound 37 = .ok (.i2l, 1) := by decide +kernel
theorem dX12_sound_38 : decode cX12_sound 38 = .ok (.lconst 0, 1) := by decide +kernel
theorem dX12_sound_39 : decode cX12_sound 39 = .ok (.lconst 1, 1) := by decide +kernel
theorem dX12_sound_40 : decode cX12_sound 40 = .ok (.invokestatic 61, 3) := by decide +kernel
theorem dX12_sound_43 : decode cX12_sound 43 = .ok (.ifCond .ne 6, 3) := by decide +kernel
theorem dX12_sound_46 : decode cX12_sound 46 = .ok (.ldc 71, 2) := by decide +kernel
theorem dX12_sound_48 : decode cX12_sound 48 = .ok (.ireturn, 1) := by decide +kernel
theorem dX12_sound_49 : decode cX12_sound 49 = .ok (.aload_n 0, 1) := by decide +kernel
theorem dX12_sound_50 : decode cX12_sound 50 = .ok (.iload_n 2, 1) := by decide +kernel
theorem dX12_sound_51 : decode cX12_sound 51 = .ok (.iload_n 3, 1) := by decide +kernel
theorem dX12_sound_52 : decode cX12_sound 52 = .ok (.iload 4, 2) := by decide +kernel
theorem dX12_sound_54 : decode cX12_sound 54 = .ok (.invokevirtual 298, 3) := by decide +kernel
theorem dX12_sound_57 : decode cX12_sound 57 = .ok (.istore 6, 2) := by decide +kernel
theorem dX12_sound_59 : decode cX12_sound 59 = .ok (.iload 6, 2) := by decide +kernel
theorem dX12_sound_61 : decode cX12_sound 61 = .ok (.ifCond .eq 20, 3) := by decide +kernel
theorem dX12_sound_64 : decode cX12_sound 64 = .ok (.iload 6, 2) := by decide +kernel
theorem dX12_sound_66 : decode cX12_sound 66 = .ok (.ifCond .ge 8, 3) := by decide +kernel
theorem dX12_sound_69 : decode cX12_sound 69 = .ok (.ldc 71, 2) := by decide +kernel
theorem dX12_sound_71 : decode cX12_sound 71 = .ok (.goto 9, 3) := by decide +kernel
theorem dX12_sound_74 : decode cX12_sound 74 = .ok (.aload_n 0, 1) := by decide +kernel
theorem dX12_sound_75 : decode cX12_sound 75 = .ok (.iload 6, 2) := by decide +kernel
theorem dX12_sound_77 : decode cX12_sound 77 = .ok (.invokevirtual 72, 3) := by decide +kernel
theorem dX12_sound_80 : decode cX12_sound 80 = .ok (.ireturn, 1) := by decide +kernel
theorem dX12_sound_81 : decode cX12_sound 81 = .ok (.aload_n 0, 1) := by decide +kernel
theorem dX12_sound_82 : decode cX12_sound 82 = .ok (.iconst 0, 1) := by decide +kernel
theorem dX12_sound_83 : decode cX12_sound 83 = .ok (.putfield 55, 3) := by decide +kernel
theorem dX12_sound_86 : decode cX12_sound 86 = .ok (.iconst 0, 1) := by decide +kernel
theorem dX12_sound_87 : decode cX12_sound 87 = .ok (.istore 7, 2) := by decide +kernel
theorem dX12_sound_89 : decode cX12_sound 89 = .ok (.iconst 0, 1) := by decide +kernel
theorem dX12_sound_90 : decode cX12_sound 90 = .ok (.istore 8, 2) := by decide +kernel
theorem dX12_sound_92 : decode cX12_sound 92 = .ok (.iconst 0, 1) := by decide +kernel
theorem dX12_sound_93 : decode cX12_sound 93 = .ok (.istore 9, 2) := by decide +kernel
theorem dX12_sound_95 : decode cX12_sound 95 = .ok (.iconst 0, 1) := by decide +kernel
theorem dX12_sound_96 : decode cX12_sound 96 = .ok (.istore 10, 2) := by decide +kernel
theorem dX12_sound_98 : decode cX12_sound 98 = .ok (.iconst 0, 1) := by decide +kernel
theorem dX12_sound_99 : decode cX12_sound 99 = .ok (.istore 11, 2) := by decide +kernel
theorem dX12_sound_101 : decode cX12_sound 101 = .ok (.iload 11, 2) := by decide +kernel
theorem dX12_sound_103 : decode cX12_sound 103 = .ok (.iload 4, 2) := by decide +kernel
theorem dX12_sound_105 : decode cX12_sound 105 = .ok (.if_icmp .ge 110, 3) := by decide +kernel
theorem dX12_sound_108 : decode cX12_sound 108 = .ok (.aload_n 0, 1) := by decide +kernel
theorem dX12_sound_109 : decode cX12_sound 109 = .ok (.getfield 16, 3) := by decide +kernel
theorem dX12_sound_112 : decode cX12_sound 112 = .ok (.bipush 40, 2) := by decide +kernel
theorem dX12_sound_114 : decode cX12_sound 114 = .ok (.iload_n 2, 1) := by decide +kernel
theorem dX12_sound_115 : decode cX12_sound 115 = .ok (.imul, 1) := by decide +kernel
theorem dX12_sound_116 : decode cX12_sound 116 = .ok (.iload_n 3, 1) := by decide +kernel
theorem dX12_sound_117 : decode cX12_sound 117 = .ok (.iadd, 1) := by decide +kernel
theorem dX12_sound_118 : decode cX12_sound 118 = .ok (.iload 11, 2) := by decide +kernel
theorem dX12_sound_120 : decode cX12_sound 120 = .ok (.iadd, 1) := by decide +kernel
theorem dX12_sound_121 : decode cX12_sound 121 = .ok (.iaload, 1) := by decide +kernel
theorem dX12_sound_122 : decode cX12_sound 122 = .ok (.aload_n 0, 1) := by decide +kernel
theorem dX12_sound_123 : decode cX12_sound 123 = .ok (.iload_n 1, 1) := by decide +kernel
theorem dX12_sound_124 : decode cX12_sound 124 = .ok (.iconst 2, 1) := by decide +kernel
theorem dX12_sound_125 : decode cX12_sound 125 = .ok (.invokevirtual 229, 3) := by decide +kernel
theorem dX12_sound_128 : decode cX12_sound 128 = .ok (.idiv, 1) := by decide +kernel
theorem dX12_sound_129 : decode cX12_sound 129 = .ok (.istore 12, 2) := by decide +kernel
theorem dX12_sound_131 : decode cX12_sound 131 = .ok (.iload 7, 2) := by decide +kernel
theorem dX12_sound_133 : decode cX12_sound 133 = .ok (.iload 11, 2) := by decide +kernel
theorem dX12_sound_135 : decode cX12_sound 135 = .ok (.ifCond .le 19, 3) := by decide +kernel
theorem dX12_sound_138 : decode cX12_sound 138 = .ok (.iload 12, 2) := by decide +kernel
theorem dX12_sound_140 : decode cX12_sound 140 = .ok (.iload 9, 2) := by decide +kernel
theorem dX12_sound_142 : decode cX12_sound 142 = .ok (.if_icmp .le 12, 3) := by decide +kernel
theorem dX12_sound_145 : decode cX12_sound 145 = .ok (.iload 10, 2) := by decide +kernel
theorem dX12_sound_147 : decode cX12_sound 147 = .ok (.ifCond .eq 7, 3) := by decide +kernel
theorem dX12_sound_150 : decode cX12_sound 150 = .ok (.iconst 1, 1) := by decide +kernel
theorem dX12_sound_151 : decode cX12_sound 151 = .ok (.goto 4, 3) := by decide +kernel
theorem dX12_sound_154 : decode cX12_sound 154 = .ok (.iconst 0, 1) := by decide +kernel
theorem dX12_sound_155 : decode cX12_sound 155 = .ok (.iadd, 1) := by decide +kernel
theorem dX12_sound_156 : decode cX12_sound 156 = .ok (.istore 7, 2) := by decide +kernel
theorem dX12_sound_158 : decode cX12_sound 158 = .ok (.iload 11, 2) := by decide +kernel
theorem dX12_sound_160 : decode cX12_sound 160 = .ok (.ifCond .le 26, 3) := by decide +kernel
theorem dX12_sound_163 : decode cX12_sound 163 = .ok (.iload 12, 2) := by decide +kernel
theorem dX12_sound_165 : decode cX12_sound 165 = .ok (.iload 9, 2) := by decide +kernel
theorem dX12_sound_167 : decode cX12_sound 167 = .ok (.if_icmp .lt 15, 3) := by decide +kernel
theorem dX12_sound_170 : decode cX12_sound 170 = .ok (.iload 12, 2) := by decide +kernel
theorem dX12_sound_172 : decode cX12_sound 172 = .ok (.iload 9, 2) := by decide +kernel
theorem dX12_sound_174 : decode cX12_sound 174 = .ok (.if_icmp .ne 12, 3) := by decide +kernel
theorem dX12_sound_177 : decode cX12_sound 177 = .ok (.iload 10, 2) := by decide +kernel
theorem dX12_sound_179 : decode cX12_sound 179 = .ok (.ifCond .eq 7, 3) := by decide +kernel
theorem dX12_sound_182 : decode cX12_sound 182 = .ok (.iconst 1, 1) := by decide +kernel
theorem dX12_sound_183 : decode cX12_sound 183 = .ok (.goto 4, 3) := by decide +kernel
theorem dX12_sound_186 : decode cX12_sound 186 = .ok (.iconst 0, 1) := by decide +kernel
theorem dX12_sound_187 : decode cX12_sound 187 = .ok (.istore 10, 2) := by decide +kernel
theorem dX12_sound_189 : decode cX12_sound 189 = .ok (.iload 12, 2) := by decide +kernel
theorem dX12_sound_191 : decode cX12_sound 191 = .ok (.iload 8, 2) := by decide +kernel
theorem dX12_sound_193 : decode cX12_sound 193 = .ok (.if_icmp .le 8, 3) := by decide +kernel
theorem dX12_sound_196 : decode cX12_sound 196 = .ok (.iload 12, 2) := by decide +kernel
theorem dX12_sound_198 : decode cX12_sound 198 = .ok (.goto 5, 3) := by decide +kernel
theorem dX12_sound_201 : decode cX12_sound 201 = .ok (.iload 8, 2) := by decide +kernel
theorem dX12_sound_203 : decode cX12_sound 203 = .ok (.istore 8, 2) := by decide +kernel
theorem dX12_sound_205 : decode cX12_sound 205 = .ok (.iload 12, 2) := by decide +kernel
theorem dX12_sound_207 : decode cX12_sound 207 = .ok (.istore 9, 2) := by decide +kernel
theorem dX12_sound_209 : decode cX12_sound 209 = .ok (.iinc 11 1, 3) := by decide +kernel
theorem dX12_sound_212 : decode cX12_sound 212 = .ok (.goto (-111), 3) := by decide +kernel
theorem dX12_sound_215 : decode cX12_sound 215 = .ok (.iload 5, 2) := by decide +kernel
theorem dX12_sound_217 : decode cX12_sound 217 = .ok (.ifCond .ne 8, 3) := by decide +kernel
theorem dX12_sound_220 : decode cX12_sound 220 = .ok (.iload 7, 2) := by decide +kernel
theorem dX12_sound_222 : decode cX12_sound 222 = .ok (.goto 5, 3) := by decide +kernel
theorem dX12_sound_225 : decode cX12_sound 225 = .ok (.iload 8, 2) := by decide +kernel
theorem dX12_sound_227 : decode cX12_sound 227 = .ok (.ireturn, 1) := by decide +kernel
set_option maxRecDepth 20000 in
theorem ggX12_playTune_X12_rest : GoodIn wsX12_playTune wsX12_rest := goodIn_r _ [9, 10, 11, 2, 46, 47, 48, 49, 50, 51, 52, 53, 54, 55, 56, 57, 58, 59, 60, 61, 62, 63, 64, 65, 66, 67, 68, 69, 70, 71, 72, 73, 74, 75, 76, 77] (by decide +kernel) (by decide +kernel)
set_option maxRecDepth 20000 in
theorem gX12_playTune_X12_rest : GoodIn wsX12_playTune (wsV RX12 268 RX12 yX12_rest wsX12_rest) := goodIn_app (goodIn_of _ (by decide +kernel)) ggX12_playTune_X12_rest
set_option maxRecDepth 20000 in
theorem ggX12_playTune_X12_unwinds : GoodIn wsX12_playTune wsX12_unwinds := goodIn_r _ [15, 11, 10, 46, 47, 48, 49, 50, 51, 52, 53, 54, 55, 56, 57, 58, 59, 60, 61, 62, 63, 64, 65, 66, 67, 68, 69, 70, 71, 72, 73, 74, 75, 76, 77] (by decide +kernel) (by decide +kernel)
set_option maxRecDepth 20000 in
theorem gX12_playTune_X12_unwinds : GoodIn wsX12_playTune (wsV RX12 271 RX12 yX12_unwinds wsX12_unwinds) := goodIn_app (goodIn_of _ (by decide +kernel)) ggX12_playTune_X12_unwinds
set_option maxRecDepth 20000 in
theorem ggX12_playTune_X12_tick : GoodIn wsX12_playTune wsX12_tick := goodIn_r _ [19, 10, 11, 20, 21, 3, 2, 4, 22, 23, 8, 24, 25, 26, 27, 28, 29, 30, 31, 32, 33, 34, 35, 36, 37, 38, 39, 40, 41, 42, 43, 44, 45, 46, 47, 48, 49, 50, 51, 52, 53, 54, 55, 56, 57, 58, 59, 60, 61, 62, 63, 64, 65, 66, 67, 68, 69, 70, 71, 72, 73, 74, 75, 76, 77] (by decide +kernel) (by decide +kernel)
set_option maxRecDepth 20000 in
theorem gX12_playTune_X12_tick : GoodIn wsX12_playTune (wsV RX12 249 RX12 yX12_tick wsX12_tick) := goodIn_app (goodIn_of _ (by decide +kernel)) ggX12_playTune_X12_tick
theorem dX12_playTune_0 : decode cX12_playTune 0 = .ok (.iconst 0, 1) := by decide +kernel
theorem dX12_playTune_1 : decode cX12_playTune 1 = .ok (.istore 6, 2) := by decide +kernel
theorem dX12_playTune_3 : decode cX12_playTune 3 = .ok (.iload 6, 2) := by decide +kernel
theorem dX12_playTune_5 : decode cX12_playTune 5 = .ok (.iconst 3, 1) := by decide +kernel
theorem dX12_playTune_6 : decode cX12_playTune 6 = .ok (.if_icmp .ge 17, 3) := by decide +kernel
theorem dX12_playTune_9 : decode cX12_playTune 9 = .ok (.aload_n 0, 1) := by decide +kernel
theorem dX12_playTune_10 : decode cX12_playTune 10 = .ok (.getfield 36, 3) := by decide +kernel
theorem dX12_playTune_13 : decode cX12_playTune 13 = .ok (.iload 6, 2) := by decide +kernel
theorem dX12_playTune_15 : decode cX12_playTune 15 = .ok (.iconst 0, 1) := by decide +kernel
theorem dX12_playTune_16 : decode cX12_playTune 16 = .ok (.iastore, 1) := by decide +kernel
theorem dX12_playTune_17 : decode cX12_playTune 17 = .ok (.iinc 6 1, 3) := by decide +kernel
theorem dX12_playTune_20 : decode cX12_playTune 20 = .ok (.goto (-17), 3) := by decide +kernel
theorem dX12_playTune_23 : decode cX12_playTune 23 = .ok (.aload_n 0, 1) := by decide +kernel
theorem dX12_playTune_24 : decode cX12_playTune 24 = .ok (.iload_n 3, 1) := by decide +kernel
theorem dX12_playTune_25 : decode cX12_playTune 25 = .ok (.invokevirtual 268, 3) := by decide +kernel
theorem dX12_playTune_28 : decode cX12_playTune 28 = .ok (.iconst 0, 1) := by decide +kernel
theorem dX12_playTune_29 : decode cX12_playTune 29 = .ok (.istore 6, 2) := by decide +kernel
theorem dX12_playTune_31 : decode cX12_playTune 31 = .ok (.iconst 0, 1) := by decide +kernel
theorem dX12_playTune_32 : decode cX12_playTune 32 = .ok (.istore 7, 2) := by decide +kernel
theorem dX12_playTune_34 : decode cX12_playTune 34 = .ok (.iload 7, 2) := by decide +kernel
theorem dX12_playTune_36 : decode cX12_playTune 36 = .ok (.bipush 120, 2) := by decide +kernel
theorem dX12_playTune_38 : decode cX12_playTune 38 = .ok (.if_icmp .ge 153, 3) := by decide +kernel
theorem dX12_playTune_41 : decode cX12_playTune 41 = .ok (.aload_n 0, 1) := by decide +kernel
theorem dX12_playTune_42 : decode cX12_playTune 42 = .ok (.getfield 223, 3) := by decide +kernel
theorem dX12_playTune_45 : decode cX12_playTune 45 = .ok (.ifCond .ne 146, 3) := by decide +kernel
theorem dX12_playTune_48 : decode cX12_playTune 48 = .ok (.aload_n 0, 1) := by decide +kernel
theorem dX12_playTune_49 : decode cX12_playTune 49 = .ok (.invokevirtual 271, 3) := by decide +kernel
theorem dX12_playTune_52 : decode cX12_playTune 52 = .ok (.ifCond .eq 14, 3) := by decide +kernel
theorem dX12_playTune_55 : decode cX12_playTune 55 = .ok (.iload 6, 2) := by decide +kernel
theorem dX12_playTune_57 : decode cX12_playTune 57 = .ok (.iload 5, 2) := by decide +kernel
theorem dX12_playTune_59 : decode cX12_playTune 59 = .ok (.if_icmp .ge 7, 3) := by decide +kernel
theorem dX12_playTune_62 : decode cX12_playTune 62 = .ok (.iconst 1, 1) := by decide +kernel
theorem dX12_playTune_63 : decode cX12_playTune 63 = .ok (.goto 4, 3) := by decide +kernel
theorem dX12_playTune_66 : decode cX12_playTune 66 = .ok (.iconst 0, 1) := by decide +kernel
theorem dX12_playTune_67 : decode cX12_playTune 67 = .ok (.istore 8, 2) := by decide +kernel
theorem dX12_playTune_69 : decode cX12_playTune 69 = .ok (.iload 6, 2) := by decide +kernel
theorem dX12_playTune_71 : decode cX12_playTune 71 = .ok (.istore 9, 2) := by decide +kernel
theorem dX12_playTune_73 : decode cX12_playTune 73 = .ok (.iload 9, 2) := by decide +kernel
theorem dX12_playTune_75 : decode cX12_playTune 75 = .ok (.iload 5, 2) := by decide +kernel
theorem dX12_playTune_77 : decode cX12_playTune 77 = .ok (.iconst 1, 1) := by decide +kernel
theorem dX12_playTune_78 : decode cX12_playTune 78 = .ok (.isub, 1) := by decide +kernel
theorem dX12_playTune_79 : decode cX12_playTune 79 = .ok (.if_icmp .ne 11, 3) := by decide +kernel
theorem dX12_playTune_82 : decode cX12_playTune 82 = .ok (.iload 4, 2) := by decide +kernel
theorem dX12_playTune_84 : decode cX12_playTune 84 = .ok (.bipush 10, 2) := by decide +kernel
theorem dX12_playTune_86 : decode cX12_playTune 86 = .ok (.irem, 1) := by decide +kernel
theorem dX12_playTune_87 : decode cX12_playTune 87 = .ok (.goto 28, 3) := by decide +kernel
theorem dX12_playTune_90 : decode cX12_playTune 90 = .ok (.iload 9, 2) := by decide +kernel
theorem dX12_playTune_92 : decode cX12_playTune 92 = .ok (.iload 5, 2) := by decide +kernel
theorem dX12_playTune_94 : decode cX12_playTune 94 = .ok (.iconst 2, 1) := by decide +kernel
theorem dX12_playTune_95 : decode cX12_playTune 95 = .ok (.isub, 1) := by decide +kernel
theorem dX12_playTune_96 : decode cX12_playTune 96 = .ok (.if_icmp .ne 14, 3) := by decide +kernel
theorem dX12_playTune_99 : decode cX12_playTune 99 = .ok (.iload 4, 2) := by decide +kernel
theorem dX12_playTune_101 : decode cX12_playTune 101 = .ok (.bipush 10, 2) := by decide +kernel
theorem dX12_playTune_103 : decode cX12_playTune 103 = .ok (.idiv, 1) := by decide +kernel
theorem dX12_playTune_104 : decode cX12_playTune 104 = .ok (.bipush 10, 2) := by decide +kernel
theorem dX12_playTune_106 : decode cX12_playTune 106 = .ok (.irem, 1) := by decide +kernel
theorem dX12_playTune_107 : decode cX12_playTune 107 = .ok (.goto 8, 3) := by decide +kernel
theorem dX12_playTune_110 : decode cX12_playTune 110 = .ok (.iload 4, 2) := by decide +kernel
theorem dX12_playTune_112 : decode cX12_playTune 112 = .ok (.bipush 100, 2) := by decide +kernel
theorem dX12_playTune_114 : decode cX12_playTune 114 = .ok (.idiv, 1) := by decide +kernel
theorem dX12_playTune_115 : decode cX12_playTune 115 = .ok (.istore 10, 2) := by decide +kernel
theorem dX12_playTune_117 : decode cX12_playTune 117 = .ok (.aload_n 0, 1) := by decide +kernel
theorem dX12_playTune_118 : decode cX12_playTune 118 = .ok (.iload_n 1, 1) := by decide +kernel
theorem dX12_playTune_119 : decode cX12_playTune 119 = .ok (.iload_n 2, 1) := by decide +kernel
theorem dX12_playTune_120 : decode cX12_playTune 120 = .ok (.iload 8, 2) := by decide +kernel
theorem dX12_playTune_122 : decode cX12_playTune 122 = .ok (.ifCond .eq 11, 3) := by decide +kernel
theorem dX12_playTune_125 : decode cX12_playTune 125 = .ok (.bipush 10, 2) := by decide +kernel
theorem dX12_playTune_127 : decode cX12_playTune 127 = .ok (.iload 10, 2) := by decide +kernel
theorem dX12_playTune_129 : decode cX12_playTune 129 = .ok (.imul, 1) := by decide +kernel
theorem dX12_playTune_130 : decode cX12_playTune 130 = .ok (.goto 4, 3) := by decide +kernel
theorem dX12_playTune_133 : decode cX12_playTune 133 = .ok (.iconst 0, 1) := by decide +kernel
theorem dX12_playTune_134 : decode cX12_playTune 134 = .ok (.iconst 0, 1) := by decide +kernel
theorem dX12_playTune_135 : decode cX12_playTune 135 = .ok (.invokevirtual 249, 3) := by decide +kernel
theorem dX12_playTune_138 : decode cX12_playTune 138 = .ok (.iload 8, 2) := by decide +kernel
theorem dX12_playTune_140 : decode cX12_playTune 140 = .ok (.ifCond .eq 28, 3) := by decide +kernel
theorem dX12_playTune_143 : decode cX12_playTune 143 = .ok (.aload_n 0, 1) := by decide +kernel
theorem dX12_playTune_144 : decode cX12_playTune 144 = .ok (.getfield 236, 3) := by decide +kernel
theorem dX12_playTune_147 : decode cX12_playTune 147 = .ok (.aload_n 0, 1) := by decide +kernel
theorem dX12_playTune_148 : decode cX12_playTune 148 = .ok (.getfield 36, 3) := by decide +kernel
theorem dX12_playTune_151 : decode cX12_playTune 151 = .ok (.iload 9, 2) := by decide +kernel
theorem dX12_playTune_153 : decode cX12_playTune 153 = .ok (.iaload, 1) := by decide +kernel
theorem dX12_playTune_154 : decode cX12_playTune 154 = .ok (.if_icmp .le 14, 3) := by decide +kernel
theorem dX12_playTune_157 : decode cX12_playTune 157 = .ok (.aload_n 0, 1) := by decide +kernel
theorem dX12_playTune_158 : decode cX12_playTune 158 = .ok (.getfield 36, 3) := by decide +kernel
theorem dX12_playTune_161 : decode cX12_playTune 161 = .ok (.iload 9, 2) := by decide +kernel
theorem dX12_playTune_163 : decode cX12_playTune 163 = .ok (.aload_n 0, 1) := by decide +kernel
theorem dX12_playTune_164 : decode cX12_playTune 164 = .ok (.getfield 236, 3) := by decide +kernel
theorem dX12_playTune_167 : decode cX12_playTune 167 = .ok (.iastore, 1) := by decide +kernel
theorem dX12_playTune_168 : decode cX12_playTune 168 = .ok (.iload 6, 2) := by decide +kernel
theorem dX12_playTune_170 : decode cX12_playTune 170 = .ok (.aload_n 0, 1) := by decide +kernel
theorem dX12_playTune_171 : decode cX12_playTune 171 = .ok (.getfield 239, 3) := by decide +kernel
theorem dX12_playTune_174 : decode cX12_playTune 174 = .ok (.ifCond .eq 7, 3) := by decide +kernel
theorem dX12_playTune_177 : decode cX12_playTune 177 = .ok (.iconst 1, 1) := by decide +kernel
theorem dX12_playTune_178 : decode cX12_playTune 178 = .ok (.goto 4, 3) := by decide +kernel
theorem dX12_playTune_181 : decode cX12_playTune 181 = .ok (.iconst 0, 1) := by decide +kernel
theorem dX12_playTune_182 : decode cX12_playTune 182 = .ok (.iadd, 1) := by decide +kernel
theorem dX12_playTune_183 : decode cX12_playTune 183 = .ok (.istore 6, 2) := by decide +kernel
theorem dX12_playTune_185 : decode cX12_playTune 185 = .ok (.iinc 7 1, 3) := by decide +kernel
theorem dX12_playTune_188 : decode cX12_playTune 188 = .ok (.goto (-154), 3) := by decide +kernel
theorem dX12_playTune_191 : decode cX12_playTune 191 = .ok (.return_, 1) := by decide +kernel
set_option maxRecDepth 20000 in
theorem ggX12_tune_X12_isDisc : GoodIn wsX12_tune wsX12_isDisc := goodIn_r _ [13, 14, 15, 16, 12, 17, 84, 85, 86, 87, 88, 89, 90, 91, 92, 93, 94, 95, 96, 97, 98, 99, 100, 101, 102, 103, 104, 105, 106, 107, 108, 109, 110, 111, 112, 113, 114, 115] (by decide +kernel) (by decide +kernel)
set_option maxRecDepth 20000 in
theorem gX12_tune_X12_isDisc : GoodIn wsX12_tune (wsV RX12 242 RX12 yX12_isDisc wsX12_isDisc) := goodIn_app (goodIn_of _ (by decide +kernel)) ggX12_tune_X12_isDisc
set_option maxRecDepth 20000 in
theorem ggX12_tune_X12_isThread : GoodIn wsX12_tune wsX12_isThread := goodIn_r _ [21, 14, 15, 16, 12, 17, 84, 85, 86, 87, 88, 89, 90, 91, 92, 93, 94, 95, 96, 97, 98, 99, 100, 101, 102, 103, 104, 105, 106, 107, 108, 109, 110, 111, 112, 113, 114, 115] (by decide +kernel) (by decide +kernel)
set_option maxRecDepth 20000 in
theorem gX12_tune_X12_isThread : GoodIn wsX12_tune (wsV RX12 209 RX12 yX12_isThread wsX12_isThread) := goodIn_app (goodIn_of _ (by decide +kernel)) ggX12_tune_X12_isThread
set_option maxRecDepth 20000 in
theorem ggX12_tune_X12_threadOf : GoodIn wsX12_tune wsX12_threadOf := goodIn_r _ [25, 14, 84, 85, 86, 87, 88, 89, 90, 91, 92, 93, 94, 95, 96, 97, 98, 99, 100, 101, 102, 103, 104, 105, 106, 107, 108, 109, 110, 111, 112, 113, 114, 115] (by decide +kernel) (by decide +kernel)
set_option maxRecDepth 20000 in
theorem gX12_tune_X12_threadOf : GoodIn wsX12_tune (wsV RX12 200 RX12 yX12_threadOf wsX12_threadOf) := goodIn_app (goodIn_of _ (by decide +kernel)) ggX12_tune_X12_threadOf
set_option maxRecDepth 20000 in
theorem ggX12_tune_X12_in : GoodIn wsX12_tune wsX12_in := goodIn_r _ [17] (by decide +kernel) (by decide +kernel)
set_option maxRecDepth 20000 in
theorem gX12_tune_X12_in : GoodIn wsX12_tune (va_wsS RX12 61 yX12_in wsX12_in) := goodIn_app (goodIn_of _ (by decide +kernel)) ggX12_tune_X12_in
set_option maxRecDepth 20000 in
theorem ggX12_tune_X12_isRow : GoodIn wsX12_tune wsX12_isRow := goodIn_r _ [28, 29, 15, 16, 12, 17] (by decide +kernel) (by decide +kernel)
set_option maxRecDepth 20000 in
theorem gX12_tune_X12_isRow : GoodIn wsX12_tune (va_wsS RX12 65 yX12_isRow wsX12_isRow) := goodIn_app (goodIn_of _ (by decide +kernel)) ggX12_tune_X12_isRow
set_option maxRecDepth 20000 in
theorem ggX12_tune_X12_noTones : GoodIn wsX12_tune wsX12_noTones := goodIn_r _ [33, 34, 35, 7, 36, 15, 16, 12, 17, 84, 85, 86, 87, 88, 89, 90, 91, 92, 93, 94, 95, 96, 97, 98, 99, 100, 101, 102, 103, 104, 105, 106, 107, 108, 109, 110, 111, 112, 113, 114, 115] (by decide +kernel) (by decide +kernel)
set_option maxRecDepth 20000 in
theorem gX12_tune_X12_noTones : GoodIn wsX12_tune (wsV RX12 298 RX12 yX12_noTones wsX12_noTones) := goodIn_app (goodIn_of _ (by decide +kernel)) ggX12_tune_X12_noTones
set_option maxRecDepth 20000 in
theorem ggX12_tune_X12_finding : GoodIn wsX12_tune wsX12_finding := goodIn_r _ [40, 4, 41, 84, 85, 86, 87, 88, 89, 90, 91, 92, 93, 94, 95, 96, 97, 98, 99, 100, 101, 102, 103, 104, 105, 106, 107, 108, 109, 110, 111, 112, 113, 114, 115] (by decide +kernel) (by decide +kernel)
set_option maxRecDepth 20000 in
theorem gX12_tune_X12_finding : GoodIn wsX12_tune (wsV RX12 72 RX12 yX12_finding wsX12_finding) := goodIn_app (goodIn_of _ (by decide +kernel)) ggX12_tune_X12_finding
set_option maxRecDepth 20000 in
theorem ggX12_tune_X12_playTune : GoodIn wsX12_tune wsX12_playTune := goodIn_r _ [45, 6, 46, 47, 48, 49, 50, 51, 12, 52, 53, 54, 55, 56, 57, 58, 59, 60, 61, 62, 63, 64, 65, 66, 67, 68, 69, 70, 71, 72, 73, 74, 75, 22, 23, 24, 25, 14, 76, 77, 78, 79, 80, 81, 82, 83, 84, 85, 86, 87, 88, 89, 90, 91, 92, 93, 94, 95, 96, 97, 98, 99, 100, 101, 102, 103, 104, 105, 106, 107, 108, 109, 110, 111, 112, 113, 114, 115] (by decide +kernel) (by decide +kernel)
set_option maxRecDepth 20000 in
theorem gX12_tune_X12_playTune : GoodIn wsX12_tune (wsV RX12 306 RX12 yX12_playTune wsX12_playTune) := goodIn_app (goodIn_of _ (by decide +kernel)) ggX12_tune_X12_playTune
set_option maxRecDepth 20000 in
theorem ggX12_tune_X12_discOf : GoodIn wsX12_tune wsX12_discOf := goodIn_r _ [83, 14, 84, 85, 86, 87, 88, 89, 90, 91, 92, 93, 94, 95, 96, 97, 98, 99, 100, 101, 102, 103, 104, 105, 106, 107, 108, 109, 110, 111, 112, 113, 114, 115] (by decide +kernel) (by decide +kernel)
set_option maxRecDepth 20000 in
theorem gX12_tune_X12_discOf : GoodIn wsX12_tune (wsV RX12 229 RX12 yX12_discOf wsX12_discOf) := goodIn_app (goodIn_of _ (by decide +kernel)) ggX12_tune_X12_discOf
theorem dX12_tune_0 : decode cX12_tune 0 = .ok (.aload_n 0, 1) := by decide +kernel
theorem dX12_tune_1 : decode cX12_tune 1 = .ok (.iconst 0, 1) := by decide +kernel
theorem dX12_tune_2 : decode cX12_tune 2 = .ok (.putfield 52, 3) := by decide +kernel
theorem dX12_tune_5 : decode cX12_tune 5 = .ok (.aload_n 0, 1) := by decide +kernel
theorem dX12_tune_6 : decode cX12_tune 6 = .ok (.iload_n 1, 1) := by decide +kernel
theorem dX12_tune_7 : decode cX12_tune 7 = .ok (.invokevirtual 242, 3) := by decide +kernel
theorem dX12_tune_10 : decode cX12_tune 10 = .ok (.ifCond .eq 48, 3) := by decide +kernel
theorem dX12_tune_13 : decode cX12_tune 13 = .ok (.aload_n 0, 1) := by decide +kernel
theorem dX12_tune_14 : decode cX12_tune 14 = .ok (.iload_n 2, 1) := by decide +kernel
theorem dX12_tune_15 : decode cX12_tune 15 = .ok (.invokevirtual 209, 3) := by decide +kernel
theorem dX12_tune_18 : decode cX12_tune 18 = .ok (.ifCond .eq 40, 3) := by decide +kernel
theorem dX12_tune_21 : decode cX12_tune 21 = .ok (.iload_n 3, 1) := by decide +kernel
theorem dX12_tune_22 : decode cX12_tune 22 = .ok (.i2l, 1) := by decide +kernel
theorem dX12_tune_23 : decode cX12_tune 23 = .ok (.lconst 1, 1) := by decide +kernel
theorem dX12_tune_24 : decode cX12_tune 24 = .ok (.aload_n 0, 1) := by decide +kernel
theorem dX12_tune_25 : decode cX12_tune 25 = .ok (.iload_n 2, 1) := by decide +kernel
theorem dX12_tune_26 : decode cX12_tune 26 = .ok (.iconst 2, 1) := by decide +kernel
theorem dX12_tune_27 : decode cX12_tune 27 = .ok (.invokevirtual 200, 3) := by decide +kernel
theorem dX12_tune_30 : decode cX12_tune 30 = .ok (.i2l, 1) := by decide +kernel
theorem dX12_tune_31 : decode cX12_tune 31 = .ok (.invokestatic 61, 3) := by decide +kernel
theorem dX12_tune_34 : decode cX12_tune 34 = .ok (.ifCond .eq 24, 3) := by decide +kernel
theorem dX12_tune_37 : decode cX12_tune 37 = .ok (.iload 4, 2) := by decide +kernel
theorem dX12_tune_39 : decode cX12_tune 39 = .ok (.invokestatic 65, 3) := by decide +kernel
theorem dX12_tune_42 : decode cX12_tune 42 = .ok (.ifCond .eq 16, 3) := by decide +kernel
theorem dX12_tune_45 : decode cX12_tune 45 = .ok (.iload 6, 2) := by decide +kernel
theorem dX12_tune_47 : decode cX12_tune 47 = .ok (.i2l, 1) := by decide +kernel
theorem dX12_tune_48 : decode cX12_tune 48 = .ok (.lconst 1, 1) := by decide +kernel
theorem dX12_tune_49 : decode cX12_tune 49 = .ok (.ldc2_w 302, 3) := by decide +kernel
theorem dX12_tune_52 : decode cX12_tune 52 = .ok (.invokestatic 61, 3) := by decide +kernel
theorem dX12_tune_55 : decode cX12_tune 55 = .ok (.ifCond .ne 6, 3) := by decide +kernel
theorem dX12_tune_58 : decode cX12_tune 58 = .ok (.ldc 71, 2) := by decide +kernel
theorem dX12_tune_60 : decode cX12_tune 60 = .ok (.ireturn, 1) := by decide +kernel
theorem dX12_tune_61 : decode cX12_tune 61 = .ok (.aload_n 0, 1) := by decide +kernel
theorem dX12_tune_62 : decode cX12_tune 62 = .ok (.iload 4, 2) := by decide +kernel
theorem dX12_tune_64 : decode cX12_tune 64 = .ok (.iload 5, 2) := by decide +kernel
theorem dX12_tune_66 : decode cX12_tune 66 = .ok (.iload 6, 2) := by decide +kernel
theorem dX12_tune_68 : decode cX12_tune 68 = .ok (.invokevirtual 298, 3) := by decide +kernel
theorem dX12_tune_71 : decode cX12_tune 71 = .ok (.istore 7, 2) := by decide +kernel
theorem dX12_tune_73 : decode cX12_tune 73 = .ok (.iload 7, 2) := by decide +kernel
theorem dX12_tune_75 : decode cX12_tune 75 = .ok (.ifCond .eq 20, 3) := by decide +kernel
theorem dX12_tune_78 : decode cX12_tune 78 = .ok (.iload 7, 2) := by decide +kernel
theorem dX12_tune_80 : decode cX12_tune 80 = .ok (.ifCond .ge 8, 3) := by decide +kernel
theorem dX12_tune_83 : decode cX12_tune 83 = .ok (.ldc 71, 2) := by decide +kernel
theorem dX12_tune_85 : decode cX12_tune 85 = .ok (.goto 9, 3) := by decide +kernel
theorem dX12_tune_88 : decode cX12_tune 88 = .ok (.aload_n 0, 1) := by decide +kernel
theorem dX12_tune_89 : decode cX12_tune 89 = .ok (.iload 7, 2) := by decide +kernel
theorem dX12_tune_91 : decode cX12_tune 91 = .ok (.invokevirtual 72, 3) := by decide +kernel
theorem dX12_tune_94 : decode cX12_tune 94 = .ok (.ireturn, 1) := by decide +kernel
theorem dX12_tune_95 : decode cX12_tune 95 = .ok (.aload_n 0, 1) := by decide +kernel
theorem dX12_tune_96 : decode cX12_tune 96 = .ok (.iconst 0, 1) := by decide +kernel
theorem dX12_tune_97 : decode cX12_tune 97 = .ok (.putfield 55, 3) := by decide +kernel
theorem dX12_tune_100 : decode cX12_tune 100 = .ok (.ldc2_w 304, 3) := by decide +kernel
theorem dX12_tune_103 : decode cX12_tune 103 = .ok (.lstore 8, 2) := by decide +kernel
theorem dX12_tune_105 : decode cX12_tune 105 = .ok (.iload 6, 2) := by decide +kernel
theorem dX12_tune_107 : decode cX12_tune 107 = .ok (.iconst 1, 1) := by decide +kernel
theorem dX12_tune_108 : decode cX12_tune 108 = .ok (.if_icmp .ne 8, 3) := by decide +kernel
theorem dX12_tune_111 : decode cX12_tune 111 = .ok (.bipush 10, 2) := by decide +kernel
theorem dX12_tune_113 : decode cX12_tune 113 = .ok (.goto 17, 3) := by decide +kernel
theorem dX12_tune_116 : decode cX12_tune 116 = .ok (.iload 6, 2) := by decide +kernel
theorem dX12_tune_118 : decode cX12_tune 118 = .ok (.iconst 2, 1) := by decide +kernel
theorem dX12_tune_119 : decode cX12_tune 119 = .ok (.if_icmp .ne 8, 3) := by decide +kernel
theorem dX12_tune_122 : decode cX12_tune 122 = .ok (.bipush 100, 2) := by decide +kernel
theorem dX12_tune_124 : decode cX12_tune 124 = .ok (.goto 6, 3) := by decide +kernel
theorem dX12_tune_127 : decode cX12_tune 127 = .ok (.sipush 1000, 3) := by decide +kernel
theorem dX12_tune_130 : decode cX12_tune 130 = .ok (.istore 10, 2) := by decide +kernel
theorem dX12_tune_132 : decode cX12_tune 132 = .ok (.iconst 0, 1) := by decide +kernel
theorem dX12_tune_133 : decode cX12_tune 133 = .ok (.istore 11, 2) := by decide +kernel
theorem dX12_tune_135 : decode cX12_tune 135 = .ok (.iload 11, 2) := by decide +kernel
theorem dX12_tune_137 : decode cX12_tune 137 = .ok (.iload 10, 2) := by decide +kernel
theorem dX12_tune_139 : decode cX12_tune 139 = .ok (.if_icmp .ge 120, 3) := by decide +kernel
theorem dX12_tune_142 : decode cX12_tune 142 = .ok (.aload_n 0, 1) := by decide +kernel
theorem dX12_tune_143 : decode cX12_tune 143 = .ok (.iload_n 1, 1) := by decide +kernel
theorem dX12_tune_144 : decode cX12_tune 144 = .ok (.iload_n 2, 1) := by decide +kernel
theorem dX12_tune_145 : decode cX12_tune 145 = .ok (.iload_n 3, 1) := by decide +kernel
theorem dX12_tune_146 : decode cX12_tune 146 = .ok (.iload 11, 2) := by decide +kernel
theorem dX12_tune_148 : decode cX12_tune 148 = .ok (.iload 6, 2) := by decide +kernel
theorem dX12_tune_150 : decode cX12_tune 150 = .ok (.invokevirtual 306, 3) := by decide +kernel
theorem dX12_tune_153 : decode cX12_tune 153 = .ok (.lconst 0, 1) := by decide +kernel
theorem dX12_tune_154 : decode cX12_tune 154 = .ok (.lstore 12, 2) := by decide +kernel
theorem dX12_tune_156 : decode cX12_tune 156 = .ok (.iconst 0, 1) := by decide +kernel
theorem dX12_tune_157 : decode cX12_tune 157 = .ok (.istore 14, 2) := by decide +kernel
theorem dX12_tune_159 : decode cX12_tune 159 = .ok (.iload 14, 2) := by decide +kernel
theorem dX12_tune_161 : decode cX12_tune 161 = .ok (.iload 6, 2) := by decide +kernel
theorem dX12_tune_163 : decode cX12_tune 163 = .ok (.if_icmp .ge 65, 3) := by decide +kernel
theorem dX12_tune_166 : decode cX12_tune 166 = .ok (.aload_n 0, 1) := by decide +kernel
theorem dX12_tune_167 : decode cX12_tune 167 = .ok (.getfield 36, 3) := by decide +kernel
theorem dX12_tune_170 : decode cX12_tune 170 = .ok (.iload 14, 2) := by decide +kernel
theorem dX12_tune_172 : decode cX12_tune 172 = .ok (.iaload, 1) := by decide +kernel
theorem dX12_tune_173 : decode cX12_tune 173 = .ok (.i2l, 1) := by decide +kernel
theorem dX12_tune_174 : decode cX12_tune 174 = .ok (.aload_n 0, 1) := by decide +kernel
theorem dX12_tune_175 : decode cX12_tune 175 = .ok (.iload_n 1, 1) := by decide +kernel
theorem dX12_tune_176 : decode cX12_tune 176 = .ok (.iconst 2, 1) := by decide +kernel
theorem dX12_tune_177 : decode cX12_tune 177 = .ok (.invokevirtual 229, 3) := by decide +kernel
theorem dX12_tune_180 : decode cX12_tune 180 = .ok (.i2l, 1) := by decide +kernel
theorem dX12_tune_181 : decode cX12_tune 181 = .ok (.lmul, 1) := by decide +kernel
theorem dX12_tune_182 : decode cX12_tune 182 = .ok (.aload_n 0, 1) := by decide +kernel
theorem dX12_tune_183 : decode cX12_tune 183 = .ok (.getfield 16, 3) := by decide +kernel
theorem dX12_tune_186 : decode cX12_tune 186 = .ok (.bipush 40, 2) := by decide +kernel
theorem dX12_tune_188 : decode cX12_tune 188 = .ok (.iload 4, 2) := by decide +kernel
theorem dX12_tune_190 : decode cX12_tune 190 = .ok (.imul, 1) := by decide +kernel
theorem dX12_tune_191 : decode cX12_tune 191 = .ok (.iload 5, 2) := by decide +kernel
theorem dX12_tune_193 : decode cX12_tune 193 = .ok (.iadd, 1) := by decide +kernel
theorem dX12_tune_194 : decode cX12_tune 194 = .ok (.iload 14, 2) := by decide +kernel
theorem dX12_tune_196 : decode cX12_tune 196 = .ok (.iadd, 1) := by decide +kernel
theorem dX12_tune_197 : decode cX12_tune 197 = .ok (.iaload, 1) := by decide +kernel
theorem dX12_tune_198 : decode cX12_tune 198 = .ok (.i2l, 1) := by decide +kernel
theorem dX12_tune_199 : decode cX12_tune 199 = .ok (.lsub, 1) := by decide +kernel
theorem dX12_tune_200 : decode cX12_tune 200 = .ok (.lstore 15, 2) := by decide +kernel
theorem dX12_tune_202 : decode cX12_tune 202 = .ok (.lload 12, 2) := by decide +kernel
theorem dX12_tune_204 : decode cX12_tune 204 = .ok (.lload 15, 2) := by decide +kernel
theorem dX12_tune_206 : decode cX12_tune 206 = .ok (.lconst 0, 1) := by decide +kernel
theorem dX12_tune_207 : decode cX12_tune 207 = .ok (.lcmp, 1) := by decide +kernel
theorem dX12_tune_208 : decode cX12_tune 208 = .ok (.ifCond .ge 9, 3) := by decide +kernel
theorem dX12_tune_211 : decode cX12_tune 211 = .ok (.lload 15, 2) := by decide +kernel
theorem dX12_tune_213 : decode cX12_tune 213 = .ok (.lneg, 1) := by decide +kernel
theorem dX12_tune_214 : decode cX12_tune 214 = .ok (.goto 5, 3) := by decide +kernel
theorem dX12_tune_217 : decode cX12_tune 217 = .ok (.lload 15, 2) := by decide +kernel
theorem dX12_tune_219 : decode cX12_tune 219 = .ok (.ladd, 1) := by decide +kernel
theorem dX12_tune_220 : decode cX12_tune 220 = .ok (.lstore 12, 2) := by decide +kernel
theorem dX12_tune_222 : decode cX12_tune 222 = .ok (.iinc 14 1, 3) := by decide +kernel
theorem dX12_tune_225 : decode cX12_tune 225 = .ok (.goto (-66), 3) := by decide +kernel
theorem dX12_tune_228 : decode cX12_tune 228 = .ok (.lload 8, 2) := by decide +kernel
theorem dX12_tune_230 : decode cX12_tune 230 = .ok (.lconst 0, 1) := by decide +kernel
theorem dX12_tune_231 : decode cX12_tune 231 = .ok (.lcmp, 1) := by decide +kernel
theorem dX12_tune_232 : decode cX12_tune 232 = .ok (.ifCond .lt 11, 3) := by decide +kernel
theorem dX12_tune_235 : decode cX12_tune 235 = .ok (.lload 12, 2) := by decide +kernel
theorem dX12_tune_237 : decode cX12_tune 237 = .ok (.lload 8, 2) := by decide +kernel
theorem dX12_tune_239 : decode cX12_tune 239 = .ok (.lcmp, 1) := by decide +kernel
theorem dX12_tune_240 : decode cX12_tune 240 = .ok (.ifCond .ge 13, 3) := by decide +kernel
theorem dX12_tune_243 : decode cX12_tune 243 = .ok (.lload 12, 2) := by decide +kernel
theorem dX12_tune_245 : decode cX12_tune 245 = .ok (.lstore 8, 2) := by decide +kernel
theorem dX12_tune_247 : decode cX12_tune 247 = .ok (.aload_n 0, 1) := by decide +kernel
theorem dX12_tune_248 : decode cX12_tune 248 = .ok (.iload 11, 2) := by decide +kernel
theorem dX12_tune_250 : decode cX12_tune 250 = .ok (.putfield 32, 3) := by decide +kernel
theorem dX12_tune_253 : decode cX12_tune 253 = .ok (.iinc 11 1, 3) := by decide +kernel
theorem dX12_tune_256 : decode cX12_tune 256 = .ok (.goto (-121), 3) := by decide +kernel
theorem dX12_tune_259 : decode cX12_tune 259 = .ok (.lload 8, 2) := by decide +kernel
theorem dX12_tune_261 : decode cX12_tune 261 = .ok (.l2i, 1) := by decide +kernel
theorem dX12_tune_262 : decode cX12_tune 262 = .ok (.ireturn, 1) := by decide +kernel
theorem dX12_forces_0 : decode cX12_forces 0 = .ok (.aload_n 0, 1) := by decide +kernel
theorem dX12_forces_1 : decode cX12_forces 1 = .ok (.iconst 0, 1) := by decide +kernel
theorem dX12_forces_2 : decode cX12_forces 2 = .ok (.putfield 52, 3) := by decide +kernel
theorem dX12_forces_5 : decode cX12_forces 5 = .ok (.aload_n 0, 1) := by decide +kernel
theorem dX12_forces_6 : decode cX12_forces 6 = .ok (.getfield 32, 3) := by decide +kernel
theorem dX12_forces_9 : decode cX12_forces 9 = .ok (.ireturn, 1) := by decide +kernel
set_option maxRecDepth 20000 in
theorem ggX12_image_X12_in : GoodIn wsX12_image wsX12_in := goodIn_r _ [13] (by decide +kernel) (by decide +kernel)
set_option maxRecDepth 20000 in
theorem gX12_image_X12_in : GoodIn wsX12_image (va_wsS RX12 61 yX12_in wsX12_in) := goodIn_app (goodIn_of _ (by decide +kernel)) ggX12_image_X12_in
theorem dX12_image_0 : decode cX12_image 0 = .ok (.aload_n 0, 1) := by decide +kernel
theorem dX12_image_1 : decode cX12_image 1 = .ok (.iconst 0, 1) := by decide +kernel
theorem dX12_image_2 : decode cX12_image 2 = .ok (.putfield 52, 3) := by decide +kernel
theorem dX12_image_5 : decode cX12_image 5 = .ok (.iload_n 1, 1) := by decide +kernel
theorem dX12_image_6 : decode cX12_image 6 = .ok (.i2l, 1) := by decide +kernel
theorem dX12_image_7 : decode cX12_image 7 = .ok (.lconst 0, 1) := by decide +kernel
theorem dX12_image_8 : decode cX12_image 8 = .ok (.lconst 1, 1) := by decide +kernel
theorem dX12_image_9 : decode cX12_image 9 = .ok (.invokestatic 61, 3) := by decide +kernel
theorem dX12_image_12 : decode cX12_image 12 = .ok (.ifCond .ne 6, 3) := by decide +kernel
theorem dX12_image_15 : decode cX12_image 15 = .ok (.ldc 71, 2) := by decide +kernel
theorem dX12_image_17 : decode cX12_image 17 = .ok (.ireturn, 1) := by decide +kernel
theorem dX12_image_18 : decode cX12_image 18 = .ok (.aload_n 0, 1) := by decide +kernel
theorem dX12_image_19 : decode cX12_image 19 = .ok (.getfield 196, 3) := by decide +kernel
theorem dX12_image_22 : decode cX12_image 22 = .ok (.ifCond .ne 6, 3) := by decide +kernel
theorem dX12_image_25 : decode cX12_image 25 = .ok (.ldc 255, 2) := by decide +kernel
theorem dX12_image_27 : decode cX12_image 27 = .ok (.ireturn, 1) := by decide +kernel
theorem dX12_image_28 : decode cX12_image 28 = .ok (.iconst 0, 1) := by decide +kernel
theorem dX12_image_29 : decode cX12_image 29 = .ok (.istore_n 2, 1) := by decide +kernel
theorem dX12_image_30 : decode cX12_image 30 = .ok (.iload_n 2, 1) := by decide +kernel
theorem dX12_image_31 : decode cX12_image 31 = .ok (.sipush 131, 3) := by decide +kernel
theorem dX12_image_34 : decode cX12_image 34 = .ok (.if_icmp .ge 27, 3) := by decide +kernel
theorem dX12_image_37 : decode cX12_image 37 = .ok (.aload_n 0, 1) := by decide +kernel
theorem dX12_image_38 : decode cX12_image 38 = .ok (.getfield 43, 3) := by decide +kernel
theorem dX12_image_41 : decode cX12_image 41 = .ok (.sipush 131, 3) := by decide +kernel
theorem dX12_image_44 : decode cX12_image 44 = .ok (.iload_n 1, 1) := by decide +kernel
theorem dX12_image_45 : decode cX12_image 45 = .ok (.imul, 1) := by decide +kernel
theorem dX12_image_46 : decode cX12_image 46 = .ok (.iload_n 2, 1) := by decide +kernel
theorem dX12_image_47 : decode cX12_image 47 = .ok (.iadd, 1) := by decide +kernel
theorem dX12_image_48 : decode cX12_image 48 = .ok (.aload_n 0, 1) := by decide +kernel
theorem dX12_image_49 : decode cX12_image 49 = .ok (.getfield 19, 3) := by decide +kernel
theorem dX12_image_52 : decode cX12_image 52 = .ok (.iload_n 2, 1) := by decide +kernel
theorem dX12_image_53 : decode cX12_image 53 = .ok (.iaload, 1) := by decide +kernel
theorem dX12_image_54 : decode cX12_image 54 = .ok (.iastore, 1) := by decide +kernel
theorem dX12_image_55 : decode cX12_image 55 = .ok (.iinc 2 1, 3) := by decide +kernel
theorem dX12_image_58 : decode cX12_image 58 = .ok (.goto (-28), 3) := by decide +kernel
theorem dX12_image_61 : decode cX12_image 61 = .ok (.iconst 0, 1) := by decide +kernel
theorem dX12_image_62 : decode cX12_image 62 = .ok (.istore_n 2, 1) := by decide +kernel
theorem dX12_image_63 : decode cX12_image 63 = .ok (.iload_n 2, 1) := by decide +kernel
theorem dX12_image_64 : decode cX12_image 64 = .ok (.bipush 12, 2) := by decide +kernel
theorem dX12_image_66 : decode cX12_image 66 = .ok (.if_icmp .ge 26, 3) := by decide +kernel
theorem dX12_image_69 : decode cX12_image 69 = .ok (.aload_n 0, 1) := by decide +kernel
theorem dX12_image_70 : decode cX12_image 70 = .ok (.getfield 46, 3) := by decide +kernel
theorem dX12_image_73 : decode cX12_image 73 = .ok (.bipush 12, 2) := by decide +kernel
theorem dX12_image_75 : decode cX12_image 75 = .ok (.iload_n 1, 1) := by decide +kernel
theorem dX12_image_76 : decode cX12_image 76 = .ok (.imul, 1) := by decide +kernel
theorem dX12_image_77 : decode cX12_image 77 = .ok (.iload_n 2, 1) := by decide +kernel
theorem dX12_image_78 : decode cX12_image 78 = .ok (.iadd, 1) := by decide +kernel
theorem dX12_image_79 : decode cX12_image 79 = .ok (.aload_n 0, 1) := by decide +kernel
theorem dX12_image_80 : decode cX12_image 80 = .ok (.getfield 28, 3) := by decide +kernel
theorem dX12_image_83 : decode cX12_image 83 = .ok (.iload_n 2, 1) := by decide +kernel
theorem dX12_image_84 : decode cX12_image 84 = .ok (.iaload, 1) := by decide +kernel
theorem dX12_image_85 : decode cX12_image 85 = .ok (.iastore, 1) := by decide +kernel
theorem dX12_image_86 : decode cX12_image 86 = .ok (.iinc 2 1, 3) := by decide +kernel
theorem dX12_image_89 : decode cX12_image 89 = .ok (.goto (-26), 3) := by decide +kernel
theorem dX12_image_92 : decode cX12_image 92 = .ok (.aload_n 0, 1) := by decide +kernel
theorem dX12_image_93 : decode cX12_image 93 = .ok (.getfield 39, 3) := by decide +kernel
theorem dX12_image_96 : decode cX12_image 96 = .ok (.iload_n 1, 1) := by decide +kernel
theorem dX12_image_97 : decode cX12_image 97 = .ok (.iconst 1, 1) := by decide +kernel
theorem dX12_image_98 : decode cX12_image 98 = .ok (.bastore, 1) := by decide +kernel
theorem dX12_image_99 : decode cX12_image 99 = .ok (.iconst 1, 1) := by decide +kernel
theorem dX12_image_100 : decode cX12_image 100 = .ok (.ireturn, 1) := by decide +kernel
set_option maxRecDepth 20000 in
theorem ggX12_restore_X12_in : GoodIn wsX12_restore wsX12_in := goodIn_r _ [12] (by decide +kernel) (by decide +kernel)
set_option maxRecDepth 20000 in
theorem gX12_restore_X12_in : GoodIn wsX12_restore (va_wsS RX12 61 yX12_in wsX12_in) := goodIn_app (goodIn_of _ (by decide +kernel)) ggX12_restore_X12_in
theorem dX12_restore_0 : decode cX12_restore 0 = .ok (.aload_n 0, 1) := by decide +kernel
theorem dX12_restore_1 : decode cX12_restore 1 = .ok (.iconst 0, 1) := by decide +kernel
theorem dX12_restore_2 : decode cX12_restore 2 = .ok (.putfield 52, 3) := by decide +kernel
theorem dX12_restore_5 : decode cX12_restore 5 = .ok (.iload_n 1, 1) := by decide +kernel
theorem dX12_restore_6 : decode cX12_restore 6 = .ok (.i2l, 1) := by decide +kernel
theorem dX12_restore_7 : decode cX12_restore 7 = .ok (.lconst 0, 1) := by decide +kernel
theorem dX12_restore_8 : decode cX12_restore 8 = .ok (.lconst 1, 1) := by decide +kernel
theorem dX12_restore_9 : decode cX12_restore 9 = .ok (.invokestatic 61, 3) := by decide +kernel
theorem dX12_restore_12 : decode cX12_restore 12 = .ok (.ifCond .ne 6, 3) := by decide +kernel
theorem dX12_restore_15 : decode cX12_restore 15 = .ok (.ldc 71, 2) := by decide +kernel
theorem dX12_restore_17 : decode cX12_restore 17 = .ok (.ireturn, 1) := by decide +kernel
theorem dX12_restore_18 : decode cX12_restore 18 = .ok (.aload_n 0, 1) := by decide +kernel
theorem dX12_restore_19 : decode cX12_restore 19 = .ok (.getfield 39, 3) := by decide +kernel
theorem dX12_restore_22 : decode cX12_restore 22 = .ok (.iload_n 1, 1) := by decide +kernel
theorem dX12_restore_23 : decode cX12_restore 23 = .ok (.baload, 1) := by decide +kernel
theorem dX12_restore_24 : decode cX12_restore 24 = .ok (.ifCond .ne 6, 3) := by decide +kernel
theorem dX12_restore_27 : decode cX12_restore 27 = .ok (.ldc 255, 2) := by decide +kernel
theorem dX12_restore_29 : decode cX12_restore 29 = .ok (.ireturn, 1) := by decide +kernel
theorem dX12_restore_30 : decode cX12_restore 30 = .ok (.iconst 0, 1) := by decide +kernel
theorem dX12_restore_31 : decode cX12_restore 31 = .ok (.istore_n 2, 1) := by decide +kernel
theorem dX12_restore_32 : decode cX12_restore 32 = .ok (.iload_n 2, 1) := by decide +kernel
theorem dX12_restore_33 : decode cX12_restore 33 = .ok (.sipush 131, 3) := by decide +kernel
theorem dX12_restore_36 : decode cX12_restore 36 = .ok (.if_icmp .ge 27, 3) := by decide +kernel
theorem dX12_restore_39 : decode cX12_restore 39 = .ok (.aload_n 0, 1) := by decide +kernel
theorem dX12_restore_40 : decode cX12_restore 40 = .ok (.getfield 19, 3) := by decide +kernel
theorem dX12_restore_43 : decode cX12_restore 43 = .ok (.iload_n 2, 1) := by decide +kernel
theorem dX12_restore_44 : decode cX12_restore 44 = .ok (.aload_n 0, 1) := by decide +kernel
theorem dX12_restore_45 : decode cX12_restore 45 = .ok (.getfield 43, 3) := by decide +kernel
theorem dX12_restore_48 : decode cX12_restore 48 = .ok (.sipush 131, 3) := by decide +kernel
theorem dX12_restore_51 : decode cX12_restore 51 = .ok (.iload_n 1, 1) := by decide +kernel
theorem dX12_restore_52 : decode cX12_restore 52 = .ok (.imul, 1) := by decide +kernel
theorem dX12_restore_53 : decode cX12_restore 53 = .ok (.iload_n 2, 1) := by decide +kernel
theorem dX12_restore_54 : decode cX12_restore 54 = .ok (.iadd, 1) := by decide +kernel
theorem dX12_restore_55 : decode cX12_restore 55 = .ok (.iaload, 1) := by decide +kernel
theorem dX12_restore_56 : decode cX12_restore 56 = .ok (.iastore, 1) := by decide +kernel
theorem dX12_restore_57 : decode cX12_restore 57 = .ok (.iinc 2 1, 3) := by decide +kernel
theorem dX12_restore_60 : decode cX12_restore 60 = .ok (.goto (-28), 3) := by decide +kernel
theorem dX12_restore_63 : decode cX12_restore 63 = .ok (.iconst 0, 1) := by decide +kernel
theorem dX12_restore_64 : decode cX12_restore 64 = .ok (.istore_n 2, 1) := by decide +kernel
theorem dX12_restore_65 : decode cX12_restore 65 = .ok (.iload_n 2, 1) := by decide +kernel
theorem dX12_restore_66 : decode cX12_restore 66 = .ok (.bipush 12, 2) := by decide +kernel
theorem dX12_restore_68 : decode cX12_restore 68 = .ok (.if_icmp .ge 26, 3) := by decide +kernel
theorem dX12_restore_71 : decode cX12_restore 71 = .ok (.aload_n 0, 1) := by decide +kernel
theorem dX12_restore_72 : decode cX12_restore 72 = .ok (.getfield 28, 3) := by decide +kernel
theorem dX12_restore_75 : decode cX12_restore 75 = .ok (.iload_n 2, 1) := by decide +kernel
theorem dX12_restore_76 : decode cX12_restore 76 = .ok (.aload_n 0, 1) := by decide +kernel
theorem dX12_restore_77 : decode cX12_restore 77 = .ok (.getfield 46, 3) := by decide +kernel
theorem dX12_restore_80 : decode cX12_restore 80 = .ok (.bipush 12, 2) := by decide +kernel
theorem dX12_restore_82 : decode cX12_restore 82 = .ok (.iload_n 1, 1) := by decide +kernel
theorem dX12_restore_83 : decode cX12_restore 83 = .ok (.imul, 1) := by decide +kernel
theorem dX12_restore_84 : decode cX12_restore 84 = .ok (.iload_n 2, 1) := by decide +kernel
theorem dX12_restore_85 : decode cX12_restore 85 = .ok (.iadd, 1) := by decide +kernel
theorem dX12_restore_86 : decode cX12_restore 86 = .ok (.iaload, 1) := by decide +kernel
theorem dX12_restore_87 : decode cX12_restore 87 = .ok (.iastore, 1) := by decide +kernel
theorem dX12_restore_88 : decode cX12_restore 88 = .ok (.iinc 2 1, 3) := by decide +kernel
theorem dX12_restore_91 : decode cX12_restore 91 = .ok (.goto (-26), 3) := by decide +kernel
theorem dX12_restore_94 : decode cX12_restore 94 = .ok (.iconst 1, 1) := by decide +kernel
theorem dX12_restore_95 : decode cX12_restore 95 = .ok (.ireturn, 1) := by decide +kernel
theorem dX12_isOf_0 : decode cX12_isOf 0 = .ok (.iload_n 1, 1) := by decide +kernel
theorem dX12_isOf_1 : decode cX12_isOf 1 = .ok (.ifCond .eq 28, 3) := by decide +kernel
theorem dX12_isOf_4 : decode cX12_isOf 4 = .ok (.iload_n 0, 1) := by decide +kernel
theorem dX12_isOf_5 : decode cX12_isOf 5 = .ok (.iload_n 1, 1) := by decide +kernel
theorem dX12_isOf_6 : decode cX12_isOf 6 = .ok (.if_icmp .eq 23, 3) := by decide +kernel
theorem dX12_isOf_9 : decode cX12_isOf 9 = .ok (.iload_n 1, 1) := by decide +kernel
theorem dX12_isOf_10 : decode cX12_isOf 10 = .ok (.iconst 2, 1) := by decide +kernel
theorem dX12_isOf_11 : decode cX12_isOf 11 = .ok (.if_icmp .ne 8, 3) := by decide +kernel
theorem dX12_isOf_14 : decode cX12_isOf 14 = .ok (.iload_n 0, 1) := by decide +kernel
theorem dX12_isOf_15 : decode cX12_isOf 15 = .ok (.iconst 4, 1) := by decide +kernel
theorem dX12_isOf_16 : decode cX12_isOf 16 = .ok (.if_icmp .eq 13, 3) := by decide +kernel
theorem dX12_isOf_19 : decode cX12_isOf 19 = .ok (.iload_n 1, 1) := by decide +kernel
theorem dX12_isOf_20 : decode cX12_isOf 20 = .ok (.iconst 3, 1) := by decide +kernel
theorem dX12_isOf_21 : decode cX12_isOf 21 = .ok (.if_icmp .ne 12, 3) := by decide +kernel
theorem dX12_isOf_24 : decode cX12_isOf 24 = .ok (.iload_n 0, 1) := by decide +kernel
theorem dX12_isOf_25 : decode cX12_isOf 25 = .ok (.iconst 5, 1) := by decide +kernel
theorem dX12_isOf_26 : decode cX12_isOf 26 = .ok (.if_icmp .ne 7, 3) := by decide +kernel
theorem dX12_isOf_29 : decode cX12_isOf 29 = .ok (.iconst 1, 1) := by decide +kernel
theorem dX12_isOf_30 : decode cX12_isOf 30 = .ok (.goto 4, 3) := by decide +kernel
theorem dX12_isOf_33 : decode cX12_isOf 33 = .ok (.iconst 0, 1) := by decide +kernel
theorem dX12_isOf_34 : decode cX12_isOf 34 = .ok (.ireturn, 1) := by decide +kernel
set_option maxRecDepth 20000 in
theorem ggX12_kindNow_X12_size : GoodIn wsX12_kindNow wsX12_size := goodIn_r _ [5] (by decide +kernel) (by decide +kernel)
set_option maxRecDepth 20000 in
theorem gX12_kindNow_X12_size : GoodIn wsX12_kindNow (va_wsS RX12 226 yX12_size wsX12_size) := goodIn_app (goodIn_of _ (by decide +kernel)) ggX12_kindNow_X12_size
set_option maxRecDepth 20000 in
theorem ggX12_kindNow_X12_threadOf : GoodIn wsX12_kindNow wsX12_threadOf := goodIn_r _ [9, 10, 11, 12, 13, 14, 15, 16, 17, 18, 19, 20, 21, 22, 23, 24, 25, 26, 27, 28, 29, 30, 31, 32, 33, 34, 35, 36, 37, 38, 39, 40, 41, 42] (by decide +kernel) (by decide +kernel)
set_option maxRecDepth 20000 in
theorem gX12_kindNow_X12_threadOf : GoodIn wsX12_kindNow (wsV RX12 200 RX12 yX12_threadOf wsX12_threadOf) := goodIn_app (goodIn_of _ (by decide +kernel)) ggX12_kindNow_X12_threadOf
theorem dX12_kindNow_0 : decode cX12_kindNow 0 = .ok (.aload_n 0, 1) := by decide +kernel
theorem dX12_kindNow_1 : decode cX12_kindNow 1 = .ok (.getfield 28, 3) := by decide +kernel
theorem dX12_kindNow_4 : decode cX12_kindNow 4 = .ok (.iconst 4, 1) := by decide +kernel
theorem dX12_kindNow_5 : decode cX12_kindNow 5 = .ok (.iaload, 1) := by decide +kernel
theorem dX12_kindNow_6 : decode cX12_kindNow 6 = .ok (.istore_n 1, 1) := by decide +kernel
theorem dX12_kindNow_7 : decode cX12_kindNow 7 = .ok (.aload_n 0, 1) := by decide +kernel
theorem dX12_kindNow_8 : decode cX12_kindNow 8 = .ok (.getfield 28, 3) := by decide +kernel
theorem dX12_kindNow_11 : decode cX12_kindNow 11 = .ok (.iconst 5, 1) := by decide +kernel
theorem dX12_kindNow_12 : decode cX12_kindNow 12 = .ok (.iaload, 1) := by decide +kernel
theorem dX12_kindNow_13 : decode cX12_kindNow 13 = .ok (.istore_n 2, 1) := by decide +kernel
theorem dX12_kindNow_14 : decode cX12_kindNow 14 = .ok (.aload_n 0, 1) := by decide +kernel
theorem dX12_kindNow_15 : decode cX12_kindNow 15 = .ok (.getfield 28, 3) := by decide +kernel
theorem dX12_kindNow_18 : decode cX12_kindNow 18 = .ok (.bipush 7, 2) := by decide +kernel
theorem dX12_kindNow_20 : decode cX12_kindNow 20 = .ok (.iaload, 1) := by decide +kernel
theorem dX12_kindNow_21 : decode cX12_kindNow 21 = .ok (.iconst 1, 1) := by decide +kernel
theorem dX12_kindNow_22 : decode cX12_kindNow 22 = .ok (.if_icmp .ne 5, 3) := by decide +kernel
theorem dX12_kindNow_25 : decode cX12_kindNow 25 = .ok (.iconst 5, 1) := by decide +kernel
theorem dX12_kindNow_26 : decode cX12_kindNow 26 = .ok (.ireturn, 1) := by decide +kernel
theorem dX12_kindNow_27 : decode cX12_kindNow 27 = .ok (.iload_n 2, 1) := by decide +kernel
theorem dX12_kindNow_28 : decode cX12_kindNow 28 = .ok (.ifCond .ne 5, 3) := by decide +kernel
theorem dX12_kindNow_31 : decode cX12_kindNow 31 = .ok (.iconst 3, 1) := by decide +kernel
theorem dX12_kindNow_32 : decode cX12_kindNow 32 = .ok (.ireturn, 1) := by decide +kernel
theorem dX12_kindNow_33 : decode cX12_kindNow 33 = .ok (.iload_n 2, 1) := by decide +kernel
theorem dX12_kindNow_34 : decode cX12_kindNow 34 = .ok (.ifCond .ge 7, 3) := by decide +kernel
theorem dX12_kindNow_37 : decode cX12_kindNow 37 = .ok (.iload_n 1, 1) := by decide +kernel
theorem dX12_kindNow_38 : decode cX12_kindNow 38 = .ok (.ifCond .gt 11, 3) := by decide +kernel
theorem dX12_kindNow_41 : decode cX12_kindNow 41 = .ok (.iload_n 2, 1) := by decide +kernel
theorem dX12_kindNow_42 : decode cX12_kindNow 42 = .ok (.ifCond .le 11, 3) := by decide +kernel
theorem dX12_kindNow_45 : decode cX12_kindNow 45 = .ok (.iload_n 1, 1) := by decide +kernel
theorem dX12_kindNow_46 : decode cX12_kindNow 46 = .ok (.ifCond .ge 7, 3) := by decide +kernel
theorem dX12_kindNow_49 : decode cX12_kindNow 49 = .ok (.iconst 1, 1) := by decide +kernel
theorem dX12_kindNow_50 : decode cX12_kindNow 50 = .ok (.goto 26, 3) := by decide +kernel
theorem dX12_kindNow_53 : decode cX12_kindNow 53 = .ok (.iload_n 1, 1) := by decide +kernel
theorem dX12_kindNow_54 : decode cX12_kindNow 54 = .ok (.invokestatic 226, 3) := by decide +kernel
theorem dX12_kindNow_57 : decode cX12_kindNow 57 = .ok (.aload_n 0, 1) := by decide +kernel
theorem dX12_kindNow_58 : decode cX12_kindNow 58 = .ok (.aload_n 0, 1) := by decide +kernel
theorem dX12_kindNow_59 : decode cX12_kindNow 59 = .ok (.getfield 28, 3) := by decide +kernel
theorem dX12_kindNow_62 : decode cX12_kindNow 62 = .ok (.iconst 2, 1) := by decide +kernel
theorem dX12_kindNow_63 : decode cX12_kindNow 63 = .ok (.iaload, 1) := by decide +kernel
theorem dX12_kindNow_64 : decode cX12_kindNow 64 = .ok (.iconst 1, 1) := by decide +kernel
theorem dX12_kindNow_65 : decode cX12_kindNow 65 = .ok (.invokevirtual 200, 3) := by decide +kernel
theorem dX12_kindNow_68 : decode cX12_kindNow 68 = .ok (.if_icmp .le 7, 3) := by decide +kernel
theorem dX12_kindNow_71 : decode cX12_kindNow 71 = .ok (.iconst 4, 1) := by decide +kernel
theorem dX12_kindNow_72 : decode cX12_kindNow 72 = .ok (.goto 4, 3) := by decide +kernel
theorem dX12_kindNow_75 : decode cX12_kindNow 75 = .ok (.iconst 2, 1) := by decide +kernel
theorem dX12_kindNow_76 : decode cX12_kindNow 76 = .ok (.ireturn, 1) := by decide +kernel
set_option maxRecDepth 20000 in
theorem ggX12_kind_X12_kindNow : GoodIn wsX12_kind wsX12_kindNow := goodIn_r _ [8, 2, 9, 10, 7, 11, 12, 13, 14, 15, 16, 17, 18, 19, 20, 21, 22, 23, 24, 25, 26, 27, 28, 29, 30, 31, 32, 33, 34, 35, 36, 37, 38, 39, 40, 41, 42, 43, 44, 45, 46, 47, 48] (by decide +kernel) (by decide +kernel)
set_option maxRecDepth 20000 in
theorem gX12_kind_X12_kindNow : GoodIn wsX12_kind (wsV RX12 310 RX12 yX12_kindNow wsX12_kindNow) := goodIn_app (goodIn_of _ (by decide +kernel)) ggX12_kind_X12_kindNow
theorem dX12_kind_0 : decode cX12_kind 0 = .ok (.aload_n 0, 1) := by decide +kernel
theorem dX12_kind_1 : decode cX12_kind 1 = .ok (.iconst 0, 1) := by decide +kernel
theorem dX12_kind_2 : decode cX12_kind 2 = .ok (.putfield 52, 3) := by decide +kernel
theorem dX12_kind_5 : decode cX12_kind 5 = .ok (.aload_n 0, 1) := by decide +kernel
theorem dX12_kind_6 : decode cX12_kind 6 = .ok (.getfield 28, 3) := by decide +kernel
theorem dX12_kind_9 : decode cX12_kind 9 = .ok (.iconst 0, 1) := by decide +kernel
theorem dX12_kind_10 : decode cX12_kind 10 = .ok (.iaload, 1) := by decide +kernel
theorem dX12_kind_11 : decode cX12_kind 11 = .ok (.ifCond .ne 8, 3) := by decide +kernel
theorem dX12_kind_14 : decode cX12_kind 14 = .ok (.ldc 255, 2) := by decide +kernel
theorem dX12_kind_16 : decode cX12_kind 16 = .ok (.goto 7, 3) := by decide +kernel
theorem dX12_kind_19 : decode cX12_kind 19 = .ok (.aload_n 0, 1) := by decide +kernel
theorem dX12_kind_20 : decode cX12_kind 20 = .ok (.invokevirtual 310, 3) := by decide +kernel
theorem dX12_kind_23 : decode cX12_kind 23 = .ok (.ireturn, 1) := by decide +kernel
set_option maxRecDepth 20000 in
theorem ggX12_as_X12_in : GoodIn wsX12_as wsX12_in := goodIn_r _ [10] (by decide +kernel) (by decide +kernel)
set_option maxRecDepth 20000 in
theorem gX12_as_X12_in : GoodIn wsX12_as (va_wsS RX12 61 yX12_in wsX12_in) := goodIn_app (goodIn_of _ (by decide +kernel)) ggX12_as_X12_in
set_option maxRecDepth 20000 in
theorem ggX12_as_X12_kindNow : GoodIn wsX12_as wsX12_kindNow := goodIn_r _ [14, 2, 15, 16, 9, 17, 18, 19, 20, 21, 22, 31, 32, 33, 34, 35, 36, 37, 38, 39, 40, 41, 42, 43, 44, 45, 46, 47, 48, 49, 50, 51, 52, 53, 54, 55, 56, 57, 58, 59, 60, 61, 62] (by decide +kernel) (by decide +kernel)
set_option maxRecDepth 20000 in
theorem gX12_as_X12_kindNow : GoodIn wsX12_as (wsV RX12 310 RX12 yX12_kindNow wsX12_kindNow) := goodIn_app (goodIn_of _ (by decide +kernel)) ggX12_as_X12_kindNow
set_option maxRecDepth 20000 in
theorem ggX12_as_X12_isOf : GoodIn wsX12_as wsX12_isOf := goodIn_r _ [25] (by decide +kernel) (by decide +kernel)
set_option maxRecDepth 20000 in
theorem gX12_as_X12_isOf : GoodIn wsX12_as (va_wsS RX12 315 yX12_isOf wsX12_isOf) := goodIn_app (goodIn_of _ (by decide +kernel)) ggX12_as_X12_isOf
set_option maxRecDepth 20000 in
theorem ggX12_as_X12_finding : GoodIn wsX12_as wsX12_finding := goodIn_r _ [29, 6, 30, 31, 32, 33, 34, 35, 36, 37, 38, 39, 40, 41, 42, 43, 44, 45, 46, 47, 48, 49, 50, 51, 52, 53, 54, 55, 56, 57, 58, 59, 60, 61, 62] (by decide +kernel) (by decide +kernel)
set_option maxRecDepth 20000 in
theorem gX12_as_X12_finding : GoodIn wsX12_as (wsV RX12 72 RX12 yX12_finding wsX12_finding) := goodIn_app (goodIn_of _ (by decide +kernel)) ggX12_as_X12_finding
theorem dX12_as_0 : decode cX12_as 0 = .ok (.aload_n 0, 1) := by decide +kernel
theorem dX12_as_1 : decode cX12_as 1 = .ok (.iconst 0, 1) := by decide +kernel
theorem dX12_as_2 : decode cX12_as 2 = .ok (.putfield 52, 3) := by decide +kernel
theorem dX12_as_5 : decode cX12_as 5 = .ok (.aload_n 0, 1) := by decide +kernel
theorem dX12_as_6 : decode cX12_as 6 = .ok (.getfield 28, 3) := by decide +kernel
theorem dX12_as_9 : decode cX12_as 9 = .ok (.iconst 0, 1) := by decide +kernel
theorem dX12_as_10 : decode cX12_as 10 = .ok (.iaload, 1) := by decide +kernel
theorem dX12_as_11 : decode cX12_as 11 = .ok (.ifCond .ne 6, 3) := by decide +kernel
theorem dX12_as_14 : decode cX12_as 14 = .ok (.ldc 255, 2) := by decide +kernel
theorem dX12_as_16 : decode cX12_as 16 = .ok (.ireturn, 1) := by decide +kernel
theorem dX12_as_17 : decode cX12_as 17 = .ok (.iload_n 1, 1) := by decide +kernel
theorem dX12_as_18 : decode cX12_as 18 = .ok (.i2l, 1) := by decide +kernel
theorem dX12_as_19 : decode cX12_as 19 = .ok (.lconst 0, 1) := by decide +kernel
theorem dX12_as_20 : decode cX12_as 20 = .ok (.ldc2_w 313, 3) := by decide +kernel
theorem dX12_as_23 : decode cX12_as 23 = .ok (.invokestatic 61, 3) := by decide +kernel
theorem dX12_as_26 : decode cX12_as 26 = .ok (.ifCond .ne 6, 3) := by decide +kernel
theorem dX12_as_29 : decode cX12_as 29 = .ok (.ldc 71, 2) := by decide +kernel
theorem dX12_as_31 : decode cX12_as 31 = .ok (.ireturn, 1) := by decide +kernel
theorem dX12_as_32 : decode cX12_as 32 = .ok (.aload_n 0, 1) := by decide +kernel
theorem dX12_as_33 : decode cX12_as 33 = .ok (.iconst 0, 1) := by decide +kernel
theorem dX12_as_34 : decode cX12_as 34 = .ok (.putfield 55, 3) := by decide +kernel
theorem dX12_as_37 : decode cX12_as 37 = .ok (.aload_n 0, 1) := by decide +kernel
theorem dX12_as_38 : decode cX12_as 38 = .ok (.invokevirtual 310, 3) := by decide +kernel
theorem dX12_as_41 : decode cX12_as 41 = .ok (.iload_n 1, 1) := by decide +kernel
theorem dX12_as_42 : decode cX12_as 42 = .ok (.invokestatic 315, 3) := by decide +kernel
theorem dX12_as_45 : decode cX12_as 45 = .ok (.ifCond .eq 13, 3) := by decide +kernel
theorem dX12_as_48 : decode cX12_as 48 = .ok (.aload_n 0, 1) := by decide +kernel
theorem dX12_as_49 : decode cX12_as 49 = .ok (.getfield 28, 3) := by decide +kernel
theorem dX12_as_52 : decode cX12_as 52 = .ok (.bipush 6, 2) := by decide +kernel
theorem dX12_as_54 : decode cX12_as 54 = .ok (.iaload, 1) := by decide +kernel
theorem dX12_as_55 : decode cX12_as 55 = .ok (.goto 8, 3) := by decide +kernel
theorem dX12_as_58 : decode cX12_as 58 = .ok (.aload_n 0, 1) := by decide +kernel
theorem dX12_as_59 : decode cX12_as 59 = .ok (.iconst 3, 1) := by decide +kernel
theorem dX12_as_60 : decode cX12_as 60 = .ok (.invokevirtual 72, 3) := by decide +kernel
theorem dX12_as_63 : decode cX12_as 63 = .ok (.ireturn, 1) := by decide +kernel
theorem dX12_began_0 : decode cX12_began 0 = .ok (.aload_n 0, 1) := by decide +kernel
theorem dX12_began_1 : decode cX12_began 1 = .ok (.getfield 319, 3) := by decide +kernel
theorem dX12_began_4 : decode cX12_began 4 = .ok (.bipush 16, 2) := by decide +kernel
theorem dX12_began_6 : decode cX12_began 6 = .ok (.if_icmp .ge 23, 3) := by decide +kernel
theorem dX12_began_9 : decode cX12_began 9 = .ok (.aload_n 0, 1) := by decide +kernel
theorem dX12_began_10 : decode cX12_began 10 = .ok (.getfield 49, 3) := by decide +kernel
theorem dX12_began_13 : decode cX12_began 13 = .ok (.aload_n 0, 1) := by decide +kernel
theorem dX12_began_14 : decode cX12_began 14 = .ok (.getfield 319, 3) := by decide +kernel
theorem dX12_began_17 : decode cX12_began 17 = .ok (.iload_n 1, 1) := by decide +kernel
theorem dX12_began_18 : decode cX12_began 18 = .ok (.iastore, 1) := by decide +kernel
theorem dX12_began_19 : decode cX12_began 19 = .ok (.aload_n 0, 1) := by decide +kernel
theorem dX12_began_20 : decode cX12_began 20 = .ok (.dup, 1) := by decide +kernel
theorem dX12_began_21 : decode cX12_began 21 = .ok (.getfield 319, 3) := by decide +kernel
theorem dX12_began_24 : decode cX12_began 24 = .ok (.iconst 1, 1) := by decide +kernel
theorem dX12_began_25 : decode cX12_began 25 = .ok (.iadd, 1) := by decide +kernel
theorem dX12_began_26 : decode cX12_began 26 = .ok (.putfield 319, 3) := by decide +kernel
theorem dX12_began_29 : decode cX12_began 29 = .ok (.return_, 1) := by decide +kernel
set_option maxRecDepth 20000 in
theorem ggX12_plainSize_X12_began : GoodIn wsX12_plainSize wsX12_began := goodIn_r _ [6, 7, 8, 12, 13, 14, 15, 16, 17, 18, 19, 20, 21, 22, 23, 24, 25, 26, 27, 28, 29, 30, 31, 32, 33, 34, 35, 36, 37, 38, 39, 40, 41, 42, 43] (by decide +kernel) (by decide +kernel)
set_option maxRecDepth 20000 in
theorem gX12_plainSize_X12_began : GoodIn wsX12_plainSize (wsV RX12 322 RX12 yX12_began wsX12_began) := goodIn_app (goodIn_of _ (by decide +kernel)) ggX12_plainSize_X12_began
set_option maxRecDepth 20000 in
theorem ggX12_plainSize_X12_size : GoodIn wsX12_plainSize wsX12_size := goodIn_r _ [11] (by decide +kernel) (by decide +kernel)
set_option maxRecDepth 20000 in
theorem gX12_plainSize_X12_size : GoodIn wsX12_plainSize (va_wsS RX12 226 yX12_size wsX12_size) := goodIn_app (goodIn_of _ (by decide +kernel)) ggX12_plainSize_X12_size
theorem dX12_plainSize_0 : decode cX12_plainSize 0 = .ok (.aload_n 0, 1) := by decide +kernel
theorem dX12_plainSize_1 : decode cX12_plainSize 1 = .ok (.bipush 10, 2) := by decide +kernel
theorem dX12_plainSize_3 : decode cX12_plainSize 3 = .ok (.invokevirtual 322, 3) := by decide +kernel
theorem dX12_plainSize_6 : decode cX12_plainSize 6 = .ok (.aload_n 0, 1) := by decide +kernel
theorem dX12_plainSize_7 : decode cX12_plainSize 7 = .ok (.getfield 28, 3) := by decide +kernel
theorem dX12_plainSize_10 : decode cX12_plainSize 10 = .ok (.iconst 4, 1) := by decide +kernel
theorem dX12_plainSize_11 : decode cX12_plainSize 11 = .ok (.iaload, 1) := by decide +kernel
theorem dX12_plainSize_12 : decode cX12_plainSize 12 = .ok (.invokestatic 226, 3) := by decide +kernel
theorem dX12_plainSize_15 : decode cX12_plainSize 15 = .ok (.ireturn, 1) := by decide +kernel
set_option maxRecDepth 20000 in
theorem ggX12_plainMark_X12_began : GoodIn wsX12_plainMark wsX12_began := goodIn_r _ [6, 7, 8, 9, 10, 11, 12, 13, 14, 15, 16, 17, 18, 19, 20, 21, 22, 23, 24, 25, 26, 27, 28, 29, 30, 31, 32, 33, 34, 35, 36, 37, 38, 39, 40] (by decide +kernel) (by decide +kernel)
set_option maxRecDepth 20000 in
theorem gX12_plainMark_X12_began : GoodIn wsX12_plainMark (wsV RX12 322 RX12 yX12_began wsX12_began) := goodIn_app (goodIn_of _ (by decide +kernel)) ggX12_plainMark_X12_began
theorem dX12_plainMark_0 : decode cX12_plainMark 0 = .ok (.aload_n 0, 1) := by decide +kernel
theorem dX12_plainMark_1 : decode cX12_plainMark 1 = .ok (.bipush 20, 2) := by decide +kernel
theorem dX12_plainMark_3 : decode cX12_plainMark 3 = .ok (.invokevirtual 322, 3) := by decide +kernel
theorem dX12_plainMark_6 : decode cX12_plainMark 6 = .ok (.aload_n 0, 1) := by decide +kernel
theorem dX12_plainMark_7 : decode cX12_plainMark 7 = .ok (.getfield 28, 3) := by decide +kernel
theorem dX12_plainMark_10 : decode cX12_plainMark 10 = .ok (.bipush 6, 2) := by decide +kernel
theorem dX12_plainMark_12 : decode cX12_plainMark 12 = .ok (.iaload, 1) := by decide +kernel
theorem dX12_plainMark_13 : decode cX12_plainMark 13 = .ok (.ireturn, 1) := by decide +kernel
set_option maxRecDepth 20000 in
theorem ggX12_windMark_X12_began : GoodIn wsX12_windMark wsX12_began := goodIn_r _ [6, 7, 8, 16, 17, 18, 19, 20, 21, 22, 23, 24, 25, 26, 27, 28, 29, 30, 31, 32, 33, 34, 35, 36, 37, 38, 39, 40, 41, 42, 43, 44, 45, 46, 47] (by decide +kernel) (by decide +kernel)
set_option maxRecDepth 20000 in
theorem gX12_windMark_X12_began : GoodIn wsX12_windMark (wsV RX12 322 RX12 yX12_began wsX12_began) := goodIn_app (goodIn_of _ (by decide +kernel)) ggX12_windMark_X12_began
set_option maxRecDepth 20000 in
theorem ggX12_windMark_X12_plainMark : GoodIn wsX12_windMark wsX12_plainMark := goodIn_r _ [12, 1, 2, 3, 4, 5, 6, 7, 8, 16, 17, 18, 19, 20, 21, 22, 23, 24, 25, 26, 27, 28, 29, 30, 31, 32, 33, 34, 35, 36, 37, 38, 39, 40, 41, 42, 43, 44, 45, 46, 47] (by decide +kernel) (by decide +kernel)
set_option maxRecDepth 20000 in
theorem gX12_windMark_X12_plainMark : GoodIn wsX12_windMark (wsV RX12 325 RX12 yX12_plainMark wsX12_plainMark) := goodIn_app (goodIn_of _ (by decide +kernel)) ggX12_windMark_X12_plainMark
set_option maxRecDepth 20000 in
theorem ggX12_windMark_X12_size : GoodIn wsX12_windMark wsX12_size := goodIn_r _ [15] (by decide +kernel) (by decide +kernel)
set_option maxRecDepth 20000 in
theorem gX12_windMark_X12_size : GoodIn wsX12_windMark (va_wsS RX12 226 yX12_size wsX12_size) := goodIn_app (goodIn_of _ (by decide +kernel)) ggX12_windMark_X12_size
theorem dX12_windMark_0 : decode cX12_windMark 0 = .ok (.iload_n 1, 1) := by decide +kernel
theorem dX12_windMark_1 : decode cX12_windMark 1 = .ok (.iconst 4, 1) := by decide +kernel
theorem dX12_windMark_2 : decode cX12_windMark 2 = .ok (.if_icmp .ne 18, 3) := by decide +kernel
theorem dX12_windMark_5 : decode cX12_windMark 5 = .ok (.aload_n 0, 1) := by decide +kernel
theorem dX12_windMark_6 : decode cX12_windMark 6 = .ok (.bipush 22, 2) := by decide +kernel
theorem dX12_windMark_8 : decode cX12_windMark 8 = .ok (.invokevirtual 322, 3) := by decide +kernel
theorem dX12_windMark_11 : decode cX12_windMark 11 = .ok (.aload_n 0, 1) := by decide +kernel
theorem dX12_windMark_12 : decode cX12_windMark 12 = .ok (.invokevirtual 325, 3) := by decide +kernel
theorem dX12_windMark_15 : decode cX12_windMark 15 = .ok (.sipush 1000, 3) := by decide +kernel
theorem dX12_windMark_18 : decode cX12_windMark 18 = .ok (.iadd, 1) := by decide +kernel
theorem dX12_windMark_19 : decode cX12_windMark 19 = .ok (.ireturn, 1) := by decide +kernel
theorem dX12_windMark_20 : decode cX12_windMark 20 = .ok (.iload_n 1, 1) := by decide +kernel
theorem dX12_windMark_21 : decode cX12_windMark 21 = .ok (.iconst 1, 1) := by decide +kernel
theorem dX12_windMark_22 : decode cX12_windMark 22 = .ok (.if_icmp .ne 24, 3) := by decide +kernel
theorem dX12_windMark_25 : decode cX12_windMark 25 = .ok (.aload_n 0, 1) := by decide +kernel
theorem dX12_windMark_26 : decode cX12_windMark 26 = .ok (.bipush 21, 2) := by decide +kernel
theorem dX12_windMark_28 : decode cX12_windMark 28 = .ok (.invokevirtual 322, 3) := by decide +kernel
theorem dX12_windMark_31 : decode cX12_windMark 31 = .ok (.aload_n 0, 1) := by decide +kernel
theorem dX12_windMark_32 : decode cX12_windMark 32 = .ok (.invokevirtual 325, 3) := by decide +kernel
theorem dX12_windMark_35 : decode cX12_windMark 35 = .ok (.aload_n 0, 1) := by decide +kernel
theorem dX12_windMark_36 : decode cX12_windMark 36 = .ok (.getfield 28, 3) := by decide +kernel
theorem dX12_windMark_39 : decode cX12_windMark 39 = .ok (.iconst 5, 1) := by decide +kernel
theorem dX12_windMark_40 : decode cX12_windMark 40 = .ok (.iaload, 1) := by decide +kernel
theorem dX12_windMark_41 : decode cX12_windMark 41 = .ok (.invokestatic 226, 3) := by decide +kernel
theorem dX12_windMark_44 : decode cX12_windMark 44 = .ok (.iadd, 1) := by decide +kernel
theorem dX12_windMark_45 : decode cX12_windMark 45 = .ok (.ireturn, 1) := by decide +kernel
theorem dX12_windMark_46 : decode cX12_windMark 46 = .ok (.aload_n 0, 1) := by decide +kernel
theorem dX12_windMark_47 : decode cX12_windMark 47 = .ok (.invokevirtual 325, 3) := by decide +kernel
theorem dX12_windMark_50 : decode cX12_windMark 50 = .ok (.ireturn, 1) := by decide +kernel
set_option maxRecDepth 20000 in
theorem ggX12_windSize_X12_began : GoodIn wsX12_windSize wsX12_began := goodIn_r _ [5, 6, 7, 24, 25, 26, 27, 28, 29, 30, 31, 32, 33, 34, 35, 36, 37, 38, 39, 40, 41, 42, 43, 44, 45, 46, 47, 48, 49, 50, 51, 52, 53, 54, 55] (by decide +kernel) (by decide +kernel)
set_option maxRecDepth 20000 in
theorem gX12_windSize_X12_began : GoodIn wsX12_windSize (wsV RX12 322 RX12 yX12_began wsX12_began) := goodIn_app (goodIn_of _ (by decide +kernel)) ggX12_windSize_X12_began
set_option maxRecDepth 20000 in
theorem ggX12_windSize_X12_plainSize : GoodIn wsX12_windSize wsX12_plainSize := goodIn_r _ [11, 12, 1, 2, 3, 4, 5, 6, 7, 13, 14, 15, 24, 25, 26, 27, 28, 29, 30, 31, 32, 33, 34, 35, 36, 37, 38, 39, 40, 41, 42, 43, 44, 45, 46, 47, 48, 49, 50, 51, 52, 53, 54, 55] (by decide +kernel) (by decide +kernel)
set_option maxRecDepth 20000 in
theorem gX12_windSize_X12_plainSize : GoodIn wsX12_windSize (wsV RX12 328 RX12 yX12_plainSize wsX12_plainSize) := goodIn_app (goodIn_of _ (by decide +kernel)) ggX12_windSize_X12_plainSize
set_option maxRecDepth 20000 in
theorem ggX12_windSize_X12_windMark : GoodIn wsX12_windSize wsX12_windMark := goodIn_r _ [19, 12, 1, 2, 3, 4, 5, 6, 7, 20, 21, 22, 23, 13, 14, 15, 24, 25, 26, 27, 28, 29, 30, 31, 32, 33, 34, 35, 36, 37, 38, 39, 40, 41, 42, 43, 44, 45, 46, 47, 48, 49, 50, 51, 52, 53, 54, 55] (by decide +kernel) (by decide +kernel)
set_option maxRecDepth 20000 in
theorem gX12_windSize_X12_windMark : GoodIn wsX12_windSize (wsV RX12 331 RX12 yX12_windMark wsX12_windMark) := goodIn_app (goodIn_of _ (by decide +kernel)) ggX12_windSize_X12_windMark
theorem dX12_windSize_0 : decode cX12_windSize 0 = .ok (.iload_n 1, 1) := by decide +kernel
theorem dX12_windSize_1 : decode cX12_windSize 1 = .ok (.iconst 4, 1) := by decide +kernel
theorem dX12_windSize_2 : decode cX12_windSize 2 = .ok (.if_icmp .ne 9, 3) := by decide +kernel
theorem dX12_windSize_5 : decode cX12_windSize 5 = .ok (.aload_n 0, 1) := by decide +kernel
theorem dX12_windSize_6 : decode cX12_windSize 6 = .ok (.bipush 13, 2) := by decide +kernel
theorem dX12_windSize_8 : decode cX12_windSize 8 = .ok (.invokevirtual 322, 3) := by decide +kernel
theorem dX12_windSize_11 : decode cX12_windSize 11 = .ok (.aload_n 0, 1) := by decide +kernel
theorem dX12_windSize_12 : decode cX12_windSize 12 = .ok (.iload_n 1, 1) := by decide +kernel
theorem dX12_windSize_13 : decode cX12_windSize 13 = .ok (.iconst 1, 1) := by decide +kernel
theorem dX12_windSize_14 : decode cX12_windSize 14 = .ok (.if_icmp .ne 8, 3) := by decide +kernel
theorem dX12_windSize_17 : decode cX12_windSize 17 = .ok (.bipush 11, 2) := by decide +kernel
theorem dX12_windSize_19 : decode cX12_windSize 19 = .ok (.goto 5, 3) := by decide +kernel
theorem dX12_windSize_22 : decode cX12_windSize 22 = .ok (.bipush 12, 2) := by decide +kernel
theorem dX12_windSize_24 : decode cX12_windSize 24 = .ok (.invokevirtual 322, 3) := by decide +kernel
theorem dX12_windSize_27 : decode cX12_windSize 27 = .ok (.aload_n 0, 1) := by decide +kernel
theorem dX12_windSize_28 : decode cX12_windSize 28 = .ok (.invokevirtual 328, 3) := by decide +kernel
theorem dX12_windSize_31 : decode cX12_windSize 31 = .ok (.istore_n 2, 1) := by decide +kernel
theorem dX12_windSize_32 : decode cX12_windSize 32 = .ok (.aload_n 0, 1) := by decide +kernel
theorem dX12_windSize_33 : decode cX12_windSize 33 = .ok (.iload_n 1, 1) := by decide +kernel
theorem dX12_windSize_34 : decode cX12_windSize 34 = .ok (.invokevirtual 331, 3) := by decide +kernel
theorem dX12_windSize_37 : decode cX12_windSize 37 = .ok (.istore_n 3, 1) := by decide +kernel
theorem dX12_windSize_38 : decode cX12_windSize 38 = .ok (.iload_n 1, 1) := by decide +kernel
theorem dX12_windSize_39 : decode cX12_windSize 39 = .ok (.iconst 1, 1) := by decide +kernel
theorem dX12_windSize_40 : decode cX12_windSize 40 = .ok (.if_icmp .ne 9, 3) := by decide +kernel
theorem dX12_windSize_43 : decode cX12_windSize 43 = .ok (.iload_n 2, 1) := by decide +kernel
theorem dX12_windSize_44 : decode cX12_windSize 44 = .ok (.iload_n 3, 1) := by decide +kernel
theorem dX12_windSize_45 : decode cX12_windSize 45 = .ok (.iadd, 1) := by decide +kernel
theorem dX12_windSize_46 : decode cX12_windSize 46 = .ok (.goto 19, 3) := by decide +kernel
theorem dX12_windSize_49 : decode cX12_windSize 49 = .ok (.iload_n 1, 1) := by decide +kernel
theorem dX12_windSize_50 : decode cX12_windSize 50 = .ok (.iconst 4, 1) := by decide +kernel
theorem dX12_windSize_51 : decode cX12_windSize 51 = .ok (.if_icmp .ne 11, 3) := by decide +kernel
theorem dX12_windSize_54 : decode cX12_windSize 54 = .ok (.iconst 2, 1) := by decide +kernel
theorem dX12_windSize_55 : decode cX12_windSize 55 = .ok (.iload_n 2, 1) := by decide +kernel
theorem dX12_windSize_56 : decode cX12_windSize 56 = .ok (.iload_n 3, 1) := by decide +kernel
theorem dX12_windSize_57 : decode cX12_windSize 57 = .ok (.isub, 1) := by decide +kernel
theorem dX12_windSize_58 : decode cX12_windSize 58 = .ok (.imul, 1) := by decide +kernel
theorem dX12_windSize_59 : decode cX12_windSize 59 = .ok (.goto 6, 3) := by decide +kernel
theorem dX12_windSize_62 : decode cX12_windSize 62 = .ok (.iload_n 2, 1) := by decide +kernel
theorem dX12_windSize_63 : decode cX12_windSize 63 = .ok (.iload_n 3, 1) := by decide +kernel
theorem dX12_windSize_64 : decode cX12_windSize 64 = .ok (.isub, 1) := by decide +kernel
theorem dX12_windSize_65 : decode cX12_windSize 65 = .ok (.ireturn, 1) := by decide +kernel
set_option maxRecDepth 20000 in
theorem ggX12_deadSize_X12_began : GoodIn wsX12_deadSize wsX12_began := goodIn_r _ [5, 6, 7, 16, 17, 18, 19, 20, 21, 22, 23, 24, 25, 26, 27, 28, 29, 30, 31, 32, 33, 34, 35, 36, 37, 38, 39, 40, 41, 42, 43, 44, 45, 46, 47] (by decide +kernel) (by decide +kernel)
set_option maxRecDepth 20000 in
theorem gX12_deadSize_X12_began : GoodIn wsX12_deadSize (wsV RX12 322 RX12 yX12_began wsX12_began) := goodIn_app (goodIn_of _ (by decide +kernel)) ggX12_deadSize_X12_began
set_option maxRecDepth 20000 in
theorem ggX12_deadSize_X12_plainSize : GoodIn wsX12_deadSize wsX12_plainSize := goodIn_r _ [11, 12, 1, 2, 3, 4, 5, 6, 7, 13, 14, 15, 16, 17, 18, 19, 20, 21, 22, 23, 24, 25, 26, 27, 28, 29, 30, 31, 32, 33, 34, 35, 36, 37, 38, 39, 40, 41, 42, 43, 44, 45, 46, 47] (by decide +kernel) (by decide +kernel)
set_option maxRecDepth 20000 in
theorem gX12_deadSize_X12_plainSize : GoodIn wsX12_deadSize (wsV RX12 328 RX12 yX12_plainSize wsX12_plainSize) := goodIn_app (goodIn_of _ (by decide +kernel)) ggX12_deadSize_X12_plainSize
theorem dX12_deadSize_0 : decode cX12_deadSize 0 = .ok (.aload_n 0, 1) := by decide +kernel
theorem dX12_deadSize_1 : decode cX12_deadSize 1 = .ok (.bipush 14, 2) := by decide +kernel
theorem dX12_deadSize_3 : decode cX12_deadSize 3 = .ok (.invokevirtual 322, 3) := by decide +kernel
theorem dX12_deadSize_6 : decode cX12_deadSize 6 = .ok (.aload_n 0, 1) := by decide +kernel
theorem dX12_deadSize_7 : decode cX12_deadSize 7 = .ok (.invokevirtual 328, 3) := by decide +kernel
theorem dX12_deadSize_10 : decode cX12_deadSize 10 = .ok (.ineg, 1) := by decide +kernel
theorem dX12_deadSize_11 : decode cX12_deadSize 11 = .ok (.ireturn, 1) := by decide +kernel
set_option maxRecDepth 20000 in
theorem ggX12_deadMark_X12_began : GoodIn wsX12_deadMark wsX12_began := goodIn_r _ [5, 6, 7, 24, 25, 26, 27, 28, 29, 30, 31, 32, 33, 34, 35, 36, 37, 38, 39, 40, 41, 42, 43, 44, 45, 46, 47, 48, 49, 50, 51, 52, 53, 54, 55] (by decide +kernel) (by decide +kernel)
set_option maxRecDepth 20000 in
theorem gX12_deadMark_X12_began : GoodIn wsX12_deadMark (wsV RX12 322 RX12 yX12_began wsX12_began) := goodIn_app (goodIn_of _ (by decide +kernel)) ggX12_deadMark_X12_began
set_option maxRecDepth 20000 in
theorem ggX12_deadMark_X12_plainMark : GoodIn wsX12_deadMark wsX12_plainMark := goodIn_r _ [11, 12, 1, 2, 3, 4, 5, 6, 7, 24, 25, 26, 27, 28, 29, 30, 31, 32, 33, 34, 35, 36, 37, 38, 39, 40, 41, 42, 43, 44, 45, 46, 47, 48, 49, 50, 51, 52, 53, 54, 55] (by decide +kernel) (by decide +kernel)
set_option maxRecDepth 20000 in
theorem gX12_deadMark_X12_plainMark : GoodIn wsX12_deadMark (wsV RX12 325 RX12 yX12_plainMark wsX12_plainMark) := goodIn_app (goodIn_of _ (by decide +kernel)) ggX12_deadMark_X12_plainMark
set_option maxRecDepth 20000 in
theorem ggX12_deadMark_X12_deadSize : GoodIn wsX12_deadMark wsX12_deadSize := goodIn_r _ [16, 1, 2, 3, 4, 5, 6, 7, 17, 18, 19, 20, 12, 21, 22, 23, 24, 25, 26, 27, 28, 29, 30, 31, 32, 33, 34, 35, 36, 37, 38, 39, 40, 41, 42, 43, 44, 45, 46, 47, 48, 49, 50, 51, 52, 53, 54, 55] (by decide +kernel) (by decide +kernel)
set_option maxRecDepth 20000 in
theorem gX12_deadMark_X12_deadSize : GoodIn wsX12_deadMark (wsV RX12 334 RX12 yX12_deadSize wsX12_deadSize) := goodIn_app (goodIn_of _ (by decide +kernel)) ggX12_deadMark_X12_deadSize
theorem dX12_deadMark_0 : decode cX12_deadMark 0 = .ok (.iload_n 1, 1) := by decide +kernel
theorem dX12_deadMark_1 : decode cX12_deadMark 1 = .ok (.iconst 5, 1) := by decide +kernel
theorem dX12_deadMark_2 : decode cX12_deadMark 2 = .ok (.if_icmp .ne 9, 3) := by decide +kernel
theorem dX12_deadMark_5 : decode cX12_deadMark 5 = .ok (.aload_n 0, 1) := by decide +kernel
theorem dX12_deadMark_6 : decode cX12_deadMark 6 = .ok (.bipush 24, 2) := by decide +kernel
theorem dX12_deadMark_8 : decode cX12_deadMark 8 = .ok (.invokevirtual 322, 3) := by decide +kernel
theorem dX12_deadMark_11 : decode cX12_deadMark 11 = .ok (.aload_n 0, 1) := by decide +kernel
theorem dX12_deadMark_12 : decode cX12_deadMark 12 = .ok (.bipush 23, 2) := by decide +kernel
theorem dX12_deadMark_14 : decode cX12_deadMark 14 = .ok (.invokevirtual 322, 3) := by decide +kernel
theorem dX12_deadMark_17 : decode cX12_deadMark 17 = .ok (.aload_n 0, 1) := by decide +kernel
theorem dX12_deadMark_18 : decode cX12_deadMark 18 = .ok (.invokevirtual 325, 3) := by decide +kernel
theorem dX12_deadMark_21 : decode cX12_deadMark 21 = .ok (.istore_n 2, 1) := by decide +kernel
theorem dX12_deadMark_22 : decode cX12_deadMark 22 = .ok (.iload_n 2, 1) := by decide +kernel
theorem dX12_deadMark_23 : decode cX12_deadMark 23 = .ok (.aload_n 0, 1) := by decide +kernel
theorem dX12_deadMark_24 : decode cX12_deadMark 24 = .ok (.invokevirtual 334, 3) := by decide +kernel
theorem dX12_deadMark_27 : decode cX12_deadMark 27 = .ok (.iadd, 1) := by decide +kernel
theorem dX12_deadMark_28 : decode cX12_deadMark 28 = .ok (.istore_n 2, 1) := by decide +kernel
theorem dX12_deadMark_29 : decode cX12_deadMark 29 = .ok (.iload_n 1, 1) := by decide +kernel
theorem dX12_deadMark_30 : decode cX12_deadMark 30 = .ok (.iconst 5, 1) := by decide +kernel
theorem dX12_deadMark_31 : decode cX12_deadMark 31 = .ok (.if_icmp .ne 8, 3) := by decide +kernel
theorem dX12_deadMark_34 : decode cX12_deadMark 34 = .ok (.iload_n 2, 1) := by decide +kernel
theorem dX12_deadMark_35 : decode cX12_deadMark 35 = .ok (.ineg, 1) := by decide +kernel
theorem dX12_deadMark_36 : decode cX12_deadMark 36 = .ok (.goto 4, 3) := by decide +kernel
theorem dX12_deadMark_39 : decode cX12_deadMark 39 = .ok (.iload_n 2, 1) := by decide +kernel
theorem dX12_deadMark_40 : decode cX12_deadMark 40 = .ok (.ireturn, 1) := by decide +kernel
set_option maxRecDepth 20000 in
theorem ggX12_ask_X12_in : GoodIn wsX12_ask wsX12_in := goodIn_r _ [9] (by decide +kernel) (by decide +kernel)
set_option maxRecDepth 20000 in
theorem gX12_ask_X12_in : GoodIn wsX12_ask (va_wsS RX12 61 yX12_in wsX12_in) := goodIn_app (goodIn_of _ (by decide +kernel)) ggX12_ask_X12_in
set_option maxRecDepth 20000 in
theorem ggX12_ask_X12_kindNow : GoodIn wsX12_ask wsX12_kindNow := goodIn_r _ [13, 2, 14, 15, 8, 16, 17, 18, 19, 20, 21, 54, 55, 56, 57, 58, 59, 60, 61, 62, 63, 64, 65, 66, 67, 68, 69, 70, 71, 72, 73, 74, 75, 76, 77, 78, 79, 80, 81, 82, 83, 84, 85] (by decide +kernel) (by decide +kernel)
set_option maxRecDepth 20000 in
theorem gX12_ask_X12_kindNow : GoodIn wsX12_ask (wsV RX12 310 RX12 yX12_kindNow wsX12_kindNow) := goodIn_app (goodIn_of _ (by decide +kernel)) ggX12_ask_X12_kindNow
set_option maxRecDepth 20000 in
theorem ggX12_ask_X12_isOf : GoodIn wsX12_ask wsX12_isOf := goodIn_r _ [24] (by decide +kernel) (by decide +kernel)
set_option maxRecDepth 20000 in
theorem gX12_ask_X12_isOf : GoodIn wsX12_ask (va_wsS RX12 315 yX12_isOf wsX12_isOf) := goodIn_app (goodIn_of _ (by decide +kernel)) ggX12_ask_X12_isOf
set_option maxRecDepth 20000 in
theorem ggX12_ask_X12_deadSize : GoodIn wsX12_ask wsX12_deadSize := goodIn_r _ [28, 29, 30, 31, 8, 32, 5, 33, 34, 35, 36, 37, 2, 14, 15, 16, 54, 55, 56, 57, 58, 59, 60, 61, 62, 63, 64, 65, 66, 67, 68, 69, 70, 71, 72, 73, 74, 75, 76, 77, 78, 79, 80, 81, 82, 83, 84, 85] (by decide +kernel) (by decide +kernel)
set_option maxRecDepth 20000 in
theorem gX12_ask_X12_deadSize : GoodIn wsX12_ask (wsV RX12 334 RX12 yX12_deadSize wsX12_deadSize) := goodIn_app (goodIn_of _ (by decide +kernel)) ggX12_ask_X12_deadSize
set_option maxRecDepth 20000 in
theorem ggX12_ask_X12_deadMark : GoodIn wsX12_ask wsX12_deadMark := goodIn_r _ [41, 29, 30, 31, 8, 32, 5, 33, 42, 43, 44, 45, 2, 25, 26, 27, 28, 34, 35, 36, 37, 14, 15, 16, 54, 55, 56, 57, 58, 59, 60, 61, 62, 63, 64, 65, 66, 67, 68, 69, 70, 71, 72, 73, 74, 75, 76, 77, 78, 79, 80, 81, 82, 83, 84, 85] (by decide +kernel) (by decide +kernel)
set_option maxRecDepth 20000 in
theorem gX12_ask_X12_deadMark : GoodIn wsX12_ask (wsV RX12 337 RX12 yX12_deadMark wsX12_deadMark) := goodIn_app (goodIn_of _ (by decide +kernel)) ggX12_ask_X12_deadMark
set_option maxRecDepth 20000 in
theorem ggX12_ask_X12_windSize : GoodIn wsX12_ask wsX12_windSize := goodIn_r _ [49, 29, 30, 31, 8, 32, 5, 33, 34, 35, 36, 37, 2, 14, 15, 16, 50, 51, 52, 53, 42, 43, 44, 45, 54, 55, 56, 57, 58, 59, 60, 61, 62, 63, 64, 65, 66, 67, 68, 69, 70, 71, 72, 73, 74, 75, 76, 77, 78, 79, 80, 81, 82, 83, 84, 85] (by decide +kernel) (by decide +kernel)
set_option maxRecDepth 20000 in
theorem gX12_ask_X12_windSize : GoodIn wsX12_ask (wsV RX12 340 RX12 yX12_windSize wsX12_windSize) := goodIn_app (goodIn_of _ (by decide +kernel)) ggX12_ask_X12_windSize
set_option maxRecDepth 20000 in
theorem ggX12_ask_X12_windMark : GoodIn wsX12_ask wsX12_windMark := goodIn_r _ [53, 2, 29, 30, 31, 8, 32, 5, 33, 42, 43, 44, 45, 14, 15, 16, 54, 55, 56, 57, 58, 59, 60, 61, 62, 63, 64, 65, 66, 67, 68, 69, 70, 71, 72, 73, 74, 75, 76, 77, 78, 79, 80, 81, 82, 83, 84, 85] (by decide +kernel) (by decide +kernel)
set_option maxRecDepth 20000 in
theorem gX12_ask_X12_windMark : GoodIn wsX12_ask (wsV RX12 331 RX12 yX12_windMark wsX12_windMark) := goodIn_app (goodIn_of _ (by decide +kernel)) ggX12_ask_X12_windMark
theorem dX12_ask_0 : decode cX12_ask 0 = .ok (.aload_n 0, 1) := by decide +kernel
theorem dX12_ask_1 : decode cX12_ask 1 = .ok (.iconst 0, 1) := by decide +kernel
theorem dX12_ask_2 : decode cX12_ask 2 = .ok (.putfield 52, 3) := by decide +kernel
theorem dX12_ask_5 : decode cX12_ask 5 = .ok (.aload_n 0, 1) := by decide +kernel
theorem dX12_ask_6 : decode cX12_ask 6 = .ok (.getfield 28, 3) := by decide +kernel
theorem dX12_ask_9 : decode cX12_ask 9 = .ok (.iconst 0, 1) := by decide +kernel
theorem dX12_ask_10 : decode cX12_ask 10 = .ok (.iaload, 1) := by decide +kernel
theorem dX12_ask_11 : decode cX12_ask 11 = .ok (.ifCond .ne 6, 3) := by decide +kernel
theorem dX12_ask_14 : decode cX12_ask 14 = .ok (.ldc 255, 2) := by decide +kernel
theorem dX12_ask_16 : decode cX12_ask 16 = .ok (.ireturn, 1) := by decide +kernel
theorem dX12_ask_17 : decode cX12_ask 17 = .ok (.iload_n 1, 1) := by decide +kernel
theorem dX12_ask_18 : decode cX12_ask 18 = .ok (.i2l, 1) := by decide +kernel
theorem dX12_ask_19 : decode cX12_ask 19 = .ok (.lconst 0, 1) := by decide +kernel
theorem dX12_ask_20 : decode cX12_ask 20 = .ok (.lconst 1, 1) := by decide +kernel
theorem dX12_ask_21 : decode cX12_ask 21 = .ok (.invokestatic 61, 3) := by decide +kernel
theorem dX12_ask_24 : decode cX12_ask 24 = .ok (.ifCond .ne 6, 3) := by decide +kernel
theorem dX12_ask_27 : decode cX12_ask 27 = .ok (.ldc 71, 2) := by decide +kernel
theorem dX12_ask_29 : decode cX12_ask 29 = .ok (.ireturn, 1) := by decide +kernel
theorem dX12_ask_30 : decode cX12_ask 30 = .ok (.aload_n 0, 1) := by decide +kernel
theorem dX12_ask_31 : decode cX12_ask 31 = .ok (.iconst 0, 1) := by decide +kernel
theorem dX12_ask_32 : decode cX12_ask 32 = .ok (.putfield 319, 3) := by decide +kernel
theorem dX12_ask_35 : decode cX12_ask 35 = .ok (.aload_n 0, 1) := by decide +kernel
theorem dX12_ask_36 : decode cX12_ask 36 = .ok (.invokevirtual 310, 3) := by decide +kernel
theorem dX12_ask_39 : decode cX12_ask 39 = .ok (.istore_n 2, 1) := by decide +kernel
theorem dX12_ask_40 : decode cX12_ask 40 = .ok (.iload_n 2, 1) := by decide +kernel
theorem dX12_ask_41 : decode cX12_ask 41 = .ok (.iconst 3, 1) := by decide +kernel
theorem dX12_ask_42 : decode cX12_ask 42 = .ok (.invokestatic 315, 3) := by decide +kernel
theorem dX12_ask_45 : decode cX12_ask 45 = .ok (.ifCond .eq 20, 3) := by decide +kernel
theorem dX12_ask_48 : decode cX12_ask 48 = .ok (.iload_n 1, 1) := by decide +kernel
theorem dX12_ask_49 : decode cX12_ask 49 = .ok (.ifCond .ne 10, 3) := by decide +kernel
theorem dX12_ask_52 : decode cX12_ask 52 = .ok (.aload_n 0, 1) := by decide +kernel
theorem dX12_ask_53 : decode cX12_ask 53 = .ok (.invokevirtual 334, 3) := by decide +kernel
theorem dX12_ask_56 : decode cX12_ask 56 = .ok (.goto 8, 3) := by decide +kernel
theorem dX12_ask_59 : decode cX12_ask 59 = .ok (.aload_n 0, 1) := by decide +kernel
theorem dX12_ask_60 : decode cX12_ask 60 = .ok (.iload_n 2, 1) := by decide +kernel
theorem dX12_ask_61 : decode cX12_ask 61 = .ok (.invokevirtual 337, 3) := by decide +kernel
theorem dX12_ask_64 : decode cX12_ask 64 = .ok (.ireturn, 1) := by decide +kernel
theorem dX12_ask_65 : decode cX12_ask 65 = .ok (.iload_n 1, 1) := by decide +kernel
theorem dX12_ask_66 : decode cX12_ask 66 = .ok (.ifCond .ne 11, 3) := by decide +kernel
theorem dX12_ask_69 : decode cX12_ask 69 = .ok (.aload_n 0, 1) := by decide +kernel
theorem dX12_ask_70 : decode cX12_ask 70 = .ok (.iload_n 2, 1) := by decide +kernel
theorem dX12_ask_71 : decode cX12_ask 71 = .ok (.invokevirtual 340, 3) := by decide +kernel
theorem dX12_ask_74 : decode cX12_ask 74 = .ok (.goto 8, 3) := by decide +kernel
theorem dX12_ask_77 : decode cX12_ask 77 = .ok (.aload_n 0, 1) := by decide +kernel
theorem dX12_ask_78 : decode cX12_ask 78 = .ok (.iload_n 2, 1) := by decide +kernel
theorem dX12_ask_79 : decode cX12_ask 79 = .ok (.invokevirtual 331, 3) := by decide +kernel
theorem dX12_ask_82 : decode cX12_ask 82 = .ok (.ireturn, 1) := by decide +kernel
set_option maxRecDepth 20000 in
theorem ggX12_trace_X12_in : GoodIn wsX12_trace wsX12_in := goodIn_r _ [8] (by decide +kernel) (by decide +kernel)
set_option maxRecDepth 20000 in
theorem gX12_trace_X12_in : GoodIn wsX12_trace (va_wsS RX12 61 yX12_in wsX12_in) := goodIn_app (goodIn_of _ (by decide +kernel)) ggX12_trace_X12_in
theorem dX12_trace_0 : decode cX12_trace 0 = .ok (.aload_n 0, 1) := by decide +kernel
theorem dX12_trace_1 : decode cX12_trace 1 = .ok (.iconst 0, 1) := by decide +kernel
theorem dX12_trace_2 : decode cX12_trace 2 = .ok (.putfield 52, 3) := by decide +kernel
theorem dX12_trace_5 : decode cX12_trace 5 = .ok (.iload_n 1, 1) := by decide +kernel
theorem dX12_trace_6 : decode cX12_trace 6 = .ok (.i2l, 1) := by decide +kernel
theorem dX12_trace_7 : decode cX12_trace 7 = .ok (.lconst 0, 1) := by decide +kernel
theorem dX12_trace_8 : decode cX12_trace 8 = .ok (.aload_n 0, 1) := by decide +kernel
theorem dX12_trace_9 : decode cX12_trace 9 = .ok (.getfield 319, 3) := by decide +kernel
theorem dX12_trace_12 : decode cX12_trace 12 = .ok (.iconst 1, 1) := by decide +kernel
theorem dX12_trace_13 : decode cX12_trace 13 = .ok (.isub, 1) := by decide +kernel
theorem dX12_trace_14 : decode cX12_trace 14 = .ok (.i2l, 1) := by decide +kernel
theorem dX12_trace_15 : decode cX12_trace 15 = .ok (.invokestatic 61, 3) := by decide +kernel
theorem dX12_trace_18 : decode cX12_trace 18 = .ok (.ifCond .eq 12, 3) := by decide +kernel
theorem dX12_trace_21 : decode cX12_trace 21 = .ok (.aload_n 0, 1) := by decide +kernel
theorem dX12_trace_22 : decode cX12_trace 22 = .ok (.getfield 49, 3) := by decide +kernel
theorem dX12_trace_25 : decode cX12_trace 25 = .ok (.iload_n 1, 1) := by decide +kernel
theorem dX12_trace_26 : decode cX12_trace 26 = .ok (.iaload, 1) := by decide +kernel
theorem dX12_trace_27 : decode cX12_trace 27 = .ok (.goto 5, 3) := by decide +kernel
theorem dX12_trace_30 : decode cX12_trace 30 = .ok (.ldc 31, 2) := by decide +kernel
theorem dX12_trace_32 : decode cX12_trace 32 = .ok (.ireturn, 1) := by decide +kernel
theorem dX12_count_0 : decode cX12_count 0 = .ok (.aload_n 0, 1) := by decide +kernel
theorem dX12_count_1 : decode cX12_count 1 = .ok (.iconst 0, 1) := by decide +kernel
theorem dX12_count_2 : decode cX12_count 2 = .ok (.putfield 52, 3) := by decide +kernel
theorem dX12_count_5 : decode cX12_count 5 = .ok (.iconst 0, 1) := by decide +kernel
theorem dX12_count_6 : decode cX12_count 6 = .ok (.istore_n 2, 1) := by decide +kernel
theorem dX12_count_7 : decode cX12_count 7 = .ok (.iload_n 1, 1) := by decide +kernel
theorem dX12_count_8 : decode cX12_count 8 = .ok (.tableswitch 122 0 5 #[40, 73, 73, 73, 82, 117], 40) := by decide +kernel
theorem dX12_count_48 : decode cX12_count 48 = .ok (.iconst 0, 1) := by decide +kernel
theorem dX12_count_49 : decode cX12_count 49 = .ok (.istore_n 3, 1) := by decide +kernel
theorem dX12_count_50 : decode cX12_count 50 = .ok (.iload_n 3, 1) := by decide +kernel
theorem dX12_count_51 : decode cX12_count 51 = .ok (.bipush 8, 2) := by decide +kernel
theorem dX12_count_53 : decode cX12_count 53 = .ok (.if_icmp .ge 26, 3) := by decide +kernel
theorem dX12_count_56 : decode cX12_count 56 = .ok (.iload_n 2, 1) := by decide +kernel
theorem dX12_count_57 : decode cX12_count 57 = .ok (.aload_n 0, 1) := by decide +kernel
theorem dX12_count_58 : decode cX12_count 58 = .ok (.getfield 7, 3) := by decide +kernel
theorem dX12_count_61 : decode cX12_count 61 = .ok (.iload_n 3, 1) := by decide +kernel
theorem dX12_count_62 : decode cX12_count 62 = .ok (.iaload, 1) := by decide +kernel
theorem dX12_count_63 : decode cX12_count 63 = .ok (.ifCond .lt 7, 3) := by decide +kernel
theorem dX12_count_66 : decode cX12_count 66 = .ok (.iconst 1, 1) := by decide +kernel
theorem dX12_count_67 : decode cX12_count 67 = .ok (.goto 4, 3) := by decide +kernel
theorem dX12_count_70 : decode cX12_count 70 = .ok (.iconst 0, 1) := by decide +kernel
theorem dX12_count_71 : decode cX12_count 71 = .ok (.iadd, 1) := by decide +kernel
theorem dX12_count_72 : decode cX12_count 72 = .ok (.istore_n 2, 1) := by decide +kernel
theorem dX12_count_73 : decode cX12_count 73 = .ok (.iinc 3 1, 3) := by decide +kernel
theorem dX12_count_76 : decode cX12_count 76 = .ok (.goto (-26), 3) := by decide +kernel
theorem dX12_count_79 : decode cX12_count 79 = .ok (.iload_n 2, 1) := by decide +kernel
theorem dX12_count_80 : decode cX12_count 80 = .ok (.ireturn, 1) := by decide +kernel
theorem dX12_count_81 : decode cX12_count 81 = .ok (.aload_n 0, 1) := by decide +kernel
theorem dX12_count_82 : decode cX12_count 82 = .ok (.getfield 19, 3) := by decide +kernel
theorem dX12_count_85 : decode cX12_count 85 = .ok (.iload_n 1, 1) := by decide +kernel
theorem dX12_count_86 : decode cX12_count 86 = .ok (.iconst 1, 1) := by decide +kernel
theorem dX12_count_87 : decode cX12_count 87 = .ok (.isub, 1) := by decide +kernel
theorem dX12_count_88 : decode cX12_count 88 = .ok (.iaload, 1) := by decide +kernel
theorem dX12_count_89 : decode cX12_count 89 = .ok (.ireturn, 1) := by decide +kernel
theorem dX12_count_90 : decode cX12_count 90 = .ok (.iconst 0, 1) := by decide +kernel
theorem dX12_count_91 : decode cX12_count 91 = .ok (.istore_n 3, 1) := by decide +kernel
theorem dX12_count_92 : decode cX12_count 92 = .ok (.iload_n 3, 1) := by decide +kernel
theorem dX12_count_93 : decode cX12_count 93 = .ok (.aload_n 0, 1) := by decide +kernel
theorem dX12_count_94 : decode cX12_count 94 = .ok (.getfield 19, 3) := by decide +kernel
theorem dX12_count_97 : decode cX12_count 97 = .ok (.iconst 2, 1) := by decide +kernel
theorem dX12_count_98 : decode cX12_count 98 = .ok (.iaload, 1) := by decide +kernel
theorem dX12_count_99 : decode cX12_count 99 = .ok (.if_icmp .ge 24, 3) := by decide +kernel
theorem dX12_count_102 : decode cX12_count 102 = .ok (.iload_n 2, 1) := by decide +kernel
theorem dX12_count_103 : decode cX12_count 103 = .ok (.aload_n 0, 1) := by decide +kernel
theorem dX12_count_104 : decode cX12_count 104 = .ok (.getfield 19, 3) := by decide +kernel
theorem dX12_count_107 : decode cX12_count 107 = .ok (.bipush 31, 2) := by decide +kernel
theorem dX12_count_109 : decode cX12_count 109 = .ok (.bipush 25, 2) := by decide +kernel
theorem dX12_count_111 : decode cX12_count 111 = .ok (.iload_n 3, 1) := by decide +kernel
theorem dX12_count_112 : decode cX12_count 112 = .ok (.imul, 1) := by decide +kernel
theorem dX12_count_113 : decode cX12_count 113 = .ok (.iadd, 1) := by decide +kernel
theorem dX12_count_114 : decode cX12_count 114 = .ok (.iaload, 1) := by decide +kernel
theorem dX12_count_115 : decode cX12_count 115 = .ok (.iadd, 1) := by decide +kernel
theorem dX12_count_116 : decode cX12_count 116 = .ok (.istore_n 2, 1) := by decide +kernel
theorem dX12_count_117 : decode cX12_count 117 = .ok (.iinc 3 1, 3) := by decide +kernel
theorem dX12_count_120 : decode cX12_count 120 = .ok (.goto (-28), 3) := by decide +kernel
theorem dX12_count_123 : decode cX12_count 123 = .ok (.iload_n 2, 1) := by decide +kernel
theorem dX12_count_124 : decode cX12_count 124 = .ok (.ireturn, 1) := by decide +kernel
theorem dX12_count_125 : decode cX12_count 125 = .ok (.aload_n 0, 1) := by decide +kernel
theorem dX12_count_126 : decode cX12_count 126 = .ok (.getfield 78, 3) := by decide +kernel
theorem dX12_count_129 : decode cX12_count 129 = .ok (.ireturn, 1) := by decide +kernel
theorem dX12_count_130 : decode cX12_count 130 = .ok (.ldc 71, 2) := by decide +kernel
theorem dX12_count_132 : decode cX12_count 132 = .ok (.ireturn, 1) := by decide +kernel
theorem dX12_status_0 : decode cX12_status 0 = .ok (.aload_n 0, 1) := by decide +kernel
theorem dX12_status_1 : decode cX12_status 1 = .ok (.iconst 0, 1) := by decide +kernel
theorem dX12_status_2 : decode cX12_status 2 = .ok (.putfield 52, 3) := by decide +kernel
theorem dX12_status_5 : decode cX12_status 5 = .ok (.aload_n 0, 1) := by decide +kernel
theorem dX12_status_6 : decode cX12_status 6 = .ok (.getfield 55, 3) := by decide +kernel
theorem dX12_status_9 : decode cX12_status 9 = .ok (.ireturn, 1) := by decide +kernel
theorem dJ9_abs_0f7a4_0 : decode cJ9_abs_0f7a4 0 = .ok (.iload_n 0, 1) := by decide +kernel
theorem dJ9_abs_0f7a4_1 : decode cJ9_abs_0f7a4 1 = .ok (.ifCond .ge 8, 3) := by decide +kernel
theorem dJ9_abs_0f7a4_4 : decode cJ9_abs_0f7a4 4 = .ok (.iload_n 0, 1) := by decide +kernel
theorem dJ9_abs_0f7a4_5 : decode cJ9_abs_0f7a4 5 = .ok (.ineg, 1) := by decide +kernel
theorem dJ9_abs_0f7a4_6 : decode cJ9_abs_0f7a4 6 = .ok (.goto 4, 3) := by decide +kernel
theorem dJ9_abs_0f7a4_9 : decode cJ9_abs_0f7a4 9 = .ok (.iload_n 0, 1) := by decide +kernel
theorem dJ9_abs_0f7a4_10 : decode cJ9_abs_0f7a4 10 = .ok (.ireturn, 1) := by decide +kernel

theorem dX12_readDisc_6 : decode cX12_readDisc 6 = .ok (.iconst 3, 1) := by decide +kernel
theorem dX12_readDisc_7 : decode cX12_readDisc 7 = .ok (.aload_n 0, 1) := by decide +kernel
theorem dX12_readDisc_8 : decode cX12_readDisc 8 = .ok (.getfield 22, 3) := by decide +kernel
theorem dX12_readDisc_11 : decode cX12_readDisc 11 = .ok (.iconst 0, 1) := by decide +kernel
theorem dX12_readDisc_12 : decode cX12_readDisc 12 = .ok (.iaload, 1) := by decide +kernel
theorem dX12_readDisc_13 : decode cX12_readDisc 13 = .ok (.imul, 1) := by decide +kernel
theorem dX12_readDisc_14 : decode cX12_readDisc 14 = .ok (.iadd, 1) := by decide +kernel
theorem dX12_readDisc_15 : decode cX12_readDisc 15 = .ok (.istore_n 1, 1) := by decide +kernel
theorem dX12_readDisc_16 : decode cX12_readDisc 16 = .ok (.aload_n 0, 1) := by decide +kernel
theorem dX12_readDisc_17 : decode cX12_readDisc 17 = .ok (.iconst 1, 1) := by decide +kernel
theorem dX12_readDisc_18 : decode cX12_readDisc 18 = .ok (.sipush 999, 3) := by decide +kernel
theorem dX12_readDisc_21 : decode cX12_readDisc 21 = .ok (.invokevirtual 148, 3) := by decide +kernel
theorem dX12_readDisc_24 : decode cX12_readDisc 24 = .ok (.istore_n 2, 1) := by decide +kernel
theorem dX12_readDisc_25 : decode cX12_readDisc 25 = .ok (.aload_n 0, 1) := by decide +kernel
theorem dX12_readDisc_26 : decode cX12_readDisc 26 = .ok (.iconst 0, 1) := by decide +kernel
theorem dX12_readDisc_27 : decode cX12_readDisc 27 = .ok (.bipush 99, 2) := by decide +kernel
theorem dX12_readDisc_29 : decode cX12_readDisc 29 = .ok (.invokevirtual 148, 3) := by decide +kernel
theorem dX12_readDisc_32 : decode cX12_readDisc 32 = .ok (.istore_n 3, 1) := by decide +kernel
theorem dX12_readDisc_33 : decode cX12_readDisc 33 = .ok (.aload_n 0, 1) := by decide +kernel
theorem dX12_readDisc_34 : decode cX12_readDisc 34 = .ok (.iconst 1, 1) := by decide +kernel
theorem dX12_readDisc_35 : decode cX12_readDisc 35 = .ok (.bipush 60, 2) := by decide +kernel
theorem dX12_readDisc_37 : decode cX12_readDisc 37 = .ok (.invokevirtual 148, 3) := by decide +kernel
theorem dX12_readDisc_40 : decode cX12_readDisc 40 = .ok (.istore 4, 2) := by decide +kernel
theorem dX12_readDisc_42 : decode cX12_readDisc 42 = .ok (.aload_n 0, 1) := by decide +kernel
theorem dX12_readDisc_43 : decode cX12_readDisc 43 = .ok (.invokevirtual 152, 3) := by decide +kernel
theorem dX12_readDisc_46 : decode cX12_readDisc 46 = .ok (.aload_n 0, 1) := by decide +kernel
theorem dX12_readDisc_47 : decode cX12_readDisc 47 = .ok (.getfield 116, 3) := by decide +kernel
theorem dX12_readDisc_50 : decode cX12_readDisc 50 = .ok (.ifCond .ne 39, 3) := by decide +kernel
theorem dX12_readDisc_53 : decode cX12_readDisc 53 = .ok (.aload_n 0, 1) := by decide +kernel
theorem dX12_readDisc_54 : decode cX12_readDisc 54 = .ok (.getfield 22, 3) := by decide +kernel
theorem dX12_readDisc_57 : decode cX12_readDisc 57 = .ok (.iload_n 1, 1) := by decide +kernel
theorem dX12_readDisc_58 : decode cX12_readDisc 58 = .ok (.iload_n 2, 1) := by decide +kernel
theorem dX12_readDisc_59 : decode cX12_readDisc 59 = .ok (.iastore, 1) := by decide +kernel
theorem dX12_readDisc_60 : decode cX12_readDisc 60 = .ok (.aload_n 0, 1) := by decide +kernel
theorem dX12_readDisc_61 : decode cX12_readDisc 61 = .ok (.getfield 22, 3) := by decide +kernel
theorem dX12_readDisc_64 : decode cX12_readDisc 64 = .ok (.iload_n 1, 1) := by decide +kernel
theorem dX12_readDisc_65 : decode cX12_readDisc 65 = .ok (.iconst 1, 1) := by decide +kernel
theorem dX12_readDisc_66 : decode cX12_readDisc 66 = .ok (.iadd, 1) := by decide +kernel
theorem dX12_readDisc_67 : decode cX12_readDisc 67 = .ok (.iload_n 3, 1) := by decide +kernel
theorem dX12_readDisc_68 : decode cX12_readDisc 68 = .ok (.iastore, 1) := by decide +kernel
theorem dX12_readDisc_69 : decode cX12_readDisc 69 = .ok (.aload_n 0, 1) := by decide +kernel
theorem dX12_readDisc_70 : decode cX12_readDisc 70 = .ok (.getfield 22, 3) := by decide +kernel
theorem dX12_readDisc_73 : decode cX12_readDisc 73 = .ok (.iload_n 1, 1) := by decide +kernel
theorem dX12_readDisc_74 : decode cX12_readDisc 74 = .ok (.iconst 2, 1) := by decide +kernel
theorem dX12_readDisc_75 : decode cX12_readDisc 75 = .ok (.iadd, 1) := by decide +kernel
theorem dX12_readDisc_76 : decode cX12_readDisc 76 = .ok (.iload 4, 2) := by decide +kernel
theorem dX12_readDisc_78 : decode cX12_readDisc 78 = .ok (.iastore, 1) := by decide +kernel
theorem dX12_readDisc_79 : decode cX12_readDisc 79 = .ok (.aload_n 0, 1) := by decide +kernel
theorem dX12_readDisc_80 : decode cX12_readDisc 80 = .ok (.getfield 22, 3) := by decide +kernel
theorem dX12_readDisc_83 : decode cX12_readDisc 83 = .ok (.iconst 0, 1) := by decide +kernel
theorem dX12_readDisc_84 : decode cX12_readDisc 84 = .ok (.dup2, 1) := by decide +kernel
theorem dX12_readDisc_85 : decode cX12_readDisc 85 = .ok (.iaload, 1) := by decide +kernel
theorem dX12_readDisc_86 : decode cX12_readDisc 86 = .ok (.iconst 1, 1) := by decide +kernel
theorem dX12_readDisc_87 : decode cX12_readDisc 87 = .ok (.iadd, 1) := by decide +kernel
theorem dX12_readDisc_88 : decode cX12_readDisc 88 = .ok (.iastore, 1) := by decide +kernel
theorem dX12_readDisc_89 : decode cX12_readDisc 89 = .ok (.return_, 1) := by decide +kernel
set_option maxRecDepth 20000 in
theorem ggX12_readThread_X12_begins : GoodIn wsX12_readThread wsX12_begins := goodIn_r _ [7, 1, 8, 9, 10, 6, 11, 2, 12, 13, 14, 15, 16, 17, 18, 19, 20, 21, 22, 23, 24, 25, 26, 27, 28, 29, 30, 31, 32, 33, 34, 35, 36, 37, 38, 39, 40, 41, 42, 43, 44, 45, 46, 55, 56, 57, 58, 59, 60, 61, 62, 63, 64, 65, 66, 67, 68, 69, 70, 71, 72, 73, 74, 75, 76, 77, 78, 79, 80, 81, 82, 83, 84, 85, 86] (by decide +kernel) (by decide +kernel)
set_option maxRecDepth 20000 in
theorem gX12_readThread_X12_begins : GoodIn wsX12_readThread (wsV RX12 145 RX12 yX12_begins wsX12_begins) := goodIn_app (goodIn_of _ (by decide +kernel)) ggX12_readThread_X12_begins
set_option maxRecDepth 20000 in
theorem ggX12_readThread_X12_number : GoodIn wsX12_readThread wsX12_number := goodIn_r _ [50, 2, 42, 24, 44, 45, 6, 46, 8, 9, 10, 11, 12, 13, 14, 15, 16, 17, 18, 19, 20, 21, 22, 23, 25, 26, 27, 28, 29, 30, 31, 32, 33, 34, 35, 36, 37, 38, 39, 40, 41, 43, 55, 56, 57, 58, 59, 60, 61, 62, 63, 64, 65, 66, 67, 68, 69, 70, 71, 72, 73, 74, 75, 76, 77, 78, 79, 80, 81, 82, 83, 84, 85, 86] (by decide +kernel) (by decide +kernel)
set_option maxRecDepth 20000 in
theorem gX12_readThread_X12_number : GoodIn wsX12_readThread (wsV RX12 148 RX12 yX12_number wsX12_number) := goodIn_app (goodIn_of _ (by decide +kernel)) ggX12_readThread_X12_number
set_option maxRecDepth 20000 in
theorem ggX12_readThread_X12_mustEnd : GoodIn wsX12_readThread wsX12_mustEnd := goodIn_r _ [54, 2, 24, 14, 15, 16, 6, 17, 8, 9, 10, 11, 12, 13, 18, 19, 20, 21, 22, 23, 25, 26, 27, 28, 29, 30, 31, 32, 33, 34, 35, 36, 37, 38, 39, 40, 41, 42, 43, 44, 45, 46, 55, 56, 57, 58, 59, 60, 61, 62, 63, 64, 65, 66, 67, 68, 69, 70, 71, 72, 73, 74, 75, 76, 77, 78, 79, 80, 81, 82, 83, 84, 85, 86] (by decide +kernel) (by decide +kernel)
set_option maxRecDepth 20000 in
theorem gX12_readThread_X12_mustEnd : GoodIn wsX12_readThread (wsV RX12 152 RX12 yX12_mustEnd wsX12_mustEnd) := goodIn_app (goodIn_of _ (by decide +kernel)) ggX12_readThread_X12_mustEnd
theorem dX12_readThread_0 : decode cX12_readThread 0 = .ok (.aload_n 0, 1) := by decide +kernel
theorem dX12_readThread_1 : decode cX12_readThread 1 = .ok (.iconst 1, 1) := by decide +kernel
theorem dX12_readThread_2 : decode cX12_readThread 2 = .ok (.invokevirtual 145, 3) := by decide +kernel
theorem dX12_readThread_5 : decode cX12_readThread 5 = .ok (.bipush 15, 2) := by decide +kernel
theorem dX12_readThread_7 : decode cX12_readThread 7 = .ok (.iconst 4, 1) := by decide +kernel
theorem dX12_readThread_8 : decode cX12_readThread 8 = .ok (.aload_n 0, 1) := by decide +kernel
theorem dX12_readThread_9 : decode cX12_readThread 9 = .ok (.getfield 22, 3) := by decide +kernel
theorem dX12_readThread_12 : decode cX12_readThread 12 = .ok (.iconst 1, 1) := by decide +kernel
theorem dX12_readThread_13 : decode cX12_readThread 13 = .ok (.iaload, 1) := by decide +kernel
theorem dX12_readThread_14 : decode cX12_readThread 14 = .ok (.imul, 1) := by decide +kernel
theorem dX12_readThread_15 : decode cX12_readThread 15 = .ok (.iadd, 1) := by decide +kernel
theorem dX12_readThread_16 : decode cX12_readThread 16 = .ok (.istore_n 1, 1) := by decide +kernel
theorem dX12_readThread_17 : decode cX12_readThread 17 = .ok (.aload_n 0, 1) := by decide +kernel
theorem dX12_readThread_18 : decode cX12_readThread 18 = .ok (.iconst 1, 1) := by decide +kernel
theorem dX12_readThread_19 : decode cX12_readThread 19 = .ok (.bipush 99, 2) := by decide +kernel
theorem dX12_readThread_21 : decode cX12_readThread 21 = .ok (.invokevirtual 148, 3) := by decide +kernel
theorem dX12_readThread_24 : decode cX12_readThread 24 = .ok (.istore_n 2, 1) := by decide +kernel
theorem dX12_readThread_25 : decode cX12_readThread 25 = .ok (.aload_n 0, 1) := by decide +kernel
theorem dX12_readThread_26 : decode cX12_readThread 26 = .ok (.iconst 1, 1) := by decide +kernel
theorem dX12_readThread_27 : decode cX12_readThread 27 = .ok (.sipush 400, 3) := by decide +kernel
theorem dX12_readThread_30 : decode cX12_readThread 30 = .ok (.invokevirtual 148, 3) := by decide +kernel
theorem dX12_readThread_33 : decode cX12_readThread 33 = .ok (.istore_n 3, 1) := by decide +kernel
theorem dX12_readThread_34 : decode cX12_readThread 34 = .ok (.aload_n 0, 1) := by decide +kernel
theorem dX12_readThread_35 : decode cX12_readThread 35 = .ok (.iload_n 3, 1) := by decide +kernel
theorem dX12_readThread_36 : decode cX12_readThread 36 = .ok (.sipush 800, 3) := by decide +kernel
theorem dX12_readThread_39 : decode cX12_readThread 39 = .ok (.invokevirtual 148, 3) := by decide +kernel
theorem dX12_readThread_42 : decode cX12_readThread 42 = .ok (.istore 4, 2) := by decide +kernel
theorem dX12_readThread_44 : decode cX12_readThread 44 = .ok (.aload_n 0, 1) := by decide +kernel
theorem dX12_readThread_45 : decode cX12_readThread 45 = .ok (.iconst 1, 1) := by decide +kernel
theorem dX12_readThread_46 : decode cX12_readThread 46 = .ok (.sipush 999, 3) := by decide +kernel
theorem dX12_readThread_49 : decode cX12_readThread 49 = .ok (.invokevirtual 148, 3) := by decide +kernel
theorem dX12_readThread_52 : decode cX12_readThread 52 = .ok (.istore 5, 2) := by decide +kernel
theorem dX12_readThread_54 : decode cX12_readThread 54 = .ok (.aload_n 0, 1) := by decide +kernel
theorem dX12_readThread_55 : decode cX12_readThread 55 = .ok (.invokevirtual 152, 3) := by decide +kernel
theorem dX12_readThread_58 : decode cX12_readThread 58 = .ok (.aload_n 0, 1) := by decide +kernel
theorem dX12_readThread_59 : decode cX12_readThread 59 = .ok (.getfield 116, 3) := by decide +kernel
theorem dX12_readThread_62 : decode cX12_readThread 62 = .ok (.ifCond .ne 49, 3) := by decide +kernel
theorem dX12_readThread_65 : decode cX12_readThread 65 = .ok (.aload_n 0, 1) := by decide +kernel
theorem dX12_readThread_66 : decode cX12_readThread 66 = .ok (.getfield 22, 3) := by decide +kernel
theorem dX12_readThread_69 : decode cX12_readThread 69 = .ok (.iload_n 1, 1) := by decide +kernel
theorem dX12_readThread_70 : decode cX12_readThread 70 = .ok (.iload_n 2, 1) := by decide +kernel
theorem dX12_readThread_71 : decode cX12_readThread 71 = .ok (.iastore, 1) := by decide +kernel
theorem dX12_readThread_72 : decode cX12_readThread 72 = .ok (.aload_n 0, 1) := by decide +kernel
theorem dX12_readThread_73 : decode cX12_readThread 73 = .ok (.getfield 22, 3) := by decide +kernel
theorem dX12_readThread_76 : decode cX12_readThread 76 = .ok (.iload_n 1, 1) := by decide +kernel
theorem dX12_readThread_77 : decode cX12_readThread 77 = .ok (.iconst 1, 1) := by decide +kernel
theorem dX12_readThread_78 : decode cX12_readThread 78 = .ok (.iadd, 1) := by decide +kernel
theorem dX12_readThread_79 : decode cX12_readThread 79 = .ok (.iload_n 3, 1) := by decide +kernel
theorem dX12_readThread_80 : decode cX12_readThread 80 = .ok (.iastore, 1) := by decide +kernel
theorem dX12_readThread_81 : decode cX12_readThread 81 = .ok (.aload_n 0, 1) := by decide +kernel
theorem dX12_readThread_82 : decode cX12_readThread 82 = .ok (.getfield 22, 3) := by decide +kernel
theorem dX12_readThread_85 : decode cX12_readThread 85 = .ok (.iload_n 1, 1) := by decide +kernel
theorem dX12_readThread_86 : decode cX12_readThread 86 = .ok (.iconst 2, 1) := by decide +kernel
theorem dX12_readThread_87 : decode cX12_readThread 87 = .ok (.iadd, 1) := by decide +kernel
theorem dX12_readThread_88 : decode cX12_readThread 88 = .ok (.iload 4, 2) := by decide +kernel
theorem dX12_readThread_90 : decode cX12_readThread 90 = .ok (.iastore, 1) := by decide +kernel
theorem dX12_readThread_91 : decode cX12_readThread 91 = .ok (.aload_n 0, 1) := by decide +kernel
theorem dX12_readThread_92 : decode cX12_readThread 92 = .ok (.getfield 22, 3) := by decide +kernel
theorem dX12_readThread_95 : decode cX12_readThread 95 = .ok (.iload_n 1, 1) := by decide +kernel
theorem dX12_readThread_96 : decode cX12_readThread 96 = .ok (.iconst 3, 1) := by decide +kernel
theorem dX12_readThread_97 : decode cX12_readThread 97 = .ok (.iadd, 1) := by decide +kernel
theorem dX12_readThread_98 : decode cX12_readThread 98 = .ok (.iload 5, 2) := by decide +kernel
theorem dX12_readThread_100 : decode cX12_readThread 100 = .ok (.iastore, 1) := by decide +kernel
theorem dX12_readThread_101 : decode cX12_readThread 101 = .ok (.aload_n 0, 1) := by decide +kernel
theorem dX12_readThread_102 : decode cX12_readThread 102 = .ok (.getfield 22, 3) := by decide +kernel
theorem dX12_readThread_105 : decode cX12_readThread 105 = .ok (.iconst 1, 1) := by decide +kernel
theorem dX12_readThread_106 : decode cX12_readThread 106 = .ok (.dup2, 1) := by decide +kernel
theorem dX12_readThread_107 : decode cX12_readThread 107 = .ok (.iaload, 1) := by decide +kernel
theorem dX12_readThread_108 : decode cX12_readThread 108 = .ok (.iconst 1, 1) := by decide +kernel
theorem dX12_readThread_109 : decode cX12_readThread 109 = .ok (.iadd, 1) := by decide +kernel
theorem dX12_readThread_110 : decode cX12_readThread 110 = .ok (.iastore, 1) := by decide +kernel
theorem dX12_readThread_111 : decode cX12_readThread 111 = .ok (.return_, 1) := by decide +kernel
set_option maxRecDepth 20000 in
theorem ggX12_readRule_X12_bad : GoodIn wsX12_readRule wsX12_bad := goodIn_r _ [11, 2, 12, 13, 69, 70, 71, 72, 73, 74, 75, 76, 77, 78, 79, 80, 81, 82, 83, 84, 85, 86, 87, 88, 89, 90, 91, 92, 93, 94, 95, 96, 97, 98, 99, 100] (by decide +kernel) (by decide +kernel)
set_option maxRecDepth 20000 in
theorem gX12_readRule_X12_bad : GoodIn wsX12_readRule (wsV RX12 122 RX12 yX12_bad wsX12_bad) := goodIn_app (goodIn_of _ (by decide +kernel)) ggX12_readRule_X12_bad
set_option maxRecDepth 20000 in
theorem ggX12_readRule_X12_must : GoodIn wsX12_readRule wsX12_must := goodIn_r _ [17, 2, 7, 8, 9, 10, 11, 12, 13, 18, 19, 20, 21, 22, 3, 23, 24, 25, 26, 27, 28, 29, 30, 31, 32, 33, 34, 35, 36, 37, 38, 39, 40, 41, 42, 43, 44, 45, 69, 70, 71, 72, 73, 74, 75, 76, 77, 78, 79, 80, 81, 82, 83, 84, 85, 86, 87, 88, 89, 90, 91, 92, 93, 94, 95, 96, 97, 98, 99, 100] (by decide +kernel) (by decide +kernel)
set_option maxRecDepth 20000 in
theorem gX12_readRule_X12_must : GoodIn wsX12_readRule (wsV RX12 129 RX12 yX12_must wsX12_must) := goodIn_app (goodIn_of _ (by decide +kernel)) ggX12_readRule_X12_must
set_option maxRecDepth 20000 in
theorem ggX12_readRule_X12_word : GoodIn wsX12_readRule wsX12_word := goodIn_r _ [49, 12, 24, 23, 30, 2, 69, 70, 71, 72, 73, 74, 75, 76, 77, 78, 79, 80, 81, 82, 83, 84, 85, 86, 87, 88, 89, 90, 91, 92, 93, 94, 95, 96, 97, 98, 99, 100] (by decide +kernel) (by decide +kernel)
set_option maxRecDepth 20000 in
theorem gX12_readRule_X12_word : GoodIn wsX12_readRule (wsV RX12 133 RX12 yX12_word wsX12_word) := goodIn_app (goodIn_of _ (by decide +kernel)) ggX12_readRule_X12_word
set_option maxRecDepth 20000 in
theorem ggX12_readRule_X12_whatOf : GoodIn wsX12_readRule wsX12_whatOf := goodIn_r _ [52, 53, 54, 55, 56, 3] (by decide +kernel) (by decide +kernel)
set_option maxRecDepth 20000 in
theorem gX12_readRule_X12_whatOf : GoodIn wsX12_readRule (va_wsS RX12 155 yX12_whatOf wsX12_whatOf) := goodIn_app (goodIn_of _ (by decide +kernel)) ggX12_readRule_X12_whatOf
set_option maxRecDepth 20000 in
theorem ggX12_readRule_X12_number : GoodIn wsX12_readRule wsX12_number := goodIn_r _ [60, 2, 41, 23, 43, 44, 10, 45, 7, 8, 9, 11, 12, 13, 14, 15, 16, 17, 18, 19, 20, 21, 22, 3, 24, 25, 26, 27, 28, 29, 30, 31, 32, 33, 34, 35, 36, 37, 38, 39, 40, 42, 69, 70, 71, 72, 73, 74, 75, 76, 77, 78, 79, 80, 81, 82, 83, 84, 85, 86, 87, 88, 89, 90, 91, 92, 93, 94, 95, 96, 97, 98, 99, 100] (by decide +kernel) (by decide +kernel)
set_option maxRecDepth 20000 in
theorem gX12_readRule_X12_number : GoodIn wsX12_readRule (wsV RX12 148 RX12 yX12_number wsX12_number) := goodIn_app (goodIn_of _ (by decide +kernel)) ggX12_readRule_X12_number
set_option maxRecDepth 20000 in
theorem ggX12_readRule_X12_mustWord : GoodIn wsX12_readRule wsX12_mustWord := goodIn_r _ [64, 2, 46, 47, 48, 10, 49, 12, 24, 23, 30, 14, 15, 16, 17, 7, 8, 9, 11, 13, 18, 19, 20, 21, 22, 3, 25, 26, 27, 28, 29, 31, 32, 33, 34, 35, 36, 37, 38, 39, 40, 41, 42, 43, 44, 45, 69, 70, 71, 72, 73, 74, 75, 76, 77, 78, 79, 80, 81, 82, 83, 84, 85, 86, 87, 88, 89, 90, 91, 92, 93, 94, 95, 96, 97, 98, 99, 100] (by decide +kernel) (by decide +kernel)
set_option maxRecDepth 20000 in
theorem gX12_readRule_X12_mustWord : GoodIn wsX12_readRule (wsV RX12 165 RX12 yX12_mustWord wsX12_mustWord) := goodIn_app (goodIn_of _ (by decide +kernel)) ggX12_readRule_X12_mustWord
set_option maxRecDepth 20000 in
theorem ggX12_readRule_X12_mustEnd : GoodIn wsX12_readRule wsX12_mustEnd := goodIn_r _ [68, 2, 23, 14, 15, 16, 10, 17, 7, 8, 9, 11, 12, 13, 18, 19, 20, 21, 22, 3, 24, 25, 26, 27, 28, 29, 30, 31, 32, 33, 34, 35, 36, 37, 38, 39, 40, 41, 42, 43, 44, 45, 69, 70, 71, 72, 73, 74, 75, 76, 77, 78, 79, 80, 81, 82, 83, 84, 85, 86, 87, 88, 89, 90, 91, 92, 93, 94, 95, 96, 97, 98, 99, 100] (by decide +kernel) (by decide +kernel)
set_option maxRecDepth 20000 in
theorem gX12_readRule_X12_mustEnd : GoodIn wsX12_readRule (wsV RX12 152 RX12 yX12_mustEnd wsX12_mustEnd) := goodIn_app (goodIn_of _ (by decide +kernel)) ggX12_readRule_X12_mustEnd
theorem dX12_readRule_0 : decode cX12_readRule 0 = .ok (.aload_n 0, 1) := by decide +kernel
theorem dX12_readRule_1 : decode cX12_readRule 1 = .ok (.getfield 22, 3) := by decide +kernel
theorem dX12_readRule_4 : decode cX12_readRule 4 = .ok (.iload_n 1, 1) := by decide +kernel
theorem dX12_readRule_5 : decode cX12_readRule 5 = .ok (.iaload, 1) := by decide +kernel
theorem dX12_readRule_6 : decode cX12_readRule 6 = .ok (.bipush 6, 2) := by decide +kernel
theorem dX12_readRule_8 : decode cX12_readRule 8 = .ok (.if_icmp .ne 8, 3) := by decide +kernel
theorem dX12_readRule_11 : decode cX12_readRule 11 = .ok (.aload_n 0, 1) := by decide +kernel
theorem dX12_readRule_12 : decode cX12_readRule 12 = .ok (.iconst 3, 1) := by decide +kernel
theorem dX12_readRule_13 : decode cX12_readRule 13 = .ok (.invokevirtual 122, 3) := by decide +kernel
theorem dX12_readRule_16 : decode cX12_readRule 16 = .ok (.aload_n 0, 1) := by decide +kernel
theorem dX12_readRule_17 : decode cX12_readRule 17 = .ok (.iconst 1, 1) := by decide +kernel
theorem dX12_readRule_18 : decode cX12_readRule 18 = .ok (.invokevirtual 129, 3) := by decide +kernel
theorem dX12_readRule_21 : decode cX12_readRule 21 = .ok (.aload_n 0, 1) := by decide +kernel
theorem dX12_readRule_22 : decode cX12_readRule 22 = .ok (.invokevirtual 133, 3) := by decide +kernel
theorem dX12_readRule_25 : decode cX12_readRule 25 = .ok (.invokestatic 155, 3) := by decide +kernel
theorem dX12_readRule_28 : decode cX12_readRule 28 = .ok (.istore_n 2, 1) := by decide +kernel
theorem dX12_readRule_29 : decode cX12_readRule 29 = .ok (.aload_n 0, 1) := by decide +kernel
theorem dX12_readRule_30 : decode cX12_readRule 30 = .ok (.getfield 116, 3) := by decide +kernel
theorem dX12_readRule_33 : decode cX12_readRule 33 = .ok (.ifCond .ne 18, 3) := by decide +kernel
theorem dX12_readRule_36 : decode cX12_readRule 36 = .ok (.aload_n 0, 1) := by decide +kernel
theorem dX12_readRule_37 : decode cX12_readRule 37 = .ok (.iload_n 2, 1) := by decide +kernel
theorem dX12_readRule_38 : decode cX12_readRule 38 = .ok (.ldc 31, 2) := by decide +kernel
theorem dX12_readRule_40 : decode cX12_readRule 40 = .ok (.if_icmp .eq 7, 3) := by decide +kernel
theorem dX12_readRule_43 : decode cX12_readRule 43 = .ok (.iconst 1, 1) := by decide +kernel
theorem dX12_readRule_44 : decode cX12_readRule 44 = .ok (.goto 4, 3) := by decide +kernel
theorem dX12_readRule_47 : decode cX12_readRule 47 = .ok (.iconst 0, 1) := by decide +kernel
theorem dX12_readRule_48 : decode cX12_readRule 48 = .ok (.invokevirtual 129, 3) := by decide +kernel
theorem dX12_readRule_51 : decode cX12_readRule 51 = .ok (.aload_n 0, 1) := by decide +kernel
theorem dX12_readRule_52 : decode cX12_readRule 52 = .ok (.invokevirtual 133, 3) := by decide +kernel
theorem dX12_readRule_55 : decode cX12_readRule 55 = .ok (.lstore_n 3, 1) := by decide +kernel
theorem dX12_readRule_56 : decode cX12_readRule 56 = .ok (.aload_n 0, 1) := by decide +kernel
theorem dX12_readRule_57 : decode cX12_readRule 57 = .ok (.getfield 116, 3) := by decide +kernel
theorem dX12_readRule_60 : decode cX12_readRule 60 = .ok (.ifCond .ne 28, 3) := by decide +kernel
theorem dX12_readRule_63 : decode cX12_readRule 63 = .ok (.aload_n 0, 1) := by decide +kernel
theorem dX12_readRule_64 : decode cX12_readRule 64 = .ok (.lload_n 3, 1) := by decide +kernel
theorem dX12_readRule_65 : decode cX12_readRule 65 = .ok (.ldc2_w 159, 3) := by decide +kernel
theorem dX12_readRule_68 : decode cX12_readRule 68 = .ok (.lcmp, 1) := by decide +kernel
theorem dX12_readRule_69 : decode cX12_readRule 69 = .ok (.ifCond .eq 11, 3) := by decide +kernel
theorem dX12_readRule_72 : decode cX12_readRule 72 = .ok (.lload_n 3, 1) := by decide +kernel
theorem dX12_readRule_73 : decode cX12_readRule 73 = .ok (.ldc2_w 161, 3) := by decide +kernel
theorem dX12_readRule_76 : decode cX12_readRule 76 = .ok (.lcmp, 1) := by decide +kernel
theorem dX12_readRule_77 : decode cX12_readRule 77 = .ok (.ifCond .ne 7, 3) := by decide +kernel
theorem dX12_readRule_80 : decode cX12_readRule 80 = .ok (.iconst 1, 1) := by decide +kernel
theorem dX12_readRule_81 : decode cX12_readRule 81 = .ok (.goto 4, 3) := by decide +kernel
theorem dX12_readRule_84 : decode cX12_readRule 84 = .ok (.iconst 0, 1) := by decide +kernel
theorem dX12_readRule_85 : decode cX12_readRule 85 = .ok (.invokevirtual 129, 3) := by decide +kernel
theorem dX12_readRule_88 : decode cX12_readRule 88 = .ok (.aload_n 0, 1) := by decide +kernel
theorem dX12_readRule_89 : decode cX12_readRule 89 = .ok (.sipush (-999), 3) := by decide +kernel
theorem dX12_readRule_92 : decode cX12_readRule 92 = .ok (.sipush 9999, 3) := by decide +kernel
theorem dX12_readRule_95 : decode cX12_readRule 95 = .ok (.invokevirtual 148, 3) := by decide +kernel
theorem dX12_readRule_98 : decode cX12_readRule 98 = .ok (.istore 5, 2) := by decide +kernel
theorem dX12_readRule_100 : decode cX12_readRule 100 = .ok (.aload_n 0, 1) := by decide +kernel
theorem dX12_readRule_101 : decode cX12_readRule 101 = .ok (.ldc2_w 163, 3) := by decide +kernel
theorem dX12_readRule_104 : decode cX12_readRule 104 = .ok (.invokevirtual 165, 3) := by decide +kernel
theorem dX12_readRule_107 : decode cX12_readRule 107 = .ok (.aload_n 0, 1) := by decide +kernel
theorem dX12_readRule_108 : decode cX12_readRule 108 = .ok (.iconst 0, 1) := by decide +kernel
theorem dX12_readRule_109 : decode cX12_readRule 109 = .ok (.bipush 99, 2) := by decide +kernel
theorem dX12_readRule_111 : decode cX12_readRule 111 = .ok (.invokevirtual 148, 3) := by decide +kernel
theorem dX12_readRule_114 : decode cX12_readRule 114 = .ok (.istore 6, 2) := by decide +kernel
theorem dX12_readRule_116 : decode cX12_readRule 116 = .ok (.aload_n 0, 1) := by decide +kernel
theorem dX12_readRule_117 : decode cX12_readRule 117 = .ok (.invokevirtual 152, 3) := by decide +kernel
theorem dX12_readRule_120 : decode cX12_readRule 120 = .ok (.aload_n 0, 1) := by decide +kernel
theorem dX12_readRule_121 : decode cX12_readRule 121 = .ok (.getfield 116, 3) := by decide +kernel
theorem dX12_readRule_124 : decode cX12_readRule 124 = .ok (.ifCond .ne 79, 3) := by decide +kernel
theorem dX12_readRule_127 : decode cX12_readRule 127 = .ok (.iload_n 1, 1) := by decide +kernel
theorem dX12_readRule_128 : decode cX12_readRule 128 = .ok (.iconst 1, 1) := by decide +kernel
theorem dX12_readRule_129 : decode cX12_readRule 129 = .ok (.iadd, 1) := by decide +kernel
theorem dX12_readRule_130 : decode cX12_readRule 130 = .ok (.iconst 4, 1) := by decide +kernel
theorem dX12_readRule_131 : decode cX12_readRule 131 = .ok (.aload_n 0, 1) := by decide +kernel
theorem dX12_readRule_132 : decode cX12_readRule 132 = .ok (.getfield 22, 3) := by decide +kernel
theorem dX12_readRule_135 : decode cX12_readRule 135 = .ok (.iload_n 1, 1) := by decide +kernel
theorem dX12_readRule_136 : decode cX12_readRule 136 = .ok (.iaload, 1) := by decide +kernel
theorem dX12_readRule_137 : decode cX12_readRule 137 = .ok (.imul, 1) := by decide +kernel
theorem dX12_readRule_138 : decode cX12_readRule 138 = .ok (.iadd, 1) := by decide +kernel
theorem dX12_readRule_139 : decode cX12_readRule 139 = .ok (.istore 7, 2) := by decide +kernel
theorem dX12_readRule_141 : decode cX12_readRule 141 = .ok (.aload_n 0, 1) := by decide +kernel
theorem dX12_readRule_142 : decode cX12_readRule 142 = .ok (.getfield 22, 3) := by decide +kernel
theorem dX12_readRule_145 : decode cX12_readRule 145 = .ok (.iload 7, 2) := by decide +kernel
theorem dX12_readRule_147 : decode cX12_readRule 147 = .ok (.iload_n 2, 1) := by decide +kernel
theorem dX12_readRule_148 : decode cX12_readRule 148 = .ok (.iastore, 1) := by decide +kernel
theorem dX12_readRule_149 : decode cX12_readRule 149 = .ok (.aload_n 0, 1) := by decide +kernel
theorem dX12_readRule_150 : decode cX12_readRule 150 = .ok (.getfield 22, 3) := by decide +kernel
theorem dX12_readRule_153 : decode cX12_readRule 153 = .ok (.iload 7, 2) := by decide +kernel
theorem dX12_readRule_155 : decode cX12_readRule 155 = .ok (.iconst 1, 1) := by decide +kernel
theorem dX12_readRule_156 : decode cX12_readRule 156 = .ok (.iadd, 1) := by decide +kernel
theorem dX12_readRule_157 : decode cX12_readRule 157 = .ok (.lload_n 3, 1) := by decide +kernel
theorem dX12_readRule_158 : decode cX12_readRule 158 = .ok (.ldc2_w 161, 3) := by decide +kernel
theorem dX12_readRule_161 : decode cX12_readRule 161 = .ok (.lcmp, 1) := by decide +kernel
theorem dX12_readRule_162 : decode cX12_readRule 162 = .ok (.ifCond .ne 7, 3) := by decide +kernel
theorem dX12_readRule_165 : decode cX12_readRule 165 = .ok (.iconst 1, 1) := by decide +kernel
theorem dX12_readRule_166 : decode cX12_readRule 166 = .ok (.goto 4, 3) := by decide +kernel
theorem dX12_readRule_169 : decode cX12_readRule 169 = .ok (.iconst 0, 1) := by decide +kernel
theorem dX12_readRule_170 : decode cX12_readRule 170 = .ok (.iastore, 1) := by decide +kernel
theorem dX12_readRule_171 : decode cX12_readRule 171 = .ok (.aload_n 0, 1) := by decide +kernel
theorem dX12_readRule_172 : decode cX12_readRule 172 = .ok (.getfield 22, 3) := by decide +kernel
theorem dX12_readRule_175 : decode cX12_readRule 175 = .ok (.iload 7, 2) := by decide +kernel
theorem dX12_readRule_177 : decode cX12_readRule 177 = .ok (.iconst 2, 1) := by decide +kernel
theorem dX12_readRule_178 : decode cX12_readRule 178 = .ok (.iadd, 1) := by decide +kernel
theorem dX12_readRule_179 : decode cX12_readRule 179 = .ok (.iload 5, 2) := by decide +kernel
theorem dX12_readRule_181 : decode cX12_readRule 181 = .ok (.iastore, 1) := by decide +kernel
theorem dX12_readRule_182 : decode cX12_readRule 182 = .ok (.aload_n 0, 1) := by decide +kernel
theorem dX12_readRule_183 : decode cX12_readRule 183 = .ok (.getfield 22, 3) := by decide +kernel
theorem dX12_readRule_186 : decode cX12_readRule 186 = .ok (.iload 7, 2) := by decide +kernel
theorem dX12_readRule_188 : decode cX12_readRule 188 = .ok (.iconst 3, 1) := by decide +kernel
theorem dX12_readRule_189 : decode cX12_readRule 189 = .ok (.iadd, 1) := by decide +kernel
theorem dX12_readRule_190 : decode cX12_readRule 190 = .ok (.iload 6, 2) := by decide +kernel
theorem dX12_readRule_192 : decode cX12_readRule 192 = .ok (.iastore, 1) := by decide +kernel
theorem dX12_readRule_193 : decode cX12_readRule 193 = .ok (.aload_n 0, 1) := by decide +kernel
theorem dX12_readRule_194 : decode cX12_readRule 194 = .ok (.getfield 22, 3) := by decide +kernel
theorem dX12_readRule_197 : decode cX12_readRule 197 = .ok (.iload_n 1, 1) := by decide +kernel
theorem dX12_readRule_198 : decode cX12_readRule 198 = .ok (.dup2, 1) := by decide +kernel
theorem dX12_readRule_199 : decode cX12_readRule 199 = .ok (.iaload, 1) := by decide +kernel
theorem dX12_readRule_200 : decode cX12_readRule 200 = .ok (.iconst 1, 1) := by decide +kernel
theorem dX12_readRule_201 : decode cX12_readRule 201 = .ok (.iadd, 1) := by decide +kernel
theorem dX12_readRule_202 : decode cX12_readRule 202 = .ok (.iastore, 1) := by decide +kernel
theorem dX12_readRule_203 : decode cX12_readRule 203 = .ok (.return_, 1) := by decide +kernel
set_option maxRecDepth 20000 in
theorem ggX12_readHand_X12_begins : GoodIn wsX12_readHand wsX12_begins := goodIn_r _ [8, 1, 9, 10, 11, 7, 12, 3, 13, 14, 15, 16, 17, 18, 19, 20, 21, 22, 23, 24, 25, 26, 27, 28, 29, 30, 31, 32, 33, 34, 35, 36, 37, 38, 39, 40, 41, 42, 43, 44, 45, 46, 47, 78, 79, 80, 81, 82, 83, 84, 85, 86, 87, 88, 89, 90, 91, 92, 93, 94, 95, 96, 97, 98, 99, 100, 101, 102, 103, 104, 105, 106, 107, 108, 109] (by decide +kernel) (by decide +kernel)
set_option maxRecDepth 20000 in
theorem gX12_readHand_X12_begins : GoodIn wsX12_readHand (wsV RX12 145 RX12 yX12_begins wsX12_begins) := goodIn_app (goodIn_of _ (by decide +kernel)) ggX12_readHand_X12_begins
set_option maxRecDepth 20000 in
theorem ggX12_readHand_X12_mustEnd : GoodIn wsX12_readHand wsX12_mustEnd := goodIn_r _ [51, 3, 25, 15, 16, 17, 7, 18, 9, 10, 11, 12, 13, 14, 19, 20, 21, 22, 23, 24, 26, 27, 28, 29, 30, 31, 32, 33, 34, 35, 36, 37, 38, 39, 40, 41, 42, 43, 44, 45, 46, 47, 78, 79, 80, 81, 82, 83, 84, 85, 86, 87, 88, 89, 90, 91, 92, 93, 94, 95, 96, 97, 98, 99, 100, 101, 102, 103, 104, 105, 106, 107, 108, 109] (by decide +kernel) (by decide +kernel)
set_option maxRecDepth 20000 in
theorem gX12_readHand_X12_mustEnd : GoodIn wsX12_readHand (wsV RX12 152 RX12 yX12_mustEnd wsX12_mustEnd) := goodIn_app (goodIn_of _ (by decide +kernel)) ggX12_readHand_X12_mustEnd
set_option maxRecDepth 20000 in
theorem ggX12_readHand_X12_word : GoodIn wsX12_readHand wsX12_word := goodIn_r _ [55, 13, 26, 25, 32, 3, 78, 79, 80, 81, 82, 83, 84, 85, 86, 87, 88, 89, 90, 91, 92, 93, 94, 95, 96, 97, 98, 99, 100, 101, 102, 103, 104, 105, 106, 107, 108, 109] (by decide +kernel) (by decide +kernel)
set_option maxRecDepth 20000 in
theorem gX12_readHand_X12_word : GoodIn wsX12_readHand (wsV RX12 133 RX12 yX12_word wsX12_word) := goodIn_app (goodIn_of _ (by decide +kernel)) ggX12_readHand_X12_word
set_option maxRecDepth 20000 in
theorem ggX12_readHand_X12_readRule : GoodIn wsX12_readHand wsX12_readRule := goodIn_r _ [59, 1, 3, 24, 60, 61, 62, 9, 10, 11, 7, 12, 13, 14, 15, 16, 17, 18, 19, 20, 21, 22, 23, 25, 26, 27, 28, 29, 30, 31, 32, 33, 34, 35, 36, 37, 38, 39, 40, 41, 42, 43, 44, 45, 46, 47, 52, 53, 54, 55, 63, 64, 65, 66, 67, 68, 69, 70, 71, 72, 73, 74, 75, 76, 77, 48, 49, 50, 51, 78, 79, 80, 81, 82, 83, 84, 85, 86, 87, 88, 89, 90, 91, 92, 93, 94, 95, 96, 97, 98, 99, 100, 101, 102, 103, 104, 105, 106, 107, 108, 109] (by decide +kernel) (by decide +kernel)
set_option maxRecDepth 20000 in
theorem gX12_readHand_X12_readRule : GoodIn wsX12_readHand (wsV RX12 171 RX12 yX12_readRule wsX12_readRule) := goodIn_app (goodIn_of _ (by decide +kernel)) ggX12_readHand_X12_readRule
theorem dX12_readHand_0 : decode cX12_readHand 0 = .ok (.aload_n 0, 1) := by decide +kernel
theorem dX12_readHand_1 : decode cX12_readHand 1 = .ok (.iconst 2, 1) := by decide +kernel
theorem dX12_readHand_2 : decode cX12_readHand 2 = .ok (.invokevirtual 145, 3) := by decide +kernel
theorem dX12_readHand_5 : decode cX12_readHand 5 = .ok (.bipush 31, 2) := by decide +kernel
theorem dX12_readHand_7 : decode cX12_readHand 7 = .ok (.bipush 25, 2) := by decide +kernel
theorem dX12_readHand_9 : decode cX12_readHand 9 = .ok (.aload_n 0, 1) := by decide +kernel
theorem dX12_readHand_10 : decode cX12_readHand 10 = .ok (.getfield 22, 3) := by decide +kernel
theorem dX12_readHand_13 : decode cX12_readHand 13 = .ok (.iconst 2, 1) := by decide +kernel
theorem dX12_readHand_14 : decode cX12_readHand 14 = .ok (.iaload, 1) := by decide +kernel
theorem dX12_readHand_15 : decode cX12_readHand 15 = .ok (.imul, 1) := by decide +kernel
theorem dX12_readHand_16 : decode cX12_readHand 16 = .ok (.iadd, 1) := by decide +kernel
theorem dX12_readHand_17 : decode cX12_readHand 17 = .ok (.istore_n 1, 1) := by decide +kernel
theorem dX12_readHand_18 : decode cX12_readHand 18 = .ok (.aload_n 0, 1) := by decide +kernel
theorem dX12_readHand_19 : decode cX12_readHand 19 = .ok (.invokevirtual 152, 3) := by decide +kernel
theorem dX12_readHand_22 : decode cX12_readHand 22 = .ok (.aload_n 0, 1) := by decide +kernel
theorem dX12_readHand_23 : decode cX12_readHand 23 = .ok (.invokevirtual 133, 3) := by decide +kernel
theorem dX12_readHand_26 : decode cX12_readHand 26 = .ok (.ldc2_w 169, 3) := by decide +kernel
theorem dX12_readHand_29 : decode cX12_readHand 29 = .ok (.lcmp, 1) := by decide +kernel
theorem dX12_readHand_30 : decode cX12_readHand 30 = .ok (.ifCond .ne 11, 3) := by decide +kernel
theorem dX12_readHand_33 : decode cX12_readHand 33 = .ok (.aload_n 0, 1) := by decide +kernel
theorem dX12_readHand_34 : decode cX12_readHand 34 = .ok (.iload_n 1, 1) := by decide +kernel
theorem dX12_readHand_35 : decode cX12_readHand 35 = .ok (.invokevirtual 171, 3) := by decide +kernel
theorem dX12_readHand_38 : decode cX12_readHand 38 = .ok (.goto (-16), 3) := by decide +kernel
theorem dX12_readHand_41 : decode cX12_readHand 41 = .ok (.aload_n 0, 1) := by decide +kernel
theorem dX12_readHand_42 : decode cX12_readHand 42 = .ok (.getfield 22, 3) := by decide +kernel
theorem dX12_readHand_45 : decode cX12_readHand 45 = .ok (.iconst 2, 1) := by decide +kernel
theorem dX12_readHand_46 : decode cX12_readHand 46 = .ok (.dup2, 1) := by decide +kernel
theorem dX12_readHand_47 : decode cX12_readHand 47 = .ok (.iaload, 1) := by decide +kernel
theorem dX12_readHand_48 : decode cX12_readHand 48 = .ok (.aload_n 0, 1) := by decide +kernel
theorem dX12_readHand_49 : decode cX12_readHand 49 = .ok (.getfield 116, 3) := by decide +kernel
theorem dX12_readHand_52 : decode cX12_readHand 52 = .ok (.ifCond .ne 7, 3) := by decide +kernel
theorem dX12_readHand_55 : decode cX12_readHand 55 = .ok (.iconst 1, 1) := by decide +kernel
theorem dX12_readHand_56 : decode cX12_readHand 56 = .ok (.goto 4, 3) := by decide +kernel
theorem dX12_readHand_59 : decode cX12_readHand 59 = .ok (.iconst 0, 1) := by decide +kernel
theorem dX12_readHand_60 : decode cX12_readHand 60 = .ok (.iadd, 1) := by decide +kernel
theorem dX12_readHand_61 : decode cX12_readHand 61 = .ok (.iastore, 1) := by decide +kernel
theorem dX12_readHand_62 : decode cX12_readHand 62 = .ok (.return_, 1) := by decide +kernel
set_option maxRecDepth 20000 in
theorem ggX12_mustBegin_X12_word : GoodIn wsX12_mustBegin wsX12_word := goodIn_r _ [5, 6, 7, 8, 9, 10, 16, 17, 18, 19, 20, 21, 22, 23, 24, 25, 26, 27, 28, 29, 30, 31, 32, 33, 34, 35, 36, 37, 38, 39, 40, 41, 42, 43, 44, 45, 46, 47] (by decide +kernel) (by decide +kernel)
set_option maxRecDepth 20000 in
theorem gX12_mustBegin_X12_word : GoodIn wsX12_mustBegin (wsV RX12 133 RX12 yX12_word wsX12_word) := goodIn_app (goodIn_of _ (by decide +kernel)) ggX12_mustBegin_X12_word
set_option maxRecDepth 20000 in
theorem ggX12_mustBegin_X12_bad : GoodIn wsX12_mustBegin wsX12_bad := goodIn_r _ [14, 10, 6, 15, 16, 17, 18, 19, 20, 21, 22, 23, 24, 25, 26, 27, 28, 29, 30, 31, 32, 33, 34, 35, 36, 37, 38, 39, 40, 41, 42, 43, 44, 45, 46, 47] (by decide +kernel) (by decide +kernel)
set_option maxRecDepth 20000 in
theorem gX12_mustBegin_X12_bad : GoodIn wsX12_mustBegin (wsV RX12 122 RX12 yX12_bad wsX12_bad) := goodIn_app (goodIn_of _ (by decide +kernel)) ggX12_mustBegin_X12_bad
theorem dX12_mustBegin_0 : decode cX12_mustBegin 0 = .ok (.aload_n 0, 1) := by decide +kernel
theorem dX12_mustBegin_1 : decode cX12_mustBegin 1 = .ok (.invokevirtual 133, 3) := by decide +kernel
theorem dX12_mustBegin_4 : decode cX12_mustBegin 4 = .ok (.lload_n 1, 1) := by decide +kernel
theorem dX12_mustBegin_5 : decode cX12_mustBegin 5 = .ok (.lcmp, 1) := by decide +kernel
theorem dX12_mustBegin_6 : decode cX12_mustBegin 6 = .ok (.ifCond .eq 8, 3) := by decide +kernel
theorem dX12_mustBegin_9 : decode cX12_mustBegin 9 = .ok (.aload_n 0, 1) := by decide +kernel
theorem dX12_mustBegin_10 : decode cX12_mustBegin 10 = .ok (.iconst 1, 1) := by decide +kernel
theorem dX12_mustBegin_11 : decode cX12_mustBegin 11 = .ok (.invokevirtual 122, 3) := by decide +kernel
theorem dX12_mustBegin_14 : decode cX12_mustBegin 14 = .ok (.return_, 1) := by decide +kernel
set_option maxRecDepth 20000 in
theorem ggX12_box_X12_next : GoodIn wsX12_box wsX12_next := goodIn_r _ [21, 4, 22, 23, 10, 24, 25, 26, 27, 20, 28, 3, 29, 30, 31, 32, 33, 34, 35, 36, 37, 38, 39, 40, 41, 42, 43, 44, 104, 105, 106, 107, 108, 109, 110, 111, 112, 113, 114, 115, 116, 117, 118, 119, 120, 121, 122, 123, 124, 125, 126, 127, 128, 129, 130, 131, 132, 133, 134, 135] (by decide +kernel) (by decide +kernel)
set_option maxRecDepth 20000 in
theorem gX12_box_X12_next : GoodIn wsX12_box (wsV RX12 126 RX12 yX12_next wsX12_next) := goodIn_app (goodIn_of _ (by decide +kernel)) ggX12_box_X12_next
set_option maxRecDepth 20000 in
theorem ggX12_box_X12_mustBegin : GoodIn wsX12_box wsX12_mustBegin := goodIn_r _ [48, 49, 50, 51, 20, 52, 22, 24, 10, 29, 5, 53, 54, 55, 56, 13, 104, 105, 106, 107, 108, 109, 110, 111, 112, 113, 114, 115, 116, 117, 118, 119, 120, 121, 122, 123, 124, 125, 126, 127, 128, 129, 130, 131, 132, 133, 134, 135] (by decide +kernel) (by decide +kernel)
set_option maxRecDepth 20000 in
theorem gX12_box_X12_mustBegin : GoodIn wsX12_box (wsV RX12 176 RX12 yX12_mustBegin wsX12_mustBegin) := goodIn_app (goodIn_of _ (by decide +kernel)) ggX12_box_X12_mustBegin
set_option maxRecDepth 20000 in
theorem ggX12_box_X12_word : GoodIn wsX12_box wsX12_word := goodIn_r _ [52, 22, 24, 10, 29, 5, 104, 105, 106, 107, 108, 109, 110, 111, 112, 113, 114, 115, 116, 117, 118, 119, 120, 121, 122, 123, 124, 125, 126, 127, 128, 129, 130, 131, 132, 133, 134, 135] (by decide +kernel) (by decide +kernel)
set_option maxRecDepth 20000 in
theorem gX12_box_X12_word : GoodIn wsX12_box (wsV RX12 133 RX12 yX12_word wsX12_word) := goodIn_app (goodIn_of _ (by decide +kernel)) ggX12_box_X12_word
set_option maxRecDepth 20000 in
theorem ggX12_box_X12_readDisc : GoodIn wsX12_box wsX12_readDisc := goodIn_r _ [60, 6, 5, 61, 62, 63, 20, 64, 53, 54, 55, 56, 22, 13, 65, 66, 67, 68, 17, 18, 19, 21, 4, 23, 10, 24, 25, 26, 27, 28, 3, 29, 30, 31, 32, 33, 34, 35, 36, 37, 38, 39, 40, 41, 42, 43, 44, 69, 70, 71, 72, 73, 74, 75, 76, 104, 105, 106, 107, 108, 109, 110, 111, 112, 113, 114, 115, 116, 117, 118, 119, 120, 121, 122, 123, 124, 125, 126, 127, 128, 129, 130, 131, 132, 133, 134, 135] (by decide +kernel) (by decide +kernel)
set_option maxRecDepth 20000 in
theorem gX12_box_X12_readDisc : GoodIn wsX12_box (wsV RX12 179 RX12 yX12_readDisc wsX12_readDisc) := goodIn_app (goodIn_of _ (by decide +kernel)) ggX12_box_X12_readDisc
set_option maxRecDepth 20000 in
theorem ggX12_box_X12_readThread : GoodIn wsX12_box wsX12_readThread := goodIn_r _ [80, 6, 5, 61, 62, 63, 20, 64, 53, 54, 55, 56, 22, 13, 65, 66, 67, 68, 17, 18, 19, 21, 4, 23, 10, 24, 25, 26, 27, 28, 3, 29, 30, 31, 32, 33, 34, 35, 36, 37, 38, 39, 40, 41, 42, 43, 44, 69, 70, 71, 72, 73, 74, 75, 76, 104, 105, 106, 107, 108, 109, 110, 111, 112, 113, 114, 115, 116, 117, 118, 119, 120, 121, 122, 123, 124, 125, 126, 127, 128, 129, 130, 131, 132, 133, 134, 135] (by decide +kernel) (by decide +kernel)
set_option maxRecDepth 20000 in
theorem gX12_box_X12_readThread : GoodIn wsX12_box (wsV RX12 184 RX12 yX12_readThread wsX12_readThread) := goodIn_app (goodIn_of _ (by decide +kernel)) ggX12_box_X12_readThread
set_option maxRecDepth 20000 in
theorem ggX12_box_X12_readHand : GoodIn wsX12_box wsX12_readHand := goodIn_r _ [84, 6, 85, 5, 61, 62, 63, 20, 64, 53, 54, 55, 56, 22, 13, 65, 66, 67, 68, 17, 18, 19, 21, 4, 23, 10, 24, 25, 26, 27, 28, 3, 29, 30, 31, 32, 33, 34, 35, 36, 37, 38, 39, 40, 41, 42, 43, 44, 73, 74, 75, 76, 49, 50, 51, 52, 86, 87, 88, 89, 90, 91, 92, 93, 94, 95, 96, 97, 98, 99, 69, 70, 71, 72, 100, 101, 102, 103, 104, 105, 106, 107, 108, 109, 110, 111, 112, 113, 114, 115, 116, 117, 118, 119, 120, 121, 122, 123, 124, 125, 126, 127, 128, 129, 130, 131, 132, 133, 134, 135] (by decide +kernel) (by decide +kernel)
set_option maxRecDepth 20000 in
theorem gX12_box_X12_readHand : GoodIn wsX12_box (wsV RX12 189 RX12 yX12_readHand wsX12_readHand) := goodIn_app (goodIn_of _ (by decide +kernel)) ggX12_box_X12_readHand
set_option maxRecDepth 20000 in
theorem ggX12_box_X12_bad : GoodIn wsX12_box wsX12_bad := goodIn_r _ [56, 5, 22, 13, 104, 105, 106, 107, 108, 109, 110, 111, 112, 113, 114, 115, 116, 117, 118, 119, 120, 121, 122, 123, 124, 125, 126, 127, 128, 129, 130, 131, 132, 133, 134, 135] (by decide +kernel) (by decide +kernel)
set_option maxRecDepth 20000 in
theorem gX12_box_X12_bad : GoodIn wsX12_box (wsV RX12 122 RX12 yX12_bad wsX12_bad) := goodIn_app (goodIn_of _ (by decide +kernel)) ggX12_box_X12_bad
theorem dX12_box_0 : decode cX12_box 0 = .ok (.aload_n 0, 1) := by decide +kernel
theorem dX12_box_1 : decode cX12_box 1 = .ok (.iconst 0, 1) := by decide +kernel
theorem dX12_box_2 : decode cX12_box 2 = .ok (.putfield 52, 3) := by decide +kernel
theorem dX12_box_5 : decode cX12_box 5 = .ok (.aload_n 0, 1) := by decide +kernel
theorem dX12_box_6 : decode cX12_box 6 = .ok (.aload_n 0, 1) := by decide +kernel
theorem dX12_box_7 : decode cX12_box 7 = .ok (.getfield 78, 3) := by decide +kernel
theorem dX12_box_10 : decode cX12_box 10 = .ok (.putfield 84, 3) := by decide +kernel
theorem dX12_box_13 : decode cX12_box 13 = .ok (.aload_n 0, 1) := by decide +kernel
theorem dX12_box_14 : decode cX12_box 14 = .ok (.iconst 0, 1) := by decide +kernel
theorem dX12_box_15 : decode cX12_box 15 = .ok (.putfield 78, 3) := by decide +kernel
theorem dX12_box_18 : decode cX12_box 18 = .ok (.aload_n 0, 1) := by decide +kernel
theorem dX12_box_19 : decode cX12_box 19 = .ok (.iconst 0, 1) := by decide +kernel
theorem dX12_box_20 : decode cX12_box 20 = .ok (.putfield 87, 3) := by decide +kernel
theorem dX12_box_23 : decode cX12_box 23 = .ok (.aload_n 0, 1) := by decide +kernel
theorem dX12_box_24 : decode cX12_box 24 = .ok (.iconst 0, 1) := by decide +kernel
theorem dX12_box_25 : decode cX12_box 25 = .ok (.putfield 116, 3) := by decide +kernel
theorem dX12_box_28 : decode cX12_box 28 = .ok (.iconst 0, 1) := by decide +kernel
theorem dX12_box_29 : decode cX12_box 29 = .ok (.istore_n 1, 1) := by decide +kernel
theorem dX12_box_30 : decode cX12_box 30 = .ok (.iload_n 1, 1) := by decide +kernel
theorem dX12_box_31 : decode cX12_box 31 = .ok (.sipush 131, 3) := by decide +kernel
theorem dX12_box_34 : decode cX12_box 34 = .ok (.if_icmp .ge 16, 3) := by decide +kernel
theorem dX12_box_37 : decode cX12_box 37 = .ok (.aload_n 0, 1) := by decide +kernel
theorem dX12_box_38 : decode cX12_box 38 = .ok (.getfield 22, 3) := by decide +kernel
theorem dX12_box_41 : decode cX12_box 41 = .ok (.iload_n 1, 1) := by decide +kernel
theorem dX12_box_42 : decode cX12_box 42 = .ok (.iconst 0, 1) := by decide +kernel
theorem dX12_box_43 : decode cX12_box 43 = .ok (.iastore, 1) := by decide +kernel
theorem dX12_box_44 : decode cX12_box 44 = .ok (.iinc 1 1, 3) := by decide +kernel
theorem dX12_box_47 : decode cX12_box 47 = .ok (.goto (-17), 3) := by decide +kernel
theorem dX12_box_50 : decode cX12_box 50 = .ok (.aload_n 0, 1) := by decide +kernel
theorem dX12_box_51 : decode cX12_box 51 = .ok (.invokevirtual 126, 3) := by decide +kernel
theorem dX12_box_54 : decode cX12_box 54 = .ok (.aload_n 0, 1) := by decide +kernel
theorem dX12_box_55 : decode cX12_box 55 = .ok (.ldc2_w 174, 3) := by decide +kernel
theorem dX12_box_58 : decode cX12_box 58 = .ok (.invokevirtual 176, 3) := by decide +kernel
theorem dX12_box_61 : decode cX12_box 61 = .ok (.aload_n 0, 1) := by decide +kernel
theorem dX12_box_62 : decode cX12_box 62 = .ok (.invokevirtual 133, 3) := by decide +kernel
theorem dX12_box_65 : decode cX12_box 65 = .ok (.ldc2_w 174, 3) := by decide +kernel
theorem dX12_box_68 : decode cX12_box 68 = .ok (.lcmp, 1) := by decide +kernel
theorem dX12_box_69 : decode cX12_box 69 = .ok (.ifCond .ne 10, 3) := by decide +kernel
theorem dX12_box_72 : decode cX12_box 72 = .ok (.aload_n 0, 1) := by decide +kernel
theorem dX12_box_73 : decode cX12_box 73 = .ok (.invokevirtual 179, 3) := by decide +kernel
theorem dX12_box_76 : decode cX12_box 76 = .ok (.goto (-15), 3) := by decide +kernel
theorem dX12_box_79 : decode cX12_box 79 = .ok (.aload_n 0, 1) := by decide +kernel
theorem dX12_box_80 : decode cX12_box 80 = .ok (.ldc2_w 182, 3) := by decide +kernel
theorem dX12_box_83 : decode cX12_box 83 = .ok (.invokevirtual 176, 3) := by decide +kernel
theorem dX12_box_86 : decode cX12_box 86 = .ok (.aload_n 0, 1) := by decide +kernel
theorem dX12_box_87 : decode cX12_box 87 = .ok (.invokevirtual 133, 3) := by decide +kernel
theorem dX12_box_90 : decode cX12_box 90 = .ok (.ldc2_w 182, 3) := by decide +kernel
theorem dX12_box_93 : decode cX12_box 93 = .ok (.lcmp, 1) := by decide +kernel
theorem dX12_box_94 : decode cX12_box 94 = .ok (.ifCond .ne 10, 3) := by decide +kernel
theorem dX12_box_97 : decode cX12_box 97 = .ok (.aload_n 0, 1) := by decide +kernel
theorem dX12_box_98 : decode cX12_box 98 = .ok (.invokevirtual 184, 3) := by decide +kernel
theorem dX12_box_101 : decode cX12_box 101 = .ok (.goto (-15), 3) := by decide +kernel
theorem dX12_box_104 : decode cX12_box 104 = .ok (.aload_n 0, 1) := by decide +kernel
theorem dX12_box_105 : decode cX12_box 105 = .ok (.ldc2_w 187, 3) := by decide +kernel
theorem dX12_box_108 : decode cX12_box 108 = .ok (.invokevirtual 176, 3) := by decide +kernel
theorem dX12_box_111 : decode cX12_box 111 = .ok (.aload_n 0, 1) := by decide +kernel
theorem dX12_box_112 : decode cX12_box 112 = .ok (.invokevirtual 133, 3) := by decide +kernel
theorem dX12_box_115 : decode cX12_box 115 = .ok (.ldc2_w 187, 3) := by decide +kernel
theorem dX12_box_118 : decode cX12_box 118 = .ok (.lcmp, 1) := by decide +kernel
theorem dX12_box_119 : decode cX12_box 119 = .ok (.ifCond .ne 10, 3) := by decide +kernel
theorem dX12_box_122 : decode cX12_box 122 = .ok (.aload_n 0, 1) := by decide +kernel
theorem dX12_box_123 : decode cX12_box 123 = .ok (.invokevirtual 189, 3) := by decide +kernel
theorem dX12_box_126 : decode cX12_box 126 = .ok (.goto (-15), 3) := by decide +kernel
theorem dX12_box_129 : decode cX12_box 129 = .ok (.aload_n 0, 1) := by decide +kernel
theorem dX12_box_130 : decode cX12_box 130 = .ok (.getfield 116, 3) := by decide +kernel
theorem dX12_box_133 : decode cX12_box 133 = .ok (.ifCond .ne 16, 3) := by decide +kernel
theorem dX12_box_136 : decode cX12_box 136 = .ok (.aload_n 0, 1) := by decide +kernel
theorem dX12_box_137 : decode cX12_box 137 = .ok (.getfield 101, 3) := by decide +kernel
theorem dX12_box_140 : decode cX12_box 140 = .ok (.iconst 1, 1) := by decide +kernel
theorem dX12_box_141 : decode cX12_box 141 = .ok (.if_icmp .eq 8, 3) := by decide +kernel
theorem dX12_box_144 : decode cX12_box 144 = .ok (.aload_n 0, 1) := by decide +kernel
theorem dX12_box_145 : decode cX12_box 145 = .ok (.iconst 1, 1) := by decide +kernel
theorem dX12_box_146 : decode cX12_box 146 = .ok (.invokevirtual 122, 3) := by decide +kernel
theorem dX12_box_149 : decode cX12_box 149 = .ok (.aload_n 0, 1) := by decide +kernel
theorem dX12_box_150 : decode cX12_box 150 = .ok (.getfield 116, 3) := by decide +kernel
theorem dX12_box_153 : decode cX12_box 153 = .ok (.ifCond .le 19, 3) := by decide +kernel
theorem dX12_box_156 : decode cX12_box 156 = .ok (.aload_n 0, 1) := by decide +kernel
theorem dX12_box_157 : decode cX12_box 157 = .ok (.aload_n 0, 1) := by decide +kernel
theorem dX12_box_158 : decode cX12_box 158 = .ok (.getfield 116, 3) := by decide +kernel
theorem dX12_box_161 : decode cX12_box 161 = .ok (.putfield 192, 3) := by decide +kernel
theorem dX12_box_164 : decode cX12_box 164 = .ok (.ldc 195, 2) := by decide +kernel
theorem dX12_box_166 : decode cX12_box 166 = .ok (.aload_n 0, 1) := by decide +kernel
theorem dX12_box_167 : decode cX12_box 167 = .ok (.getfield 119, 3) := by decide +kernel
theorem dX12_box_170 : decode cX12_box 170 = .ok (.isub, 1) := by decide +kernel
theorem dX12_box_171 : decode cX12_box 171 = .ok (.ireturn, 1) := by decide +kernel
theorem dX12_box_172 : decode cX12_box 172 = .ok (.aload_n 0, 1) := by decide +kernel
theorem dX12_box_173 : decode cX12_box 173 = .ok (.iconst 1, 1) := by decide +kernel
theorem dX12_box_174 : decode cX12_box 174 = .ok (.putfield 196, 3) := by decide +kernel
theorem dX12_box_177 : decode cX12_box 177 = .ok (.iconst 0, 1) := by decide +kernel
theorem dX12_box_178 : decode cX12_box 178 = .ok (.istore_n 1, 1) := by decide +kernel
theorem dX12_box_179 : decode cX12_box 179 = .ok (.iload_n 1, 1) := by decide +kernel
theorem dX12_box_180 : decode cX12_box 180 = .ok (.sipush 131, 3) := by decide +kernel
theorem dX12_box_183 : decode cX12_box 183 = .ok (.if_icmp .ge 21, 3) := by decide +kernel
theorem dX12_box_186 : decode cX12_box 186 = .ok (.aload_n 0, 1) := by decide +kernel
theorem dX12_box_187 : decode cX12_box 187 = .ok (.getfield 19, 3) := by decide +kernel
theorem dX12_box_190 : decode cX12_box 190 = .ok (.iload_n 1, 1) := by decide +kernel
theorem dX12_box_191 : decode cX12_box 191 = .ok (.aload_n 0, 1) := by decide +kernel
theorem dX12_box_192 : decode cX12_box 192 = .ok (.getfield 22, 3) := by decide +kernel
theorem dX12_box_195 : decode cX12_box 195 = .ok (.iload_n 1, 1) := by decide +kernel
theorem dX12_box_196 : decode cX12_box 196 = .ok (.iaload, 1) := by decide +kernel
theorem dX12_box_197 : decode cX12_box 197 = .ok (.iastore, 1) := by decide +kernel
theorem dX12_box_198 : decode cX12_box 198 = .ok (.iinc 1 1, 3) := by decide +kernel
theorem dX12_box_201 : decode cX12_box 201 = .ok (.goto (-22), 3) := by decide +kernel
theorem dX12_box_204 : decode cX12_box 204 = .ok (.iconst 0, 1) := by decide +kernel
theorem dX12_box_205 : decode cX12_box 205 = .ok (.istore_n 1, 1) := by decide +kernel
theorem dX12_box_206 : decode cX12_box 206 = .ok (.iload_n 1, 1) := by decide +kernel
theorem dX12_box_207 : decode cX12_box 207 = .ok (.bipush 12, 2) := by decide +kernel
theorem dX12_box_209 : decode cX12_box 209 = .ok (.if_icmp .ge 16, 3) := by decide +kernel
theorem dX12_box_212 : decode cX12_box 212 = .ok (.aload_n 0, 1) := by decide +kernel
theorem dX12_box_213 : decode cX12_box 213 = .ok (.getfield 28, 3) := by decide +kernel
theorem dX12_box_216 : decode cX12_box 216 = .ok (.iload_n 1, 1) := by decide +kernel
theorem dX12_box_217 : decode cX12_box 217 = .ok (.iconst 0, 1) := by decide +kernel
theorem dX12_box_218 : decode cX12_box 218 = .ok (.iastore, 1) := by decide +kernel
theorem dX12_box_219 : decode cX12_box 219 = .ok (.iinc 1 1, 3) := by decide +kernel
theorem dX12_box_222 : decode cX12_box 222 = .ok (.goto (-16), 3) := by decide +kernel
theorem dX12_box_225 : decode cX12_box 225 = .ok (.aload_n 0, 1) := by decide +kernel
theorem dX12_box_226 : decode cX12_box 226 = .ok (.getfield 19, 3) := by decide +kernel
theorem dX12_box_229 : decode cX12_box 229 = .ok (.iconst 0, 1) := by decide +kernel
theorem dX12_box_230 : decode cX12_box 230 = .ok (.iaload, 1) := by decide +kernel
theorem dX12_box_231 : decode cX12_box 231 = .ok (.ireturn, 1) := by decide +kernel
theorem dX12_fault_0 : decode cX12_fault 0 = .ok (.aload_n 0, 1) := by decide +kernel
theorem dX12_fault_1 : decode cX12_fault 1 = .ok (.iconst 0, 1) := by decide +kernel
theorem dX12_fault_2 : decode cX12_fault 2 = .ok (.putfield 52, 3) := by decide +kernel
theorem dX12_fault_5 : decode cX12_fault 5 = .ok (.aload_n 0, 1) := by decide +kernel
theorem dX12_fault_6 : decode cX12_fault 6 = .ok (.getfield 192, 3) := by decide +kernel
theorem dX12_fault_9 : decode cX12_fault 9 = .ok (.ireturn, 1) := by decide +kernel
set_option maxRecDepth 20000 in
theorem ggX12_isDisc_X12_in : GoodIn wsX12_isDisc wsX12_in := goodIn_r _ [5] (by decide +kernel) (by decide +kernel)
set_option maxRecDepth 20000 in
theorem gX12_isDisc_X12_in : GoodIn wsX12_isDisc (va_wsS RX12 61 yX12_in wsX12_in) := goodIn_app (goodIn_of _ (by decide +kernel)) ggX12_isDisc_X12_in
theorem dX12_isDisc_0 : decode cX12_isDisc 0 = .ok (.iload_n 1, 1) := by decide +kernel
theorem dX12_isDisc_1 : decode cX12_isDisc 1 = .ok (.i2l, 1) := by decide +kernel
theorem dX12_isDisc_2 : decode cX12_isDisc 2 = .ok (.lconst 0, 1) := by decide +kernel
theorem dX12_isDisc_3 : decode cX12_isDisc 3 = .ok (.aload_n 0, 1) := by decide +kernel
theorem dX12_isDisc_4 : decode cX12_isDisc 4 = .ok (.getfield 19, 3) := by decide +kernel
theorem dX12_isDisc_7 : decode cX12_isDisc 7 = .ok (.iconst 0, 1) := by decide +kernel
theorem dX12_isDisc_8 : decode cX12_isDisc 8 = .ok (.iaload, 1) := by decide +kernel
theorem dX12_isDisc_9 : decode cX12_isDisc 9 = .ok (.iconst 1, 1) := by decide +kernel
theorem dX12_isDisc_10 : decode cX12_isDisc 10 = .ok (.isub, 1) := by decide +kernel
theorem dX12_isDisc_11 : decode cX12_isDisc 11 = .ok (.i2l, 1) := by decide +kernel
theorem dX12_isDisc_12 : decode cX12_isDisc 12 = .ok (.invokestatic 61, 3) := by decide +kernel
theorem dX12_isDisc_15 : decode cX12_isDisc 15 = .ok (.ireturn, 1) := by decide +kernel
set_option maxRecDepth 20000 in
theorem ggX12_isThread_X12_in : GoodIn wsX12_isThread wsX12_in := goodIn_r _ [5] (by decide +kernel) (by decide +kernel)
set_option maxRecDepth 20000 in
theorem gX12_isThread_X12_in : GoodIn wsX12_isThread (va_wsS RX12 61 yX12_in wsX12_in) := goodIn_app (goodIn_of _ (by decide +kernel)) ggX12_isThread_X12_in
theorem dX12_isThread_0 : decode cX12_isThread 0 = .ok (.iload_n 1, 1) := by decide +kernel
theorem dX12_isThread_1 : decode cX12_isThread 1 = .ok (.i2l, 1) := by decide +kernel
theorem dX12_isThread_2 : decode cX12_isThread 2 = .ok (.lconst 0, 1) := by decide +kernel
theorem dX12_isThread_3 : decode cX12_isThread 3 = .ok (.aload_n 0, 1) := by decide +kernel
theorem dX12_isThread_4 : decode cX12_isThread 4 = .ok (.getfield 19, 3) := by decide +kernel
theorem dX12_isThread_7 : decode cX12_isThread 7 = .ok (.iconst 1, 1) := by decide +kernel
theorem dX12_isThread_8 : decode cX12_isThread 8 = .ok (.iaload, 1) := by decide +kernel
theorem dX12_isThread_9 : decode cX12_isThread 9 = .ok (.iconst 1, 1) := by decide +kernel
theorem dX12_isThread_10 : decode cX12_isThread 10 = .ok (.isub, 1) := by decide +kernel
theorem dX12_isThread_11 : decode cX12_isThread 11 = .ok (.i2l, 1) := by decide +kernel
theorem dX12_isThread_12 : decode cX12_isThread 12 = .ok (.invokestatic 61, 3) := by decide +kernel
theorem dX12_isThread_15 : decode cX12_isThread 15 = .ok (.ireturn, 1) := by decide +kernel
theorem dX12_discOf_0 : decode cX12_discOf 0 = .ok (.aload_n 0, 1) := by decide +kernel
theorem dX12_discOf_1 : decode cX12_discOf 1 = .ok (.getfield 19, 3) := by decide +kernel
theorem dX12_discOf_4 : decode cX12_discOf 4 = .ok (.iconst 3, 1) := by decide +kernel
theorem dX12_discOf_5 : decode cX12_discOf 5 = .ok (.iconst 3, 1) := by decide +kernel
theorem dX12_discOf_6 : decode cX12_discOf 6 = .ok (.iload_n 1, 1) := by decide +kernel
theorem dX12_discOf_7 : decode cX12_discOf 7 = .ok (.imul, 1) := by decide +kernel
theorem dX12_discOf_8 : decode cX12_discOf 8 = .ok (.iadd, 1) := by decide +kernel
theorem dX12_discOf_9 : decode cX12_discOf 9 = .ok (.iload_n 2, 1) := by decide +kernel
theorem dX12_discOf_10 : decode cX12_discOf 10 = .ok (.iadd, 1) := by decide +kernel
theorem dX12_discOf_11 : decode cX12_discOf 11 = .ok (.iaload, 1) := by decide +kernel
theorem dX12_discOf_12 : decode cX12_discOf 12 = .ok (.ireturn, 1) := by decide +kernel
theorem dX12_threadOf_0 : decode cX12_threadOf 0 = .ok (.aload_n 0, 1) := by decide +kernel
theorem dX12_threadOf_1 : decode cX12_threadOf 1 = .ok (.getfield 19, 3) := by decide +kernel
theorem dX12_threadOf_4 : decode cX12_threadOf 4 = .ok (.bipush 15, 2) := by decide +kernel
theorem dX12_threadOf_6 : decode cX12_threadOf 6 = .ok (.iconst 4, 1) := by decide +kernel
theorem dX12_threadOf_7 : decode cX12_threadOf 7 = .ok (.iload_n 1, 1) := by decide +kernel
theorem dX12_threadOf_8 : decode cX12_threadOf 8 = .ok (.imul, 1) := by decide +kernel
theorem dX12_threadOf_9 : decode cX12_threadOf 9 = .ok (.iadd, 1) := by decide +kernel
theorem dX12_threadOf_10 : decode cX12_threadOf 10 = .ok (.iload_n 2, 1) := by decide +kernel
theorem dX12_threadOf_11 : decode cX12_threadOf 11 = .ok (.iadd, 1) := by decide +kernel
theorem dX12_threadOf_12 : decode cX12_threadOf 12 = .ok (.iaload, 1) := by decide +kernel
theorem dX12_threadOf_13 : decode cX12_threadOf 13 = .ok (.ireturn, 1) := by decide +kernel
set_option maxRecDepth 20000 in
theorem ggX12_plainShort_X12_threadOf : GoodIn wsX12_plainShort wsX12_threadOf := goodIn_r _ [5, 6, 7, 8, 9, 10, 11, 12, 13, 14, 15, 16, 17, 18, 19, 20, 21, 22, 23, 24, 25, 26, 27, 28, 29, 30, 31, 32, 33, 34, 35, 36, 37, 38] (by decide +kernel) (by decide +kernel)
set_option maxRecDepth 20000 in
theorem gX12_plainShort_X12_threadOf : GoodIn wsX12_plainShort (wsV RX12 200 RX12 yX12_threadOf wsX12_threadOf) := goodIn_app (goodIn_of _ (by decide +kernel)) ggX12_plainShort_X12_threadOf
theorem dX12_plainShort_0 : decode cX12_plainShort 0 = .ok (.iload_n 2, 1) := by decide +kernel
theorem dX12_plainShort_1 : decode cX12_plainShort 1 = .ok (.iload_n 2, 1) := by decide +kernel
theorem dX12_plainShort_2 : decode cX12_plainShort 2 = .ok (.imul, 1) := by decide +kernel
theorem dX12_plainShort_3 : decode cX12_plainShort 3 = .ok (.aload_n 0, 1) := by decide +kernel
theorem dX12_plainShort_4 : decode cX12_plainShort 4 = .ok (.iload_n 1, 1) := by decide +kernel
theorem dX12_plainShort_5 : decode cX12_plainShort 5 = .ok (.iconst 0, 1) := by decide +kernel
theorem dX12_plainShort_6 : decode cX12_plainShort 6 = .ok (.invokevirtual 200, 3) := by decide +kernel
theorem dX12_plainShort_9 : decode cX12_plainShort 9 = .ok (.imul, 1) := by decide +kernel
theorem dX12_plainShort_10 : decode cX12_plainShort 10 = .ok (.sipush 1000, 3) := by decide +kernel
theorem dX12_plainShort_13 : decode cX12_plainShort 13 = .ok (.idiv, 1) := by decide +kernel
theorem dX12_plainShort_14 : decode cX12_plainShort 14 = .ok (.ireturn, 1) := by decide +kernel
set_option maxRecDepth 20000 in
theorem ggX12_shortOf_X12_threadOf : GoodIn wsX12_shortOf wsX12_threadOf := goodIn_r _ [5, 6, 11, 12, 13, 14, 15, 16, 17, 18, 19, 20, 21, 22, 23, 24, 25, 26, 27, 28, 29, 30, 31, 32, 33, 34, 35, 36, 37, 38, 39, 40, 41, 42] (by decide +kernel) (by decide +kernel)
set_option maxRecDepth 20000 in
theorem gX12_shortOf_X12_threadOf : GoodIn wsX12_shortOf (wsV RX12 200 RX12 yX12_threadOf wsX12_threadOf) := goodIn_app (goodIn_of _ (by decide +kernel)) ggX12_shortOf_X12_threadOf
set_option maxRecDepth 20000 in
theorem ggX12_shortOf_X12_plainShort : GoodIn wsX12_shortOf wsX12_plainShort := goodIn_r _ [10, 1, 2, 3, 4, 5, 6, 11, 12, 13, 14, 15, 16, 17, 18, 19, 20, 21, 22, 23, 24, 25, 26, 27, 28, 29, 30, 31, 32, 33, 34, 35, 36, 37, 38, 39, 40, 41, 42] (by decide +kernel) (by decide +kernel)
set_option maxRecDepth 20000 in
theorem gX12_shortOf_X12_plainShort : GoodIn wsX12_shortOf (wsV RX12 203 RX12 yX12_plainShort wsX12_plainShort) := goodIn_app (goodIn_of _ (by decide +kernel)) ggX12_shortOf_X12_plainShort
theorem dX12_shortOf_0 : decode cX12_shortOf 0 = .ok (.aload_n 0, 1) := by decide +kernel
theorem dX12_shortOf_1 : decode cX12_shortOf 1 = .ok (.iload_n 1, 1) := by decide +kernel
theorem dX12_shortOf_2 : decode cX12_shortOf 2 = .ok (.iconst 1, 1) := by decide +kernel
theorem dX12_shortOf_3 : decode cX12_shortOf 3 = .ok (.invokevirtual 200, 3) := by decide +kernel
theorem dX12_shortOf_6 : decode cX12_shortOf 6 = .ok (.istore_n 3, 1) := by decide +kernel
theorem dX12_shortOf_7 : decode cX12_shortOf 7 = .ok (.iload_n 2, 1) := by decide +kernel
theorem dX12_shortOf_8 : decode cX12_shortOf 8 = .ok (.iload_n 3, 1) := by decide +kernel
theorem dX12_shortOf_9 : decode cX12_shortOf 9 = .ok (.if_icmp .gt 10, 3) := by decide +kernel
theorem dX12_shortOf_12 : decode cX12_shortOf 12 = .ok (.aload_n 0, 1) := by decide +kernel
theorem dX12_shortOf_13 : decode cX12_shortOf 13 = .ok (.iload_n 1, 1) := by decide +kernel
theorem dX12_shortOf_14 : decode cX12_shortOf 14 = .ok (.iload_n 2, 1) := by decide +kernel
theorem dX12_shortOf_15 : decode cX12_shortOf 15 = .ok (.invokevirtual 203, 3) := by decide +kernel
theorem dX12_shortOf_18 : decode cX12_shortOf 18 = .ok (.ireturn, 1) := by decide +kernel
theorem dX12_shortOf_19 : decode cX12_shortOf 19 = .ok (.aload_n 0, 1) := by decide +kernel
theorem dX12_shortOf_20 : decode cX12_shortOf 20 = .ok (.iload_n 1, 1) := by decide +kernel
theorem dX12_shortOf_21 : decode cX12_shortOf 21 = .ok (.iload_n 3, 1) := by decide +kernel
theorem dX12_shortOf_22 : decode cX12_shortOf 22 = .ok (.invokevirtual 203, 3) := by decide +kernel
theorem dX12_shortOf_25 : decode cX12_shortOf 25 = .ok (.aload_n 0, 1) := by decide +kernel
theorem dX12_shortOf_26 : decode cX12_shortOf 26 = .ok (.iload_n 1, 1) := by decide +kernel
theorem dX12_shortOf_27 : decode cX12_shortOf 27 = .ok (.iload_n 3, 1) := by decide +kernel
theorem dX12_shortOf_28 : decode cX12_shortOf 28 = .ok (.iconst 1, 1) := by decide +kernel
theorem dX12_shortOf_29 : decode cX12_shortOf 29 = .ok (.isub, 1) := by decide +kernel
theorem dX12_shortOf_30 : decode cX12_shortOf 30 = .ok (.invokevirtual 203, 3) := by decide +kernel
theorem dX12_shortOf_33 : decode cX12_shortOf 33 = .ok (.isub, 1) := by decide +kernel
theorem dX12_shortOf_34 : decode cX12_shortOf 34 = .ok (.istore 4, 2) := by decide +kernel
theorem dX12_shortOf_36 : decode cX12_shortOf 36 = .ok (.aload_n 0, 1) := by decide +kernel
theorem dX12_shortOf_37 : decode cX12_shortOf 37 = .ok (.iload_n 1, 1) := by decide +kernel
theorem dX12_shortOf_38 : decode cX12_shortOf 38 = .ok (.iload_n 3, 1) := by decide +kernel
theorem dX12_shortOf_39 : decode cX12_shortOf 39 = .ok (.invokevirtual 203, 3) := by decide +kernel
theorem dX12_shortOf_42 : decode cX12_shortOf 42 = .ok (.iload_n 2, 1) := by decide +kernel
theorem dX12_shortOf_43 : decode cX12_shortOf 43 = .ok (.iload_n 3, 1) := by decide +kernel
theorem dX12_shortOf_44 : decode cX12_shortOf 44 = .ok (.isub, 1) := by decide +kernel
theorem dX12_shortOf_45 : decode cX12_shortOf 45 = .ok (.iconst 2, 1) := by decide +kernel
theorem dX12_shortOf_46 : decode cX12_shortOf 46 = .ok (.iload 4, 2) := by decide +kernel
theorem dX12_shortOf_48 : decode cX12_shortOf 48 = .ok (.imul, 1) := by decide +kernel
theorem dX12_shortOf_49 : decode cX12_shortOf 49 = .ok (.iconst 1, 1) := by decide +kernel
theorem dX12_shortOf_50 : decode cX12_shortOf 50 = .ok (.iadd, 1) := by decide +kernel
theorem dX12_shortOf_51 : decode cX12_shortOf 51 = .ok (.imul, 1) := by decide +kernel
theorem dX12_shortOf_52 : decode cX12_shortOf 52 = .ok (.iadd, 1) := by decide +kernel
theorem dX12_shortOf_53 : decode cX12_shortOf 53 = .ok (.ireturn, 1) := by decide +kernel
set_option maxRecDepth 20000 in
theorem ggX12_slopeOf_X12_shortOf : GoodIn wsX12_slopeOf wsX12_shortOf := goodIn_r _ [5, 6, 7, 8, 4, 9, 10, 11, 12, 13, 14, 15, 16, 17, 18, 19, 20, 21, 22, 23, 24, 25, 26, 27, 28, 29, 30, 31, 32, 33, 34, 35, 36, 37, 38, 39, 40, 41, 42, 43, 44, 45, 46] (by decide +kernel) (by decide +kernel)
set_option maxRecDepth 20000 in
theorem gX12_slopeOf_X12_shortOf : GoodIn wsX12_slopeOf (wsV RX12 206 RX12 yX12_shortOf wsX12_shortOf) := goodIn_app (goodIn_of _ (by decide +kernel)) ggX12_slopeOf_X12_shortOf
theorem dX12_slopeOf_0 : decode cX12_slopeOf 0 = .ok (.iload_n 2, 1) := by decide +kernel
theorem dX12_slopeOf_1 : decode cX12_slopeOf 1 = .ok (.ifCond .ne 7, 3) := by decide +kernel
theorem dX12_slopeOf_4 : decode cX12_slopeOf 4 = .ok (.iconst 0, 1) := by decide +kernel
theorem dX12_slopeOf_5 : decode cX12_slopeOf 5 = .ok (.goto 18, 3) := by decide +kernel
theorem dX12_slopeOf_8 : decode cX12_slopeOf 8 = .ok (.aload_n 0, 1) := by decide +kernel
theorem dX12_slopeOf_9 : decode cX12_slopeOf 9 = .ok (.iload_n 1, 1) := by decide +kernel
theorem dX12_slopeOf_10 : decode cX12_slopeOf 10 = .ok (.iload_n 2, 1) := by decide +kernel
theorem dX12_slopeOf_11 : decode cX12_slopeOf 11 = .ok (.invokevirtual 206, 3) := by decide +kernel
theorem dX12_slopeOf_14 : decode cX12_slopeOf 14 = .ok (.aload_n 0, 1) := by decide +kernel
theorem dX12_slopeOf_15 : decode cX12_slopeOf 15 = .ok (.iload_n 1, 1) := by decide +kernel
theorem dX12_slopeOf_16 : decode cX12_slopeOf 16 = .ok (.iload_n 2, 1) := by decide +kernel
theorem dX12_slopeOf_17 : decode cX12_slopeOf 17 = .ok (.iconst 1, 1) := by decide +kernel
theorem dX12_slopeOf_18 : decode cX12_slopeOf 18 = .ok (.isub, 1) := by decide +kernel
theorem dX12_slopeOf_19 : decode cX12_slopeOf 19 = .ok (.invokevirtual 206, 3) := by decide +kernel
theorem dX12_slopeOf_22 : decode cX12_slopeOf 22 = .ok (.isub, 1) := by decide +kernel
theorem dX12_slopeOf_23 : decode cX12_slopeOf 23 = .ok (.ireturn, 1) := by decide +kernel
set_option maxRecDepth 20000 in
theorem ggX12_shorter_X12_isThread : GoodIn wsX12_shorter wsX12_isThread := goodIn_r _ [8, 9, 10, 11, 7, 12, 29, 30, 31, 32, 33, 34, 35, 36, 37, 38, 39, 40, 41, 42, 43, 44, 45, 46, 47, 48, 49, 50, 51, 52, 53, 54, 55, 56, 57, 58, 59, 60] (by decide +kernel) (by decide +kernel)
set_option maxRecDepth 20000 in
theorem gX12_shorter_X12_isThread : GoodIn wsX12_shorter (wsV RX12 209 RX12 yX12_isThread wsX12_isThread) := goodIn_app (goodIn_of _ (by decide +kernel)) ggX12_shorter_X12_isThread
set_option maxRecDepth 20000 in
theorem ggX12_shorter_X12_in : GoodIn wsX12_shorter wsX12_in := goodIn_r _ [12] (by decide +kernel) (by decide +kernel)
set_option maxRecDepth 20000 in
theorem gX12_shorter_X12_in : GoodIn wsX12_shorter (va_wsS RX12 61 yX12_in wsX12_in) := goodIn_app (goodIn_of _ (by decide +kernel)) ggX12_shorter_X12_in
set_option maxRecDepth 20000 in
theorem ggX12_shorter_X12_shortOf : GoodIn wsX12_shorter wsX12_shortOf := goodIn_r _ [16, 17, 18, 19, 7, 20, 9, 21, 22, 23, 24, 29, 30, 31, 32, 33, 34, 35, 36, 37, 38, 39, 40, 41, 42, 43, 44, 45, 46, 47, 48, 49, 50, 51, 52, 53, 54, 55, 56, 57, 58, 59, 60] (by decide +kernel) (by decide +kernel)
set_option maxRecDepth 20000 in
theorem gX12_shorter_X12_shortOf : GoodIn wsX12_shorter (wsV RX12 206 RX12 yX12_shortOf wsX12_shortOf) := goodIn_app (goodIn_of _ (by decide +kernel)) ggX12_shorter_X12_shortOf
set_option maxRecDepth 20000 in
theorem ggX12_shorter_X12_slopeOf : GoodIn wsX12_shorter wsX12_slopeOf := goodIn_r _ [28, 13, 14, 15, 7, 16, 17, 18, 19, 20, 9, 21, 22, 23, 24, 29, 30, 31, 32, 33, 34, 35, 36, 37, 38, 39, 40, 41, 42, 43, 44, 45, 46, 47, 48, 49, 50, 51, 52, 53, 54, 55, 56, 57, 58, 59, 60] (by decide +kernel) (by decide +kernel)
set_option maxRecDepth 20000 in
theorem gX12_shorter_X12_slopeOf : GoodIn wsX12_shorter (wsV RX12 214 RX12 yX12_slopeOf wsX12_slopeOf) := goodIn_app (goodIn_of _ (by decide +kernel)) ggX12_shorter_X12_slopeOf
theorem dX12_shorter_0 : decode cX12_shorter 0 = .ok (.aload_n 0, 1) := by decide +kernel
theorem dX12_shorter_1 : decode cX12_shorter 1 = .ok (.iconst 0, 1) := by decide +kernel
theorem dX12_shorter_2 : decode cX12_shorter 2 = .ok (.putfield 52, 3) := by decide +kernel
theorem dX12_shorter_5 : decode cX12_shorter 5 = .ok (.aload_n 0, 1) := by decide +kernel
theorem dX12_shorter_6 : decode cX12_shorter 6 = .ok (.iload_n 1, 1) := by decide +kernel
theorem dX12_shorter_7 : decode cX12_shorter 7 = .ok (.invokevirtual 209, 3) := by decide +kernel
theorem dX12_shorter_10 : decode cX12_shorter 10 = .ok (.ifCond .eq 47, 3) := by decide +kernel
theorem dX12_shorter_13 : decode cX12_shorter 13 = .ok (.iload_n 2, 1) := by decide +kernel
theorem dX12_shorter_14 : decode cX12_shorter 14 = .ok (.i2l, 1) := by decide +kernel
theorem dX12_shorter_15 : decode cX12_shorter 15 = .ok (.lconst 0, 1) := by decide +kernel
theorem dX12_shorter_16 : decode cX12_shorter 16 = .ok (.ldc2_w 212, 3) := by decide +kernel
theorem dX12_shorter_19 : decode cX12_shorter 19 = .ok (.invokestatic 61, 3) := by decide +kernel
theorem dX12_shorter_22 : decode cX12_shorter 22 = .ok (.ifCond .eq 35, 3) := by decide +kernel
theorem dX12_shorter_25 : decode cX12_shorter 25 = .ok (.iload_n 3, 1) := by decide +kernel
theorem dX12_shorter_26 : decode cX12_shorter 26 = .ok (.i2l, 1) := by decide +kernel
theorem dX12_shorter_27 : decode cX12_shorter 27 = .ok (.lconst 0, 1) := by decide +kernel
theorem dX12_shorter_28 : decode cX12_shorter 28 = .ok (.lconst 1, 1) := by decide +kernel
theorem dX12_shorter_29 : decode cX12_shorter 29 = .ok (.invokestatic 61, 3) := by decide +kernel
theorem dX12_shorter_32 : decode cX12_shorter 32 = .ok (.ifCond .eq 25, 3) := by decide +kernel
theorem dX12_shorter_35 : decode cX12_shorter 35 = .ok (.iload_n 3, 1) := by decide +kernel
theorem dX12_shorter_36 : decode cX12_shorter 36 = .ok (.ifCond .ne 12, 3) := by decide +kernel
theorem dX12_shorter_39 : decode cX12_shorter 39 = .ok (.aload_n 0, 1) := by decide +kernel
theorem dX12_shorter_40 : decode cX12_shorter 40 = .ok (.iload_n 1, 1) := by decide +kernel
theorem dX12_shorter_41 : decode cX12_shorter 41 = .ok (.iload_n 2, 1) := by decide +kernel
theorem dX12_shorter_42 : decode cX12_shorter 42 = .ok (.invokevirtual 206, 3) := by decide +kernel
theorem dX12_shorter_45 : decode cX12_shorter 45 = .ok (.goto 14, 3) := by decide +kernel
theorem dX12_shorter_48 : decode cX12_shorter 48 = .ok (.aload_n 0, 1) := by decide +kernel
theorem dX12_shorter_49 : decode cX12_shorter 49 = .ok (.iload_n 1, 1) := by decide +kernel
theorem dX12_shorter_50 : decode cX12_shorter 50 = .ok (.iload_n 2, 1) := by decide +kernel
theorem dX12_shorter_51 : decode cX12_shorter 51 = .ok (.invokevirtual 214, 3) := by decide +kernel
theorem dX12_shorter_54 : decode cX12_shorter 54 = .ok (.goto 5, 3) := by decide +kernel
theorem dX12_shorter_57 : decode cX12_shorter 57 = .ok (.ldc 71, 2) := by decide +kernel
theorem dX12_shorter_59 : decode cX12_shorter 59 = .ok (.ireturn, 1) := by decide +kernel
theorem dX12_size_0 : decode cX12_size 0 = .ok (.iload_n 0, 1) := by decide +kernel
theorem dX12_size_1 : decode cX12_size 1 = .ok (.ifCond .ge 8, 3) := by decide +kernel
theorem dX12_size_4 : decode cX12_size 4 = .ok (.iload_n 0, 1) := by decide +kernel
theorem dX12_size_5 : decode cX12_size 5 = .ok (.ineg, 1) := by decide +kernel
theorem dX12_size_6 : decode cX12_size 6 = .ok (.goto 4, 3) := by decide +kernel
theorem dX12_size_9 : decode cX12_size 9 = .ok (.iload_n 0, 1) := by decide +kernel
theorem dX12_size_10 : decode cX12_size 10 = .ok (.ireturn, 1) := by decide +kernel
theorem dX12_rest_0 : decode cX12_rest 0 = .ok (.aload_n 0, 1) := by decide +kernel
theorem dX12_rest_1 : decode cX12_rest 1 = .ok (.iload_n 1, 1) := by decide +kernel
theorem dX12_rest_2 : decode cX12_rest 2 = .ok (.putfield 217, 3) := by decide +kernel
theorem dX12_rest_5 : decode cX12_rest 5 = .ok (.aload_n 0, 1) := by decide +kernel
theorem dX12_rest_6 : decode cX12_rest 6 = .ok (.iconst 0, 1) := by decide +kernel
theorem dX12_rest_7 : decode cX12_rest 7 = .ok (.putfield 220, 3) := by decide +kernel
theorem dX12_rest_10 : decode cX12_rest 10 = .ok (.aload_n 0, 1) := by decide +kernel
theorem dX12_rest_11 : decode cX12_rest 11 = .ok (.iconst 0, 1) := by decide +kernel
theorem dX12_rest_12 : decode cX12_rest 12 = .ok (.putfield 223, 3) := by decide +kernel
theorem dX12_rest_15 : decode cX12_rest 15 = .ok (.return_, 1) := by decide +kernel
set_option maxRecDepth 20000 in
theorem ggX12_tick_X12_size : GoodIn wsX12_tick wsX12_size := goodIn_r _ [11] (by decide +kernel) (by decide +kernel)
set_option maxRecDepth 20000 in
theorem gX12_tick_X12_size : GoodIn wsX12_tick (va_wsS RX12 226 yX12_size wsX12_size) := goodIn_app (goodIn_of _ (by decide +kernel)) ggX12_tick_X12_size
set_option maxRecDepth 20000 in
theorem ggX12_tick_X12_slopeOf : GoodIn wsX12_tick wsX12_slopeOf := goodIn_r _ [15, 16, 17, 18, 10, 19, 20, 21, 22, 23, 24, 25, 26, 27, 28, 33, 34, 35, 36, 37, 38, 39, 40, 41, 42, 43, 44, 45, 46, 47, 48, 49, 50, 51, 52, 53, 54, 55, 56, 57, 58, 59, 60, 61, 62, 63, 64] (by decide +kernel) (by decide +kernel)
set_option maxRecDepth 20000 in
theorem gX12_tick_X12_slopeOf : GoodIn wsX12_tick (wsV RX12 214 RX12 yX12_slopeOf wsX12_slopeOf) := goodIn_app (goodIn_of _ (by decide +kernel)) ggX12_tick_X12_slopeOf
set_option maxRecDepth 20000 in
theorem ggX12_tick_X12_discOf : GoodIn wsX12_tick wsX12_discOf := goodIn_r _ [32, 24, 33, 34, 35, 36, 37, 38, 39, 40, 41, 42, 43, 44, 45, 46, 47, 48, 49, 50, 51, 52, 53, 54, 55, 56, 57, 58, 59, 60, 61, 62, 63, 64] (by decide +kernel) (by decide +kernel)
set_option maxRecDepth 20000 in
theorem gX12_tick_X12_discOf : GoodIn wsX12_tick (wsV RX12 229 RX12 yX12_discOf wsX12_discOf) := goodIn_app (goodIn_of _ (by decide +kernel)) ggX12_tick_X12_discOf
set_option maxRecDepth 20000 in
theorem ggX12_tick_X12_threadOf : GoodIn wsX12_tick wsX12_threadOf := goodIn_r _ [23, 24, 33, 34, 35, 36, 37, 38, 39, 40, 41, 42, 43, 44, 45, 46, 47, 48, 49, 50, 51, 52, 53, 54, 55, 56, 57, 58, 59, 60, 61, 62, 63, 64] (by decide +kernel) (by decide +kernel)
set_option maxRecDepth 20000 in
theorem gX12_tick_X12_threadOf : GoodIn wsX12_tick (wsV RX12 200 RX12 yX12_threadOf wsX12_threadOf) := goodIn_app (goodIn_of _ (by decide +kernel)) ggX12_tick_X12_threadOf
theorem dX12_tick_0 : decode cX12_tick 0 = .ok (.aload_n 0, 1) := by decide +kernel
theorem dX12_tick_1 : decode cX12_tick 1 = .ok (.getfield 217, 3) := by decide +kernel
theorem dX12_tick_4 : decode cX12_tick 4 = .ok (.istore 5, 2) := by decide +kernel
theorem dX12_tick_6 : decode cX12_tick 6 = .ok (.iload_n 3, 1) := by decide +kernel
theorem dX12_tick_7 : decode cX12_tick 7 = .ok (.aload_n 0, 1) := by decide +kernel
theorem dX12_tick_8 : decode cX12_tick 8 = .ok (.iload_n 2, 1) := by decide +kernel
theorem dX12_tick_9 : decode cX12_tick 9 = .ok (.aload_n 0, 1) := by decide +kernel
theorem dX12_tick_10 : decode cX12_tick 10 = .ok (.getfield 217, 3) := by decide +kernel
theorem dX12_tick_13 : decode cX12_tick 13 = .ok (.invokestatic 226, 3) := by decide +kernel
theorem dX12_tick_16 : decode cX12_tick 16 = .ok (.invokevirtual 214, 3) := by decide +kernel
theorem dX12_tick_19 : decode cX12_tick 19 = .ok (.imul, 1) := by decide +kernel
theorem dX12_tick_20 : decode cX12_tick 20 = .ok (.bipush 10, 2) := by decide +kernel
theorem dX12_tick_22 : decode cX12_tick 22 = .ok (.imul, 1) := by decide +kernel
theorem dX12_tick_23 : decode cX12_tick 23 = .ok (.aload_n 0, 1) := by decide +kernel
theorem dX12_tick_24 : decode cX12_tick 24 = .ok (.iload_n 1, 1) := by decide +kernel
theorem dX12_tick_25 : decode cX12_tick 25 = .ok (.iconst 0, 1) := by decide +kernel
theorem dX12_tick_26 : decode cX12_tick 26 = .ok (.invokevirtual 229, 3) := by decide +kernel
theorem dX12_tick_29 : decode cX12_tick 29 = .ok (.idiv, 1) := by decide +kernel
theorem dX12_tick_30 : decode cX12_tick 30 = .ok (.istore 6, 2) := by decide +kernel
theorem dX12_tick_32 : decode cX12_tick 32 = .ok (.aload_n 0, 1) := by decide +kernel
theorem dX12_tick_33 : decode cX12_tick 33 = .ok (.getfield 217, 3) := by decide +kernel
theorem dX12_tick_36 : decode cX12_tick 36 = .ok (.ifCond .le 13, 3) := by decide +kernel
theorem dX12_tick_39 : decode cX12_tick 39 = .ok (.aload_n 0, 1) := by decide +kernel
theorem dX12_tick_40 : decode cX12_tick 40 = .ok (.getfield 220, 3) := by decide +kernel
theorem dX12_tick_43 : decode cX12_tick 43 = .ok (.iload 6, 2) := by decide +kernel
theorem dX12_tick_45 : decode cX12_tick 45 = .ok (.isub, 1) := by decide +kernel
theorem dX12_tick_46 : decode cX12_tick 46 = .ok (.goto 24, 3) := by decide +kernel
theorem dX12_tick_49 : decode cX12_tick 49 = .ok (.aload_n 0, 1) := by decide +kernel
theorem dX12_tick_50 : decode cX12_tick 50 = .ok (.getfield 217, 3) := by decide +kernel
theorem dX12_tick_53 : decode cX12_tick 53 = .ok (.ifCond .ge 13, 3) := by decide +kernel
theorem dX12_tick_56 : decode cX12_tick 56 = .ok (.aload_n 0, 1) := by decide +kernel
theorem dX12_tick_57 : decode cX12_tick 57 = .ok (.getfield 220, 3) := by decide +kernel
theorem dX12_tick_60 : decode cX12_tick 60 = .ok (.iload 6, 2) := by decide +kernel
theorem dX12_tick_62 : decode cX12_tick 62 = .ok (.iadd, 1) := by decide +kernel
theorem dX12_tick_63 : decode cX12_tick 63 = .ok (.goto 7, 3) := by decide +kernel
theorem dX12_tick_66 : decode cX12_tick 66 = .ok (.aload_n 0, 1) := by decide +kernel
theorem dX12_tick_67 : decode cX12_tick 67 = .ok (.getfield 220, 3) := by decide +kernel
theorem dX12_tick_70 : decode cX12_tick 70 = .ok (.istore 7, 2) := by decide +kernel
theorem dX12_tick_72 : decode cX12_tick 72 = .ok (.iload 7, 2) := by decide +kernel
theorem dX12_tick_74 : decode cX12_tick 74 = .ok (.invokestatic 226, 3) := by decide +kernel
theorem dX12_tick_77 : decode cX12_tick 77 = .ok (.i2l, 1) := by decide +kernel
theorem dX12_tick_78 : decode cX12_tick 78 = .ok (.lstore 8, 2) := by decide +kernel
theorem dX12_tick_80 : decode cX12_tick 80 = .ok (.lload 8, 2) := by decide +kernel
theorem dX12_tick_82 : decode cX12_tick 82 = .ok (.lload 8, 2) := by decide +kernel
theorem dX12_tick_84 : decode cX12_tick 84 = .ok (.lload 8, 2) := by decide +kernel
theorem dX12_tick_86 : decode cX12_tick 86 = .ok (.lmul, 1) := by decide +kernel
theorem dX12_tick_87 : decode cX12_tick 87 = .ok (.ldc2_w 232, 3) := by decide +kernel
theorem dX12_tick_90 : decode cX12_tick 90 = .ok (.ldiv, 1) := by decide +kernel
theorem dX12_tick_91 : decode cX12_tick 91 = .ok (.aload_n 0, 1) := by decide +kernel
theorem dX12_tick_92 : decode cX12_tick 92 = .ok (.iload_n 1, 1) := by decide +kernel
theorem dX12_tick_93 : decode cX12_tick 93 = .ok (.iconst 1, 1) := by decide +kernel
theorem dX12_tick_94 : decode cX12_tick 94 = .ok (.invokevirtual 229, 3) := by decide +kernel
theorem dX12_tick_97 : decode cX12_tick 97 = .ok (.i2l, 1) := by decide +kernel
theorem dX12_tick_98 : decode cX12_tick 98 = .ok (.lmul, 1) := by decide +kernel
theorem dX12_tick_99 : decode cX12_tick 99 = .ok (.ldc2_w 234, 3) := by decide +kernel
theorem dX12_tick_102 : decode cX12_tick 102 = .ok (.ldiv, 1) := by decide +kernel
theorem dX12_tick_103 : decode cX12_tick 103 = .ok (.lsub, 1) := by decide +kernel
theorem dX12_tick_104 : decode cX12_tick 104 = .ok (.lstore 8, 2) := by decide +kernel
theorem dX12_tick_106 : decode cX12_tick 106 = .ok (.lload 8, 2) := by decide +kernel
theorem dX12_tick_108 : decode cX12_tick 108 = .ok (.iload 4, 2) := by decide +kernel
theorem dX12_tick_110 : decode cX12_tick 110 = .ok (.i2l, 1) := by decide +kernel
theorem dX12_tick_111 : decode cX12_tick 111 = .ok (.lcmp, 1) := by decide +kernel
theorem dX12_tick_112 : decode cX12_tick 112 = .ok (.ifCond .ge 7, 3) := by decide +kernel
theorem dX12_tick_115 : decode cX12_tick 115 = .ok (.lconst 0, 1) := by decide +kernel
theorem dX12_tick_116 : decode cX12_tick 116 = .ok (.goto 9, 3) := by decide +kernel
theorem dX12_tick_119 : decode cX12_tick 119 = .ok (.lload 8, 2) := by decide +kernel
theorem dX12_tick_121 : decode cX12_tick 121 = .ok (.iload 4, 2) := by decide +kernel
theorem dX12_tick_123 : decode cX12_tick 123 = .ok (.i2l, 1) := by decide +kernel
theorem dX12_tick_124 : decode cX12_tick 124 = .ok (.lsub, 1) := by decide +kernel
theorem dX12_tick_125 : decode cX12_tick 125 = .ok (.lstore 8, 2) := by decide +kernel
theorem dX12_tick_127 : decode cX12_tick 127 = .ok (.aload_n 0, 1) := by decide +kernel
theorem dX12_tick_128 : decode cX12_tick 128 = .ok (.iload 7, 2) := by decide +kernel
theorem dX12_tick_130 : decode cX12_tick 130 = .ok (.ifCond .ge 10, 3) := by decide +kernel
theorem dX12_tick_133 : decode cX12_tick 133 = .ok (.lload 8, 2) := by decide +kernel
theorem dX12_tick_135 : decode cX12_tick 135 = .ok (.lneg, 1) := by decide +kernel
theorem dX12_tick_136 : decode cX12_tick 136 = .ok (.l2i, 1) := by decide +kernel
theorem dX12_tick_137 : decode cX12_tick 137 = .ok (.goto 6, 3) := by decide +kernel
theorem dX12_tick_140 : decode cX12_tick 140 = .ok (.lload 8, 2) := by decide +kernel
theorem dX12_tick_142 : decode cX12_tick 142 = .ok (.l2i, 1) := by decide +kernel
theorem dX12_tick_143 : decode cX12_tick 143 = .ok (.putfield 220, 3) := by decide +kernel
theorem dX12_tick_146 : decode cX12_tick 146 = .ok (.aload_n 0, 1) := by decide +kernel
theorem dX12_tick_147 : decode cX12_tick 147 = .ok (.lload 8, 2) := by decide +kernel
theorem dX12_tick_149 : decode cX12_tick 149 = .ok (.l2i, 1) := by decide +kernel
theorem dX12_tick_150 : decode cX12_tick 150 = .ok (.putfield 236, 3) := by decide +kernel
theorem dX12_tick_153 : decode cX12_tick 153 = .ok (.aload_n 0, 1) := by decide +kernel
theorem dX12_tick_154 : decode cX12_tick 154 = .ok (.dup, 1) := by decide +kernel
theorem dX12_tick_155 : decode cX12_tick 155 = .ok (.getfield 217, 3) := by decide +kernel
theorem dX12_tick_158 : decode cX12_tick 158 = .ok (.aload_n 0, 1) := by decide +kernel
theorem dX12_tick_159 : decode cX12_tick 159 = .ok (.getfield 220, 3) := by decide +kernel
theorem dX12_tick_162 : decode cX12_tick 162 = .ok (.iadd, 1) := by decide +kernel
theorem dX12_tick_163 : decode cX12_tick 163 = .ok (.putfield 217, 3) := by decide +kernel
theorem dX12_tick_166 : decode cX12_tick 166 = .ok (.aload_n 0, 1) := by decide +kernel
theorem dX12_tick_167 : decode cX12_tick 167 = .ok (.iload_n 2, 1) := by decide +kernel
theorem dX12_tick_168 : decode cX12_tick 168 = .ok (.iconst 2, 1) := by decide +kernel
theorem dX12_tick_169 : decode cX12_tick 169 = .ok (.invokevirtual 200, 3) := by decide +kernel
theorem dX12_tick_172 : decode cX12_tick 172 = .ok (.istore 10, 2) := by decide +kernel
theorem dX12_tick_174 : decode cX12_tick 174 = .ok (.aload_n 0, 1) := by decide +kernel
theorem dX12_tick_175 : decode cX12_tick 175 = .ok (.getfield 217, 3) := by decide +kernel
theorem dX12_tick_178 : decode cX12_tick 178 = .ok (.invokestatic 226, 3) := by decide +kernel
theorem dX12_tick_181 : decode cX12_tick 181 = .ok (.iload 10, 2) := by decide +kernel
theorem dX12_tick_183 : decode cX12_tick 183 = .ok (.if_icmp .le 49, 3) := by decide +kernel
theorem dX12_tick_186 : decode cX12_tick 186 = .ok (.aload_n 0, 1) := by decide +kernel
theorem dX12_tick_187 : decode cX12_tick 187 = .ok (.aload_n 0, 1) := by decide +kernel
theorem dX12_tick_188 : decode cX12_tick 188 = .ok (.getfield 217, 3) := by decide +kernel
theorem dX12_tick_191 : decode cX12_tick 191 = .ok (.ifCond .ge 9, 3) := by decide +kernel
theorem dX12_tick_194 : decode cX12_tick 194 = .ok (.iload 10, 2) := by decide +kernel
theorem dX12_tick_196 : decode cX12_tick 196 = .ok (.ineg, 1) := by decide +kernel
theorem dX12_tick_197 : decode cX12_tick 197 = .ok (.goto 5, 3) := by decide +kernel
theorem dX12_tick_200 : decode cX12_tick 200 = .ok (.iload 10, 2) := by decide +kernel
theorem dX12_tick_202 : decode cX12_tick 202 = .ok (.putfield 217, 3) := by decide +kernel
theorem dX12_tick_205 : decode cX12_tick 205 = .ok (.aload_n 0, 1) := by decide +kernel
theorem dX12_tick_206 : decode cX12_tick 206 = .ok (.lload 8, 2) := by decide +kernel
theorem dX12_tick_208 : decode cX12_tick 208 = .ok (.aload_n 0, 1) := by decide +kernel
theorem dX12_tick_209 : decode cX12_tick 209 = .ok (.iload_n 2, 1) := by decide +kernel
theorem dX12_tick_210 : decode cX12_tick 210 = .ok (.iconst 3, 1) := by decide +kernel
theorem dX12_tick_211 : decode cX12_tick 211 = .ok (.invokevirtual 200, 3) := by decide +kernel
theorem dX12_tick_214 : decode cX12_tick 214 = .ok (.i2l, 1) := by decide +kernel
theorem dX12_tick_215 : decode cX12_tick 215 = .ok (.lcmp, 1) := by decide +kernel
theorem dX12_tick_216 : decode cX12_tick 216 = .ok (.ifCond .le 7, 3) := by decide +kernel
theorem dX12_tick_219 : decode cX12_tick 219 = .ok (.iconst 1, 1) := by decide +kernel
theorem dX12_tick_220 : decode cX12_tick 220 = .ok (.goto 4, 3) := by decide +kernel
theorem dX12_tick_223 : decode cX12_tick 223 = .ok (.iconst 0, 1) := by decide +kernel
theorem dX12_tick_224 : decode cX12_tick 224 = .ok (.putfield 223, 3) := by decide +kernel
theorem dX12_tick_227 : decode cX12_tick 227 = .ok (.aload_n 0, 1) := by decide +kernel
theorem dX12_tick_228 : decode cX12_tick 228 = .ok (.iconst 0, 1) := by decide +kernel
theorem dX12_tick_229 : decode cX12_tick 229 = .ok (.putfield 220, 3) := by decide +kernel
theorem dX12_tick_232 : decode cX12_tick 232 = .ok (.aload_n 0, 1) := by decide +kernel
theorem dX12_tick_233 : decode cX12_tick 233 = .ok (.iload 5, 2) := by decide +kernel
theorem dX12_tick_235 : decode cX12_tick 235 = .ok (.ifCond .le 10, 3) := by decide +kernel
theorem dX12_tick_238 : decode cX12_tick 238 = .ok (.aload_n 0, 1) := by decide +kernel
theorem dX12_tick_239 : decode cX12_tick 239 = .ok (.getfield 217, 3) := by decide +kernel
theorem dX12_tick_242 : decode cX12_tick 242 = .ok (.ifCond .le 15, 3) := by decide +kernel
theorem dX12_tick_245 : decode cX12_tick 245 = .ok (.iload 5, 2) := by decide +kernel
theorem dX12_tick_247 : decode cX12_tick 247 = .ok (.ifCond .ge 14, 3) := by decide +kernel
theorem dX12_tick_250 : decode cX12_tick 250 = .ok (.aload_n 0, 1) := by decide +kernel
theorem dX12_tick_251 : decode cX12_tick 251 = .ok (.getfield 217, 3) := by decide +kernel
theorem dX12_tick_254 : decode cX12_tick 254 = .ok (.ifCond .lt 7, 3) := by decide +kernel
theorem dX12_tick_257 : decode cX12_tick 257 = .ok (.iconst 1, 1) := by decide +kernel
theorem dX12_tick_258 : decode cX12_tick 258 = .ok (.goto 4, 3) := by decide +kernel
theorem dX12_tick_261 : decode cX12_tick 261 = .ok (.iconst 0, 1) := by decide +kernel
theorem dX12_tick_262 : decode cX12_tick 262 = .ok (.putfield 239, 3) := by decide +kernel
theorem dX12_tick_265 : decode cX12_tick 265 = .ok (.return_, 1) := by decide +kernel
theorem dX12_unwinds_0 : decode cX12_unwinds 0 = .ok (.aload_n 0, 1) := by decide +kernel
theorem dX12_unwinds_1 : decode cX12_unwinds 1 = .ok (.getfield 220, 3) := by decide +kernel
theorem dX12_unwinds_4 : decode cX12_unwinds 4 = .ok (.ifCond .eq 31, 3) := by decide +kernel
theorem dX12_unwinds_7 : decode cX12_unwinds 7 = .ok (.aload_n 0, 1) := by decide +kernel
theorem dX12_unwinds_8 : decode cX12_unwinds 8 = .ok (.getfield 220, 3) := by decide +kernel
theorem dX12_unwinds_11 : decode cX12_unwinds 11 = .ok (.ifCond .ge 10, 3) := by decide +kernel
theorem dX12_unwinds_14 : decode cX12_unwinds 14 = .ok (.aload_n 0, 1) := by decide +kernel
theorem dX12_unwinds_15 : decode cX12_unwinds 15 = .ok (.getfield 217, 3) := by decide +kernel
theorem dX12_unwinds_18 : decode cX12_unwinds 18 = .ok (.ifCond .gt 17, 3) := by decide +kernel
theorem dX12_unwinds_21 : decode cX12_unwinds 21 = .ok (.aload_n 0, 1) := by decide +kernel
theorem dX12_unwinds_22 : decode cX12_unwinds 22 = .ok (.getfield 220, 3) := by decide +kernel
theorem dX12_unwinds_25 : decode cX12_unwinds 25 = .ok (.ifCond .le 14, 3) := by decide +kernel
theorem dX12_unwinds_28 : decode cX12_unwinds 28 = .ok (.aload_n 0, 1) := by decide +kernel
theorem dX12_unwinds_29 : decode cX12_unwinds 29 = .ok (.getfield 217, 3) := by decide +kernel
theorem dX12_unwinds_32 : decode cX12_unwinds 32 = .ok (.ifCond .ge 7, 3) := by decide +kernel
theorem dX12_unwinds_35 : decode cX12_unwinds 35 = .ok (.iconst 1, 1) := by decide +kernel
theorem dX12_unwinds_36 : decode cX12_unwinds 36 = .ok (.goto 4, 3) := by decide +kernel
theorem dX12_unwinds_39 : decode cX12_unwinds 39 = .ok (.iconst 0, 1) := by decide +kernel
theorem dX12_unwinds_40 : decode cX12_unwinds 40 = .ok (.ireturn, 1) := by decide +kernel
set_option maxRecDepth 20000 in
theorem ggX12_begin_X12_isDisc : GoodIn wsX12_begin wsX12_isDisc := goodIn_r _ [10, 2, 11, 12, 9, 13, 22, 23, 24, 25, 26, 27, 28, 29, 30, 31, 32, 33, 34, 35, 36, 37, 38, 39, 40, 41, 42, 43, 44, 45, 46, 47, 48, 49, 50, 51, 52, 53] (by decide +kernel) (by decide +kernel)
set_option maxRecDepth 20000 in
theorem gX12_begin_X12_isDisc : GoodIn wsX12_begin (wsV RX12 242 RX12 yX12_isDisc wsX12_isDisc) := goodIn_app (goodIn_of _ (by decide +kernel)) ggX12_begin_X12_isDisc
set_option maxRecDepth 20000 in
theorem ggX12_begin_X12_isThread : GoodIn wsX12_begin wsX12_isThread := goodIn_r _ [17, 2, 11, 12, 9, 13, 22, 23, 24, 25, 26, 27, 28, 29, 30, 31, 32, 33, 34, 35, 36, 37, 38, 39, 40, 41, 42, 43, 44, 45, 46, 47, 48, 49, 50, 51, 52, 53] (by decide +kernel) (by decide +kernel)
set_option maxRecDepth 20000 in
theorem gX12_begin_X12_isThread : GoodIn wsX12_begin (wsV RX12 209 RX12 yX12_isThread wsX12_isThread) := goodIn_app (goodIn_of _ (by decide +kernel)) ggX12_begin_X12_isThread
set_option maxRecDepth 20000 in
theorem ggX12_begin_X12_in : GoodIn wsX12_begin wsX12_in := goodIn_r _ [13] (by decide +kernel) (by decide +kernel)
set_option maxRecDepth 20000 in
theorem gX12_begin_X12_in : GoodIn wsX12_begin (va_wsS RX12 61 yX12_in wsX12_in) := goodIn_app (goodIn_of _ (by decide +kernel)) ggX12_begin_X12_in
set_option maxRecDepth 20000 in
theorem ggX12_begin_X12_threadOf : GoodIn wsX12_begin wsX12_threadOf := goodIn_r _ [21, 2, 22, 23, 24, 25, 26, 27, 28, 29, 30, 31, 32, 33, 34, 35, 36, 37, 38, 39, 40, 41, 42, 43, 44, 45, 46, 47, 48, 49, 50, 51, 52, 53] (by decide +kernel) (by decide +kernel)
set_option maxRecDepth 20000 in
theorem gX12_begin_X12_threadOf : GoodIn wsX12_begin (wsV RX12 200 RX12 yX12_threadOf wsX12_threadOf) := goodIn_app (goodIn_of _ (by decide +kernel)) ggX12_begin_X12_threadOf
theorem dX12_begin_0 : decode cX12_begin 0 = .ok (.aload_n 0, 1) := by decide +kernel
theorem dX12_begin_1 : decode cX12_begin 1 = .ok (.iconst 0, 1) := by decide +kernel
theorem dX12_begin_2 : decode cX12_begin 2 = .ok (.putfield 52, 3) := by decide +kernel
theorem dX12_begin_5 : decode cX12_begin 5 = .ok (.aload_n 0, 1) := by decide +kernel
theorem dX12_begin_6 : decode cX12_begin 6 = .ok (.iload_n 1, 1) := by decide +kernel
theorem dX12_begin_7 : decode cX12_begin 7 = .ok (.invokevirtual 242, 3) := by decide +kernel
theorem dX12_begin_10 : decode cX12_begin 10 = .ok (.ifCond .eq 53, 3) := by decide +kernel
theorem dX12_begin_13 : decode cX12_begin 13 = .ok (.aload_n 0, 1) := by decide +kernel
theorem dX12_begin_14 : decode cX12_begin 14 = .ok (.iload_n 2, 1) := by decide +kernel
theorem dX12_begin_15 : decode cX12_begin 15 = .ok (.invokevirtual 209, 3) := by decide +kernel
theorem dX12_begin_18 : decode cX12_begin 18 = .ok (.ifCond .eq 45, 3) := by decide +kernel
theorem dX12_begin_21 : decode cX12_begin 21 = .ok (.iload_n 3, 1) := by decide +kernel
theorem dX12_begin_22 : decode cX12_begin 22 = .ok (.i2l, 1) := by decide +kernel
theorem dX12_begin_23 : decode cX12_begin 23 = .ok (.lconst 0, 1) := by decide +kernel
theorem dX12_begin_24 : decode cX12_begin 24 = .ok (.aload_n 0, 1) := by decide +kernel
theorem dX12_begin_25 : decode cX12_begin 25 = .ok (.getfield 19, 3) := by decide +kernel
theorem dX12_begin_28 : decode cX12_begin 28 = .ok (.iconst 2, 1) := by decide +kernel
theorem dX12_begin_29 : decode cX12_begin 29 = .ok (.iaload, 1) := by decide +kernel
theorem dX12_begin_30 : decode cX12_begin 30 = .ok (.iconst 1, 1) := by decide +kernel
theorem dX12_begin_31 : decode cX12_begin 31 = .ok (.isub, 1) := by decide +kernel
theorem dX12_begin_32 : decode cX12_begin 32 = .ok (.i2l, 1) := by decide +kernel
theorem dX12_begin_33 : decode cX12_begin 33 = .ok (.invokestatic 61, 3) := by decide +kernel
theorem dX12_begin_36 : decode cX12_begin 36 = .ok (.ifCond .eq 27, 3) := by decide +kernel
theorem dX12_begin_39 : decode cX12_begin 39 = .ok (.iload 4, 2) := by decide +kernel
theorem dX12_begin_41 : decode cX12_begin 41 = .ok (.i2l, 1) := by decide +kernel
theorem dX12_begin_42 : decode cX12_begin 42 = .ok (.aload_n 0, 1) := by decide +kernel
theorem dX12_begin_43 : decode cX12_begin 43 = .ok (.iload_n 2, 1) := by decide +kernel
theorem dX12_begin_44 : decode cX12_begin 44 = .ok (.iconst 2, 1) := by decide +kernel
theorem dX12_begin_45 : decode cX12_begin 45 = .ok (.invokevirtual 200, 3) := by decide +kernel
theorem dX12_begin_48 : decode cX12_begin 48 = .ok (.ineg, 1) := by decide +kernel
theorem dX12_begin_49 : decode cX12_begin 49 = .ok (.i2l, 1) := by decide +kernel
theorem dX12_begin_50 : decode cX12_begin 50 = .ok (.aload_n 0, 1) := by decide +kernel
theorem dX12_begin_51 : decode cX12_begin 51 = .ok (.iload_n 2, 1) := by decide +kernel
theorem dX12_begin_52 : decode cX12_begin 52 = .ok (.iconst 2, 1) := by decide +kernel
theorem dX12_begin_53 : decode cX12_begin 53 = .ok (.invokevirtual 200, 3) := by decide +kernel
theorem dX12_begin_56 : decode cX12_begin 56 = .ok (.i2l, 1) := by decide +kernel
theorem dX12_begin_57 : decode cX12_begin 57 = .ok (.invokestatic 61, 3) := by decide +kernel
theorem dX12_begin_60 : decode cX12_begin 60 = .ok (.ifCond .ne 6, 3) := by decide +kernel
theorem dX12_begin_63 : decode cX12_begin 63 = .ok (.ldc 71, 2) := by decide +kernel
theorem dX12_begin_65 : decode cX12_begin 65 = .ok (.ireturn, 1) := by decide +kernel
theorem dX12_begin_66 : decode cX12_begin 66 = .ok (.iconst 0, 1) := by decide +kernel
theorem dX12_begin_67 : decode cX12_begin 67 = .ok (.istore 5, 2) := by decide +kernel
theorem dX12_begin_69 : decode cX12_begin 69 = .ok (.iload 5, 2) := by decide +kernel
theorem dX12_begin_71 : decode cX12_begin 71 = .ok (.bipush 12, 2) := by decide +kernel
theorem dX12_begin_73 : decode cX12_begin 73 = .ok (.if_icmp .ge 17, 3) := by decide +kernel
theorem dX12_begin_76 : decode cX12_begin 76 = .ok (.aload_n 0, 1) := by decide +kernel
theorem dX12_begin_77 : decode cX12_begin 77 = .ok (.getfield 28, 3) := by decide +kernel
theorem dX12_begin_80 : decode cX12_begin 80 = .ok (.iload 5, 2) := by decide +kernel
theorem dX12_begin_82 : decode cX12_begin 82 = .ok (.iconst 0, 1) := by decide +kernel
theorem dX12_begin_83 : decode cX12_begin 83 = .ok (.iastore, 1) := by decide +kernel
theorem dX12_begin_84 : decode cX12_begin 84 = .ok (.iinc 5 1, 3) := by decide +kernel
theorem dX12_begin_87 : decode cX12_begin 87 = .ok (.goto (-18), 3) := by decide +kernel
theorem dX12_begin_90 : decode cX12_begin 90 = .ok (.aload_n 0, 1) := by decide +kernel
theorem dX12_begin_91 : decode cX12_begin 91 = .ok (.getfield 28, 3) := by decide +kernel
theorem dX12_begin_94 : decode cX12_begin 94 = .ok (.iconst 0, 1) := by decide +kernel
theorem dX12_begin_95 : decode cX12_begin 95 = .ok (.iconst 1, 1) := by decide +kernel
theorem dX12_begin_96 : decode cX12_begin 96 = .ok (.iastore, 1) := by decide +kernel
theorem dX12_begin_97 : decode cX12_begin 97 = .ok (.aload_n 0, 1) := by decide +kernel
theorem dX12_begin_98 : decode cX12_begin 98 = .ok (.getfield 28, 3) := by decide +kernel
theorem dX12_begin_101 : decode cX12_begin 101 = .ok (.iconst 1, 1) := by decide +kernel
theorem dX12_begin_102 : decode cX12_begin 102 = .ok (.iload_n 1, 1) := by decide +kernel
theorem dX12_begin_103 : decode cX12_begin 103 = .ok (.iastore, 1) := by decide +kernel
theorem dX12_begin_104 : decode cX12_begin 104 = .ok (.aload_n 0, 1) := by decide +kernel
theorem dX12_begin_105 : decode cX12_begin 105 = .ok (.getfield 28, 3) := by decide +kernel
theorem dX12_begin_108 : decode cX12_begin 108 = .ok (.iconst 2, 1) := by decide +kernel
theorem dX12_begin_109 : decode cX12_begin 109 = .ok (.iload_n 2, 1) := by decide +kernel
theorem dX12_begin_110 : decode cX12_begin 110 = .ok (.iastore, 1) := by decide +kernel
theorem dX12_begin_111 : decode cX12_begin 111 = .ok (.aload_n 0, 1) := by decide +kernel
theorem dX12_begin_112 : decode cX12_begin 112 = .ok (.getfield 28, 3) := by decide +kernel
theorem dX12_begin_115 : decode cX12_begin 115 = .ok (.iconst 3, 1) := by decide +kernel
theorem dX12_begin_116 : decode cX12_begin 116 = .ok (.iload_n 3, 1) := by decide +kernel
theorem dX12_begin_117 : decode cX12_begin 117 = .ok (.iastore, 1) := by decide +kernel
theorem dX12_begin_118 : decode cX12_begin 118 = .ok (.aload_n 0, 1) := by decide +kernel
theorem dX12_begin_119 : decode cX12_begin 119 = .ok (.getfield 28, 3) := by decide +kernel
theorem dX12_begin_122 : decode cX12_begin 122 = .ok (.iconst 4, 1) := by decide +kernel
theorem dX12_begin_123 : decode cX12_begin 123 = .ok (.iload 4, 2) := by decide +kernel
theorem dX12_begin_125 : decode cX12_begin 125 = .ok (.iastore, 1) := by decide +kernel
theorem dX12_begin_126 : decode cX12_begin 126 = .ok (.aload_n 0, 1) := by decide +kernel
theorem dX12_begin_127 : decode cX12_begin 127 = .ok (.getfield 28, 3) := by decide +kernel
theorem dX12_begin_130 : decode cX12_begin 130 = .ok (.bipush 8, 2) := by decide +kernel
theorem dX12_begin_132 : decode cX12_begin 132 = .ok (.ldc 31, 2) := by decide +kernel
theorem dX12_begin_134 : decode cX12_begin 134 = .ok (.iastore, 1) := by decide +kernel
theorem dX12_begin_135 : decode cX12_begin 135 = .ok (.aload_n 0, 1) := by decide +kernel
theorem dX12_begin_136 : decode cX12_begin 136 = .ok (.getfield 28, 3) := by decide +kernel
theorem dX12_begin_139 : decode cX12_begin 139 = .ok (.bipush 11, 2) := by decide +kernel
theorem dX12_begin_141 : decode cX12_begin 141 = .ok (.iconst (-1), 1) := by decide +kernel
theorem dX12_begin_142 : decode cX12_begin 142 = .ok (.iastore, 1) := by decide +kernel
theorem dX12_begin_143 : decode cX12_begin 143 = .ok (.iconst 1, 1) := by decide +kernel
theorem dX12_begin_144 : decode cX12_begin 144 = .ok (.ireturn, 1) := by decide +kernel
set_option maxRecDepth 20000 in
theorem ggX12_shortNow_X12_size : GoodIn wsX12_shortNow wsX12_size := goodIn_r _ [5] (by decide +kernel) (by decide +kernel)
set_option maxRecDepth 20000 in
theorem gX12_shortNow_X12_size : GoodIn wsX12_shortNow (va_wsS RX12 226 yX12_size wsX12_size) := goodIn_app (goodIn_of _ (by decide +kernel)) ggX12_shortNow_X12_size
set_option maxRecDepth 20000 in
theorem ggX12_shortNow_X12_shortOf : GoodIn wsX12_shortNow wsX12_shortOf := goodIn_r _ [9, 10, 11, 12, 4, 13, 14, 15, 16, 17, 18, 19, 20, 21, 22, 23, 24, 25, 26, 27, 28, 29, 30, 31, 32, 33, 34, 35, 36, 37, 38, 39, 40, 41, 42, 43, 44, 45, 46, 47, 48, 49, 50] (by decide +kernel) (by decide +kernel)
set_option maxRecDepth 20000 in
theorem gX12_shortNow_X12_shortOf : GoodIn wsX12_shortNow (wsV RX12 206 RX12 yX12_shortOf wsX12_shortOf) := goodIn_app (goodIn_of _ (by decide +kernel)) ggX12_shortNow_X12_shortOf
theorem dX12_shortNow_0 : decode cX12_shortNow 0 = .ok (.aload_n 0, 1) := by decide +kernel
theorem dX12_shortNow_1 : decode cX12_shortNow 1 = .ok (.aload_n 0, 1) := by decide +kernel
theorem dX12_shortNow_2 : decode cX12_shortNow 2 = .ok (.getfield 28, 3) := by decide +kernel
theorem dX12_shortNow_5 : decode cX12_shortNow 5 = .ok (.iconst 2, 1) := by decide +kernel
theorem dX12_shortNow_6 : decode cX12_shortNow 6 = .ok (.iaload, 1) := by decide +kernel
theorem dX12_shortNow_7 : decode cX12_shortNow 7 = .ok (.aload_n 0, 1) := by decide +kernel
theorem dX12_shortNow_8 : decode cX12_shortNow 8 = .ok (.getfield 28, 3) := by decide +kernel
theorem dX12_shortNow_11 : decode cX12_shortNow 11 = .ok (.iconst 4, 1) := by decide +kernel
theorem dX12_shortNow_12 : decode cX12_shortNow 12 = .ok (.iaload, 1) := by decide +kernel
theorem dX12_shortNow_13 : decode cX12_shortNow 13 = .ok (.invokestatic 226, 3) := by decide +kernel
theorem dX12_shortNow_16 : decode cX12_shortNow 16 = .ok (.invokevirtual 206, 3) := by decide +kernel
theorem dX12_shortNow_19 : decode cX12_shortNow 19 = .ok (.ireturn, 1) := by decide +kernel
set_option maxRecDepth 20000 in
theorem ggX12_ruled_X12_shortNow : GoodIn wsX12_ruled wsX12_shortNow := goodIn_r _ [7, 1, 8, 9, 6, 10, 11, 12, 13, 14, 15, 16, 17, 18, 2, 19, 20, 21, 22, 23, 24, 25, 26, 27, 28, 29, 30, 31, 32, 33, 34, 35, 36, 37, 38, 39, 40, 41, 42, 43, 44, 45, 46, 47, 48, 49, 50, 51, 52, 53, 54] (by decide +kernel) (by decide +kernel)
set_option maxRecDepth 20000 in
theorem gX12_ruled_X12_shortNow : GoodIn wsX12_ruled (wsV RX12 245 RX12 yX12_shortNow wsX12_shortNow) := goodIn_app (goodIn_of _ (by decide +kernel)) ggX12_ruled_X12_shortNow
set_option maxRecDepth 20000 in
theorem ggX12_ruled_X12_size : GoodIn wsX12_ruled wsX12_size := goodIn_r _ [10] (by decide +kernel) (by decide +kernel)
set_option maxRecDepth 20000 in
theorem gX12_ruled_X12_size : GoodIn wsX12_ruled (va_wsS RX12 226 yX12_size wsX12_size) := goodIn_app (goodIn_of _ (by decide +kernel)) ggX12_ruled_X12_size
theorem dX12_ruled_0 : decode cX12_ruled 0 = .ok (.bipush 31, 2) := by decide +kernel
theorem dX12_ruled_2 : decode cX12_ruled 2 = .ok (.bipush 25, 2) := by decide +kernel
theorem dX12_ruled_4 : decode cX12_ruled 4 = .ok (.aload_n 0, 1) := by decide +kernel
theorem dX12_ruled_5 : decode cX12_ruled 5 = .ok (.getfield 28, 3) := by decide +kernel
theorem dX12_ruled_8 : decode cX12_ruled 8 = .ok (.iconst 3, 1) := by decide +kernel
theorem dX12_ruled_9 : decode cX12_ruled 9 = .ok (.iaload, 1) := by decide +kernel
theorem dX12_ruled_10 : decode cX12_ruled 10 = .ok (.imul, 1) := by decide +kernel
theorem dX12_ruled_11 : decode cX12_ruled 11 = .ok (.iadd, 1) := by decide +kernel
theorem dX12_ruled_12 : decode cX12_ruled 12 = .ok (.istore_n 1, 1) := by decide +kernel
theorem dX12_ruled_13 : decode cX12_ruled 13 = .ok (.iconst 0, 1) := by decide +kernel
theorem dX12_ruled_14 : decode cX12_ruled 14 = .ok (.istore_n 2, 1) := by decide +kernel
theorem dX12_ruled_15 : decode cX12_ruled 15 = .ok (.iload_n 2, 1) := by decide +kernel
theorem dX12_ruled_16 : decode cX12_ruled 16 = .ok (.aload_n 0, 1) := by decide +kernel
theorem dX12_ruled_17 : decode cX12_ruled 17 = .ok (.getfield 19, 3) := by decide +kernel
theorem dX12_ruled_20 : decode cX12_ruled 20 = .ok (.iload_n 1, 1) := by decide +kernel
theorem dX12_ruled_21 : decode cX12_ruled 21 = .ok (.iaload, 1) := by decide +kernel
theorem dX12_ruled_22 : decode cX12_ruled 22 = .ok (.if_icmp .ge 161, 3) := by decide +kernel
theorem dX12_ruled_25 : decode cX12_ruled 25 = .ok (.iload_n 1, 1) := by decide +kernel
theorem dX12_ruled_26 : decode cX12_ruled 26 = .ok (.iconst 1, 1) := by decide +kernel
theorem dX12_ruled_27 : decode cX12_ruled 27 = .ok (.iadd, 1) := by decide +kernel
theorem dX12_ruled_28 : decode cX12_ruled 28 = .ok (.iconst 4, 1) := by decide +kernel
theorem dX12_ruled_29 : decode cX12_ruled 29 = .ok (.iload_n 2, 1) := by decide +kernel
theorem dX12_ruled_30 : decode cX12_ruled 30 = .ok (.imul, 1) := by decide +kernel
theorem dX12_ruled_31 : decode cX12_ruled 31 = .ok (.iadd, 1) := by decide +kernel
theorem dX12_ruled_32 : decode cX12_ruled 32 = .ok (.istore_n 3, 1) := by decide +kernel
theorem dX12_ruled_33 : decode cX12_ruled 33 = .ok (.aload_n 0, 1) := by decide +kernel
theorem dX12_ruled_34 : decode cX12_ruled 34 = .ok (.getfield 28, 3) := by decide +kernel
theorem dX12_ruled_37 : decode cX12_ruled 37 = .ok (.bipush 11, 2) := by decide +kernel
theorem dX12_ruled_39 : decode cX12_ruled 39 = .ok (.iaload, 1) := by decide +kernel
theorem dX12_ruled_40 : decode cX12_ruled 40 = .ok (.ifCond .ge 7, 3) := by decide +kernel
theorem dX12_ruled_43 : decode cX12_ruled 43 = .ok (.iconst 0, 1) := by decide +kernel
theorem dX12_ruled_44 : decode cX12_ruled 44 = .ok (.goto 15, 3) := by decide +kernel
theorem dX12_ruled_47 : decode cX12_ruled 47 = .ok (.aload_n 0, 1) := by decide +kernel
theorem dX12_ruled_48 : decode cX12_ruled 48 = .ok (.invokevirtual 245, 3) := by decide +kernel
theorem dX12_ruled_51 : decode cX12_ruled 51 = .ok (.aload_n 0, 1) := by decide +kernel
theorem dX12_ruled_52 : decode cX12_ruled 52 = .ok (.getfield 28, 3) := by decide +kernel
theorem dX12_ruled_55 : decode cX12_ruled 55 = .ok (.bipush 11, 2) := by decide +kernel
theorem dX12_ruled_57 : decode cX12_ruled 57 = .ok (.iaload, 1) := by decide +kernel
theorem dX12_ruled_58 : decode cX12_ruled 58 = .ok (.isub, 1) := by decide +kernel
theorem dX12_ruled_59 : decode cX12_ruled 59 = .ok (.istore 4, 2) := by decide +kernel
theorem dX12_ruled_61 : decode cX12_ruled 61 = .ok (.aload_n 0, 1) := by decide +kernel
theorem dX12_ruled_62 : decode cX12_ruled 62 = .ok (.getfield 19, 3) := by decide +kernel
theorem dX12_ruled_65 : decode cX12_ruled 65 = .ok (.iload_n 3, 1) := by decide +kernel
theorem dX12_ruled_66 : decode cX12_ruled 66 = .ok (.iaload, 1) := by decide +kernel
theorem dX12_ruled_67 : decode cX12_ruled 67 = .ok (.ifCond .ne 15, 3) := by decide +kernel
theorem dX12_ruled_70 : decode cX12_ruled 70 = .ok (.aload_n 0, 1) := by decide +kernel
theorem dX12_ruled_71 : decode cX12_ruled 71 = .ok (.getfield 28, 3) := by decide +kernel
theorem dX12_ruled_74 : decode cX12_ruled 74 = .ok (.iconst 4, 1) := by decide +kernel
theorem dX12_ruled_75 : decode cX12_ruled 75 = .ok (.iaload, 1) := by decide +kernel
theorem dX12_ruled_76 : decode cX12_ruled 76 = .ok (.invokestatic 226, 3) := by decide +kernel
theorem dX12_ruled_79 : decode cX12_ruled 79 = .ok (.goto 47, 3) := by decide +kernel
theorem dX12_ruled_82 : decode cX12_ruled 82 = .ok (.aload_n 0, 1) := by decide +kernel
theorem dX12_ruled_83 : decode cX12_ruled 83 = .ok (.getfield 19, 3) := by decide +kernel
theorem dX12_ruled_86 : decode cX12_ruled 86 = .ok (.iload_n 3, 1) := by decide +kernel
theorem dX12_ruled_87 : decode cX12_ruled 87 = .ok (.iaload, 1) := by decide +kernel
theorem dX12_ruled_88 : decode cX12_ruled 88 = .ok (.iconst 1, 1) := by decide +kernel
theorem dX12_ruled_89 : decode cX12_ruled 89 = .ok (.if_icmp .ne 15, 3) := by decide +kernel
theorem dX12_ruled_92 : decode cX12_ruled 92 = .ok (.aload_n 0, 1) := by decide +kernel
theorem dX12_ruled_93 : decode cX12_ruled 93 = .ok (.getfield 28, 3) := by decide +kernel
theorem dX12_ruled_96 : decode cX12_ruled 96 = .ok (.iconst 5, 1) := by decide +kernel
theorem dX12_ruled_97 : decode cX12_ruled 97 = .ok (.iaload, 1) := by decide +kernel
theorem dX12_ruled_98 : decode cX12_ruled 98 = .ok (.invokestatic 226, 3) := by decide +kernel
theorem dX12_ruled_101 : decode cX12_ruled 101 = .ok (.goto 25, 3) := by decide +kernel
theorem dX12_ruled_104 : decode cX12_ruled 104 = .ok (.aload_n 0, 1) := by decide +kernel
theorem dX12_ruled_105 : decode cX12_ruled 105 = .ok (.getfield 19, 3) := by decide +kernel
theorem dX12_ruled_108 : decode cX12_ruled 108 = .ok (.iload_n 3, 1) := by decide +kernel
theorem dX12_ruled_109 : decode cX12_ruled 109 = .ok (.iaload, 1) := by decide +kernel
theorem dX12_ruled_110 : decode cX12_ruled 110 = .ok (.iconst 2, 1) := by decide +kernel
theorem dX12_ruled_111 : decode cX12_ruled 111 = .ok (.if_icmp .ne 8, 3) := by decide +kernel
theorem dX12_ruled_114 : decode cX12_ruled 114 = .ok (.iload 4, 2) := by decide +kernel
theorem dX12_ruled_116 : decode cX12_ruled 116 = .ok (.goto 10, 3) := by decide +kernel
theorem dX12_ruled_119 : decode cX12_ruled 119 = .ok (.aload_n 0, 1) := by decide +kernel
theorem dX12_ruled_120 : decode cX12_ruled 120 = .ok (.getfield 28, 3) := by decide +kernel
theorem dX12_ruled_123 : decode cX12_ruled 123 = .ok (.bipush 6, 2) := by decide +kernel
theorem dX12_ruled_125 : decode cX12_ruled 125 = .ok (.iaload, 1) := by decide +kernel
theorem dX12_ruled_126 : decode cX12_ruled 126 = .ok (.istore 5, 2) := by decide +kernel
theorem dX12_ruled_128 : decode cX12_ruled 128 = .ok (.aload_n 0, 1) := by decide +kernel
theorem dX12_ruled_129 : decode cX12_ruled 129 = .ok (.getfield 19, 3) := by decide +kernel
theorem dX12_ruled_132 : decode cX12_ruled 132 = .ok (.iload_n 3, 1) := by decide +kernel
theorem dX12_ruled_133 : decode cX12_ruled 133 = .ok (.iconst 1, 1) := by decide +kernel
theorem dX12_ruled_134 : decode cX12_ruled 134 = .ok (.iadd, 1) := by decide +kernel
theorem dX12_ruled_135 : decode cX12_ruled 135 = .ok (.iaload, 1) := by decide +kernel
theorem dX12_ruled_136 : decode cX12_ruled 136 = .ok (.ifCond .ne 19, 3) := by decide +kernel
theorem dX12_ruled_139 : decode cX12_ruled 139 = .ok (.iload 5, 2) := by decide +kernel
theorem dX12_ruled_141 : decode cX12_ruled 141 = .ok (.aload_n 0, 1) := by decide +kernel
theorem dX12_ruled_142 : decode cX12_ruled 142 = .ok (.getfield 19, 3) := by decide +kernel
theorem dX12_ruled_145 : decode cX12_ruled 145 = .ok (.iload_n 3, 1) := by decide +kernel
theorem dX12_ruled_146 : decode cX12_ruled 146 = .ok (.iconst 2, 1) := by decide +kernel
theorem dX12_ruled_147 : decode cX12_ruled 147 = .ok (.iadd, 1) := by decide +kernel
theorem dX12_ruled_148 : decode cX12_ruled 148 = .ok (.iaload, 1) := by decide +kernel
theorem dX12_ruled_149 : decode cX12_ruled 149 = .ok (.if_icmp .ge 28, 3) := by decide +kernel
theorem dX12_ruled_152 : decode cX12_ruled 152 = .ok (.goto 16, 3) := by decide +kernel
theorem dX12_ruled_155 : decode cX12_ruled 155 = .ok (.iload 5, 2) := by decide +kernel
theorem dX12_ruled_157 : decode cX12_ruled 157 = .ok (.aload_n 0, 1) := by decide +kernel
theorem dX12_ruled_158 : decode cX12_ruled 158 = .ok (.getfield 19, 3) := by decide +kernel
theorem dX12_ruled_161 : decode cX12_ruled 161 = .ok (.iload_n 3, 1) := by decide +kernel
theorem dX12_ruled_162 : decode cX12_ruled 162 = .ok (.iconst 2, 1) := by decide +kernel
theorem dX12_ruled_163 : decode cX12_ruled 163 = .ok (.iadd, 1) := by decide +kernel
theorem dX12_ruled_164 : decode cX12_ruled 164 = .ok (.iaload, 1) := by decide +kernel
theorem dX12_ruled_165 : decode cX12_ruled 165 = .ok (.if_icmp .le 12, 3) := by decide +kernel
theorem dX12_ruled_168 : decode cX12_ruled 168 = .ok (.aload_n 0, 1) := by decide +kernel
theorem dX12_ruled_169 : decode cX12_ruled 169 = .ok (.getfield 19, 3) := by decide +kernel
theorem dX12_ruled_172 : decode cX12_ruled 172 = .ok (.iload_n 3, 1) := by decide +kernel
theorem dX12_ruled_173 : decode cX12_ruled 173 = .ok (.iconst 3, 1) := by decide +kernel
theorem dX12_ruled_174 : decode cX12_ruled 174 = .ok (.iadd, 1) := by decide +kernel
theorem dX12_ruled_175 : decode cX12_ruled 175 = .ok (.iaload, 1) := by decide +kernel
theorem dX12_ruled_176 : decode cX12_ruled 176 = .ok (.ireturn, 1) := by decide +kernel
theorem dX12_ruled_177 : decode cX12_ruled 177 = .ok (.iinc 2 1, 3) := by decide +kernel
theorem dX12_ruled_180 : decode cX12_ruled 180 = .ok (.goto (-165), 3) := by decide +kernel
theorem dX12_ruled_183 : decode cX12_ruled 183 = .ok (.iconst 0, 1) := by decide +kernel
theorem dX12_ruled_184 : decode cX12_ruled 184 = .ok (.ireturn, 1) := by decide +kernel
set_option maxRecDepth 20000 in
theorem ggX12_runTick_X12_shortNow : GoodIn wsX12_runTick wsX12_shortNow := goodIn_r _ [11, 1, 12, 13, 10, 14, 15, 16, 17, 18, 19, 20, 21, 22, 23, 24, 25, 26, 27, 42, 43, 44, 45, 46, 47, 48, 49, 50, 51, 52, 53, 54, 55, 56, 57, 58, 59, 60, 61, 62, 63, 64, 65, 66, 67, 68, 69, 70, 71, 72, 73] (by decide +kernel) (by decide +kernel)
set_option maxRecDepth 20000 in
theorem gX12_runTick_X12_shortNow : GoodIn wsX12_runTick (wsV RX12 245 RX12 yX12_shortNow wsX12_shortNow) := goodIn_app (goodIn_of _ (by decide +kernel)) ggX12_runTick_X12_shortNow
set_option maxRecDepth 20000 in
theorem ggX12_runTick_X12_tick : GoodIn wsX12_runTick wsX12_tick := goodIn_r _ [31, 2, 3, 32, 33, 5, 4, 6, 12, 13, 10, 14, 34, 35, 36, 37, 15, 16, 17, 18, 19, 20, 21, 22, 23, 24, 25, 26, 27, 38, 39, 40, 41, 42, 43, 44, 45, 46, 47, 48, 49, 50, 51, 52, 53, 54, 55, 56, 57, 58, 59, 60, 61, 62, 63, 64, 65, 66, 67, 68, 69, 70, 71, 72, 73] (by decide +kernel) (by decide +kernel)
set_option maxRecDepth 20000 in
theorem gX12_runTick_X12_tick : GoodIn wsX12_runTick (wsV RX12 249 RX12 yX12_tick wsX12_tick) := goodIn_app (goodIn_of _ (by decide +kernel)) ggX12_runTick_X12_tick
theorem dX12_runTick_0 : decode cX12_runTick 0 = .ok (.aload_n 0, 1) := by decide +kernel
theorem dX12_runTick_1 : decode cX12_runTick 1 = .ok (.invokevirtual 245, 3) := by decide +kernel
theorem dX12_runTick_4 : decode cX12_runTick 4 = .ok (.istore_n 2, 1) := by decide +kernel
theorem dX12_runTick_5 : decode cX12_runTick 5 = .ok (.aload_n 0, 1) := by decide +kernel
theorem dX12_runTick_6 : decode cX12_runTick 6 = .ok (.aload_n 0, 1) := by decide +kernel
theorem dX12_runTick_7 : decode cX12_runTick 7 = .ok (.getfield 28, 3) := by decide +kernel
theorem dX12_runTick_10 : decode cX12_runTick 10 = .ok (.iconst 4, 1) := by decide +kernel
theorem dX12_runTick_11 : decode cX12_runTick 11 = .ok (.iaload, 1) := by decide +kernel
theorem dX12_runTick_12 : decode cX12_runTick 12 = .ok (.putfield 217, 3) := by decide +kernel
theorem dX12_runTick_15 : decode cX12_runTick 15 = .ok (.aload_n 0, 1) := by decide +kernel
theorem dX12_runTick_16 : decode cX12_runTick 16 = .ok (.aload_n 0, 1) := by decide +kernel
theorem dX12_runTick_17 : decode cX12_runTick 17 = .ok (.getfield 28, 3) := by decide +kernel
theorem dX12_runTick_20 : decode cX12_runTick 20 = .ok (.iconst 5, 1) := by decide +kernel
theorem dX12_runTick_21 : decode cX12_runTick 21 = .ok (.iaload, 1) := by decide +kernel
theorem dX12_runTick_22 : decode cX12_runTick 22 = .ok (.putfield 220, 3) := by decide +kernel
theorem dX12_runTick_25 : decode cX12_runTick 25 = .ok (.aload_n 0, 1) := by decide +kernel
theorem dX12_runTick_26 : decode cX12_runTick 26 = .ok (.iconst 0, 1) := by decide +kernel
theorem dX12_runTick_27 : decode cX12_runTick 27 = .ok (.putfield 223, 3) := by decide +kernel
theorem dX12_runTick_30 : decode cX12_runTick 30 = .ok (.aload_n 0, 1) := by decide +kernel
theorem dX12_runTick_31 : decode cX12_runTick 31 = .ok (.aload_n 0, 1) := by decide +kernel
theorem dX12_runTick_32 : decode cX12_runTick 32 = .ok (.getfield 28, 3) := by decide +kernel
theorem dX12_runTick_35 : decode cX12_runTick 35 = .ok (.iconst 1, 1) := by decide +kernel
theorem dX12_runTick_36 : decode cX12_runTick 36 = .ok (.iaload, 1) := by decide +kernel
theorem dX12_runTick_37 : decode cX12_runTick 37 = .ok (.aload_n 0, 1) := by decide +kernel
theorem dX12_runTick_38 : decode cX12_runTick 38 = .ok (.getfield 28, 3) := by decide +kernel
theorem dX12_runTick_41 : decode cX12_runTick 41 = .ok (.iconst 2, 1) := by decide +kernel
theorem dX12_runTick_42 : decode cX12_runTick 42 = .ok (.iaload, 1) := by decide +kernel
theorem dX12_runTick_43 : decode cX12_runTick 43 = .ok (.iload_n 1, 1) := by decide +kernel
theorem dX12_runTick_44 : decode cX12_runTick 44 = .ok (.iconst 0, 1) := by decide +kernel
theorem dX12_runTick_45 : decode cX12_runTick 45 = .ok (.invokevirtual 249, 3) := by decide +kernel
theorem dX12_runTick_48 : decode cX12_runTick 48 = .ok (.aload_n 0, 1) := by decide +kernel
theorem dX12_runTick_49 : decode cX12_runTick 49 = .ok (.getfield 28, 3) := by decide +kernel
theorem dX12_runTick_52 : decode cX12_runTick 52 = .ok (.iconst 4, 1) := by decide +kernel
theorem dX12_runTick_53 : decode cX12_runTick 53 = .ok (.aload_n 0, 1) := by decide +kernel
theorem dX12_runTick_54 : decode cX12_runTick 54 = .ok (.getfield 217, 3) := by decide +kernel
theorem dX12_runTick_57 : decode cX12_runTick 57 = .ok (.iastore, 1) := by decide +kernel
theorem dX12_runTick_58 : decode cX12_runTick 58 = .ok (.aload_n 0, 1) := by decide +kernel
theorem dX12_runTick_59 : decode cX12_runTick 59 = .ok (.getfield 28, 3) := by decide +kernel
theorem dX12_runTick_62 : decode cX12_runTick 62 = .ok (.iconst 5, 1) := by decide +kernel
theorem dX12_runTick_63 : decode cX12_runTick 63 = .ok (.aload_n 0, 1) := by decide +kernel
theorem dX12_runTick_64 : decode cX12_runTick 64 = .ok (.getfield 220, 3) := by decide +kernel
theorem dX12_runTick_67 : decode cX12_runTick 67 = .ok (.iastore, 1) := by decide +kernel
theorem dX12_runTick_68 : decode cX12_runTick 68 = .ok (.aload_n 0, 1) := by decide +kernel
theorem dX12_runTick_69 : decode cX12_runTick 69 = .ok (.getfield 28, 3) := by decide +kernel
theorem dX12_runTick_72 : decode cX12_runTick 72 = .ok (.bipush 6, 2) := by decide +kernel
theorem dX12_runTick_74 : decode cX12_runTick 74 = .ok (.dup2, 1) := by decide +kernel
theorem dX12_runTick_75 : decode cX12_runTick 75 = .ok (.iaload, 1) := by decide +kernel
theorem dX12_runTick_76 : decode cX12_runTick 76 = .ok (.iconst 1, 1) := by decide +kernel
theorem dX12_runTick_77 : decode cX12_runTick 77 = .ok (.iadd, 1) := by decide +kernel
theorem dX12_runTick_78 : decode cX12_runTick 78 = .ok (.iastore, 1) := by decide +kernel
theorem dX12_runTick_79 : decode cX12_runTick 79 = .ok (.aload_n 0, 1) := by decide +kernel
theorem dX12_runTick_80 : decode cX12_runTick 80 = .ok (.getfield 28, 3) := by decide +kernel
theorem dX12_runTick_83 : decode cX12_runTick 83 = .ok (.bipush 7, 2) := by decide +kernel
theorem dX12_runTick_85 : decode cX12_runTick 85 = .ok (.aload_n 0, 1) := by decide +kernel
theorem dX12_runTick_86 : decode cX12_runTick 86 = .ok (.getfield 223, 3) := by decide +kernel
theorem dX12_runTick_89 : decode cX12_runTick 89 = .ok (.ifCond .eq 7, 3) := by decide +kernel
theorem dX12_runTick_92 : decode cX12_runTick 92 = .ok (.iconst 1, 1) := by decide +kernel
theorem dX12_runTick_93 : decode cX12_runTick 93 = .ok (.goto 4, 3) := by decide +kernel
theorem dX12_runTick_96 : decode cX12_runTick 96 = .ok (.iconst 0, 1) := by decide +kernel
theorem dX12_runTick_97 : decode cX12_runTick 97 = .ok (.iastore, 1) := by decide +kernel
theorem dX12_runTick_98 : decode cX12_runTick 98 = .ok (.aload_n 0, 1) := by decide +kernel
theorem dX12_runTick_99 : decode cX12_runTick 99 = .ok (.getfield 28, 3) := by decide +kernel
theorem dX12_runTick_102 : decode cX12_runTick 102 = .ok (.bipush 8, 2) := by decide +kernel
theorem dX12_runTick_104 : decode cX12_runTick 104 = .ok (.iload_n 1, 1) := by decide +kernel
theorem dX12_runTick_105 : decode cX12_runTick 105 = .ok (.iastore, 1) := by decide +kernel
theorem dX12_runTick_106 : decode cX12_runTick 106 = .ok (.aload_n 0, 1) := by decide +kernel
theorem dX12_runTick_107 : decode cX12_runTick 107 = .ok (.getfield 28, 3) := by decide +kernel
theorem dX12_runTick_110 : decode cX12_runTick 110 = .ok (.bipush 9, 2) := by decide +kernel
theorem dX12_runTick_112 : decode cX12_runTick 112 = .ok (.aload_n 0, 1) := by decide +kernel
theorem dX12_runTick_113 : decode cX12_runTick 113 = .ok (.getfield 236, 3) := by decide +kernel
theorem dX12_runTick_116 : decode cX12_runTick 116 = .ok (.aload_n 0, 1) := by decide +kernel
theorem dX12_runTick_117 : decode cX12_runTick 117 = .ok (.getfield 28, 3) := by decide +kernel
theorem dX12_runTick_120 : decode cX12_runTick 120 = .ok (.bipush 9, 2) := by decide +kernel
theorem dX12_runTick_122 : decode cX12_runTick 122 = .ok (.iaload, 1) := by decide +kernel
theorem dX12_runTick_123 : decode cX12_runTick 123 = .ok (.if_icmp .le 10, 3) := by decide +kernel
theorem dX12_runTick_126 : decode cX12_runTick 126 = .ok (.aload_n 0, 1) := by decide +kernel
theorem dX12_runTick_127 : decode cX12_runTick 127 = .ok (.getfield 236, 3) := by decide +kernel
theorem dX12_runTick_130 : decode cX12_runTick 130 = .ok (.goto 10, 3) := by decide +kernel
theorem dX12_runTick_133 : decode cX12_runTick 133 = .ok (.aload_n 0, 1) := by decide +kernel
theorem dX12_runTick_134 : decode cX12_runTick 134 = .ok (.getfield 28, 3) := by decide +kernel
theorem dX12_runTick_137 : decode cX12_runTick 137 = .ok (.bipush 9, 2) := by decide +kernel
theorem dX12_runTick_139 : decode cX12_runTick 139 = .ok (.iaload, 1) := by decide +kernel
theorem dX12_runTick_140 : decode cX12_runTick 140 = .ok (.iastore, 1) := by decide +kernel
theorem dX12_runTick_141 : decode cX12_runTick 141 = .ok (.aload_n 0, 1) := by decide +kernel
theorem dX12_runTick_142 : decode cX12_runTick 142 = .ok (.getfield 28, 3) := by decide +kernel
theorem dX12_runTick_145 : decode cX12_runTick 145 = .ok (.bipush 10, 2) := by decide +kernel
theorem dX12_runTick_147 : decode cX12_runTick 147 = .ok (.dup2, 1) := by decide +kernel
theorem dX12_runTick_148 : decode cX12_runTick 148 = .ok (.iaload, 1) := by decide +kernel
theorem dX12_runTick_149 : decode cX12_runTick 149 = .ok (.aload_n 0, 1) := by decide +kernel
theorem dX12_runTick_150 : decode cX12_runTick 150 = .ok (.getfield 239, 3) := by decide +kernel
theorem dX12_runTick_153 : decode cX12_runTick 153 = .ok (.ifCond .eq 7, 3) := by decide +kernel
theorem dX12_runTick_156 : decode cX12_runTick 156 = .ok (.iconst 1, 1) := by decide +kernel
theorem dX12_runTick_157 : decode cX12_runTick 157 = .ok (.goto 4, 3) := by decide +kernel
theorem dX12_runTick_160 : decode cX12_runTick 160 = .ok (.iconst 0, 1) := by decide +kernel
theorem dX12_runTick_161 : decode cX12_runTick 161 = .ok (.iadd, 1) := by decide +kernel
theorem dX12_runTick_162 : decode cX12_runTick 162 = .ok (.iastore, 1) := by decide +kernel
theorem dX12_runTick_163 : decode cX12_runTick 163 = .ok (.aload_n 0, 1) := by decide +kernel
theorem dX12_runTick_164 : decode cX12_runTick 164 = .ok (.getfield 28, 3) := by decide +kernel
theorem dX12_runTick_167 : decode cX12_runTick 167 = .ok (.bipush 11, 2) := by decide +kernel
theorem dX12_runTick_169 : decode cX12_runTick 169 = .ok (.iload_n 2, 1) := by decide +kernel
theorem dX12_runTick_170 : decode cX12_runTick 170 = .ok (.iastore, 1) := by decide +kernel
theorem dX12_runTick_171 : decode cX12_runTick 171 = .ok (.return_, 1) := by decide +kernel
set_option maxRecDepth 20000 in
theorem ggX12_go_X12_in : GoodIn wsX12_go wsX12_in := goodIn_r _ [9] (by decide +kernel) (by decide +kernel)
set_option maxRecDepth 20000 in
theorem gX12_go_X12_in : GoodIn wsX12_go (va_wsS RX12 61 yX12_in wsX12_in) := goodIn_app (goodIn_of _ (by decide +kernel)) ggX12_go_X12_in
set_option maxRecDepth 20000 in
theorem ggX12_go_X12_ruled : GoodIn wsX12_go wsX12_ruled := goodIn_r _ [13, 4, 14, 15, 16, 17, 8, 18, 19, 20, 21, 22, 23, 24, 25, 26, 27, 28, 29, 30, 31, 32, 33, 57, 58, 59, 60, 61, 62, 63, 64, 65, 66, 67, 68, 69, 70, 71, 72, 73, 74, 75, 76, 77, 78, 79, 80, 81, 82, 83, 84, 85, 86, 87, 88] (by decide +kernel) (by decide +kernel)
set_option maxRecDepth 20000 in
theorem gX12_go_X12_ruled : GoodIn wsX12_go (wsV RX12 256 RX12 yX12_ruled wsX12_ruled) := goodIn_app (goodIn_of _ (by decide +kernel)) ggX12_go_X12_ruled
set_option maxRecDepth 20000 in
theorem ggX12_go_X12_runTick : GoodIn wsX12_go wsX12_runTick := goodIn_r _ [37, 4, 38, 39, 40, 41, 42, 15, 16, 17, 8, 18, 19, 20, 21, 22, 23, 24, 25, 26, 27, 28, 29, 14, 30, 31, 32, 33, 43, 44, 45, 46, 47, 48, 49, 50, 51, 52, 53, 54, 55, 56, 57, 58, 59, 60, 61, 62, 63, 64, 65, 66, 67, 68, 69, 70, 71, 72, 73, 74, 75, 76, 77, 78, 79, 80, 81, 82, 83, 84, 85, 86, 87, 88] (by decide +kernel) (by decide +kernel)
set_option maxRecDepth 20000 in
theorem gX12_go_X12_runTick : GoodIn wsX12_go (wsV RX12 259 RX12 yX12_runTick wsX12_runTick) := goodIn_app (goodIn_of _ (by decide +kernel)) ggX12_go_X12_runTick
theorem dX12_go_0 : decode cX12_go 0 = .ok (.aload_n 0, 1) := by decide +kernel
theorem dX12_go_1 : decode cX12_go 1 = .ok (.iconst 0, 1) := by decide +kernel
theorem dX12_go_2 : decode cX12_go 2 = .ok (.putfield 52, 3) := by decide +kernel
theorem dX12_go_5 : decode cX12_go 5 = .ok (.iload_n 1, 1) := by decide +kernel
theorem dX12_go_6 : decode cX12_go 6 = .ok (.i2l, 1) := by decide +kernel
theorem dX12_go_7 : decode cX12_go 7 = .ok (.lconst 1, 1) := by decide +kernel
theorem dX12_go_8 : decode cX12_go 8 = .ok (.ldc2_w 253, 3) := by decide +kernel
theorem dX12_go_11 : decode cX12_go 11 = .ok (.invokestatic 61, 3) := by decide +kernel
theorem dX12_go_14 : decode cX12_go 14 = .ok (.ifCond .ne 6, 3) := by decide +kernel
theorem dX12_go_17 : decode cX12_go 17 = .ok (.ldc 71, 2) := by decide +kernel
theorem dX12_go_19 : decode cX12_go 19 = .ok (.ireturn, 1) := by decide +kernel
theorem dX12_go_20 : decode cX12_go 20 = .ok (.aload_n 0, 1) := by decide +kernel
theorem dX12_go_21 : decode cX12_go 21 = .ok (.getfield 28, 3) := by decide +kernel
theorem dX12_go_24 : decode cX12_go 24 = .ok (.iconst 0, 1) := by decide +kernel
theorem dX12_go_25 : decode cX12_go 25 = .ok (.iaload, 1) := by decide +kernel
theorem dX12_go_26 : decode cX12_go 26 = .ok (.ifCond .ne 6, 3) := by decide +kernel
theorem dX12_go_29 : decode cX12_go 29 = .ok (.ldc 255, 2) := by decide +kernel
theorem dX12_go_31 : decode cX12_go 31 = .ok (.ireturn, 1) := by decide +kernel
theorem dX12_go_32 : decode cX12_go 32 = .ok (.iconst 0, 1) := by decide +kernel
theorem dX12_go_33 : decode cX12_go 33 = .ok (.istore_n 2, 1) := by decide +kernel
theorem dX12_go_34 : decode cX12_go 34 = .ok (.iload_n 2, 1) := by decide +kernel
theorem dX12_go_35 : decode cX12_go 35 = .ok (.iload_n 1, 1) := by decide +kernel
theorem dX12_go_36 : decode cX12_go 36 = .ok (.if_icmp .ge 27, 3) := by decide +kernel
theorem dX12_go_39 : decode cX12_go 39 = .ok (.aload_n 0, 1) := by decide +kernel
theorem dX12_go_40 : decode cX12_go 40 = .ok (.getfield 28, 3) := by decide +kernel
theorem dX12_go_43 : decode cX12_go 43 = .ok (.bipush 7, 2) := by decide +kernel
theorem dX12_go_45 : decode cX12_go 45 = .ok (.iaload, 1) := by decide +kernel
theorem dX12_go_46 : decode cX12_go 46 = .ok (.ifCond .ne 17, 3) := by decide +kernel
theorem dX12_go_49 : decode cX12_go 49 = .ok (.aload_n 0, 1) := by decide +kernel
theorem dX12_go_50 : decode cX12_go 50 = .ok (.aload_n 0, 1) := by decide +kernel
theorem dX12_go_51 : decode cX12_go 51 = .ok (.invokevirtual 256, 3) := by decide +kernel
theorem dX12_go_54 : decode cX12_go 54 = .ok (.invokevirtual 259, 3) := by decide +kernel
theorem dX12_go_57 : decode cX12_go 57 = .ok (.iinc 2 1, 3) := by decide +kernel
theorem dX12_go_60 : decode cX12_go 60 = .ok (.goto (-26), 3) := by decide +kernel
theorem dX12_go_63 : decode cX12_go 63 = .ok (.iload_n 2, 1) := by decide +kernel
theorem dX12_go_64 : decode cX12_go 64 = .ok (.ireturn, 1) := by decide +kernel
set_option maxRecDepth 20000 in
theorem ggX12_pulls_X12_isRow : GoodIn wsX12_pulls wsX12_isRow := goodIn_r _ [14, 15, 16, 17, 13, 18] (by decide +kernel) (by decide +kernel)
set_option maxRecDepth 20000 in
theorem gX12_pulls_X12_isRow : GoodIn wsX12_pulls (va_wsS RX12 65 yX12_isRow wsX12_isRow) := goodIn_app (goodIn_of _ (by decide +kernel)) ggX12_pulls_X12_isRow
set_option maxRecDepth 20000 in
theorem ggX12_pulls_X12_in : GoodIn wsX12_pulls wsX12_in := goodIn_r _ [18] (by decide +kernel) (by decide +kernel)
set_option maxRecDepth 20000 in
theorem gX12_pulls_X12_in : GoodIn wsX12_pulls (va_wsS RX12 61 yX12_in wsX12_in) := goodIn_app (goodIn_of _ (by decide +kernel)) ggX12_pulls_X12_in
set_option maxRecDepth 20000 in
theorem ggX12_pulls_X12_finding : GoodIn wsX12_pulls wsX12_finding := goodIn_r _ [22, 10, 23, 67, 68, 69, 70, 71, 72, 73, 74, 75, 76, 77, 78, 79, 80, 81, 82, 83, 84, 85, 86, 87, 88, 89, 90, 91, 92, 93, 94, 95, 96, 97, 98] (by decide +kernel) (by decide +kernel)
set_option maxRecDepth 20000 in
theorem gX12_pulls_X12_finding : GoodIn wsX12_pulls (wsV RX12 72 RX12 yX12_finding wsX12_finding) := goodIn_app (goodIn_of _ (by decide +kernel)) ggX12_pulls_X12_finding
set_option maxRecDepth 20000 in
theorem ggX12_pulls_X12_runTick : GoodIn wsX12_pulls wsX12_runTick := goodIn_r _ [27, 4, 28, 29, 30, 31, 32, 33, 34, 35, 13, 36, 37, 38, 39, 40, 41, 42, 43, 44, 45, 46, 47, 48, 49, 50, 51, 52, 53, 54, 55, 56, 57, 58, 59, 60, 61, 62, 63, 64, 65, 66, 67, 68, 69, 70, 71, 72, 73, 74, 75, 76, 77, 78, 79, 80, 81, 82, 83, 84, 85, 86, 87, 88, 89, 90, 91, 92, 93, 94, 95, 96, 97, 98] (by decide +kernel) (by decide +kernel)
set_option maxRecDepth 20000 in
theorem gX12_pulls_X12_runTick : GoodIn wsX12_pulls (wsV RX12 259 RX12 yX12_runTick wsX12_runTick) := goodIn_app (goodIn_of _ (by decide +kernel)) ggX12_pulls_X12_runTick
theorem dX12_pulls_0 : decode cX12_pulls 0 = .ok (.aload_n 0, 1) := by decide +kernel
theorem dX12_pulls_1 : decode cX12_pulls 1 = .ok (.iconst 0, 1) := by decide +kernel
theorem dX12_pulls_2 : decode cX12_pulls 2 = .ok (.putfield 52, 3) := by decide +kernel
theorem dX12_pulls_5 : decode cX12_pulls 5 = .ok (.iload_n 1, 1) := by decide +kernel
theorem dX12_pulls_6 : decode cX12_pulls 6 = .ok (.invokestatic 65, 3) := by decide +kernel
theorem dX12_pulls_9 : decode cX12_pulls 9 = .ok (.ifCond .eq 15, 3) := by decide +kernel
theorem dX12_pulls_12 : decode cX12_pulls 12 = .ok (.iload_n 3, 1) := by decide +kernel
theorem dX12_pulls_13 : decode cX12_pulls 13 = .ok (.i2l, 1) := by decide +kernel
theorem dX12_pulls_14 : decode cX12_pulls 14 = .ok (.lconst 1, 1) := by decide +kernel
theorem dX12_pulls_15 : decode cX12_pulls 15 = .ok (.ldc2_w 262, 3) := by decide +kernel
theorem dX12_pulls_18 : decode cX12_pulls 18 = .ok (.invokestatic 61, 3) := by decide +kernel
theorem dX12_pulls_21 : decode cX12_pulls 21 = .ok (.ifCond .ne 6, 3) := by decide +kernel
theorem dX12_pulls_24 : decode cX12_pulls 24 = .ok (.ldc 71, 2) := by decide +kernel
theorem dX12_pulls_26 : decode cX12_pulls 26 = .ok (.ireturn, 1) := by decide +kernel
theorem dX12_pulls_27 : decode cX12_pulls 27 = .ok (.aload_n 0, 1) := by decide +kernel
theorem dX12_pulls_28 : decode cX12_pulls 28 = .ok (.getfield 28, 3) := by decide +kernel
theorem dX12_pulls_31 : decode cX12_pulls 31 = .ok (.iconst 0, 1) := by decide +kernel
theorem dX12_pulls_32 : decode cX12_pulls 32 = .ok (.iaload, 1) := by decide +kernel
theorem dX12_pulls_33 : decode cX12_pulls 33 = .ok (.ifCond .ne 6, 3) := by decide +kernel
theorem dX12_pulls_36 : decode cX12_pulls 36 = .ok (.ldc 255, 2) := by decide +kernel
theorem dX12_pulls_38 : decode cX12_pulls 38 = .ok (.ireturn, 1) := by decide +kernel
theorem dX12_pulls_39 : decode cX12_pulls 39 = .ok (.aload_n 0, 1) := by decide +kernel
theorem dX12_pulls_40 : decode cX12_pulls 40 = .ok (.getfield 7, 3) := by decide +kernel
theorem dX12_pulls_43 : decode cX12_pulls 43 = .ok (.iload_n 1, 1) := by decide +kernel
theorem dX12_pulls_44 : decode cX12_pulls 44 = .ok (.iaload, 1) := by decide +kernel
theorem dX12_pulls_45 : decode cX12_pulls 45 = .ok (.ifCond .ge 9, 3) := by decide +kernel
theorem dX12_pulls_48 : decode cX12_pulls 48 = .ok (.aload_n 0, 1) := by decide +kernel
theorem dX12_pulls_49 : decode cX12_pulls 49 = .ok (.iconst 1, 1) := by decide +kernel
theorem dX12_pulls_50 : decode cX12_pulls 50 = .ok (.invokevirtual 72, 3) := by decide +kernel
theorem dX12_pulls_53 : decode cX12_pulls 53 = .ok (.ireturn, 1) := by decide +kernel
theorem dX12_pulls_54 : decode cX12_pulls 54 = .ok (.iload_n 2, 1) := by decide +kernel
theorem dX12_pulls_55 : decode cX12_pulls 55 = .ok (.ifCond .lt 19, 3) := by decide +kernel
theorem dX12_pulls_58 : decode cX12_pulls 58 = .ok (.iload_n 2, 1) := by decide +kernel
theorem dX12_pulls_59 : decode cX12_pulls 59 = .ok (.i2l, 1) := by decide +kernel
theorem dX12_pulls_60 : decode cX12_pulls 60 = .ok (.iload_n 3, 1) := by decide +kernel
theorem dX12_pulls_61 : decode cX12_pulls 61 = .ok (.i2l, 1) := by decide +kernel
theorem dX12_pulls_62 : decode cX12_pulls 62 = .ok (.ladd, 1) := by decide +kernel
theorem dX12_pulls_63 : decode cX12_pulls 63 = .ok (.aload_n 0, 1) := by decide +kernel
theorem dX12_pulls_64 : decode cX12_pulls 64 = .ok (.getfield 13, 3) := by decide +kernel
theorem dX12_pulls_67 : decode cX12_pulls 67 = .ok (.iload_n 1, 1) := by decide +kernel
theorem dX12_pulls_68 : decode cX12_pulls 68 = .ok (.iaload, 1) := by decide +kernel
theorem dX12_pulls_69 : decode cX12_pulls 69 = .ok (.i2l, 1) := by decide +kernel
theorem dX12_pulls_70 : decode cX12_pulls 70 = .ok (.lcmp, 1) := by decide +kernel
theorem dX12_pulls_71 : decode cX12_pulls 71 = .ok (.ifCond .le 9, 3) := by decide +kernel
theorem dX12_pulls_74 : decode cX12_pulls 74 = .ok (.aload_n 0, 1) := by decide +kernel
theorem dX12_pulls_75 : decode cX12_pulls 75 = .ok (.iconst 2, 1) := by decide +kernel
theorem dX12_pulls_76 : decode cX12_pulls 76 = .ok (.invokevirtual 72, 3) := by decide +kernel
theorem dX12_pulls_79 : decode cX12_pulls 79 = .ok (.ireturn, 1) := by decide +kernel
theorem dX12_pulls_80 : decode cX12_pulls 80 = .ok (.iconst 0, 1) := by decide +kernel
theorem dX12_pulls_81 : decode cX12_pulls 81 = .ok (.istore 4, 2) := by decide +kernel
theorem dX12_pulls_83 : decode cX12_pulls 83 = .ok (.iload 4, 2) := by decide +kernel
theorem dX12_pulls_85 : decode cX12_pulls 85 = .ok (.iload_n 3, 1) := by decide +kernel
theorem dX12_pulls_86 : decode cX12_pulls 86 = .ok (.if_icmp .ge 37, 3) := by decide +kernel
theorem dX12_pulls_89 : decode cX12_pulls 89 = .ok (.aload_n 0, 1) := by decide +kernel
theorem dX12_pulls_90 : decode cX12_pulls 90 = .ok (.getfield 16, 3) := by decide +kernel
theorem dX12_pulls_93 : decode cX12_pulls 93 = .ok (.bipush 40, 2) := by decide +kernel
theorem dX12_pulls_95 : decode cX12_pulls 95 = .ok (.iload_n 1, 1) := by decide +kernel
theorem dX12_pulls_96 : decode cX12_pulls 96 = .ok (.imul, 1) := by decide +kernel
theorem dX12_pulls_97 : decode cX12_pulls 97 = .ok (.iload_n 2, 1) := by decide +kernel
theorem dX12_pulls_98 : decode cX12_pulls 98 = .ok (.iadd, 1) := by decide +kernel
theorem dX12_pulls_99 : decode cX12_pulls 99 = .ok (.iload 4, 2) := by decide +kernel
theorem dX12_pulls_101 : decode cX12_pulls 101 = .ok (.iadd, 1) := by decide +kernel
theorem dX12_pulls_102 : decode cX12_pulls 102 = .ok (.iaload, 1) := by decide +kernel
theorem dX12_pulls_103 : decode cX12_pulls 103 = .ok (.i2l, 1) := by decide +kernel
theorem dX12_pulls_104 : decode cX12_pulls 104 = .ok (.lconst 0, 1) := by decide +kernel
theorem dX12_pulls_105 : decode cX12_pulls 105 = .ok (.ldc2_w 264, 3) := by decide +kernel
theorem dX12_pulls_108 : decode cX12_pulls 108 = .ok (.invokestatic 61, 3) := by decide +kernel
theorem dX12_pulls_111 : decode cX12_pulls 111 = .ok (.ifCond .ne 6, 3) := by decide +kernel
theorem dX12_pulls_114 : decode cX12_pulls 114 = .ok (.ldc 71, 2) := by decide +kernel
theorem dX12_pulls_116 : decode cX12_pulls 116 = .ok (.ireturn, 1) := by decide +kernel
theorem dX12_pulls_117 : decode cX12_pulls 117 = .ok (.iinc 4 1, 3) := by decide +kernel
theorem dX12_pulls_120 : decode cX12_pulls 120 = .ok (.goto (-37), 3) := by decide +kernel
theorem dX12_pulls_123 : decode cX12_pulls 123 = .ok (.aload_n 0, 1) := by decide +kernel
theorem dX12_pulls_124 : decode cX12_pulls 124 = .ok (.iconst 0, 1) := by decide +kernel
theorem dX12_pulls_125 : decode cX12_pulls 125 = .ok (.putfield 55, 3) := by decide +kernel
theorem dX12_pulls_128 : decode cX12_pulls 128 = .ok (.iconst 0, 1) := by decide +kernel
theorem dX12_pulls_129 : decode cX12_pulls 129 = .ok (.istore 4, 2) := by decide +kernel
theorem dX12_pulls_131 : decode cX12_pulls 131 = .ok (.iload 4, 2) := by decide +kernel
theorem dX12_pulls_133 : decode cX12_pulls 133 = .ok (.iload_n 3, 1) := by decide +kernel
theorem dX12_pulls_134 : decode cX12_pulls 134 = .ok (.if_icmp .ge 37, 3) := by decide +kernel
theorem dX12_pulls_137 : decode cX12_pulls 137 = .ok (.aload_n 0, 1) := by decide +kernel
theorem dX12_pulls_138 : decode cX12_pulls 138 = .ok (.getfield 28, 3) := by decide +kernel
theorem dX12_pulls_141 : decode cX12_pulls 141 = .ok (.bipush 7, 2) := by decide +kernel
theorem dX12_pulls_143 : decode cX12_pulls 143 = .ok (.iaload, 1) := by decide +kernel
theorem dX12_pulls_144 : decode cX12_pulls 144 = .ok (.ifCond .ne 27, 3) := by decide +kernel
theorem dX12_pulls_147 : decode cX12_pulls 147 = .ok (.aload_n 0, 1) := by decide +kernel
theorem dX12_pulls_148 : decode cX12_pulls 148 = .ok (.aload_n 0, 1) := by decide +kernel
theorem dX12_pulls_149 : decode cX12_pulls 149 = .ok (.getfield 16, 3) := by decide +kernel
theorem dX12_pulls_152 : decode cX12_pulls 152 = .ok (.bipush 40, 2) := by decide +kernel
theorem dX12_pulls_154 : decode cX12_pulls 154 = .ok (.iload_n 1, 1) := by decide +kernel
theorem dX12_pulls_155 : decode cX12_pulls 155 = .ok (.imul, 1) := by decide +kernel
theorem dX12_pulls_156 : decode cX12_pulls 156 = .ok (.iload_n 2, 1) := by decide +kernel
theorem dX12_pulls_157 : decode cX12_pulls 157 = .ok (.iadd, 1) := by decide +kernel
theorem dX12_pulls_158 : decode cX12_pulls 158 = .ok (.iload 4, 2) := by decide +kernel
theorem dX12_pulls_160 : decode cX12_pulls 160 = .ok (.iadd, 1) := by decide +kernel
theorem dX12_pulls_161 : decode cX12_pulls 161 = .ok (.iaload, 1) := by decide +kernel
theorem dX12_pulls_162 : decode cX12_pulls 162 = .ok (.invokevirtual 259, 3) := by decide +kernel
theorem dX12_pulls_165 : decode cX12_pulls 165 = .ok (.iinc 4 1, 3) := by decide +kernel
theorem dX12_pulls_168 : decode cX12_pulls 168 = .ok (.goto (-37), 3) := by decide +kernel
theorem dX12_pulls_171 : decode cX12_pulls 171 = .ok (.iload 4, 2) := by decide +kernel
theorem dX12_pulls_173 : decode cX12_pulls 173 = .ok (.ireturn, 1) := by decide +kernel
set_option maxRecDepth 20000 in
theorem ggX12_now_X12_in : GoodIn wsX12_now wsX12_in := goodIn_r _ [9] (by decide +kernel) (by decide +kernel)
set_option maxRecDepth 20000 in
theorem gX12_now_X12_in : GoodIn wsX12_now (va_wsS RX12 61 yX12_in wsX12_in) := goodIn_app (goodIn_of _ (by decide +kernel)) ggX12_now_X12_in
set_option maxRecDepth 20000 in
theorem ggX12_now_X12_shortNow : GoodIn wsX12_now wsX12_shortNow := goodIn_r _ [13, 4, 14, 15, 8, 16, 17, 18, 19, 20, 21, 22, 23, 24, 25, 26, 27, 28, 29, 34, 35, 36, 37, 38, 39, 40, 41, 42, 43, 44, 45, 46, 47, 48, 49, 50, 51, 52, 53, 54, 55, 56, 57, 58, 59, 60, 61, 62, 63, 64, 65] (by decide +kernel) (by decide +kernel)
set_option maxRecDepth 20000 in
theorem gX12_now_X12_shortNow : GoodIn wsX12_now (wsV RX12 245 RX12 yX12_shortNow wsX12_shortNow) := goodIn_app (goodIn_of _ (by decide +kernel)) ggX12_now_X12_shortNow
set_option maxRecDepth 20000 in
theorem ggX12_now_X12_size : GoodIn wsX12_now wsX12_size := goodIn_r _ [16] (by decide +kernel) (by decide +kernel)
set_option maxRecDepth 20000 in
theorem gX12_now_X12_size : GoodIn wsX12_now (va_wsS RX12 226 yX12_size wsX12_size) := goodIn_app (goodIn_of _ (by decide +kernel)) ggX12_now_X12_size
set_option maxRecDepth 20000 in
theorem ggX12_now_X12_discOf : GoodIn wsX12_now wsX12_discOf := goodIn_r _ [33, 25, 34, 35, 36, 37, 38, 39, 40, 41, 42, 43, 44, 45, 46, 47, 48, 49, 50, 51, 52, 53, 54, 55, 56, 57, 58, 59, 60, 61, 62, 63, 64, 65] (by decide +kernel) (by decide +kernel)
set_option maxRecDepth 20000 in
theorem gX12_now_X12_discOf : GoodIn wsX12_now (wsV RX12 229 RX12 yX12_discOf wsX12_discOf) := goodIn_app (goodIn_of _ (by decide +kernel)) ggX12_now_X12_discOf
theorem dX12_now_0 : decode cX12_now 0 = .ok (.aload_n 0, 1) := by decide +kernel
theorem dX12_now_1 : decode cX12_now 1 = .ok (.iconst 0, 1) := by decide +kernel
theorem dX12_now_2 : decode cX12_now 2 = .ok (.putfield 52, 3) := by decide +kernel
theorem dX12_now_5 : decode cX12_now 5 = .ok (.iload_n 1, 1) := by decide +kernel
theorem dX12_now_6 : decode cX12_now 6 = .ok (.i2l, 1) := by decide +kernel
theorem dX12_now_7 : decode cX12_now 7 = .ok (.lconst 0, 1) := by decide +kernel
theorem dX12_now_8 : decode cX12_now 8 = .ok (.ldc2_w 76, 3) := by decide +kernel
theorem dX12_now_11 : decode cX12_now 11 = .ok (.invokestatic 61, 3) := by decide +kernel
theorem dX12_now_14 : decode cX12_now 14 = .ok (.ifCond .ne 6, 3) := by decide +kernel
theorem dX12_now_17 : decode cX12_now 17 = .ok (.ldc 71, 2) := by decide +kernel
theorem dX12_now_19 : decode cX12_now 19 = .ok (.ireturn, 1) := by decide +kernel
theorem dX12_now_20 : decode cX12_now 20 = .ok (.aload_n 0, 1) := by decide +kernel
theorem dX12_now_21 : decode cX12_now 21 = .ok (.getfield 28, 3) := by decide +kernel
theorem dX12_now_24 : decode cX12_now 24 = .ok (.iconst 0, 1) := by decide +kernel
theorem dX12_now_25 : decode cX12_now 25 = .ok (.iaload, 1) := by decide +kernel
theorem dX12_now_26 : decode cX12_now 26 = .ok (.ifCond .ne 6, 3) := by decide +kernel
theorem dX12_now_29 : decode cX12_now 29 = .ok (.ldc 255, 2) := by decide +kernel
theorem dX12_now_31 : decode cX12_now 31 = .ok (.ireturn, 1) := by decide +kernel
theorem dX12_now_32 : decode cX12_now 32 = .ok (.iload_n 1, 1) := by decide +kernel
theorem dX12_now_33 : decode cX12_now 33 = .ok (.tableswitch 120 0 7 #[47, 54, 61, 69, 77, 82, 90, 98], 47) := by decide +kernel
theorem dX12_now_80 : decode cX12_now 80 = .ok (.aload_n 0, 1) := by decide +kernel
theorem dX12_now_81 : decode cX12_now 81 = .ok (.getfield 28, 3) := by decide +kernel
theorem dX12_now_84 : decode cX12_now 84 = .ok (.iconst 4, 1) := by decide +kernel
theorem dX12_now_85 : decode cX12_now 85 = .ok (.iaload, 1) := by decide +kernel
theorem dX12_now_86 : decode cX12_now 86 = .ok (.ireturn, 1) := by decide +kernel
theorem dX12_now_87 : decode cX12_now 87 = .ok (.aload_n 0, 1) := by decide +kernel
theorem dX12_now_88 : decode cX12_now 88 = .ok (.getfield 28, 3) := by decide +kernel
theorem dX12_now_91 : decode cX12_now 91 = .ok (.iconst 5, 1) := by decide +kernel
theorem dX12_now_92 : decode cX12_now 92 = .ok (.iaload, 1) := by decide +kernel
theorem dX12_now_93 : decode cX12_now 93 = .ok (.ireturn, 1) := by decide +kernel
theorem dX12_now_94 : decode cX12_now 94 = .ok (.aload_n 0, 1) := by decide +kernel
theorem dX12_now_95 : decode cX12_now 95 = .ok (.getfield 28, 3) := by decide +kernel
theorem dX12_now_98 : decode cX12_now 98 = .ok (.bipush 6, 2) := by decide +kernel
theorem dX12_now_100 : decode cX12_now 100 = .ok (.iaload, 1) := by decide +kernel
theorem dX12_now_101 : decode cX12_now 101 = .ok (.ireturn, 1) := by decide +kernel
theorem dX12_now_102 : decode cX12_now 102 = .ok (.aload_n 0, 1) := by decide +kernel
theorem dX12_now_103 : decode cX12_now 103 = .ok (.getfield 28, 3) := by decide +kernel
theorem dX12_now_106 : decode cX12_now 106 = .ok (.bipush 7, 2) := by decide +kernel
theorem dX12_now_108 : decode cX12_now 108 = .ok (.iaload, 1) := by decide +kernel
theorem dX12_now_109 : decode cX12_now 109 = .ok (.ireturn, 1) := by decide +kernel
theorem dX12_now_110 : decode cX12_now 110 = .ok (.aload_n 0, 1) := by decide +kernel
theorem dX12_now_111 : decode cX12_now 111 = .ok (.invokevirtual 245, 3) := by decide +kernel
theorem dX12_now_114 : decode cX12_now 114 = .ok (.ireturn, 1) := by decide +kernel
theorem dX12_now_115 : decode cX12_now 115 = .ok (.aload_n 0, 1) := by decide +kernel
theorem dX12_now_116 : decode cX12_now 116 = .ok (.getfield 28, 3) := by decide +kernel
theorem dX12_now_119 : decode cX12_now 119 = .ok (.bipush 8, 2) := by decide +kernel
theorem dX12_now_121 : decode cX12_now 121 = .ok (.iaload, 1) := by decide +kernel
theorem dX12_now_122 : decode cX12_now 122 = .ok (.ireturn, 1) := by decide +kernel
theorem dX12_now_123 : decode cX12_now 123 = .ok (.aload_n 0, 1) := by decide +kernel
theorem dX12_now_124 : decode cX12_now 124 = .ok (.getfield 28, 3) := by decide +kernel
theorem dX12_now_127 : decode cX12_now 127 = .ok (.bipush 9, 2) := by decide +kernel
theorem dX12_now_129 : decode cX12_now 129 = .ok (.iaload, 1) := by decide +kernel
theorem dX12_now_130 : decode cX12_now 130 = .ok (.ireturn, 1) := by decide +kernel
theorem dX12_now_131 : decode cX12_now 131 = .ok (.aload_n 0, 1) := by decide +kernel
theorem dX12_now_132 : decode cX12_now 132 = .ok (.getfield 28, 3) := by decide +kernel
theorem dX12_now_135 : decode cX12_now 135 = .ok (.iconst 5, 1) := by decide +kernel
theorem dX12_now_136 : decode cX12_now 136 = .ok (.iaload, 1) := by decide +kernel
theorem dX12_now_137 : decode cX12_now 137 = .ok (.invokestatic 226, 3) := by decide +kernel
theorem dX12_now_140 : decode cX12_now 140 = .ok (.aload_n 0, 1) := by decide +kernel
theorem dX12_now_141 : decode cX12_now 141 = .ok (.aload_n 0, 1) := by decide +kernel
theorem dX12_now_142 : decode cX12_now 142 = .ok (.getfield 28, 3) := by decide +kernel
theorem dX12_now_145 : decode cX12_now 145 = .ok (.iconst 1, 1) := by decide +kernel
theorem dX12_now_146 : decode cX12_now 146 = .ok (.iaload, 1) := by decide +kernel
theorem dX12_now_147 : decode cX12_now 147 = .ok (.iconst 2, 1) := by decide +kernel
theorem dX12_now_148 : decode cX12_now 148 = .ok (.invokevirtual 229, 3) := by decide +kernel
theorem dX12_now_151 : decode cX12_now 151 = .ok (.imul, 1) := by decide +kernel
theorem dX12_now_152 : decode cX12_now 152 = .ok (.ireturn, 1) := by decide +kernel
theorem dX12_now_153 : decode cX12_now 153 = .ok (.aload_n 0, 1) := by decide +kernel
theorem dX12_now_154 : decode cX12_now 154 = .ok (.getfield 28, 3) := by decide +kernel
theorem dX12_now_157 : decode cX12_now 157 = .ok (.bipush 10, 2) := by decide +kernel
theorem dX12_now_159 : decode cX12_now 159 = .ok (.iaload, 1) := by decide +kernel
theorem dX12_now_160 : decode cX12_now 160 = .ok (.ireturn, 1) := by decide +kernel
set_option maxRecDepth 20000 in
theorem ggX12_isAsked_X12_isDisc : GoodIn wsX12_isAsked wsX12_isDisc := goodIn_r _ [7, 8, 9, 10, 6, 11, 20, 21, 22, 23, 24, 25, 26, 27, 28, 29, 30, 31, 32, 33, 34, 35, 36, 37, 38, 39, 40, 41, 42, 43, 44, 45, 46, 47, 48, 49, 50, 51] (by decide +kernel) (by decide +kernel)
set_option maxRecDepth 20000 in
theorem gX12_isAsked_X12_isDisc : GoodIn wsX12_isAsked (wsV RX12 242 RX12 yX12_isDisc wsX12_isDisc) := goodIn_app (goodIn_of _ (by decide +kernel)) ggX12_isAsked_X12_isDisc
set_option maxRecDepth 20000 in
theorem ggX12_isAsked_X12_isThread : GoodIn wsX12_isAsked wsX12_isThread := goodIn_r _ [15, 8, 9, 10, 6, 11, 20, 21, 22, 23, 24, 25, 26, 27, 28, 29, 30, 31, 32, 33, 34, 35, 36, 37, 38, 39, 40, 41, 42, 43, 44, 45, 46, 47, 48, 49, 50, 51] (by decide +kernel) (by decide +kernel)
set_option maxRecDepth 20000 in
theorem gX12_isAsked_X12_isThread : GoodIn wsX12_isAsked (wsV RX12 209 RX12 yX12_isThread wsX12_isThread) := goodIn_app (goodIn_of _ (by decide +kernel)) ggX12_isAsked_X12_isThread
set_option maxRecDepth 20000 in
theorem ggX12_isAsked_X12_threadOf : GoodIn wsX12_isAsked wsX12_threadOf := goodIn_r _ [19, 8, 20, 21, 22, 23, 24, 25, 26, 27, 28, 29, 30, 31, 32, 33, 34, 35, 36, 37, 38, 39, 40, 41, 42, 43, 44, 45, 46, 47, 48, 49, 50, 51] (by decide +kernel) (by decide +kernel)
set_option maxRecDepth 20000 in
theorem gX12_isAsked_X12_threadOf : GoodIn wsX12_isAsked (wsV RX12 200 RX12 yX12_threadOf wsX12_threadOf) := goodIn_app (goodIn_of _ (by decide +kernel)) ggX12_isAsked_X12_threadOf
set_option maxRecDepth 20000 in
theorem ggX12_isAsked_X12_in : GoodIn wsX12_isAsked wsX12_in := goodIn_r _ [11] (by decide +kernel) (by decide +kernel)
set_option maxRecDepth 20000 in
theorem gX12_isAsked_X12_in : GoodIn wsX12_isAsked (va_wsS RX12 61 yX12_in wsX12_in) := goodIn_app (goodIn_of _ (by decide +kernel)) ggX12_isAsked_X12_in
theorem dX12_isAsked_0 : decode cX12_isAsked 0 = .ok (.aload_n 0, 1) := by decide +kernel
theorem dX12_isAsked_1 : decode cX12_isAsked 1 = .ok (.iload_n 1, 1) := by decide +kernel
theorem dX12_isAsked_2 : decode cX12_isAsked 2 = .ok (.invokevirtual 242, 3) := by decide +kernel
theorem dX12_isAsked_5 : decode cX12_isAsked 5 = .ok (.ifCond .eq 57, 3) := by decide +kernel
theorem dX12_isAsked_8 : decode cX12_isAsked 8 = .ok (.aload_n 0, 1) := by decide +kernel
theorem dX12_isAsked_9 : decode cX12_isAsked 9 = .ok (.iload_n 2, 1) := by decide +kernel
theorem dX12_isAsked_10 : decode cX12_isAsked 10 = .ok (.invokevirtual 209, 3) := by decide +kernel
theorem dX12_isAsked_13 : decode cX12_isAsked 13 = .ok (.ifCond .eq 49, 3) := by decide +kernel
theorem dX12_isAsked_16 : decode cX12_isAsked 16 = .ok (.iload_n 3, 1) := by decide +kernel
theorem dX12_isAsked_17 : decode cX12_isAsked 17 = .ok (.i2l, 1) := by decide +kernel
theorem dX12_isAsked_18 : decode cX12_isAsked 18 = .ok (.lconst 1, 1) := by decide +kernel
theorem dX12_isAsked_19 : decode cX12_isAsked 19 = .ok (.aload_n 0, 1) := by decide +kernel
theorem dX12_isAsked_20 : decode cX12_isAsked 20 = .ok (.iload_n 2, 1) := by decide +kernel
theorem dX12_isAsked_21 : decode cX12_isAsked 21 = .ok (.iconst 2, 1) := by decide +kernel
theorem dX12_isAsked_22 : decode cX12_isAsked 22 = .ok (.invokevirtual 200, 3) := by decide +kernel
theorem dX12_isAsked_25 : decode cX12_isAsked 25 = .ok (.i2l, 1) := by decide +kernel
theorem dX12_isAsked_26 : decode cX12_isAsked 26 = .ok (.invokestatic 61, 3) := by decide +kernel
theorem dX12_isAsked_29 : decode cX12_isAsked 29 = .ok (.ifCond .eq 33, 3) := by decide +kernel
theorem dX12_isAsked_32 : decode cX12_isAsked 32 = .ok (.iload 4, 2) := by decide +kernel
theorem dX12_isAsked_34 : decode cX12_isAsked 34 = .ok (.i2l, 1) := by decide +kernel
theorem dX12_isAsked_35 : decode cX12_isAsked 35 = .ok (.lconst 0, 1) := by decide +kernel
theorem dX12_isAsked_36 : decode cX12_isAsked 36 = .ok (.ldc2_w 264, 3) := by decide +kernel
theorem dX12_isAsked_39 : decode cX12_isAsked 39 = .ok (.invokestatic 61, 3) := by decide +kernel
theorem dX12_isAsked_42 : decode cX12_isAsked 42 = .ok (.ifCond .eq 20, 3) := by decide +kernel
theorem dX12_isAsked_45 : decode cX12_isAsked 45 = .ok (.iload 5, 2) := by decide +kernel
theorem dX12_isAsked_47 : decode cX12_isAsked 47 = .ok (.i2l, 1) := by decide +kernel
theorem dX12_isAsked_48 : decode cX12_isAsked 48 = .ok (.lconst 1, 1) := by decide +kernel
theorem dX12_isAsked_49 : decode cX12_isAsked 49 = .ok (.ldc2_w 266, 3) := by decide +kernel
theorem dX12_isAsked_52 : decode cX12_isAsked 52 = .ok (.invokestatic 61, 3) := by decide +kernel
theorem dX12_isAsked_55 : decode cX12_isAsked 55 = .ok (.ifCond .eq 7, 3) := by decide +kernel
theorem dX12_isAsked_58 : decode cX12_isAsked 58 = .ok (.iconst 1, 1) := by decide +kernel
theorem dX12_isAsked_59 : decode cX12_isAsked 59 = .ok (.goto 4, 3) := by decide +kernel
theorem dX12_isAsked_62 : decode cX12_isAsked 62 = .ok (.iconst 0, 1) := by decide +kernel
theorem dX12_isAsked_63 : decode cX12_isAsked 63 = .ok (.ireturn, 1) := by decide +kernel
set_option maxRecDepth 20000 in
theorem ggX12_runGreatest_X12_rest : GoodIn wsX12_runGreatest wsX12_rest := goodIn_r _ [8, 2, 9, 1, 45, 46, 47, 48, 49, 50, 51, 52, 53, 54, 55, 56, 57, 58, 59, 60, 61, 62, 63, 64, 65, 66, 67, 68, 69, 70, 71, 72, 73, 74, 75, 76] (by decide +kernel) (by decide +kernel)
set_option maxRecDepth 20000 in
theorem gX12_runGreatest_X12_rest : GoodIn wsX12_runGreatest (wsV RX12 268 RX12 yX12_rest wsX12_rest) := goodIn_app (goodIn_of _ (by decide +kernel)) ggX12_runGreatest_X12_rest
set_option maxRecDepth 20000 in
theorem ggX12_runGreatest_X12_unwinds : GoodIn wsX12_runGreatest wsX12_unwinds := goodIn_r _ [13, 9, 2, 45, 46, 47, 48, 49, 50, 51, 52, 53, 54, 55, 56, 57, 58, 59, 60, 61, 62, 63, 64, 65, 66, 67, 68, 69, 70, 71, 72, 73, 74, 75, 76] (by decide +kernel) (by decide +kernel)
set_option maxRecDepth 20000 in
theorem gX12_runGreatest_X12_unwinds : GoodIn wsX12_runGreatest (wsV RX12 271 RX12 yX12_unwinds wsX12_unwinds) := goodIn_app (goodIn_of _ (by decide +kernel)) ggX12_runGreatest_X12_unwinds
set_option maxRecDepth 20000 in
theorem ggX12_runGreatest_X12_size : GoodIn wsX12_runGreatest wsX12_size := goodIn_r _ [16] (by decide +kernel) (by decide +kernel)
set_option maxRecDepth 20000 in
theorem gX12_runGreatest_X12_size : GoodIn wsX12_runGreatest (va_wsS RX12 226 yX12_size wsX12_size) := goodIn_app (goodIn_of _ (by decide +kernel)) ggX12_runGreatest_X12_size
set_option maxRecDepth 20000 in
theorem ggX12_runGreatest_X12_tick : GoodIn wsX12_runGreatest wsX12_tick := goodIn_r _ [20, 2, 9, 21, 22, 3, 1, 23, 14, 15, 7, 16, 24, 25, 26, 27, 28, 29, 30, 31, 32, 33, 34, 35, 36, 37, 38, 39, 40, 41, 42, 43, 44, 45, 46, 47, 48, 49, 50, 51, 52, 53, 54, 55, 56, 57, 58, 59, 60, 61, 62, 63, 64, 65, 66, 67, 68, 69, 70, 71, 72, 73, 74, 75, 76] (by decide +kernel) (by decide +kernel)
set_option maxRecDepth 20000 in
theorem gX12_runGreatest_X12_tick : GoodIn wsX12_runGreatest (wsV RX12 249 RX12 yX12_tick wsX12_tick) := goodIn_app (goodIn_of _ (by decide +kernel)) ggX12_runGreatest_X12_tick
theorem dX12_runGreatest_0 : decode cX12_runGreatest 0 = .ok (.aload_n 0, 1) := by decide +kernel
theorem dX12_runGreatest_1 : decode cX12_runGreatest 1 = .ok (.iload_n 3, 1) := by decide +kernel
theorem dX12_runGreatest_2 : decode cX12_runGreatest 2 = .ok (.invokevirtual 268, 3) := by decide +kernel
theorem dX12_runGreatest_5 : decode cX12_runGreatest 5 = .ok (.iconst 0, 1) := by decide +kernel
theorem dX12_runGreatest_6 : decode cX12_runGreatest 6 = .ok (.istore 7, 2) := by decide +kernel
theorem dX12_runGreatest_8 : decode cX12_runGreatest 8 = .ok (.iconst 0, 1) := by decide +kernel
theorem dX12_runGreatest_9 : decode cX12_runGreatest 9 = .ok (.istore 8, 2) := by decide +kernel
theorem dX12_runGreatest_11 : decode cX12_runGreatest 11 = .ok (.iload 8, 2) := by decide +kernel
theorem dX12_runGreatest_13 : decode cX12_runGreatest 13 = .ok (.iload 5, 2) := by decide +kernel
theorem dX12_runGreatest_15 : decode cX12_runGreatest 15 = .ok (.if_icmp .ge 68, 3) := by decide +kernel
theorem dX12_runGreatest_18 : decode cX12_runGreatest 18 = .ok (.aload_n 0, 1) := by decide +kernel
theorem dX12_runGreatest_19 : decode cX12_runGreatest 19 = .ok (.getfield 223, 3) := by decide +kernel
theorem dX12_runGreatest_22 : decode cX12_runGreatest 22 = .ok (.ifCond .ne 61, 3) := by decide +kernel
theorem dX12_runGreatest_25 : decode cX12_runGreatest 25 = .ok (.aload_n 0, 1) := by decide +kernel
theorem dX12_runGreatest_26 : decode cX12_runGreatest 26 = .ok (.iload_n 1, 1) := by decide +kernel
theorem dX12_runGreatest_27 : decode cX12_runGreatest 27 = .ok (.iload_n 2, 1) := by decide +kernel
theorem dX12_runGreatest_28 : decode cX12_runGreatest 28 = .ok (.aload_n 0, 1) := by decide +kernel
theorem dX12_runGreatest_29 : decode cX12_runGreatest 29 = .ok (.invokevirtual 271, 3) := by decide +kernel
theorem dX12_runGreatest_32 : decode cX12_runGreatest 32 = .ok (.ifCond .eq 20, 3) := by decide +kernel
theorem dX12_runGreatest_35 : decode cX12_runGreatest 35 = .ok (.aload_n 0, 1) := by decide +kernel
theorem dX12_runGreatest_36 : decode cX12_runGreatest 36 = .ok (.getfield 217, 3) := by decide +kernel
theorem dX12_runGreatest_39 : decode cX12_runGreatest 39 = .ok (.invokestatic 226, 3) := by decide +kernel
theorem dX12_runGreatest_42 : decode cX12_runGreatest 42 = .ok (.iload 6, 2) := by decide +kernel
theorem dX12_runGreatest_44 : decode cX12_runGreatest 44 = .ok (.if_icmp .lt 8, 3) := by decide +kernel
theorem dX12_runGreatest_47 : decode cX12_runGreatest 47 = .ok (.iload 4, 2) := by decide +kernel
theorem dX12_runGreatest_49 : decode cX12_runGreatest 49 = .ok (.goto 4, 3) := by decide +kernel
theorem dX12_runGreatest_52 : decode cX12_runGreatest 52 = .ok (.iconst 0, 1) := by decide +kernel
theorem dX12_runGreatest_53 : decode cX12_runGreatest 53 = .ok (.iconst 0, 1) := by decide +kernel
theorem dX12_runGreatest_54 : decode cX12_runGreatest 54 = .ok (.invokevirtual 249, 3) := by decide +kernel
theorem dX12_runGreatest_57 : decode cX12_runGreatest 57 = .ok (.aload_n 0, 1) := by decide +kernel
theorem dX12_runGreatest_58 : decode cX12_runGreatest 58 = .ok (.getfield 236, 3) := by decide +kernel
theorem dX12_runGreatest_61 : decode cX12_runGreatest 61 = .ok (.iload 7, 2) := by decide +kernel
theorem dX12_runGreatest_63 : decode cX12_runGreatest 63 = .ok (.if_icmp .le 10, 3) := by decide +kernel
theorem dX12_runGreatest_66 : decode cX12_runGreatest 66 = .ok (.aload_n 0, 1) := by decide +kernel
theorem dX12_runGreatest_67 : decode cX12_runGreatest 67 = .ok (.getfield 236, 3) := by decide +kernel
theorem dX12_runGreatest_70 : decode cX12_runGreatest 70 = .ok (.goto 5, 3) := by decide +kernel
theorem dX12_runGreatest_73 : decode cX12_runGreatest 73 = .ok (.iload 7, 2) := by decide +kernel
theorem dX12_runGreatest_75 : decode cX12_runGreatest 75 = .ok (.istore 7, 2) := by decide +kernel
theorem dX12_runGreatest_77 : decode cX12_runGreatest 77 = .ok (.iinc 8 1, 3) := by decide +kernel
theorem dX12_runGreatest_80 : decode cX12_runGreatest 80 = .ok (.goto (-69), 3) := by decide +kernel
theorem dX12_runGreatest_83 : decode cX12_runGreatest 83 = .ok (.iload 7, 2) := by decide +kernel
theorem dX12_runGreatest_85 : decode cX12_runGreatest 85 = .ok (.ireturn, 1) := by decide +kernel
set_option maxRecDepth 20000 in
theorem ggX12_greatest_X12_isAsked : GoodIn wsX12_greatest wsX12_isAsked := goodIn_r _ [8, 9, 10, 11, 12, 13, 7, 14, 15, 16, 17, 18, 19, 20, 21, 22, 23, 24, 25, 26, 68, 69, 70, 71, 72, 73, 74, 75, 76, 77, 78, 79, 80, 81, 82, 83, 84, 85, 86, 87, 88, 89, 90, 91, 92, 93, 94, 95, 96, 97, 98, 99] (by decide +kernel) (by decide +kernel)
set_option maxRecDepth 20000 in
theorem gX12_greatest_X12_isAsked : GoodIn wsX12_greatest (wsV RX12 275 RX12 yX12_isAsked wsX12_isAsked) := goodIn_app (goodIn_of _ (by decide +kernel)) ggX12_greatest_X12_isAsked
set_option maxRecDepth 20000 in
theorem ggX12_greatest_X12_in : GoodIn wsX12_greatest wsX12_in := goodIn_r _ [18] (by decide +kernel) (by decide +kernel)
set_option maxRecDepth 20000 in
theorem gX12_greatest_X12_in : GoodIn wsX12_greatest (va_wsS RX12 61 yX12_in wsX12_in) := goodIn_app (goodIn_of _ (by decide +kernel)) ggX12_greatest_X12_in
set_option maxRecDepth 20000 in
theorem ggX12_greatest_X12_runGreatest : GoodIn wsX12_greatest wsX12_runGreatest := goodIn_r _ [30, 3, 31, 32, 33, 34, 35, 7, 36, 37, 38, 39, 40, 41, 42, 43, 44, 45, 46, 47, 48, 49, 50, 51, 52, 53, 54, 55, 56, 57, 58, 59, 23, 24, 25, 26, 15, 60, 61, 62, 63, 64, 65, 66, 67, 68, 69, 70, 71, 72, 73, 74, 75, 76, 77, 78, 79, 80, 81, 82, 83, 84, 85, 86, 87, 88, 89, 90, 91, 92, 93, 94, 95, 96, 97, 98, 99] (by decide +kernel) (by decide +kernel)
set_option maxRecDepth 20000 in
theorem gX12_greatest_X12_runGreatest : GoodIn wsX12_greatest (wsV RX12 279 RX12 yX12_runGreatest wsX12_runGreatest) := goodIn_app (goodIn_of _ (by decide +kernel)) ggX12_greatest_X12_runGreatest
theorem dX12_greatest_0 : decode cX12_greatest 0 = .ok (.aload_n 0, 1) := by decide +kernel
theorem dX12_greatest_1 : decode cX12_greatest 1 = .ok (.iconst 0, 1) := by decide +kernel
theorem dX12_greatest_2 : decode cX12_greatest 2 = .ok (.putfield 52, 3) := by decide +kernel
theorem dX12_greatest_5 : decode cX12_greatest 5 = .ok (.aload_n 0, 1) := by decide +kernel
theorem dX12_greatest_6 : decode cX12_greatest 6 = .ok (.iload_n 1, 1) := by decide +kernel
theorem dX12_greatest_7 : decode cX12_greatest 7 = .ok (.iload_n 2, 1) := by decide +kernel
theorem dX12_greatest_8 : decode cX12_greatest 8 = .ok (.iload_n 3, 1) := by decide +kernel
theorem dX12_greatest_9 : decode cX12_greatest 9 = .ok (.iload 4, 2) := by decide +kernel
theorem dX12_greatest_11 : decode cX12_greatest 11 = .ok (.iload 5, 2) := by decide +kernel
theorem dX12_greatest_13 : decode cX12_greatest 13 = .ok (.invokevirtual 275, 3) := by decide +kernel
theorem dX12_greatest_16 : decode cX12_greatest 16 = .ok (.ifCond .eq 14, 3) := by decide +kernel
theorem dX12_greatest_19 : decode cX12_greatest 19 = .ok (.iload 6, 2) := by decide +kernel
theorem dX12_greatest_21 : decode cX12_greatest 21 = .ok (.i2l, 1) := by decide +kernel
theorem dX12_greatest_22 : decode cX12_greatest 22 = .ok (.lconst 0, 1) := by decide +kernel
theorem dX12_greatest_23 : decode cX12_greatest 23 = .ok (.lconst 1, 1) := by decide +kernel
theorem dX12_greatest_24 : decode cX12_greatest 24 = .ok (.invokestatic 61, 3) := by decide +kernel
theorem dX12_greatest_27 : decode cX12_greatest 27 = .ok (.ifCond .ne 6, 3) := by decide +kernel
theorem dX12_greatest_30 : decode cX12_greatest 30 = .ok (.ldc 71, 2) := by decide +kernel
theorem dX12_greatest_32 : decode cX12_greatest 32 = .ok (.ireturn, 1) := by decide +kernel
theorem dX12_greatest_33 : decode cX12_greatest 33 = .ok (.aload_n 0, 1) := by decide +kernel
theorem dX12_greatest_34 : decode cX12_greatest 34 = .ok (.iload_n 1, 1) := by decide +kernel
theorem dX12_greatest_35 : decode cX12_greatest 35 = .ok (.iload_n 2, 1) := by decide +kernel
theorem dX12_greatest_36 : decode cX12_greatest 36 = .ok (.iload_n 3, 1) := by decide +kernel
theorem dX12_greatest_37 : decode cX12_greatest 37 = .ok (.iload 4, 2) := by decide +kernel
theorem dX12_greatest_39 : decode cX12_greatest 39 = .ok (.iload 5, 2) := by decide +kernel
theorem dX12_greatest_41 : decode cX12_greatest 41 = .ok (.iconst 0, 1) := by decide +kernel
theorem dX12_greatest_42 : decode cX12_greatest 42 = .ok (.invokevirtual 279, 3) := by decide +kernel
theorem dX12_greatest_45 : decode cX12_greatest 45 = .ok (.istore 7, 2) := by decide +kernel
theorem dX12_greatest_47 : decode cX12_greatest 47 = .ok (.iload 6, 2) := by decide +kernel
theorem dX12_greatest_49 : decode cX12_greatest 49 = .ok (.ifCond .ne 8, 3) := by decide +kernel
theorem dX12_greatest_52 : decode cX12_greatest 52 = .ok (.iload 7, 2) := by decide +kernel
theorem dX12_greatest_54 : decode cX12_greatest 54 = .ok (.goto 15, 3) := by decide +kernel
theorem dX12_greatest_57 : decode cX12_greatest 57 = .ok (.aload_n 0, 1) := by decide +kernel
theorem dX12_greatest_58 : decode cX12_greatest 58 = .ok (.getfield 223, 3) := by decide +kernel
theorem dX12_greatest_61 : decode cX12_greatest 61 = .ok (.ifCond .eq 7, 3) := by decide +kernel

theorem dX0_init_0 : decode cX0_init 0 = .ok (.aload_n 0, 1) := by decide +kernel
theorem dX0_init_1 : decode cX0_init 1 = .ok (.invokespecial 3, 3) := by decide +kernel
theorem dX0_init_4 : decode cX0_init 4 = .ok (.aload_n 0, 1) := by decide +kernel
theorem dX0_init_5 : decode cX0_init 5 = .ok (.bipush 16, 2) := by decide +kernel
theorem dX0_init_7 : decode cX0_init 7 = .ok (.newarray .int, 2) := by decide +kernel
theorem dX0_init_9 : decode cX0_init 9 = .ok (.putfield 9, 3) := by decide +kernel
theorem dX0_init_12 : decode cX0_init 12 = .ok (.return_, 1) := by decide +kernel
set_option maxRecDepth 20000 in
theorem ggX0_about_X8_toldAs : GoodIn wsX0_about wsX8_toldAs := goodIn_r _ [8, 9, 10, 11, 12, 13, 14, 15, 16, 17, 18, 19, 20, 7, 21, 26, 27, 28, 29, 30, 31, 32, 33, 34, 35, 36, 37, 38, 39, 40, 41] (by decide +kernel) (by decide +kernel)
set_option maxRecDepth 20000 in
theorem gX0_about_X8_toldAs : GoodIn wsX0_about (wsV RX0 19 RX8 yX8_toldAs wsX8_toldAs) := goodIn_app (goodIn_of _ (by decide +kernel)) ggX0_about_X8_toldAs
theorem dX0_about_0 : decode cX0_about 0 = .ok (.aload_n 0, 1) := by decide +kernel
theorem dX0_about_1 : decode cX0_about 1 = .ok (.aload_n 1, 1) := by decide +kernel
theorem dX0_about_2 : decode cX0_about 2 = .ok (.putfield 15, 3) := by decide +kernel
theorem dX0_about_5 : decode cX0_about 5 = .ok (.aload_n 0, 1) := by decide +kernel
theorem dX0_about_6 : decode cX0_about 6 = .ok (.aload_n 1, 1) := by decide +kernel
theorem dX0_about_7 : decode cX0_about 7 = .ok (.invokevirtual 19, 3) := by decide +kernel
theorem dX0_about_10 : decode cX0_about 10 = .ok (.putfield 25, 3) := by decide +kernel
theorem dX0_about_13 : decode cX0_about 13 = .ok (.aload_n 0, 1) := by decide +kernel
theorem dX0_about_14 : decode cX0_about 14 = .ok (.iconst 0, 1) := by decide +kernel
theorem dX0_about_15 : decode cX0_about 15 = .ok (.putfield 29, 3) := by decide +kernel
theorem dX0_about_18 : decode cX0_about 18 = .ok (.return_, 1) := by decide +kernel
theorem dX0_leave_0 : decode cX0_leave 0 = .ok (.aload_n 0, 1) := by decide +kernel
theorem dX0_leave_1 : decode cX0_leave 1 = .ok (.getfield 29, 3) := by decide +kernel
theorem dX0_leave_4 : decode cX0_leave 4 = .ok (.aload_n 0, 1) := by decide +kernel
theorem dX0_leave_5 : decode cX0_leave 5 = .ok (.getfield 9, 3) := by decide +kernel
theorem dX0_leave_8 : decode cX0_leave 8 = .ok (.arraylength, 1) := by decide +kernel
theorem dX0_leave_9 : decode cX0_leave 9 = .ok (.if_icmp .ge 20, 3) := by decide +kernel
theorem dX0_leave_12 : decode cX0_leave 12 = .ok (.aload_n 0, 1) := by decide +kernel
theorem dX0_leave_13 : decode cX0_leave 13 = .ok (.getfield 9, 3) := by decide +kernel
theorem dX0_leave_16 : decode cX0_leave 16 = .ok (.aload_n 0, 1) := by decide +kernel
theorem dX0_leave_17 : decode cX0_leave 17 = .ok (.dup, 1) := by decide +kernel
theorem dX0_leave_18 : decode cX0_leave 18 = .ok (.getfield 29, 3) := by decide +kernel
theorem dX0_leave_21 : decode cX0_leave 21 = .ok (.dup_x1, 1) := by decide +kernel
theorem dX0_leave_22 : decode cX0_leave 22 = .ok (.iconst 1, 1) := by decide +kernel
theorem dX0_leave_23 : decode cX0_leave 23 = .ok (.iadd, 1) := by decide +kernel
theorem dX0_leave_24 : decode cX0_leave 24 = .ok (.putfield 29, 3) := by decide +kernel
theorem dX0_leave_27 : decode cX0_leave 27 = .ok (.iload_n 1, 1) := by decide +kernel
theorem dX0_leave_28 : decode cX0_leave 28 = .ok (.iastore, 1) := by decide +kernel
theorem dX0_leave_29 : decode cX0_leave 29 = .ok (.return_, 1) := by decide +kernel
set_option maxRecDepth 20000 in
theorem ggX0_size_X0_leave : GoodIn wsX0_size wsX0_leave := goodIn_r _ [6, 7, 8, 41, 42, 43, 44] (by decide +kernel) (by decide +kernel)
set_option maxRecDepth 20000 in
theorem gX0_size_X0_leave : GoodIn wsX0_size (wsV RX0 32 RX0 yX0_leave wsX0_leave) := goodIn_app (goodIn_of _ (by decide +kernel)) ggX0_size_X0_leave
set_option maxRecDepth 20000 in
theorem ggX0_size_X0_lentSize : GoodIn wsX0_size wsX0_lentSize := goodIn_r _ [12, 13, 14, 15, 16, 17, 18, 2, 3, 4, 5, 6, 7, 8, 41, 42, 43, 44, 45, 46, 47, 48, 49, 50, 51, 52, 53, 54, 55, 56] (by decide +kernel) (by decide +kernel)
set_option maxRecDepth 20000 in
theorem gX0_size_X0_lentSize : GoodIn wsX0_size (wsV RX0 36 RX0 yX0_lentSize wsX0_lentSize) := goodIn_app (goodIn_of _ (by decide +kernel)) ggX0_size_X0_lentSize
set_option maxRecDepth 20000 in
theorem ggX0_size_X0_mark : GoodIn wsX0_size wsX0_mark := goodIn_r _ [22, 1, 13, 23, 15, 16, 17, 18, 2, 3, 4, 5, 6, 7, 8, 24, 25, 26, 27, 28, 29, 30, 31, 32, 33, 34, 35, 36, 9, 10, 11, 12, 14, 41, 42, 43, 44, 45, 46, 47, 48, 49, 50, 51, 52, 53, 54, 55, 56] (by decide +kernel) (by decide +kernel)
set_option maxRecDepth 20000 in
theorem gX0_size_X0_mark : GoodIn wsX0_size (wsV RX0 39 RX0 yX0_mark wsX0_mark) := goodIn_app (goodIn_of _ (by decide +kernel)) ggX0_size_X0_mark
set_option maxRecDepth 20000 in
theorem ggX0_size_X0_windingSize : GoodIn wsX0_size wsX0_windingSize := goodIn_r _ [40, 2, 3, 4, 5, 6, 7, 8, 9, 10, 11, 12, 13, 14, 15, 16, 17, 18, 19, 20, 21, 22, 1, 23, 24, 25, 26, 27, 28, 29, 30, 31, 32, 33, 34, 35, 36, 41, 42, 43, 44, 45, 46, 47, 48, 49, 50, 51, 52, 53, 54, 55, 56] (by decide +kernel) (by decide +kernel)
set_option maxRecDepth 20000 in
theorem gX0_size_X0_windingSize : GoodIn wsX0_size (wsV RX0 42 RX0 yX0_windingSize wsX0_windingSize) := goodIn_app (goodIn_of _ (by decide +kernel)) ggX0_size_X0_windingSize
set_option maxRecDepth 20000 in
theorem ggX0_size_X0_deadSize : GoodIn wsX0_size wsX0_deadSize := goodIn_r _ [36, 2, 3, 4, 5, 6, 7, 8, 9, 10, 11, 12, 13, 14, 15, 16, 17, 18, 41, 42, 43, 44, 45, 46, 47, 48, 49, 50, 51, 52, 53, 54, 55, 56] (by decide +kernel) (by decide +kernel)
set_option maxRecDepth 20000 in
theorem gX0_size_X0_deadSize : GoodIn wsX0_size (wsV RX0 45 RX0 yX0_deadSize wsX0_deadSize) := goodIn_app (goodIn_of _ (by decide +kernel)) ggX0_size_X0_deadSize
theorem dX0_size_0 : decode cX0_size 0 = .ok (.aload_n 0, 1) := by decide +kernel
theorem dX0_size_1 : decode cX0_size 1 = .ok (.getfield 25, 3) := by decide +kernel
theorem dX0_size_4 : decode cX0_size 4 = .ok (.tableswitch 66 1 4 #[32, 48, 66, 53], 32) := by decide +kernel
theorem dX0_size_36 : decode cX0_size 36 = .ok (.aload_n 0, 1) := by decide +kernel
theorem dX0_size_37 : decode cX0_size 37 = .ok (.bipush 11, 2) := by decide +kernel
theorem dX0_size_39 : decode cX0_size 39 = .ok (.invokevirtual 32, 3) := by decide +kernel
theorem dX0_size_42 : decode cX0_size 42 = .ok (.aload_n 0, 1) := by decide +kernel
theorem dX0_size_43 : decode cX0_size 43 = .ok (.invokevirtual 36, 3) := by decide +kernel
theorem dX0_size_46 : decode cX0_size 46 = .ok (.aload_n 0, 1) := by decide +kernel
theorem dX0_size_47 : decode cX0_size 47 = .ok (.invokevirtual 39, 3) := by decide +kernel
theorem dX0_size_50 : decode cX0_size 50 = .ok (.iadd, 1) := by decide +kernel
theorem dX0_size_51 : decode cX0_size 51 = .ok (.ireturn, 1) := by decide +kernel
theorem dX0_size_52 : decode cX0_size 52 = .ok (.aload_n 0, 1) := by decide +kernel
theorem dX0_size_53 : decode cX0_size 53 = .ok (.invokevirtual 42, 3) := by decide +kernel
theorem dX0_size_56 : decode cX0_size 56 = .ok (.ireturn, 1) := by decide +kernel
theorem dX0_size_57 : decode cX0_size 57 = .ok (.aload_n 0, 1) := by decide +kernel
theorem dX0_size_58 : decode cX0_size 58 = .ok (.bipush 13, 2) := by decide +kernel
theorem dX0_size_60 : decode cX0_size 60 = .ok (.invokevirtual 32, 3) := by decide +kernel
theorem dX0_size_63 : decode cX0_size 63 = .ok (.iconst 2, 1) := by decide +kernel
theorem dX0_size_64 : decode cX0_size 64 = .ok (.aload_n 0, 1) := by decide +kernel
theorem dX0_size_65 : decode cX0_size 65 = .ok (.invokevirtual 42, 3) := by decide +kernel
theorem dX0_size_68 : decode cX0_size 68 = .ok (.imul, 1) := by decide +kernel
theorem dX0_size_69 : decode cX0_size 69 = .ok (.ireturn, 1) := by decide +kernel
theorem dX0_size_70 : decode cX0_size 70 = .ok (.aload_n 0, 1) := by decide +kernel
theorem dX0_size_71 : decode cX0_size 71 = .ok (.invokevirtual 45, 3) := by decide +kernel
theorem dX0_size_74 : decode cX0_size 74 = .ok (.ireturn, 1) := by decide +kernel
set_option maxRecDepth 20000 in
theorem ggX0_lentSize_X0_leave : GoodIn wsX0_lentSize wsX0_leave := goodIn_r _ [11, 12, 13, 14, 15, 16, 17] (by decide +kernel) (by decide +kernel)
set_option maxRecDepth 20000 in
theorem gX0_lentSize_X0_leave : GoodIn wsX0_lentSize (wsV RX0 32 RX0 yX0_leave wsX0_leave) := goodIn_app (goodIn_of _ (by decide +kernel)) ggX0_lentSize_X0_leave
theorem dX0_lentSize_0 : decode cX0_lentSize 0 = .ok (.aload_n 0, 1) := by decide +kernel
theorem dX0_lentSize_1 : decode cX0_lentSize 1 = .ok (.bipush 10, 2) := by decide +kernel
theorem dX0_lentSize_3 : decode cX0_lentSize 3 = .ok (.invokevirtual 32, 3) := by decide +kernel
theorem dX0_lentSize_6 : decode cX0_lentSize 6 = .ok (.aload_n 0, 1) := by decide +kernel
theorem dX0_lentSize_7 : decode cX0_lentSize 7 = .ok (.getfield 15, 3) := by decide +kernel
theorem dX0_lentSize_10 : decode cX0_lentSize 10 = .ok (.getfield 48, 3) := by decide +kernel
theorem dX0_lentSize_13 : decode cX0_lentSize 13 = .ok (.invokestatic 51, 3) := by decide +kernel
theorem dX0_lentSize_16 : decode cX0_lentSize 16 = .ok (.ireturn, 1) := by decide +kernel
set_option maxRecDepth 20000 in
theorem ggX0_windingSize_X0_leave : GoodIn wsX0_windingSize wsX0_leave := goodIn_r _ [5, 6, 7, 37, 38, 39, 40] (by decide +kernel) (by decide +kernel)
set_option maxRecDepth 20000 in
theorem gX0_windingSize_X0_leave : GoodIn wsX0_windingSize (wsV RX0 32 RX0 yX0_leave wsX0_leave) := goodIn_app (goodIn_of _ (by decide +kernel)) ggX0_windingSize_X0_leave
set_option maxRecDepth 20000 in
theorem ggX0_windingSize_X0_lentSize : GoodIn wsX0_windingSize wsX0_lentSize := goodIn_r _ [11, 12, 13, 14, 15, 16, 17, 1, 2, 3, 4, 5, 6, 7, 37, 38, 39, 40, 41, 42, 43, 44, 45, 46, 47, 48, 49, 50, 51, 52] (by decide +kernel) (by decide +kernel)
set_option maxRecDepth 20000 in
theorem gX0_windingSize_X0_lentSize : GoodIn wsX0_windingSize (wsV RX0 36 RX0 yX0_lentSize wsX0_lentSize) := goodIn_app (goodIn_of _ (by decide +kernel)) ggX0_windingSize_X0_lentSize
set_option maxRecDepth 20000 in
theorem ggX0_windingSize_X0_mark : GoodIn wsX0_windingSize wsX0_mark := goodIn_r _ [21, 22, 12, 23, 14, 15, 16, 17, 1, 2, 3, 4, 5, 6, 7, 24, 25, 26, 27, 28, 29, 30, 31, 32, 33, 34, 35, 36, 8, 9, 10, 11, 13, 37, 38, 39, 40, 41, 42, 43, 44, 45, 46, 47, 48, 49, 50, 51, 52] (by decide +kernel) (by decide +kernel)
set_option maxRecDepth 20000 in
theorem gX0_windingSize_X0_mark : GoodIn wsX0_windingSize (wsV RX0 39 RX0 yX0_mark wsX0_mark) := goodIn_app (goodIn_of _ (by decide +kernel)) ggX0_windingSize_X0_mark
theorem dX0_windingSize_0 : decode cX0_windingSize 0 = .ok (.aload_n 0, 1) := by decide +kernel
theorem dX0_windingSize_1 : decode cX0_windingSize 1 = .ok (.bipush 12, 2) := by decide +kernel
theorem dX0_windingSize_3 : decode cX0_windingSize 3 = .ok (.invokevirtual 32, 3) := by decide +kernel
theorem dX0_windingSize_6 : decode cX0_windingSize 6 = .ok (.aload_n 0, 1) := by decide +kernel
theorem dX0_windingSize_7 : decode cX0_windingSize 7 = .ok (.invokevirtual 36, 3) := by decide +kernel
theorem dX0_windingSize_10 : decode cX0_windingSize 10 = .ok (.aload_n 0, 1) := by decide +kernel
theorem dX0_windingSize_11 : decode cX0_windingSize 11 = .ok (.invokevirtual 39, 3) := by decide +kernel
theorem dX0_windingSize_14 : decode cX0_windingSize 14 = .ok (.isub, 1) := by decide +kernel
theorem dX0_windingSize_15 : decode cX0_windingSize 15 = .ok (.ireturn, 1) := by decide +kernel
set_option maxRecDepth 20000 in
theorem ggX0_deadSize_X0_leave : GoodIn wsX0_deadSize wsX0_leave := goodIn_r _ [5, 6, 7, 18, 19, 20, 21] (by decide +kernel) (by decide +kernel)
set_option maxRecDepth 20000 in
theorem gX0_deadSize_X0_leave : GoodIn wsX0_deadSize (wsV RX0 32 RX0 yX0_leave wsX0_leave) := goodIn_app (goodIn_of _ (by decide +kernel)) ggX0_deadSize_X0_leave
set_option maxRecDepth 20000 in
theorem ggX0_deadSize_X0_lentSize : GoodIn wsX0_deadSize wsX0_lentSize := goodIn_r _ [11, 12, 13, 14, 15, 16, 17, 1, 2, 3, 4, 5, 6, 7, 18, 19, 20, 21, 22, 23, 24, 25, 26, 27, 28, 29, 30, 31, 32, 33] (by decide +kernel) (by decide +kernel)
set_option maxRecDepth 20000 in
theorem gX0_deadSize_X0_lentSize : GoodIn wsX0_deadSize (wsV RX0 36 RX0 yX0_lentSize wsX0_lentSize) := goodIn_app (goodIn_of _ (by decide +kernel)) ggX0_deadSize_X0_lentSize
theorem dX0_deadSize_0 : decode cX0_deadSize 0 = .ok (.aload_n 0, 1) := by decide +kernel
theorem dX0_deadSize_1 : decode cX0_deadSize 1 = .ok (.bipush 14, 2) := by decide +kernel
theorem dX0_deadSize_3 : decode cX0_deadSize 3 = .ok (.invokevirtual 32, 3) := by decide +kernel
theorem dX0_deadSize_6 : decode cX0_deadSize 6 = .ok (.aload_n 0, 1) := by decide +kernel
theorem dX0_deadSize_7 : decode cX0_deadSize 7 = .ok (.invokevirtual 36, 3) := by decide +kernel
theorem dX0_deadSize_10 : decode cX0_deadSize 10 = .ok (.ineg, 1) := by decide +kernel
theorem dX0_deadSize_11 : decode cX0_deadSize 11 = .ok (.ireturn, 1) := by decide +kernel
set_option maxRecDepth 20000 in
theorem ggX0_mark_X0_leave : GoodIn wsX0_mark wsX0_leave := goodIn_r _ [12, 13, 14, 33, 34, 35, 36] (by decide +kernel) (by decide +kernel)
set_option maxRecDepth 20000 in
theorem gX0_mark_X0_leave : GoodIn wsX0_mark (wsV RX0 32 RX0 yX0_leave wsX0_leave) := goodIn_app (goodIn_of _ (by decide +kernel)) ggX0_mark_X0_leave
set_option maxRecDepth 20000 in
theorem ggX0_mark_X0_lentMark : GoodIn wsX0_mark wsX0_lentMark := goodIn_r _ [18, 2, 19, 8, 9, 10, 11, 12, 13, 14, 33, 34, 35, 36, 37, 38, 39, 40, 41, 42, 43, 44, 45, 46, 47, 48] (by decide +kernel) (by decide +kernel)
set_option maxRecDepth 20000 in
theorem gX0_mark_X0_lentMark : GoodIn wsX0_mark (wsV RX0 57 RX0 yX0_lentMark wsX0_lentMark) := goodIn_app (goodIn_of _ (by decide +kernel)) ggX0_mark_X0_lentMark
set_option maxRecDepth 20000 in
theorem ggX0_mark_X0_deadMark : GoodIn wsX0_mark wsX0_deadMark := goodIn_r _ [23, 8, 9, 10, 11, 12, 13, 14, 15, 16, 17, 18, 2, 19, 24, 25, 26, 27, 28, 29, 30, 31, 32, 4, 5, 6, 7, 33, 34, 35, 36, 37, 38, 39, 40, 41, 42, 43, 44, 45, 46, 47, 48] (by decide +kernel) (by decide +kernel)
set_option maxRecDepth 20000 in
theorem gX0_mark_X0_deadMark : GoodIn wsX0_mark (wsV RX0 63 RX0 yX0_deadMark wsX0_deadMark) := goodIn_app (goodIn_of _ (by decide +kernel)) ggX0_mark_X0_deadMark
theorem dX0_mark_0 : decode cX0_mark 0 = .ok (.aload_n 0, 1) := by decide +kernel
theorem dX0_mark_1 : decode cX0_mark 1 = .ok (.getfield 25, 3) := by decide +kernel
theorem dX0_mark_4 : decode cX0_mark 4 = .ok (.tableswitch 90 1 5 #[36, 90, 73, 58, 78], 36) := by decide +kernel
theorem dX0_mark_40 : decode cX0_mark 40 = .ok (.aload_n 0, 1) := by decide +kernel
theorem dX0_mark_41 : decode cX0_mark 41 = .ok (.bipush 21, 2) := by decide +kernel
theorem dX0_mark_43 : decode cX0_mark 43 = .ok (.invokevirtual 32, 3) := by decide +kernel
theorem dX0_mark_46 : decode cX0_mark 46 = .ok (.aload_n 0, 1) := by decide +kernel
theorem dX0_mark_47 : decode cX0_mark 47 = .ok (.invokevirtual 57, 3) := by decide +kernel
theorem dX0_mark_50 : decode cX0_mark 50 = .ok (.aload_n 0, 1) := by decide +kernel
theorem dX0_mark_51 : decode cX0_mark 51 = .ok (.getfield 15, 3) := by decide +kernel
theorem dX0_mark_54 : decode cX0_mark 54 = .ok (.getfield 60, 3) := by decide +kernel
theorem dX0_mark_57 : decode cX0_mark 57 = .ok (.invokestatic 51, 3) := by decide +kernel
theorem dX0_mark_60 : decode cX0_mark 60 = .ok (.iadd, 1) := by decide +kernel
theorem dX0_mark_61 : decode cX0_mark 61 = .ok (.ireturn, 1) := by decide +kernel
theorem dX0_mark_62 : decode cX0_mark 62 = .ok (.aload_n 0, 1) := by decide +kernel
theorem dX0_mark_63 : decode cX0_mark 63 = .ok (.bipush 22, 2) := by decide +kernel
theorem dX0_mark_65 : decode cX0_mark 65 = .ok (.invokevirtual 32, 3) := by decide +kernel
theorem dX0_mark_68 : decode cX0_mark 68 = .ok (.aload_n 0, 1) := by decide +kernel
theorem dX0_mark_69 : decode cX0_mark 69 = .ok (.invokevirtual 57, 3) := by decide +kernel
theorem dX0_mark_72 : decode cX0_mark 72 = .ok (.sipush 1000, 3) := by decide +kernel
theorem dX0_mark_75 : decode cX0_mark 75 = .ok (.iadd, 1) := by decide +kernel
theorem dX0_mark_76 : decode cX0_mark 76 = .ok (.ireturn, 1) := by decide +kernel
theorem dX0_mark_77 : decode cX0_mark 77 = .ok (.aload_n 0, 1) := by decide +kernel
theorem dX0_mark_78 : decode cX0_mark 78 = .ok (.invokevirtual 63, 3) := by decide +kernel
theorem dX0_mark_81 : decode cX0_mark 81 = .ok (.ireturn, 1) := by decide +kernel
theorem dX0_mark_82 : decode cX0_mark 82 = .ok (.aload_n 0, 1) := by decide +kernel
theorem dX0_mark_83 : decode cX0_mark 83 = .ok (.bipush 24, 2) := by decide +kernel
theorem dX0_mark_85 : decode cX0_mark 85 = .ok (.invokevirtual 32, 3) := by decide +kernel
theorem dX0_mark_88 : decode cX0_mark 88 = .ok (.aload_n 0, 1) := by decide +kernel
theorem dX0_mark_89 : decode cX0_mark 89 = .ok (.invokevirtual 63, 3) := by decide +kernel
theorem dX0_mark_92 : decode cX0_mark 92 = .ok (.ineg, 1) := by decide +kernel
theorem dX0_mark_93 : decode cX0_mark 93 = .ok (.ireturn, 1) := by decide +kernel
theorem dX0_mark_94 : decode cX0_mark 94 = .ok (.aload_n 0, 1) := by decide +kernel
theorem dX0_mark_95 : decode cX0_mark 95 = .ok (.invokevirtual 57, 3) := by decide +kernel
theorem dX0_mark_98 : decode cX0_mark 98 = .ok (.ireturn, 1) := by decide +kernel
set_option maxRecDepth 20000 in
theorem ggX0_lentMark_X0_leave : GoodIn wsX0_lentMark wsX0_leave := goodIn_r _ [7, 8, 9, 10, 11, 12, 13] (by decide +kernel) (by decide +kernel)
set_option maxRecDepth 20000 in
theorem gX0_lentMark_X0_leave : GoodIn wsX0_lentMark (wsV RX0 32 RX0 yX0_leave wsX0_leave) := goodIn_app (goodIn_of _ (by decide +kernel)) ggX0_lentMark_X0_leave
theorem dX0_lentMark_0 : decode cX0_lentMark 0 = .ok (.aload_n 0, 1) := by decide +kernel
theorem dX0_lentMark_1 : decode cX0_lentMark 1 = .ok (.bipush 20, 2) := by decide +kernel
theorem dX0_lentMark_3 : decode cX0_lentMark 3 = .ok (.invokevirtual 32, 3) := by decide +kernel
theorem dX0_lentMark_6 : decode cX0_lentMark 6 = .ok (.aload_n 0, 1) := by decide +kernel
theorem dX0_lentMark_7 : decode cX0_lentMark 7 = .ok (.getfield 15, 3) := by decide +kernel
theorem dX0_lentMark_10 : decode cX0_lentMark 10 = .ok (.getfield 66, 3) := by decide +kernel
theorem dX0_lentMark_13 : decode cX0_lentMark 13 = .ok (.ireturn, 1) := by decide +kernel
set_option maxRecDepth 20000 in
theorem ggX0_deadMark_X0_leave : GoodIn wsX0_deadMark wsX0_leave := goodIn_r _ [5, 6, 7, 27, 28, 29, 30] (by decide +kernel) (by decide +kernel)
set_option maxRecDepth 20000 in
theorem gX0_deadMark_X0_leave : GoodIn wsX0_deadMark (wsV RX0 32 RX0 yX0_leave wsX0_leave) := goodIn_app (goodIn_of _ (by decide +kernel)) ggX0_deadMark_X0_leave
set_option maxRecDepth 20000 in
theorem ggX0_deadMark_X0_lentMark : GoodIn wsX0_deadMark wsX0_lentMark := goodIn_r _ [11, 12, 13, 1, 2, 3, 4, 5, 6, 7, 27, 28, 29, 30, 31, 32, 33, 34, 35, 36, 37, 38, 39, 40, 41, 42] (by decide +kernel) (by decide +kernel)
set_option maxRecDepth 20000 in
theorem gX0_deadMark_X0_lentMark : GoodIn wsX0_deadMark (wsV RX0 57 RX0 yX0_lentMark wsX0_lentMark) := goodIn_app (goodIn_of _ (by decide +kernel)) ggX0_deadMark_X0_lentMark
set_option maxRecDepth 20000 in
theorem ggX0_deadMark_X0_deadSize : GoodIn wsX0_deadMark wsX0_deadSize := goodIn_r _ [17, 1, 2, 3, 4, 5, 6, 7, 18, 19, 20, 21, 12, 22, 23, 24, 25, 26, 27, 28, 29, 30, 31, 32, 33, 34, 35, 36, 37, 38, 39, 40, 41, 42] (by decide +kernel) (by decide +kernel)
set_option maxRecDepth 20000 in
theorem gX0_deadMark_X0_deadSize : GoodIn wsX0_deadMark (wsV RX0 45 RX0 yX0_deadSize wsX0_deadSize) := goodIn_app (goodIn_of _ (by decide +kernel)) ggX0_deadMark_X0_deadSize
theorem dX0_deadMark_0 : decode cX0_deadMark 0 = .ok (.aload_n 0, 1) := by decide +kernel
theorem dX0_deadMark_1 : decode cX0_deadMark 1 = .ok (.bipush 23, 2) := by decide +kernel
theorem dX0_deadMark_3 : decode cX0_deadMark 3 = .ok (.invokevirtual 32, 3) := by decide +kernel
theorem dX0_deadMark_6 : decode cX0_deadMark 6 = .ok (.aload_n 0, 1) := by decide +kernel
theorem dX0_deadMark_7 : decode cX0_deadMark 7 = .ok (.invokevirtual 57, 3) := by decide +kernel
theorem dX0_deadMark_10 : decode cX0_deadMark 10 = .ok (.aload_n 0, 1) := by decide +kernel
theorem dX0_deadMark_11 : decode cX0_deadMark 11 = .ok (.invokevirtual 45, 3) := by decide +kernel
theorem dX0_deadMark_14 : decode cX0_deadMark 14 = .ok (.iadd, 1) := by decide +kernel
theorem dX0_deadMark_15 : decode cX0_deadMark 15 = .ok (.ireturn, 1) := by decide +kernel
theorem dX1_init_0 : decode cX1_init 0 = .ok (.aload_n 0, 1) := by decide +kernel
theorem dX1_init_1 : decode cX1_init 1 = .ok (.invokespecial 1, 3) := by decide +kernel
theorem dX1_init_4 : decode cX1_init 4 = .ok (.aload_n 0, 1) := by decide +kernel
theorem dX1_init_5 : decode cX1_init 5 = .ok (.iconst 4, 1) := by decide +kernel
theorem dX1_init_6 : decode cX1_init 6 = .ok (.anewarray 9, 3) := by decide +kernel
theorem dX1_init_9 : decode cX1_init 9 = .ok (.putfield 11, 3) := by decide +kernel
theorem dX1_init_12 : decode cX1_init 12 = .ok (.aload_n 0, 1) := by decide +kernel
theorem dX1_init_13 : decode cX1_init 13 = .ok (.iconst 4, 1) := by decide +kernel
theorem dX1_init_14 : decode cX1_init 14 = .ok (.anewarray 15, 3) := by decide +kernel
theorem dX1_init_17 : decode cX1_init 17 = .ok (.putfield 17, 3) := by decide +kernel
theorem dX1_init_20 : decode cX1_init 20 = .ok (.aload_n 0, 1) := by decide +kernel
theorem dX1_init_21 : decode cX1_init 21 = .ok (.iconst 4, 1) := by decide +kernel
theorem dX1_init_22 : decode cX1_init 22 = .ok (.anewarray 21, 3) := by decide +kernel
theorem dX1_init_25 : decode cX1_init 25 = .ok (.putfield 23, 3) := by decide +kernel
theorem dX1_init_28 : decode cX1_init 28 = .ok (.return_, 1) := by decide +kernel
theorem dX1_addDisc_0 : decode cX1_addDisc 0 = .ok (.aload_n 0, 1) := by decide +kernel
theorem dX1_addDisc_1 : decode cX1_addDisc 1 = .ok (.getfield 27, 3) := by decide +kernel
theorem dX1_addDisc_4 : decode cX1_addDisc 4 = .ok (.iconst 4, 1) := by decide +kernel
theorem dX1_addDisc_5 : decode cX1_addDisc 5 = .ok (.if_icmp .ge 20, 3) := by decide +kernel
theorem dX1_addDisc_8 : decode cX1_addDisc 8 = .ok (.aload_n 0, 1) := by decide +kernel
theorem dX1_addDisc_9 : decode cX1_addDisc 9 = .ok (.getfield 11, 3) := by decide +kernel
theorem dX1_addDisc_12 : decode cX1_addDisc 12 = .ok (.aload_n 0, 1) := by decide +kernel
theorem dX1_addDisc_13 : decode cX1_addDisc 13 = .ok (.dup, 1) := by decide +kernel
theorem dX1_addDisc_14 : decode cX1_addDisc 14 = .ok (.getfield 27, 3) := by decide +kernel
theorem dX1_addDisc_17 : decode cX1_addDisc 17 = .ok (.dup_x1, 1) := by decide +kernel
theorem dX1_addDisc_18 : decode cX1_addDisc 18 = .ok (.iconst 1, 1) := by decide +kernel
theorem dX1_addDisc_19 : decode cX1_addDisc 19 = .ok (.iadd, 1) := by decide +kernel
theorem dX1_addDisc_20 : decode cX1_addDisc 20 = .ok (.putfield 27, 3) := by decide +kernel
theorem dX1_addDisc_23 : decode cX1_addDisc 23 = .ok (.aload_n 1, 1) := by decide +kernel
theorem dX1_addDisc_24 : decode cX1_addDisc 24 = .ok (.aastore, 1) := by decide +kernel
theorem dX1_addDisc_25 : decode cX1_addDisc 25 = .ok (.return_, 1) := by decide +kernel
theorem dX1_addCord_0 : decode cX1_addCord 0 = .ok (.aload_n 0, 1) := by decide +kernel
theorem dX1_addCord_1 : decode cX1_addCord 1 = .ok (.getfield 31, 3) := by decide +kernel
theorem dX1_addCord_4 : decode cX1_addCord 4 = .ok (.iconst 4, 1) := by decide +kernel
theorem dX1_addCord_5 : decode cX1_addCord 5 = .ok (.if_icmp .ge 20, 3) := by decide +kernel
theorem dX1_addCord_8 : decode cX1_addCord 8 = .ok (.aload_n 0, 1) := by decide +kernel
theorem dX1_addCord_9 : decode cX1_addCord 9 = .ok (.getfield 17, 3) := by decide +kernel
theorem dX1_addCord_12 : decode cX1_addCord 12 = .ok (.aload_n 0, 1) := by decide +kernel
theorem dX1_addCord_13 : decode cX1_addCord 13 = .ok (.dup, 1) := by decide +kernel
theorem dX1_addCord_14 : decode cX1_addCord 14 = .ok (.getfield 31, 3) := by decide +kernel
theorem dX1_addCord_17 : decode cX1_addCord 17 = .ok (.dup_x1, 1) := by decide +kernel
theorem dX1_addCord_18 : decode cX1_addCord 18 = .ok (.iconst 1, 1) := by decide +kernel
theorem dX1_addCord_19 : decode cX1_addCord 19 = .ok (.iadd, 1) := by decide +kernel
theorem dX1_addCord_20 : decode cX1_addCord 20 = .ok (.putfield 31, 3) := by decide +kernel
theorem dX1_addCord_23 : decode cX1_addCord 23 = .ok (.aload_n 1, 1) := by decide +kernel
theorem dX1_addCord_24 : decode cX1_addCord 24 = .ok (.aastore, 1) := by decide +kernel
theorem dX1_addCord_25 : decode cX1_addCord 25 = .ok (.return_, 1) := by decide +kernel
theorem dX1_addHand_0 : decode cX1_addHand 0 = .ok (.aload_n 0, 1) := by decide +kernel
theorem dX1_addHand_1 : decode cX1_addHand 1 = .ok (.getfield 34, 3) := by decide +kernel
theorem dX1_addHand_4 : decode cX1_addHand 4 = .ok (.iconst 4, 1) := by decide +kernel
theorem dX1_addHand_5 : decode cX1_addHand 5 = .ok (.if_icmp .ge 20, 3) := by decide +kernel
theorem dX1_addHand_8 : decode cX1_addHand 8 = .ok (.aload_n 0, 1) := by decide +kernel
theorem dX1_addHand_9 : decode cX1_addHand 9 = .ok (.getfield 23, 3) := by decide +kernel
theorem dX1_addHand_12 : decode cX1_addHand 12 = .ok (.aload_n 0, 1) := by decide +kernel
theorem dX1_addHand_13 : decode cX1_addHand 13 = .ok (.dup, 1) := by decide +kernel
theorem dX1_addHand_14 : decode cX1_addHand 14 = .ok (.getfield 34, 3) := by decide +kernel
theorem dX1_addHand_17 : decode cX1_addHand 17 = .ok (.dup_x1, 1) := by decide +kernel
theorem dX1_addHand_18 : decode cX1_addHand 18 = .ok (.iconst 1, 1) := by decide +kernel
theorem dX1_addHand_19 : decode cX1_addHand 19 = .ok (.iadd, 1) := by decide +kernel
theorem dX1_addHand_20 : decode cX1_addHand 20 = .ok (.putfield 34, 3) := by decide +kernel
theorem dX1_addHand_23 : decode cX1_addHand 23 = .ok (.aload_n 1, 1) := by decide +kernel
theorem dX1_addHand_24 : decode cX1_addHand 24 = .ok (.aastore, 1) := by decide +kernel
theorem dX1_addHand_25 : decode cX1_addHand 25 = .ok (.return_, 1) := by decide +kernel
theorem dX1_rulesOfAll_0 : decode cX1_rulesOfAll 0 = .ok (.iconst 0, 1) := by decide +kernel
theorem dX1_rulesOfAll_1 : decode cX1_rulesOfAll 1 = .ok (.istore_n 1, 1) := by decide +kernel
theorem dX1_rulesOfAll_2 : decode cX1_rulesOfAll 2 = .ok (.iconst 0, 1) := by decide +kernel
theorem dX1_rulesOfAll_3 : decode cX1_rulesOfAll 3 = .ok (.istore_n 2, 1) := by decide +kernel
theorem dX1_rulesOfAll_4 : decode cX1_rulesOfAll 4 = .ok (.iload_n 2, 1) := by decide +kernel
theorem dX1_rulesOfAll_5 : decode cX1_rulesOfAll 5 = .ok (.aload_n 0, 1) := by decide +kernel
theorem dX1_rulesOfAll_6 : decode cX1_rulesOfAll 6 = .ok (.getfield 34, 3) := by decide +kernel
theorem dX1_rulesOfAll_9 : decode cX1_rulesOfAll 9 = .ok (.if_icmp .ge 21, 3) := by decide +kernel
theorem dX1_rulesOfAll_12 : decode cX1_rulesOfAll 12 = .ok (.iload_n 1, 1) := by decide +kernel
theorem dX1_rulesOfAll_13 : decode cX1_rulesOfAll 13 = .ok (.aload_n 0, 1) := by decide +kernel
theorem dX1_rulesOfAll_14 : decode cX1_rulesOfAll 14 = .ok (.getfield 23, 3) := by decide +kernel
theorem dX1_rulesOfAll_17 : decode cX1_rulesOfAll 17 = .ok (.iload_n 2, 1) := by decide +kernel
theorem dX1_rulesOfAll_18 : decode cX1_rulesOfAll 18 = .ok (.aaload, 1) := by decide +kernel
theorem dX1_rulesOfAll_19 : decode cX1_rulesOfAll 19 = .ok (.getfield 37, 3) := by decide +kernel
theorem dX1_rulesOfAll_22 : decode cX1_rulesOfAll 22 = .ok (.iadd, 1) := by decide +kernel
theorem dX1_rulesOfAll_23 : decode cX1_rulesOfAll 23 = .ok (.istore_n 1, 1) := by decide +kernel
theorem dX1_rulesOfAll_24 : decode cX1_rulesOfAll 24 = .ok (.iinc 2 1, 3) := by decide +kernel
theorem dX1_rulesOfAll_27 : decode cX1_rulesOfAll 27 = .ok (.goto (-23), 3) := by decide +kernel
theorem dX1_rulesOfAll_30 : decode cX1_rulesOfAll 30 = .ok (.iload_n 1, 1) := by decide +kernel
theorem dX1_rulesOfAll_31 : decode cX1_rulesOfAll 31 = .ok (.ireturn, 1) := by decide +kernel
theorem dX2_init_0 : decode cX2_init 0 = .ok (.aload_n 0, 1) := by decide +kernel
theorem dX2_init_1 : decode cX2_init 1 = .ok (.invokespecial 1, 3) := by decide +kernel
theorem dX2_init_4 : decode cX2_init 4 = .ok (.aload_n 0, 1) := by decide +kernel
theorem dX2_init_5 : decode cX2_init 5 = .ok (.iload_n 1, 1) := by decide +kernel
theorem dX2_init_6 : decode cX2_init 6 = .ok (.putfield 7, 3) := by decide +kernel
theorem dX2_init_9 : decode cX2_init 9 = .ok (.aload_n 0, 1) := by decide +kernel
theorem dX2_init_10 : decode cX2_init 10 = .ok (.iload_n 2, 1) := by decide +kernel
theorem dX2_init_11 : decode cX2_init 11 = .ok (.putfield 13, 3) := by decide +kernel
theorem dX2_init_14 : decode cX2_init 14 = .ok (.aload_n 0, 1) := by decide +kernel
theorem dX2_init_15 : decode cX2_init 15 = .ok (.iload_n 3, 1) := by decide +kernel
theorem dX2_init_16 : decode cX2_init 16 = .ok (.putfield 16, 3) := by decide +kernel
theorem dX2_init_19 : decode cX2_init 19 = .ok (.aload_n 0, 1) := by decide +kernel
theorem dX2_init_20 : decode cX2_init 20 = .ok (.iload 4, 2) := by decide +kernel
theorem dX2_init_22 : decode cX2_init 22 = .ok (.putfield 19, 3) := by decide +kernel
theorem dX2_init_25 : decode cX2_init 25 = .ok (.return_, 1) := by decide +kernel
set_option maxRecDepth 20000 in
theorem ggX2_shortBy_X2_shortBefore : GoodIn wsX2_shortBy wsX2_shortBefore := goodIn_r _ [6, 7, 8, 9, 10, 11] (by decide +kernel) (by decide +kernel)
set_option maxRecDepth 20000 in
theorem gX2_shortBy_X2_shortBefore : GoodIn wsX2_shortBy (wsV RX2 22 RX2 yX2_shortBefore wsX2_shortBefore) := goodIn_app (goodIn_of _ (by decide +kernel)) ggX2_shortBy_X2_shortBefore
theorem dX2_shortBy_0 : decode cX2_shortBy 0 = .ok (.iload_n 1, 1) := by decide +kernel
theorem dX2_shortBy_1 : decode cX2_shortBy 1 = .ok (.aload_n 0, 1) := by decide +kernel
theorem dX2_shortBy_2 : decode cX2_shortBy 2 = .ok (.getfield 13, 3) := by decide +kernel
theorem dX2_shortBy_5 : decode cX2_shortBy 5 = .ok (.if_icmp .gt 9, 3) := by decide +kernel
theorem dX2_shortBy_8 : decode cX2_shortBy 8 = .ok (.aload_n 0, 1) := by decide +kernel
theorem dX2_shortBy_9 : decode cX2_shortBy 9 = .ok (.iload_n 1, 1) := by decide +kernel
theorem dX2_shortBy_10 : decode cX2_shortBy 10 = .ok (.invokevirtual 22, 3) := by decide +kernel
theorem dX2_shortBy_13 : decode cX2_shortBy 13 = .ok (.ireturn, 1) := by decide +kernel
theorem dX2_shortBy_14 : decode cX2_shortBy 14 = .ok (.aload_n 0, 1) := by decide +kernel
theorem dX2_shortBy_15 : decode cX2_shortBy 15 = .ok (.aload_n 0, 1) := by decide +kernel
theorem dX2_shortBy_16 : decode cX2_shortBy 16 = .ok (.getfield 13, 3) := by decide +kernel
theorem dX2_shortBy_19 : decode cX2_shortBy 19 = .ok (.invokevirtual 22, 3) := by decide +kernel
theorem dX2_shortBy_22 : decode cX2_shortBy 22 = .ok (.iload_n 1, 1) := by decide +kernel
theorem dX2_shortBy_23 : decode cX2_shortBy 23 = .ok (.aload_n 0, 1) := by decide +kernel
theorem dX2_shortBy_24 : decode cX2_shortBy 24 = .ok (.getfield 13, 3) := by decide +kernel
theorem dX2_shortBy_27 : decode cX2_shortBy 27 = .ok (.isub, 1) := by decide +kernel
theorem dX2_shortBy_28 : decode cX2_shortBy 28 = .ok (.iconst 2, 1) := by decide +kernel
theorem dX2_shortBy_29 : decode cX2_shortBy 29 = .ok (.aload_n 0, 1) := by decide +kernel
theorem dX2_shortBy_30 : decode cX2_shortBy 30 = .ok (.aload_n 0, 1) := by decide +kernel
theorem dX2_shortBy_31 : decode cX2_shortBy 31 = .ok (.getfield 13, 3) := by decide +kernel
theorem dX2_shortBy_34 : decode cX2_shortBy 34 = .ok (.invokevirtual 22, 3) := by decide +kernel
theorem dX2_shortBy_37 : decode cX2_shortBy 37 = .ok (.aload_n 0, 1) := by decide +kernel
theorem dX2_shortBy_38 : decode cX2_shortBy 38 = .ok (.aload_n 0, 1) := by decide +kernel
theorem dX2_shortBy_39 : decode cX2_shortBy 39 = .ok (.getfield 13, 3) := by decide +kernel
theorem dX2_shortBy_42 : decode cX2_shortBy 42 = .ok (.iconst 1, 1) := by decide +kernel
theorem dX2_shortBy_43 : decode cX2_shortBy 43 = .ok (.isub, 1) := by decide +kernel
theorem dX2_shortBy_44 : decode cX2_shortBy 44 = .ok (.invokevirtual 22, 3) := by decide +kernel
theorem dX2_shortBy_47 : decode cX2_shortBy 47 = .ok (.isub, 1) := by decide +kernel
theorem dX2_shortBy_48 : decode cX2_shortBy 48 = .ok (.imul, 1) := by decide +kernel
theorem dX2_shortBy_49 : decode cX2_shortBy 49 = .ok (.iconst 1, 1) := by decide +kernel
theorem dX2_shortBy_50 : decode cX2_shortBy 50 = .ok (.iadd, 1) := by decide +kernel
theorem dX2_shortBy_51 : decode cX2_shortBy 51 = .ok (.imul, 1) := by decide +kernel
theorem dX2_shortBy_52 : decode cX2_shortBy 52 = .ok (.iadd, 1) := by decide +kernel
theorem dX2_shortBy_53 : decode cX2_shortBy 53 = .ok (.ireturn, 1) := by decide +kernel
set_option maxRecDepth 20000 in
theorem ggX2_slopeAt_X2_shortBy : GoodIn wsX2_slopeAt wsX2_shortBy := goodIn_r _ [5, 6, 7, 8, 9, 4, 10, 11, 12, 13, 14, 15] (by decide +kernel) (by decide +kernel)
set_option maxRecDepth 20000 in
theorem gX2_slopeAt_X2_shortBy : GoodIn wsX2_slopeAt (wsV RX2 26 RX2 yX2_shortBy wsX2_shortBy) := goodIn_app (goodIn_of _ (by decide +kernel)) ggX2_slopeAt_X2_shortBy
theorem dX2_slopeAt_0 : decode cX2_slopeAt 0 = .ok (.iload_n 1, 1) := by decide +kernel
theorem dX2_slopeAt_1 : decode cX2_slopeAt 1 = .ok (.ifCond .gt 7, 3) := by decide +kernel
theorem dX2_slopeAt_4 : decode cX2_slopeAt 4 = .ok (.iconst 0, 1) := by decide +kernel
theorem dX2_slopeAt_5 : decode cX2_slopeAt 5 = .ok (.goto 16, 3) := by decide +kernel
theorem dX2_slopeAt_8 : decode cX2_slopeAt 8 = .ok (.aload_n 0, 1) := by decide +kernel
theorem dX2_slopeAt_9 : decode cX2_slopeAt 9 = .ok (.iload_n 1, 1) := by decide +kernel
theorem dX2_slopeAt_10 : decode cX2_slopeAt 10 = .ok (.invokevirtual 26, 3) := by decide +kernel
theorem dX2_slopeAt_13 : decode cX2_slopeAt 13 = .ok (.aload_n 0, 1) := by decide +kernel
theorem dX2_slopeAt_14 : decode cX2_slopeAt 14 = .ok (.iload_n 1, 1) := by decide +kernel
theorem dX2_slopeAt_15 : decode cX2_slopeAt 15 = .ok (.iconst 1, 1) := by decide +kernel
theorem dX2_slopeAt_16 : decode cX2_slopeAt 16 = .ok (.isub, 1) := by decide +kernel
theorem dX2_slopeAt_17 : decode cX2_slopeAt 17 = .ok (.invokevirtual 26, 3) := by decide +kernel
theorem dX2_slopeAt_20 : decode cX2_slopeAt 20 = .ok (.isub, 1) := by decide +kernel
theorem dX2_slopeAt_21 : decode cX2_slopeAt 21 = .ok (.ireturn, 1) := by decide +kernel
theorem dX2_shortBefore_0 : decode cX2_shortBefore 0 = .ok (.iload_n 1, 1) := by decide +kernel
theorem dX2_shortBefore_1 : decode cX2_shortBefore 1 = .ok (.iload_n 1, 1) := by decide +kernel
theorem dX2_shortBefore_2 : decode cX2_shortBefore 2 = .ok (.imul, 1) := by decide +kernel
theorem dX2_shortBefore_3 : decode cX2_shortBefore 3 = .ok (.aload_n 0, 1) := by decide +kernel
theorem dX2_shortBefore_4 : decode cX2_shortBefore 4 = .ok (.getfield 7, 3) := by decide +kernel
theorem dX2_shortBefore_7 : decode cX2_shortBefore 7 = .ok (.imul, 1) := by decide +kernel
theorem dX2_shortBefore_8 : decode cX2_shortBefore 8 = .ok (.sipush 1000, 3) := by decide +kernel
theorem dX2_shortBefore_11 : decode cX2_shortBefore 11 = .ok (.idiv, 1) := by decide +kernel
theorem dX2_shortBefore_12 : decode cX2_shortBefore 12 = .ok (.ireturn, 1) := by decide +kernel
theorem dX3_init_0 : decode cX3_init 0 = .ok (.aload_n 0, 1) := by decide +kernel
theorem dX3_init_1 : decode cX3_init 1 = .ok (.invokespecial 1, 3) := by decide +kernel
theorem dX3_init_4 : decode cX3_init 4 = .ok (.aload_n 0, 1) := by decide +kernel
theorem dX3_init_5 : decode cX3_init 5 = .ok (.iload_n 1, 1) := by decide +kernel
theorem dX3_init_6 : decode cX3_init 6 = .ok (.putfield 7, 3) := by decide +kernel
theorem dX3_init_9 : decode cX3_init 9 = .ok (.aload_n 0, 1) := by decide +kernel
theorem dX3_init_10 : decode cX3_init 10 = .ok (.iload_n 2, 1) := by decide +kernel
theorem dX3_init_11 : decode cX3_init 11 = .ok (.putfield 13, 3) := by decide +kernel
theorem dX3_init_14 : decode cX3_init 14 = .ok (.aload_n 0, 1) := by decide +kernel
theorem dX3_init_15 : decode cX3_init 15 = .ok (.iload_n 3, 1) := by decide +kernel
theorem dX3_init_16 : decode cX3_init 16 = .ok (.putfield 16, 3) := by decide +kernel
theorem dX3_init_19 : decode cX3_init 19 = .ok (.return_, 1) := by decide +kernel
theorem dX3_behindAir_0 : decode cX3_behindAir 0 = .ok (.iload_n 1, 1) := by decide +kernel
theorem dX3_behindAir_1 : decode cX3_behindAir 1 = .ok (.i2l, 1) := by decide +kernel
theorem dX3_behindAir_2 : decode cX3_behindAir 2 = .ok (.iload_n 1, 1) := by decide +kernel
theorem dX3_behindAir_3 : decode cX3_behindAir 3 = .ok (.i2l, 1) := by decide +kernel
theorem dX3_behindAir_4 : decode cX3_behindAir 4 = .ok (.lmul, 1) := by decide +kernel
theorem dX3_behindAir_5 : decode cX3_behindAir 5 = .ok (.ldc2_w 19, 3) := by decide +kernel
theorem dX3_behindAir_8 : decode cX3_behindAir 8 = .ok (.ldiv, 1) := by decide +kernel
theorem dX3_behindAir_9 : decode cX3_behindAir 9 = .ok (.aload_n 0, 1) := by decide +kernel
theorem dX3_behindAir_10 : decode cX3_behindAir 10 = .ok (.getfield 13, 3) := by decide +kernel
theorem dX3_behindAir_13 : decode cX3_behindAir 13 = .ok (.i2l, 1) := by decide +kernel
theorem dX3_behindAir_14 : decode cX3_behindAir 14 = .ok (.lmul, 1) := by decide +kernel
theorem dX3_behindAir_15 : decode cX3_behindAir 15 = .ok (.ldc2_w 21, 3) := by decide +kernel
theorem dX3_behindAir_18 : decode cX3_behindAir 18 = .ok (.ldiv, 1) := by decide +kernel
theorem dX3_behindAir_19 : decode cX3_behindAir 19 = .ok (.lstore_n 2, 1) := by decide +kernel
theorem dX3_behindAir_20 : decode cX3_behindAir 20 = .ok (.lconst 0, 1) := by decide +kernel
theorem dX3_behindAir_21 : decode cX3_behindAir 21 = .ok (.iload_n 1, 1) := by decide +kernel
theorem dX3_behindAir_22 : decode cX3_behindAir 22 = .ok (.i2l, 1) := by decide +kernel
theorem dX3_behindAir_23 : decode cX3_behindAir 23 = .ok (.lload_n 2, 1) := by decide +kernel
theorem dX3_behindAir_24 : decode cX3_behindAir 24 = .ok (.lsub, 1) := by decide +kernel
theorem dX3_behindAir_25 : decode cX3_behindAir 25 = .ok (.invokestatic 23, 3) := by decide +kernel
theorem dX3_behindAir_28 : decode cX3_behindAir 28 = .ok (.l2i, 1) := by decide +kernel
theorem dX3_behindAir_29 : decode cX3_behindAir 29 = .ok (.ireturn, 1) := by decide +kernel
theorem dX3_greatestPaceOffBy_0 : decode cX3_greatestPaceOffBy 0 = .ok (.iconst 0, 1) := by decide +kernel
theorem dX3_greatestPaceOffBy_1 : decode cX3_greatestPaceOffBy 1 = .ok (.istore_n 2, 1) := by decide +kernel
theorem dX3_greatestPaceOffBy_2 : decode cX3_greatestPaceOffBy 2 = .ok (.iconst 1, 1) := by decide +kernel
theorem dX3_greatestPaceOffBy_3 : decode cX3_greatestPaceOffBy 3 = .ok (.istore_n 3, 1) := by decide +kernel
theorem dX3_greatestPaceOffBy_4 : decode cX3_greatestPaceOffBy 4 = .ok (.iload_n 3, 1) := by decide +kernel
theorem dX3_greatestPaceOffBy_5 : decode cX3_greatestPaceOffBy 5 = .ok (.sipush 400, 3) := by decide +kernel
theorem dX3_greatestPaceOffBy_8 : decode cX3_greatestPaceOffBy 8 = .ok (.if_icmp .gt 26, 3) := by decide +kernel
theorem dX3_greatestPaceOffBy_11 : decode cX3_greatestPaceOffBy 11 = .ok (.iload_n 1, 1) := by decide +kernel
theorem dX3_greatestPaceOffBy_12 : decode cX3_greatestPaceOffBy 12 = .ok (.iload_n 3, 1) := by decide +kernel
theorem dX3_greatestPaceOffBy_13 : decode cX3_greatestPaceOffBy 13 = .ok (.imul, 1) := by decide +kernel
theorem dX3_greatestPaceOffBy_14 : decode cX3_greatestPaceOffBy 14 = .ok (.iload_n 3, 1) := by decide +kernel
theorem dX3_greatestPaceOffBy_15 : decode cX3_greatestPaceOffBy 15 = .ok (.imul, 1) := by decide +kernel
theorem dX3_greatestPaceOffBy_16 : decode cX3_greatestPaceOffBy 16 = .ok (.bipush 100, 2) := by decide +kernel
theorem dX3_greatestPaceOffBy_18 : decode cX3_greatestPaceOffBy 18 = .ok (.idiv, 1) := by decide +kernel
theorem dX3_greatestPaceOffBy_19 : decode cX3_greatestPaceOffBy 19 = .ok (.aload_n 0, 1) := by decide +kernel
theorem dX3_greatestPaceOffBy_20 : decode cX3_greatestPaceOffBy 20 = .ok (.getfield 7, 3) := by decide +kernel
theorem dX3_greatestPaceOffBy_23 : decode cX3_greatestPaceOffBy 23 = .ok (.if_icmp .gt 11, 3) := by decide +kernel
theorem dX3_greatestPaceOffBy_26 : decode cX3_greatestPaceOffBy 26 = .ok (.iload_n 3, 1) := by decide +kernel
theorem dX3_greatestPaceOffBy_27 : decode cX3_greatestPaceOffBy 27 = .ok (.istore_n 2, 1) := by decide +kernel
theorem dX3_greatestPaceOffBy_28 : decode cX3_greatestPaceOffBy 28 = .ok (.iinc 3 1, 3) := by decide +kernel
theorem dX3_greatestPaceOffBy_31 : decode cX3_greatestPaceOffBy 31 = .ok (.goto (-27), 3) := by decide +kernel
theorem dX3_greatestPaceOffBy_34 : decode cX3_greatestPaceOffBy 34 = .ok (.iload_n 2, 1) := by decide +kernel
theorem dX3_greatestPaceOffBy_35 : decode cX3_greatestPaceOffBy 35 = .ok (.ireturn, 1) := by decide +kernel
theorem dX3_pullsHeard_0 : decode cX3_pullsHeard 0 = .ok (.iconst 0, 1) := by decide +kernel
theorem dX3_pullsHeard_1 : decode cX3_pullsHeard 1 = .ok (.istore 4, 2) := by decide +kernel
theorem dX3_pullsHeard_3 : decode cX3_pullsHeard 3 = .ok (.iconst 0, 1) := by decide +kernel
theorem dX3_pullsHeard_4 : decode cX3_pullsHeard 4 = .ok (.istore 5, 2) := by decide +kernel
theorem dX3_pullsHeard_6 : decode cX3_pullsHeard 6 = .ok (.iload_n 2, 1) := by decide +kernel
theorem dX3_pullsHeard_7 : decode cX3_pullsHeard 7 = .ok (.iconst 1, 1) := by decide +kernel
theorem dX3_pullsHeard_8 : decode cX3_pullsHeard 8 = .ok (.iadd, 1) := by decide +kernel
theorem dX3_pullsHeard_9 : decode cX3_pullsHeard 9 = .ok (.istore 6, 2) := by decide +kernel
theorem dX3_pullsHeard_11 : decode cX3_pullsHeard 11 = .ok (.iload 6, 2) := by decide +kernel
theorem dX3_pullsHeard_13 : decode cX3_pullsHeard 13 = .ok (.iload_n 2, 1) := by decide +kernel
theorem dX3_pullsHeard_14 : decode cX3_pullsHeard 14 = .ok (.iload_n 3, 1) := by decide +kernel
theorem dX3_pullsHeard_15 : decode cX3_pullsHeard 15 = .ok (.iadd, 1) := by decide +kernel
theorem dX3_pullsHeard_16 : decode cX3_pullsHeard 16 = .ok (.if_icmp .ge 69, 3) := by decide +kernel
theorem dX3_pullsHeard_19 : decode cX3_pullsHeard 19 = .ok (.aload_n 1, 1) := by decide +kernel
theorem dX3_pullsHeard_20 : decode cX3_pullsHeard 20 = .ok (.iload 6, 2) := by decide +kernel
theorem dX3_pullsHeard_22 : decode cX3_pullsHeard 22 = .ok (.iconst 1, 1) := by decide +kernel
theorem dX3_pullsHeard_23 : decode cX3_pullsHeard 23 = .ok (.isub, 1) := by decide +kernel
theorem dX3_pullsHeard_24 : decode cX3_pullsHeard 24 = .ok (.iaload, 1) := by decide +kernel
theorem dX3_pullsHeard_25 : decode cX3_pullsHeard 25 = .ok (.aload_n 0, 1) := by decide +kernel
theorem dX3_pullsHeard_26 : decode cX3_pullsHeard 26 = .ok (.getfield 16, 3) := by decide +kernel
theorem dX3_pullsHeard_29 : decode cX3_pullsHeard 29 = .ok (.idiv, 1) := by decide +kernel
theorem dX3_pullsHeard_30 : decode cX3_pullsHeard 30 = .ok (.istore 7, 2) := by decide +kernel
theorem dX3_pullsHeard_32 : decode cX3_pullsHeard 32 = .ok (.aload_n 1, 1) := by decide +kernel
theorem dX3_pullsHeard_33 : decode cX3_pullsHeard 33 = .ok (.iload 6, 2) := by decide +kernel
theorem dX3_pullsHeard_35 : decode cX3_pullsHeard 35 = .ok (.iaload, 1) := by decide +kernel
theorem dX3_pullsHeard_36 : decode cX3_pullsHeard 36 = .ok (.aload_n 0, 1) := by decide +kernel
theorem dX3_pullsHeard_37 : decode cX3_pullsHeard 37 = .ok (.getfield 16, 3) := by decide +kernel
theorem dX3_pullsHeard_40 : decode cX3_pullsHeard 40 = .ok (.idiv, 1) := by decide +kernel
theorem dX3_pullsHeard_41 : decode cX3_pullsHeard 41 = .ok (.istore 8, 2) := by decide +kernel
theorem dX3_pullsHeard_43 : decode cX3_pullsHeard 43 = .ok (.iload 8, 2) := by decide +kernel
theorem dX3_pullsHeard_45 : decode cX3_pullsHeard 45 = .ok (.iload 7, 2) := by decide +kernel
theorem dX3_pullsHeard_47 : decode cX3_pullsHeard 47 = .ok (.if_icmp .le 11, 3) := by decide +kernel
theorem dX3_pullsHeard_50 : decode cX3_pullsHeard 50 = .ok (.iload 5, 2) := by decide +kernel
theorem dX3_pullsHeard_52 : decode cX3_pullsHeard 52 = .ok (.ifCond .eq 6, 3) := by decide +kernel
theorem dX3_pullsHeard_55 : decode cX3_pullsHeard 55 = .ok (.iinc 4 1, 3) := by decide +kernel
theorem dX3_pullsHeard_58 : decode cX3_pullsHeard 58 = .ok (.iload 8, 2) := by decide +kernel
theorem dX3_pullsHeard_60 : decode cX3_pullsHeard 60 = .ok (.iload 7, 2) := by decide +kernel
theorem dX3_pullsHeard_62 : decode cX3_pullsHeard 62 = .ok (.if_icmp .eq 17, 3) := by decide +kernel
theorem dX3_pullsHeard_65 : decode cX3_pullsHeard 65 = .ok (.iload 8, 2) := by decide +kernel
theorem dX3_pullsHeard_67 : decode cX3_pullsHeard 67 = .ok (.iload 7, 2) := by decide +kernel
theorem dX3_pullsHeard_69 : decode cX3_pullsHeard 69 = .ok (.if_icmp .ge 7, 3) := by decide +kernel
theorem dX3_pullsHeard_72 : decode cX3_pullsHeard 72 = .ok (.iconst 1, 1) := by decide +kernel
theorem dX3_pullsHeard_73 : decode cX3_pullsHeard 73 = .ok (.goto 4, 3) := by decide +kernel
theorem dX3_pullsHeard_76 : decode cX3_pullsHeard 76 = .ok (.iconst 0, 1) := by decide +kernel
theorem dX3_pullsHeard_77 : decode cX3_pullsHeard 77 = .ok (.istore 5, 2) := by decide +kernel
theorem dX3_pullsHeard_79 : decode cX3_pullsHeard 79 = .ok (.iinc 6 1, 3) := by decide +kernel
theorem dX3_pullsHeard_82 : decode cX3_pullsHeard 82 = .ok (.goto (-71), 3) := by decide +kernel
theorem dX3_pullsHeard_85 : decode cX3_pullsHeard 85 = .ok (.iload 4, 2) := by decide +kernel
theorem dX3_pullsHeard_87 : decode cX3_pullsHeard 87 = .ok (.ireturn, 1) := by decide +kernel
set_option maxRecDepth 20000 in
theorem ggX4_init_X8_init : GoodIn wsX4_init wsX8_init := goodIn_r _ [12, 13, 2, 3] (by decide +kernel) (by decide +kernel)
set_option maxRecDepth 20000 in
theorem gX4_init_X8_init_n11 : GoodIn wsX4_init (wsX8_init) := ggX4_init_X8_init
theorem dX4_init_0 : decode cX4_init 0 = .ok (.aload_n 0, 1) := by decide +kernel
theorem dX4_init_1 : decode cX4_init 1 = .ok (.invokespecial 3, 3) := by decide +kernel
theorem dX4_init_4 : decode cX4_init 4 = .ok (.aload_n 0, 1) := by decide +kernel
theorem dX4_init_5 : decode cX4_init 5 = .ok (.new 9, 3) := by decide +kernel
theorem dX4_init_8 : decode cX4_init 8 = .ok (.dup, 1) := by decide +kernel
theorem dX4_init_9 : decode cX4_init 9 = .ok (.invokespecial 11, 3) := by decide +kernel
theorem dX4_init_12 : decode cX4_init 12 = .ok (.putfield 12, 3) := by decide +kernel
theorem dX4_init_15 : decode cX4_init 15 = .ok (.aload_n 0, 1) := by decide +kernel
theorem dX4_init_16 : decode cX4_init 16 = .ok (.iconst 3, 1) := by decide +kernel
theorem dX4_init_17 : decode cX4_init 17 = .ok (.newarray .int, 2) := by decide +kernel
theorem dX4_init_19 : decode cX4_init 19 = .ok (.putfield 18, 3) := by decide +kernel
theorem dX4_init_22 : decode cX4_init 22 = .ok (.aload_n 0, 1) := by decide +kernel
theorem dX4_init_23 : decode cX4_init 23 = .ok (.iconst 3, 1) := by decide +kernel
theorem dX4_init_24 : decode cX4_init 24 = .ok (.newarray .int, 2) := by decide +kernel
theorem dX4_init_26 : decode cX4_init 26 = .ok (.putfield 22, 3) := by decide +kernel
theorem dX4_init_29 : decode cX4_init 29 = .ok (.return_, 1) := by decide +kernel
theorem dX4_about_0 : decode cX4_about 0 = .ok (.aload_n 0, 1) := by decide +kernel
theorem dX4_about_1 : decode cX4_about 1 = .ok (.aload_n 1, 1) := by decide +kernel
theorem dX4_about_2 : decode cX4_about 2 = .ok (.putfield 25, 3) := by decide +kernel
theorem dX4_about_5 : decode cX4_about 5 = .ok (.aload_n 0, 1) := by decide +kernel
theorem dX4_about_6 : decode cX4_about 6 = .ok (.aload_n 2, 1) := by decide +kernel
theorem dX4_about_7 : decode cX4_about 7 = .ok (.putfield 29, 3) := by decide +kernel
theorem dX4_about_10 : decode cX4_about 10 = .ok (.aload_n 0, 1) := by decide +kernel
theorem dX4_about_11 : decode cX4_about 11 = .ok (.iload_n 3, 1) := by decide +kernel
theorem dX4_about_12 : decode cX4_about 12 = .ok (.putfield 33, 3) := by decide +kernel
theorem dX4_about_15 : decode cX4_about 15 = .ok (.aload_n 0, 1) := by decide +kernel
theorem dX4_about_16 : decode cX4_about 16 = .ok (.iload 4, 2) := by decide +kernel
theorem dX4_about_18 : decode cX4_about 18 = .ok (.putfield 37, 3) := by decide +kernel
theorem dX4_about_21 : decode cX4_about 21 = .ok (.aload_n 0, 1) := by decide +kernel
theorem dX4_about_22 : decode cX4_about 22 = .ok (.iload 5, 2) := by decide +kernel
theorem dX4_about_24 : decode cX4_about 24 = .ok (.putfield 40, 3) := by decide +kernel
theorem dX4_about_27 : decode cX4_about 27 = .ok (.return_, 1) := by decide +kernel
theorem dX4_snaps_0 : decode cX4_snaps 0 = .ok (.aload_n 0, 1) := by decide +kernel
theorem dX4_snaps_1 : decode cX4_snaps 1 = .ok (.getfield 12, 3) := by decide +kernel
theorem dX4_snaps_4 : decode cX4_snaps 4 = .ok (.getfield 43, 3) := by decide +kernel
theorem dX4_snaps_7 : decode cX4_snaps 7 = .ok (.ireturn, 1) := by decide +kernel
set_option maxRecDepth 20000 in
theorem ggX4_start_X8_start : GoodIn wsX4_start wsX8_start := goodIn_r _ [9, 10, 11, 12, 13, 14, 15, 16, 17, 18, 19, 20, 21, 22, 32, 33, 34, 35, 36, 37, 38, 39, 40, 41, 42, 43] (by decide +kernel) (by decide +kernel)
set_option maxRecDepth 20000 in
theorem gX4_start_X8_start : GoodIn wsX4_start (wsV RX4 47 RX8 yX8_start wsX8_start) := goodIn_app (goodIn_of _ (by decide +kernel)) ggX4_start_X8_start
theorem dX4_start_0 : decode cX4_start 0 = .ok (.aload_n 0, 1) := by decide +kernel
theorem dX4_start_1 : decode cX4_start 1 = .ok (.getfield 12, 3) := by decide +kernel
theorem dX4_start_4 : decode cX4_start 4 = .ok (.aload_n 0, 1) := by decide +kernel
theorem dX4_start_5 : decode cX4_start 5 = .ok (.getfield 25, 3) := by decide +kernel
theorem dX4_start_8 : decode cX4_start 8 = .ok (.aload_n 0, 1) := by decide +kernel
theorem dX4_start_9 : decode cX4_start 9 = .ok (.getfield 29, 3) := by decide +kernel
theorem dX4_start_12 : decode cX4_start 12 = .ok (.aconst_null, 1) := by decide +kernel
theorem dX4_start_13 : decode cX4_start 13 = .ok (.aload_n 0, 1) := by decide +kernel
theorem dX4_start_14 : decode cX4_start 14 = .ok (.getfield 33, 3) := by decide +kernel
theorem dX4_start_17 : decode cX4_start 17 = .ok (.invokevirtual 47, 3) := by decide +kernel
theorem dX4_start_20 : decode cX4_start 20 = .ok (.return_, 1) := by decide +kernel
set_option maxRecDepth 20000 in
theorem ggX4_pulledPace_X4_start : GoodIn wsX4_pulledPace wsX4_start := goodIn_r _ [10, 2, 11, 12, 13, 14, 15, 16, 17, 18, 19, 20, 21, 22, 23, 24, 25, 26, 27, 28, 29, 30, 31, 84, 85, 86, 87, 88, 89, 90, 91, 92, 93, 94, 95, 96, 97, 98, 99, 100, 101, 102, 103, 104] (by decide +kernel) (by decide +kernel)
set_option maxRecDepth 20000 in
theorem gX4_pulledPace_X4_start : GoodIn wsX4_pulledPace (wsV RX4 51 RX4 yX4_start wsX4_start) := goodIn_app (goodIn_of _ (by decide +kernel)) ggX4_pulledPace_X4_start
set_option maxRecDepth 20000 in
theorem ggX4_pulledPace_X8_unwinds : GoodIn wsX4_pulledPace wsX8_unwinds := goodIn_r _ [35, 24, 36, 37, 38, 17, 39, 22, 93, 94, 95, 96, 97, 98, 99, 100, 101, 102, 103, 104] (by decide +kernel) (by decide +kernel)
set_option maxRecDepth 20000 in
theorem gX4_pulledPace_X8_unwinds : GoodIn wsX4_pulledPace (wsV RX4 53 RX8 yX8_unwinds wsX8_unwinds) := goodIn_app (goodIn_of _ (by decide +kernel)) ggX4_pulledPace_X8_unwinds
set_option maxRecDepth 20000 in
theorem ggX4_pulledPace_X8_tick : GoodIn wsX4_pulledPace wsX8_tick := goodIn_r _ [43, 20, 22, 44, 45, 46, 47, 19, 48, 24, 49, 50, 51, 25, 26, 23, 52, 30, 27, 29, 53, 54, 55, 56, 57, 58, 59, 60, 61, 62, 63, 64, 65, 66, 67, 68, 69, 70, 71, 72, 73, 74, 75, 76, 77, 78, 79, 80, 81, 17, 82, 83, 31, 93, 94, 95, 96, 97, 98, 99, 100, 101, 102, 103, 104, 105, 106, 107, 108, 109, 110, 111] (by decide +kernel) (by decide +kernel)
set_option maxRecDepth 20000 in
theorem gX4_pulledPace_X8_tick : GoodIn wsX4_pulledPace (wsV RX4 57 RX8 yX8_tick wsX8_tick) := goodIn_app (goodIn_of _ (by decide +kernel)) ggX4_pulledPace_X8_tick
theorem dX4_pulledPace_0 : decode cX4_pulledPace 0 = .ok (.aload_n 0, 1) := by decide +kernel
theorem dX4_pulledPace_1 : decode cX4_pulledPace 1 = .ok (.invokevirtual 51, 3) := by decide +kernel
theorem dX4_pulledPace_4 : decode cX4_pulledPace 4 = .ok (.iconst 0, 1) := by decide +kernel
theorem dX4_pulledPace_5 : decode cX4_pulledPace 5 = .ok (.istore_n 1, 1) := by decide +kernel
theorem dX4_pulledPace_6 : decode cX4_pulledPace 6 = .ok (.iload_n 1, 1) := by decide +kernel
theorem dX4_pulledPace_7 : decode cX4_pulledPace 7 = .ok (.aload_n 0, 1) := by decide +kernel
theorem dX4_pulledPace_8 : decode cX4_pulledPace 8 = .ok (.getfield 40, 3) := by decide +kernel
theorem dX4_pulledPace_11 : decode cX4_pulledPace 11 = .ok (.if_icmp .ge 45, 3) := by decide +kernel
theorem dX4_pulledPace_14 : decode cX4_pulledPace 14 = .ok (.aload_n 0, 1) := by decide +kernel
theorem dX4_pulledPace_15 : decode cX4_pulledPace 15 = .ok (.getfield 12, 3) := by decide +kernel
theorem dX4_pulledPace_18 : decode cX4_pulledPace 18 = .ok (.getfield 43, 3) := by decide +kernel
theorem dX4_pulledPace_21 : decode cX4_pulledPace 21 = .ok (.ifCond .ne 35, 3) := by decide +kernel
theorem dX4_pulledPace_24 : decode cX4_pulledPace 24 = .ok (.aload_n 0, 1) := by decide +kernel
theorem dX4_pulledPace_25 : decode cX4_pulledPace 25 = .ok (.getfield 12, 3) := by decide +kernel
theorem dX4_pulledPace_28 : decode cX4_pulledPace 28 = .ok (.aload_n 0, 1) := by decide +kernel
theorem dX4_pulledPace_29 : decode cX4_pulledPace 29 = .ok (.getfield 12, 3) := by decide +kernel
theorem dX4_pulledPace_32 : decode cX4_pulledPace 32 = .ok (.invokevirtual 53, 3) := by decide +kernel
theorem dX4_pulledPace_35 : decode cX4_pulledPace 35 = .ok (.ifCond .eq 10, 3) := by decide +kernel
theorem dX4_pulledPace_38 : decode cX4_pulledPace 38 = .ok (.aload_n 0, 1) := by decide +kernel
theorem dX4_pulledPace_39 : decode cX4_pulledPace 39 = .ok (.getfield 37, 3) := by decide +kernel
theorem dX4_pulledPace_42 : decode cX4_pulledPace 42 = .ok (.goto 4, 3) := by decide +kernel
theorem dX4_pulledPace_45 : decode cX4_pulledPace 45 = .ok (.iconst 0, 1) := by decide +kernel
theorem dX4_pulledPace_46 : decode cX4_pulledPace 46 = .ok (.iconst 0, 1) := by decide +kernel
theorem dX4_pulledPace_47 : decode cX4_pulledPace 47 = .ok (.invokevirtual 57, 3) := by decide +kernel
theorem dX4_pulledPace_50 : decode cX4_pulledPace 50 = .ok (.iinc 1 1, 3) := by decide +kernel
theorem dX4_pulledPace_53 : decode cX4_pulledPace 53 = .ok (.goto (-47), 3) := by decide +kernel
theorem dX4_pulledPace_56 : decode cX4_pulledPace 56 = .ok (.aload_n 0, 1) := by decide +kernel
theorem dX4_pulledPace_57 : decode cX4_pulledPace 57 = .ok (.getfield 12, 3) := by decide +kernel
theorem dX4_pulledPace_60 : decode cX4_pulledPace 60 = .ok (.getfield 61, 3) := by decide +kernel
theorem dX4_pulledPace_63 : decode cX4_pulledPace 63 = .ok (.ireturn, 1) := by decide +kernel
set_option maxRecDepth 20000 in
theorem ggX4_bestOf_X4_about : GoodIn wsX4_bestOf wsX4_about := goodIn_r _ [17, 18, 19, 20, 21, 22, 111, 112, 113, 114, 115, 116, 117, 118, 119] (by decide +kernel) (by decide +kernel)
set_option maxRecDepth 20000 in
theorem gX4_bestOf_X4_about : GoodIn wsX4_bestOf (wsV RX4 92 RX4 yX4_about wsX4_about) := goodIn_app (goodIn_of _ (by decide +kernel)) ggX4_bestOf_X4_about
set_option maxRecDepth 20000 in
theorem ggX4_bestOf_X4_pulledPace : GoodIn wsX4_bestOf wsX4_pulledPace := goodIn_r _ [26, 22, 11, 12, 21, 27, 28, 29, 30, 16, 31, 18, 19, 20, 32, 33, 34, 35, 36, 37, 38, 39, 40, 41, 42, 43, 44, 45, 46, 47, 48, 49, 50, 51, 52, 53, 54, 55, 56, 57, 58, 59, 60, 61, 62, 63, 9, 64, 65, 66, 67, 68, 69, 70, 71, 72, 73, 74, 75, 76, 77, 78, 79, 80, 81, 82, 83, 84, 85, 86, 87, 88, 89, 90, 91, 92, 93, 94, 95, 96, 97, 98, 99, 100, 111, 112, 113, 114, 115, 116, 117, 118, 119, 120, 121, 122, 123, 124, 125, 126, 127, 128, 129, 130, 131, 132, 133, 134, 107, 108, 109, 110] (by decide +kernel) (by decide +kernel)
set_option maxRecDepth 20000 in
theorem gX4_bestOf_X4_pulledPace : GoodIn wsX4_bestOf (wsV RX4 96 RX4 yX4_pulledPace wsX4_pulledPace) := goodIn_app (goodIn_of _ (by decide +kernel)) ggX4_bestOf_X4_pulledPace
theorem dX4_bestOf_0 : decode cX4_bestOf 0 = .ok (.ldc 64, 2) := by decide +kernel
theorem dX4_bestOf_2 : decode cX4_bestOf 2 = .ok (.istore 5, 2) := by decide +kernel
theorem dX4_bestOf_4 : decode cX4_bestOf 4 = .ok (.iconst (-1), 1) := by decide +kernel
theorem dX4_bestOf_5 : decode cX4_bestOf 5 = .ok (.istore 6, 2) := by decide +kernel
theorem dX4_bestOf_7 : decode cX4_bestOf 7 = .ok (.iconst 0, 1) := by decide +kernel
theorem dX4_bestOf_8 : decode cX4_bestOf 8 = .ok (.istore 7, 2) := by decide +kernel
theorem dX4_bestOf_10 : decode cX4_bestOf 10 = .ok (.iload 7, 2) := by decide +kernel
theorem dX4_bestOf_12 : decode cX4_bestOf 12 = .ok (.aload_n 1, 1) := by decide +kernel
theorem dX4_bestOf_13 : decode cX4_bestOf 13 = .ok (.getfield 65, 3) := by decide +kernel
theorem dX4_bestOf_16 : decode cX4_bestOf 16 = .ok (.if_icmp .ge 102, 3) := by decide +kernel
theorem dX4_bestOf_19 : decode cX4_bestOf 19 = .ok (.iconst 0, 1) := by decide +kernel
theorem dX4_bestOf_20 : decode cX4_bestOf 20 = .ok (.istore 8, 2) := by decide +kernel
theorem dX4_bestOf_22 : decode cX4_bestOf 22 = .ok (.iload 8, 2) := by decide +kernel
theorem dX4_bestOf_24 : decode cX4_bestOf 24 = .ok (.aload_n 1, 1) := by decide +kernel
theorem dX4_bestOf_25 : decode cX4_bestOf 25 = .ok (.getfield 70, 3) := by decide +kernel
theorem dX4_bestOf_28 : decode cX4_bestOf 28 = .ok (.if_icmp .ge 84, 3) := by decide +kernel
theorem dX4_bestOf_31 : decode cX4_bestOf 31 = .ok (.aload_n 0, 1) := by decide +kernel
theorem dX4_bestOf_32 : decode cX4_bestOf 32 = .ok (.aload_n 1, 1) := by decide +kernel
theorem dX4_bestOf_33 : decode cX4_bestOf 33 = .ok (.getfield 73, 3) := by decide +kernel
theorem dX4_bestOf_36 : decode cX4_bestOf 36 = .ok (.iload 7, 2) := by decide +kernel
theorem dX4_bestOf_38 : decode cX4_bestOf 38 = .ok (.aaload, 1) := by decide +kernel
theorem dX4_bestOf_39 : decode cX4_bestOf 39 = .ok (.aload_n 1, 1) := by decide +kernel
theorem dX4_bestOf_40 : decode cX4_bestOf 40 = .ok (.getfield 77, 3) := by decide +kernel
theorem dX4_bestOf_43 : decode cX4_bestOf 43 = .ok (.iload 8, 2) := by decide +kernel
theorem dX4_bestOf_45 : decode cX4_bestOf 45 = .ok (.aaload, 1) := by decide +kernel
theorem dX4_bestOf_46 : decode cX4_bestOf 46 = .ok (.iload_n 2, 1) := by decide +kernel
theorem dX4_bestOf_47 : decode cX4_bestOf 47 = .ok (.aload_n 1, 1) := by decide +kernel
theorem dX4_bestOf_48 : decode cX4_bestOf 48 = .ok (.getfield 77, 3) := by decide +kernel
theorem dX4_bestOf_51 : decode cX4_bestOf 51 = .ok (.iload 8, 2) := by decide +kernel
theorem dX4_bestOf_53 : decode cX4_bestOf 53 = .ok (.aaload, 1) := by decide +kernel
theorem dX4_bestOf_54 : decode cX4_bestOf 54 = .ok (.getfield 81, 3) := by decide +kernel
theorem dX4_bestOf_57 : decode cX4_bestOf 57 = .ok (.invokestatic 86, 3) := by decide +kernel
theorem dX4_bestOf_60 : decode cX4_bestOf 60 = .ok (.iload_n 3, 1) := by decide +kernel
theorem dX4_bestOf_61 : decode cX4_bestOf 61 = .ok (.iload 4, 2) := by decide +kernel
theorem dX4_bestOf_63 : decode cX4_bestOf 63 = .ok (.invokevirtual 92, 3) := by decide +kernel
theorem dX4_bestOf_66 : decode cX4_bestOf 66 = .ok (.aload_n 0, 1) := by decide +kernel
theorem dX4_bestOf_67 : decode cX4_bestOf 67 = .ok (.invokevirtual 96, 3) := by decide +kernel
theorem dX4_bestOf_70 : decode cX4_bestOf 70 = .ok (.istore 9, 2) := by decide +kernel
theorem dX4_bestOf_72 : decode cX4_bestOf 72 = .ok (.aload_n 0, 1) := by decide +kernel
theorem dX4_bestOf_73 : decode cX4_bestOf 73 = .ok (.getfield 12, 3) := by decide +kernel
theorem dX4_bestOf_76 : decode cX4_bestOf 76 = .ok (.getfield 43, 3) := by decide +kernel
theorem dX4_bestOf_79 : decode cX4_bestOf 79 = .ok (.ifCond .ne 27, 3) := by decide +kernel
theorem dX4_bestOf_82 : decode cX4_bestOf 82 = .ok (.iload 9, 2) := by decide +kernel
theorem dX4_bestOf_84 : decode cX4_bestOf 84 = .ok (.iload 6, 2) := by decide +kernel
theorem dX4_bestOf_86 : decode cX4_bestOf 86 = .ok (.if_icmp .gt 6, 3) := by decide +kernel
theorem dX4_bestOf_89 : decode cX4_bestOf 89 = .ok (.goto 17, 3) := by decide +kernel
theorem dX4_bestOf_92 : decode cX4_bestOf 92 = .ok (.iload 9, 2) := by decide +kernel
theorem dX4_bestOf_94 : decode cX4_bestOf 94 = .ok (.istore 6, 2) := by decide +kernel
theorem dX4_bestOf_96 : decode cX4_bestOf 96 = .ok (.bipush 8, 2) := by decide +kernel
theorem dX4_bestOf_98 : decode cX4_bestOf 98 = .ok (.iload 7, 2) := by decide +kernel
theorem dX4_bestOf_100 : decode cX4_bestOf 100 = .ok (.imul, 1) := by decide +kernel
theorem dX4_bestOf_101 : decode cX4_bestOf 101 = .ok (.iload 8, 2) := by decide +kernel
theorem dX4_bestOf_103 : decode cX4_bestOf 103 = .ok (.iadd, 1) := by decide +kernel
theorem dX4_bestOf_104 : decode cX4_bestOf 104 = .ok (.istore 5, 2) := by decide +kernel
theorem dX4_bestOf_106 : decode cX4_bestOf 106 = .ok (.iinc 8 1, 3) := by decide +kernel
theorem dX4_bestOf_109 : decode cX4_bestOf 109 = .ok (.goto (-87), 3) := by decide +kernel
theorem dX4_bestOf_112 : decode cX4_bestOf 112 = .ok (.iinc 7 1, 3) := by decide +kernel
theorem dX4_bestOf_115 : decode cX4_bestOf 115 = .ok (.goto (-105), 3) := by decide +kernel
theorem dX4_bestOf_118 : decode cX4_bestOf 118 = .ok (.iload 5, 2) := by decide +kernel
theorem dX4_bestOf_120 : decode cX4_bestOf 120 = .ok (.ireturn, 1) := by decide +kernel
set_option maxRecDepth 20000 in
theorem ggX4_bestFrom_X4_pulledFrom : GoodIn wsX4_bestFrom wsX4_pulledFrom := goodIn_r _ [10, 11, 3, 4, 12, 13, 14, 15, 16, 17, 18, 19, 20, 21, 22, 23, 9, 24, 25, 26, 2, 27, 28, 29, 30, 31, 32, 33, 34, 35, 36, 37, 38, 39, 40, 41, 42, 43, 44, 45, 46, 47, 48, 49, 50, 51, 52, 53, 54, 55, 56, 57, 58, 59, 60, 61, 62, 63, 64, 65, 66, 67, 68, 69, 70, 71, 72, 73, 74, 75, 76, 77, 78, 79, 80, 81, 82, 83, 84, 85, 86, 87, 88, 89, 90, 91, 92, 93, 94, 95, 96, 97, 98, 99, 100, 101, 102, 103, 104, 105, 106, 107, 108, 109, 110, 111, 112, 113, 114, 115, 116, 117, 118, 119] (by decide +kernel) (by decide +kernel)
set_option maxRecDepth 20000 in
theorem gX4_bestFrom_X4_pulledFrom : GoodIn wsX4_bestFrom (wsV RX4 100 RX4 yX4_pulledFrom wsX4_pulledFrom) := goodIn_app (goodIn_of _ (by decide +kernel)) ggX4_bestFrom_X4_pulledFrom
theorem dX4_bestFrom_0 : decode cX4_bestFrom 0 = .ok (.ldc 64, 2) := by decide +kernel
theorem dX4_bestFrom_2 : decode cX4_bestFrom 2 = .ok (.istore_n 1, 1) := by decide +kernel
theorem dX4_bestFrom_3 : decode cX4_bestFrom 3 = .ok (.iconst (-1), 1) := by decide +kernel
theorem dX4_bestFrom_4 : decode cX4_bestFrom 4 = .ok (.istore_n 2, 1) := by decide +kernel
theorem dX4_bestFrom_5 : decode cX4_bestFrom 5 = .ok (.aload_n 0, 1) := by decide +kernel
theorem dX4_bestFrom_6 : decode cX4_bestFrom 6 = .ok (.getfield 33, 3) := by decide +kernel
theorem dX4_bestFrom_9 : decode cX4_bestFrom 9 = .ok (.istore_n 3, 1) := by decide +kernel
theorem dX4_bestFrom_10 : decode cX4_bestFrom 10 = .ok (.aload_n 0, 1) := by decide +kernel
theorem dX4_bestFrom_11 : decode cX4_bestFrom 11 = .ok (.getfield 33, 3) := by decide +kernel
theorem dX4_bestFrom_14 : decode cX4_bestFrom 14 = .ok (.istore 4, 2) := by decide +kernel
theorem dX4_bestFrom_16 : decode cX4_bestFrom 16 = .ok (.iload 4, 2) := by decide +kernel
theorem dX4_bestFrom_18 : decode cX4_bestFrom 18 = .ok (.ifCond .lt 60, 3) := by decide +kernel
theorem dX4_bestFrom_21 : decode cX4_bestFrom 21 = .ok (.iload 4, 2) := by decide +kernel
theorem dX4_bestFrom_23 : decode cX4_bestFrom 23 = .ok (.iload_n 3, 1) := by decide +kernel
theorem dX4_bestFrom_24 : decode cX4_bestFrom 24 = .ok (.if_icmp .le 6, 3) := by decide +kernel
theorem dX4_bestFrom_27 : decode cX4_bestFrom 27 = .ok (.goto 45, 3) := by decide +kernel
theorem dX4_bestFrom_30 : decode cX4_bestFrom 30 = .ok (.aload_n 0, 1) := by decide +kernel
theorem dX4_bestFrom_31 : decode cX4_bestFrom 31 = .ok (.iload 4, 2) := by decide +kernel
theorem dX4_bestFrom_33 : decode cX4_bestFrom 33 = .ok (.invokevirtual 100, 3) := by decide +kernel
theorem dX4_bestFrom_36 : decode cX4_bestFrom 36 = .ok (.istore_n 3, 1) := by decide +kernel
theorem dX4_bestFrom_37 : decode cX4_bestFrom 37 = .ok (.aload_n 0, 1) := by decide +kernel
theorem dX4_bestFrom_38 : decode cX4_bestFrom 38 = .ok (.getfield 12, 3) := by decide +kernel
theorem dX4_bestFrom_41 : decode cX4_bestFrom 41 = .ok (.getfield 43, 3) := by decide +kernel
theorem dX4_bestFrom_44 : decode cX4_bestFrom 44 = .ok (.ifCond .ne 28, 3) := by decide +kernel
theorem dX4_bestFrom_47 : decode cX4_bestFrom 47 = .ok (.aload_n 0, 1) := by decide +kernel
theorem dX4_bestFrom_48 : decode cX4_bestFrom 48 = .ok (.getfield 12, 3) := by decide +kernel
theorem dX4_bestFrom_51 : decode cX4_bestFrom 51 = .ok (.getfield 61, 3) := by decide +kernel
theorem dX4_bestFrom_54 : decode cX4_bestFrom 54 = .ok (.iload_n 2, 1) := by decide +kernel
theorem dX4_bestFrom_55 : decode cX4_bestFrom 55 = .ok (.if_icmp .gt 6, 3) := by decide +kernel
theorem dX4_bestFrom_58 : decode cX4_bestFrom 58 = .ok (.goto 14, 3) := by decide +kernel
theorem dX4_bestFrom_61 : decode cX4_bestFrom 61 = .ok (.aload_n 0, 1) := by decide +kernel
theorem dX4_bestFrom_62 : decode cX4_bestFrom 62 = .ok (.getfield 12, 3) := by decide +kernel
theorem dX4_bestFrom_65 : decode cX4_bestFrom 65 = .ok (.getfield 61, 3) := by decide +kernel
theorem dX4_bestFrom_68 : decode cX4_bestFrom 68 = .ok (.istore_n 2, 1) := by decide +kernel
theorem dX4_bestFrom_69 : decode cX4_bestFrom 69 = .ok (.iload 4, 2) := by decide +kernel
theorem dX4_bestFrom_71 : decode cX4_bestFrom 71 = .ok (.istore_n 1, 1) := by decide +kernel
theorem dX4_bestFrom_72 : decode cX4_bestFrom 72 = .ok (.iinc 4 (-1), 3) := by decide +kernel
theorem dX4_bestFrom_75 : decode cX4_bestFrom 75 = .ok (.goto (-59), 3) := by decide +kernel
theorem dX4_bestFrom_78 : decode cX4_bestFrom 78 = .ok (.iload_n 1, 1) := by decide +kernel
theorem dX4_bestFrom_79 : decode cX4_bestFrom 79 = .ok (.ireturn, 1) := by decide +kernel
set_option maxRecDepth 20000 in
theorem ggX4_pulledFrom_X4_start : GoodIn wsX4_pulledFrom wsX4_start := goodIn_r _ [17, 2, 18, 19, 20, 21, 22, 23, 24, 25, 26, 27, 28, 29, 30, 31, 32, 33, 34, 35, 36, 37, 38, 86, 87, 88, 89, 90, 91, 92, 93, 94, 95, 96, 97, 98, 99, 100, 101, 102, 103, 104, 105, 106] (by decide +kernel) (by decide +kernel)
set_option maxRecDepth 20000 in
theorem gX4_pulledFrom_X4_start : GoodIn wsX4_pulledFrom (wsV RX4 51 RX4 yX4_start wsX4_start) := goodIn_app (goodIn_of _ (by decide +kernel)) ggX4_pulledFrom_X4_start
set_option maxRecDepth 20000 in
theorem ggX4_pulledFrom_X8_unwinds : GoodIn wsX4_pulledFrom wsX8_unwinds := goodIn_r _ [42, 31, 43, 44, 45, 24, 46, 29, 95, 96, 97, 98, 99, 100, 101, 102, 103, 104, 105, 106] (by decide +kernel) (by decide +kernel)
set_option maxRecDepth 20000 in
theorem gX4_pulledFrom_X8_unwinds : GoodIn wsX4_pulledFrom (wsV RX4 53 RX8 yX8_unwinds wsX8_unwinds) := goodIn_app (goodIn_of _ (by decide +kernel)) ggX4_pulledFrom_X8_unwinds
set_option maxRecDepth 20000 in
theorem ggX4_pulledFrom_X8_tick : GoodIn wsX4_pulledFrom wsX8_tick := goodIn_r _ [50, 27, 29, 51, 6, 7, 8, 26, 52, 31, 53, 10, 11, 32, 33, 30, 54, 37, 34, 36, 55, 56, 57, 58, 59, 60, 61, 62, 63, 64, 65, 66, 67, 68, 69, 70, 71, 72, 73, 74, 75, 76, 77, 78, 79, 80, 81, 82, 83, 24, 84, 85, 38, 95, 96, 97, 98, 99, 100, 101, 102, 103, 104, 105, 106, 107, 108, 109, 110, 111, 112, 113] (by decide +kernel) (by decide +kernel)
set_option maxRecDepth 20000 in
theorem gX4_pulledFrom_X8_tick : GoodIn wsX4_pulledFrom (wsV RX4 57 RX8 yX8_tick wsX8_tick) := goodIn_app (goodIn_of _ (by decide +kernel)) ggX4_pulledFrom_X8_tick
theorem dX4_pulledFrom_0 : decode cX4_pulledFrom 0 = .ok (.iconst (-1), 1) := by decide +kernel
theorem dX4_pulledFrom_1 : decode cX4_pulledFrom 1 = .ok (.istore_n 2, 1) := by decide +kernel
theorem dX4_pulledFrom_2 : decode cX4_pulledFrom 2 = .ok (.aload_n 0, 1) := by decide +kernel
theorem dX4_pulledFrom_3 : decode cX4_pulledFrom 3 = .ok (.invokevirtual 51, 3) := by decide +kernel
theorem dX4_pulledFrom_6 : decode cX4_pulledFrom 6 = .ok (.iconst 0, 1) := by decide +kernel
theorem dX4_pulledFrom_7 : decode cX4_pulledFrom 7 = .ok (.istore_n 3, 1) := by decide +kernel
theorem dX4_pulledFrom_8 : decode cX4_pulledFrom 8 = .ok (.iload_n 3, 1) := by decide +kernel
theorem dX4_pulledFrom_9 : decode cX4_pulledFrom 9 = .ok (.aload_n 0, 1) := by decide +kernel
theorem dX4_pulledFrom_10 : decode cX4_pulledFrom 10 = .ok (.getfield 40, 3) := by decide +kernel
theorem dX4_pulledFrom_13 : decode cX4_pulledFrom 13 = .ok (.if_icmp .ge 85, 3) := by decide +kernel
theorem dX4_pulledFrom_16 : decode cX4_pulledFrom 16 = .ok (.aload_n 0, 1) := by decide +kernel
theorem dX4_pulledFrom_17 : decode cX4_pulledFrom 17 = .ok (.getfield 12, 3) := by decide +kernel
theorem dX4_pulledFrom_20 : decode cX4_pulledFrom 20 = .ok (.getfield 43, 3) := by decide +kernel
theorem dX4_pulledFrom_23 : decode cX4_pulledFrom 23 = .ok (.ifCond .ne 75, 3) := by decide +kernel
theorem dX4_pulledFrom_26 : decode cX4_pulledFrom 26 = .ok (.aload_n 0, 1) := by decide +kernel
theorem dX4_pulledFrom_27 : decode cX4_pulledFrom 27 = .ok (.getfield 12, 3) := by decide +kernel
theorem dX4_pulledFrom_30 : decode cX4_pulledFrom 30 = .ok (.getfield 104, 3) := by decide +kernel
theorem dX4_pulledFrom_33 : decode cX4_pulledFrom 33 = .ok (.invokestatic 107, 3) := by decide +kernel
theorem dX4_pulledFrom_36 : decode cX4_pulledFrom 36 = .ok (.istore 4, 2) := by decide +kernel
theorem dX4_pulledFrom_38 : decode cX4_pulledFrom 38 = .ok (.aload_n 0, 1) := by decide +kernel
theorem dX4_pulledFrom_39 : decode cX4_pulledFrom 39 = .ok (.getfield 12, 3) := by decide +kernel
theorem dX4_pulledFrom_42 : decode cX4_pulledFrom 42 = .ok (.invokevirtual 53, 3) := by decide +kernel
theorem dX4_pulledFrom_45 : decode cX4_pulledFrom 45 = .ok (.istore 5, 2) := by decide +kernel
theorem dX4_pulledFrom_47 : decode cX4_pulledFrom 47 = .ok (.iload 5, 2) := by decide +kernel
theorem dX4_pulledFrom_49 : decode cX4_pulledFrom 49 = .ok (.ifCond .eq 16, 3) := by decide +kernel
theorem dX4_pulledFrom_52 : decode cX4_pulledFrom 52 = .ok (.iload 4, 2) := by decide +kernel
theorem dX4_pulledFrom_54 : decode cX4_pulledFrom 54 = .ok (.iload_n 1, 1) := by decide +kernel
theorem dX4_pulledFrom_55 : decode cX4_pulledFrom 55 = .ok (.if_icmp .ge 10, 3) := by decide +kernel
theorem dX4_pulledFrom_58 : decode cX4_pulledFrom 58 = .ok (.iload_n 2, 1) := by decide +kernel
theorem dX4_pulledFrom_59 : decode cX4_pulledFrom 59 = .ok (.iload 4, 2) := by decide +kernel
theorem dX4_pulledFrom_61 : decode cX4_pulledFrom 61 = .ok (.invokestatic 110, 3) := by decide +kernel
theorem dX4_pulledFrom_64 : decode cX4_pulledFrom 64 = .ok (.istore_n 2, 1) := by decide +kernel
theorem dX4_pulledFrom_65 : decode cX4_pulledFrom 65 = .ok (.aload_n 0, 1) := by decide +kernel
theorem dX4_pulledFrom_66 : decode cX4_pulledFrom 66 = .ok (.getfield 12, 3) := by decide +kernel
theorem dX4_pulledFrom_69 : decode cX4_pulledFrom 69 = .ok (.iload 5, 2) := by decide +kernel
theorem dX4_pulledFrom_71 : decode cX4_pulledFrom 71 = .ok (.ifCond .eq 16, 3) := by decide +kernel
theorem dX4_pulledFrom_74 : decode cX4_pulledFrom 74 = .ok (.iload 4, 2) := by decide +kernel
theorem dX4_pulledFrom_76 : decode cX4_pulledFrom 76 = .ok (.iload_n 1, 1) := by decide +kernel
theorem dX4_pulledFrom_77 : decode cX4_pulledFrom 77 = .ok (.if_icmp .lt 10, 3) := by decide +kernel
theorem dX4_pulledFrom_80 : decode cX4_pulledFrom 80 = .ok (.aload_n 0, 1) := by decide +kernel
theorem dX4_pulledFrom_81 : decode cX4_pulledFrom 81 = .ok (.getfield 37, 3) := by decide +kernel
theorem dX4_pulledFrom_84 : decode cX4_pulledFrom 84 = .ok (.goto 4, 3) := by decide +kernel
theorem dX4_pulledFrom_87 : decode cX4_pulledFrom 87 = .ok (.iconst 0, 1) := by decide +kernel
theorem dX4_pulledFrom_88 : decode cX4_pulledFrom 88 = .ok (.iconst 0, 1) := by decide +kernel
theorem dX4_pulledFrom_89 : decode cX4_pulledFrom 89 = .ok (.invokevirtual 57, 3) := by decide +kernel
theorem dX4_pulledFrom_92 : decode cX4_pulledFrom 92 = .ok (.iinc 3 1, 3) := by decide +kernel
theorem dX4_pulledFrom_95 : decode cX4_pulledFrom 95 = .ok (.goto (-87), 3) := by decide +kernel
theorem dX4_pulledFrom_98 : decode cX4_pulledFrom 98 = .ok (.iload_n 2, 1) := by decide +kernel
theorem dX4_pulledFrom_99 : decode cX4_pulledFrom 99 = .ok (.ireturn, 1) := by decide +kernel
set_option maxRecDepth 20000 in
theorem ggX4_latestGrowing_X4_growsLateBy : GoodIn wsX4_latestGrowing wsX4_growsLateBy := goodIn_r _ [6, 7, 8, 9, 10, 11, 12, 13, 14, 15, 16, 17, 18, 19, 20, 21, 22, 5, 23, 24, 25, 26, 27, 28, 29, 30, 31, 32, 33, 34, 35, 36, 37, 38, 39, 40, 41, 42, 43, 44, 45, 46, 47, 48, 49, 50, 51, 52, 53, 54, 55, 56, 57, 58, 59, 60, 61, 62, 63, 64, 65, 66, 67, 68, 69, 70, 71, 72, 73, 74, 75, 76, 77, 78, 79, 80, 81, 82, 83, 84, 85, 86, 87, 88, 89, 90, 91, 92, 93, 94, 95, 96, 97, 98, 99, 100, 101, 102, 103, 104, 105, 106, 107, 108, 109, 110, 111, 112, 113, 114, 115, 116, 117, 118, 119] (by decide +kernel) (by decide +kernel)
set_option maxRecDepth 20000 in
theorem gX4_latestGrowing_X4_growsLateBy : GoodIn wsX4_latestGrowing (wsV RX4 113 RX4 yX4_growsLateBy wsX4_growsLateBy) := goodIn_app (goodIn_of _ (by decide +kernel)) ggX4_latestGrowing_X4_growsLateBy
theorem dX4_latestGrowing_0 : decode cX4_latestGrowing 0 = .ok (.ldc 64, 2) := by decide +kernel
theorem dX4_latestGrowing_2 : decode cX4_latestGrowing 2 = .ok (.istore_n 1, 1) := by decide +kernel
theorem dX4_latestGrowing_3 : decode cX4_latestGrowing 3 = .ok (.iconst 0, 1) := by decide +kernel
theorem dX4_latestGrowing_4 : decode cX4_latestGrowing 4 = .ok (.istore_n 2, 1) := by decide +kernel
theorem dX4_latestGrowing_5 : decode cX4_latestGrowing 5 = .ok (.iload_n 2, 1) := by decide +kernel
theorem dX4_latestGrowing_6 : decode cX4_latestGrowing 6 = .ok (.bipush 30, 2) := by decide +kernel
theorem dX4_latestGrowing_8 : decode cX4_latestGrowing 8 = .ok (.if_icmp .gt 19, 3) := by decide +kernel
theorem dX4_latestGrowing_11 : decode cX4_latestGrowing 11 = .ok (.aload_n 0, 1) := by decide +kernel
theorem dX4_latestGrowing_12 : decode cX4_latestGrowing 12 = .ok (.iload_n 2, 1) := by decide +kernel
theorem dX4_latestGrowing_13 : decode cX4_latestGrowing 13 = .ok (.invokevirtual 113, 3) := by decide +kernel
theorem dX4_latestGrowing_16 : decode cX4_latestGrowing 16 = .ok (.ifCond .eq 11, 3) := by decide +kernel
theorem dX4_latestGrowing_19 : decode cX4_latestGrowing 19 = .ok (.iload_n 2, 1) := by decide +kernel
theorem dX4_latestGrowing_20 : decode cX4_latestGrowing 20 = .ok (.istore_n 1, 1) := by decide +kernel
theorem dX4_latestGrowing_21 : decode cX4_latestGrowing 21 = .ok (.iinc 2 1, 3) := by decide +kernel
theorem dX4_latestGrowing_24 : decode cX4_latestGrowing 24 = .ok (.goto (-19), 3) := by decide +kernel
theorem dX4_latestGrowing_27 : decode cX4_latestGrowing 27 = .ok (.iload_n 1, 1) := by decide +kernel
theorem dX4_latestGrowing_28 : decode cX4_latestGrowing 28 = .ok (.ireturn, 1) := by decide +kernel
set_option maxRecDepth 20000 in
theorem ggX4_growsLateBy_X4_start : GoodIn wsX4_growsLateBy wsX4_start := goodIn_r _ [18, 2, 19, 11, 10, 20, 21, 22, 23, 24, 25, 26, 27, 28, 29, 30, 31, 32, 33, 34, 35, 36, 37, 87, 88, 89, 90, 91, 92, 93, 94, 95, 96, 97, 98, 99, 100, 101, 102, 103, 104, 105, 106, 107] (by decide +kernel) (by decide +kernel)
set_option maxRecDepth 20000 in
theorem gX4_growsLateBy_X4_start : GoodIn wsX4_growsLateBy (wsV RX4 51 RX4 yX4_start wsX4_start) := goodIn_app (goodIn_of _ (by decide +kernel)) ggX4_growsLateBy_X4_start
set_option maxRecDepth 20000 in
theorem ggX4_growsLateBy_X8_unwinds : GoodIn wsX4_growsLateBy wsX8_unwinds := goodIn_r _ [41, 30, 42, 43, 44, 23, 45, 28, 96, 97, 98, 99, 100, 101, 102, 103, 104, 105, 106, 107] (by decide +kernel) (by decide +kernel)
set_option maxRecDepth 20000 in
theorem gX4_growsLateBy_X8_unwinds : GoodIn wsX4_growsLateBy (wsV RX4 53 RX8 yX8_unwinds wsX8_unwinds) := goodIn_app (goodIn_of _ (by decide +kernel)) ggX4_growsLateBy_X8_unwinds
set_option maxRecDepth 20000 in
theorem ggX4_growsLateBy_X8_tick : GoodIn wsX4_growsLateBy wsX8_tick := goodIn_r _ [49, 26, 28, 50, 7, 8, 9, 25, 51, 30, 52, 53, 54, 31, 32, 29, 55, 36, 33, 35, 56, 57, 58, 59, 60, 61, 62, 63, 64, 65, 66, 67, 68, 69, 70, 71, 72, 73, 74, 75, 76, 77, 78, 79, 80, 81, 82, 83, 84, 23, 85, 86, 37, 96, 97, 98, 99, 100, 101, 102, 103, 104, 105, 106, 107, 112, 113, 114, 108, 109, 110, 111] (by decide +kernel) (by decide +kernel)
set_option maxRecDepth 20000 in
theorem gX4_growsLateBy_X8_tick : GoodIn wsX4_growsLateBy (wsV RX4 57 RX8 yX8_tick wsX8_tick) := goodIn_app (goodIn_of _ (by decide +kernel)) ggX4_growsLateBy_X8_tick
theorem dX4_growsLateBy_0 : decode cX4_growsLateBy 0 = .ok (.iconst 0, 1) := by decide +kernel
theorem dX4_growsLateBy_1 : decode cX4_growsLateBy 1 = .ok (.istore_n 2, 1) := by decide +kernel
theorem dX4_growsLateBy_2 : decode cX4_growsLateBy 2 = .ok (.aload_n 0, 1) := by decide +kernel
theorem dX4_growsLateBy_3 : decode cX4_growsLateBy 3 = .ok (.invokevirtual 51, 3) := by decide +kernel
theorem dX4_growsLateBy_6 : decode cX4_growsLateBy 6 = .ok (.iconst 0, 1) := by decide +kernel
theorem dX4_growsLateBy_7 : decode cX4_growsLateBy 7 = .ok (.istore_n 3, 1) := by decide +kernel
theorem dX4_growsLateBy_8 : decode cX4_growsLateBy 8 = .ok (.iload_n 3, 1) := by decide +kernel
theorem dX4_growsLateBy_9 : decode cX4_growsLateBy 9 = .ok (.aload_n 0, 1) := by decide +kernel
theorem dX4_growsLateBy_10 : decode cX4_growsLateBy 10 = .ok (.getfield 40, 3) := by decide +kernel
theorem dX4_growsLateBy_13 : decode cX4_growsLateBy 13 = .ok (.if_icmp .ge 108, 3) := by decide +kernel
theorem dX4_growsLateBy_16 : decode cX4_growsLateBy 16 = .ok (.aload_n 0, 1) := by decide +kernel
theorem dX4_growsLateBy_17 : decode cX4_growsLateBy 17 = .ok (.getfield 12, 3) := by decide +kernel
theorem dX4_growsLateBy_20 : decode cX4_growsLateBy 20 = .ok (.getfield 43, 3) := by decide +kernel
theorem dX4_growsLateBy_23 : decode cX4_growsLateBy 23 = .ok (.ifCond .ne 98, 3) := by decide +kernel
theorem dX4_growsLateBy_26 : decode cX4_growsLateBy 26 = .ok (.aload_n 0, 1) := by decide +kernel
theorem dX4_growsLateBy_27 : decode cX4_growsLateBy 27 = .ok (.getfield 12, 3) := by decide +kernel
theorem dX4_growsLateBy_30 : decode cX4_growsLateBy 30 = .ok (.invokevirtual 53, 3) := by decide +kernel
theorem dX4_growsLateBy_33 : decode cX4_growsLateBy 33 = .ok (.ifCond .eq 9, 3) := by decide +kernel
theorem dX4_growsLateBy_36 : decode cX4_growsLateBy 36 = .ok (.iload_n 2, 1) := by decide +kernel
theorem dX4_growsLateBy_37 : decode cX4_growsLateBy 37 = .ok (.iconst 1, 1) := by decide +kernel
theorem dX4_growsLateBy_38 : decode cX4_growsLateBy 38 = .ok (.iadd, 1) := by decide +kernel
theorem dX4_growsLateBy_39 : decode cX4_growsLateBy 39 = .ok (.goto 4, 3) := by decide +kernel
theorem dX4_growsLateBy_42 : decode cX4_growsLateBy 42 = .ok (.iconst 0, 1) := by decide +kernel
theorem dX4_growsLateBy_43 : decode cX4_growsLateBy 43 = .ok (.istore_n 2, 1) := by decide +kernel
theorem dX4_growsLateBy_44 : decode cX4_growsLateBy 44 = .ok (.aload_n 0, 1) := by decide +kernel
theorem dX4_growsLateBy_45 : decode cX4_growsLateBy 45 = .ok (.getfield 12, 3) := by decide +kernel
theorem dX4_growsLateBy_48 : decode cX4_growsLateBy 48 = .ok (.iload_n 2, 1) := by decide +kernel
theorem dX4_growsLateBy_49 : decode cX4_growsLateBy 49 = .ok (.iload_n 1, 1) := by decide +kernel
theorem dX4_growsLateBy_50 : decode cX4_growsLateBy 50 = .ok (.if_icmp .le 10, 3) := by decide +kernel
theorem dX4_growsLateBy_53 : decode cX4_growsLateBy 53 = .ok (.aload_n 0, 1) := by decide +kernel
theorem dX4_growsLateBy_54 : decode cX4_growsLateBy 54 = .ok (.getfield 37, 3) := by decide +kernel
theorem dX4_growsLateBy_57 : decode cX4_growsLateBy 57 = .ok (.goto 4, 3) := by decide +kernel
theorem dX4_growsLateBy_60 : decode cX4_growsLateBy 60 = .ok (.iconst 0, 1) := by decide +kernel
theorem dX4_growsLateBy_61 : decode cX4_growsLateBy 61 = .ok (.iconst 0, 1) := by decide +kernel
theorem dX4_growsLateBy_62 : decode cX4_growsLateBy 62 = .ok (.invokevirtual 57, 3) := by decide +kernel
theorem dX4_growsLateBy_65 : decode cX4_growsLateBy 65 = .ok (.aload_n 0, 1) := by decide +kernel
theorem dX4_growsLateBy_66 : decode cX4_growsLateBy 66 = .ok (.getfield 12, 3) := by decide +kernel
theorem dX4_growsLateBy_69 : decode cX4_growsLateBy 69 = .ok (.getfield 104, 3) := by decide +kernel
theorem dX4_growsLateBy_72 : decode cX4_growsLateBy 72 = .ok (.invokestatic 107, 3) := by decide +kernel
theorem dX4_growsLateBy_75 : decode cX4_growsLateBy 75 = .ok (.istore 4, 2) := by decide +kernel
theorem dX4_growsLateBy_77 : decode cX4_growsLateBy 77 = .ok (.iload 4, 2) := by decide +kernel
theorem dX4_growsLateBy_79 : decode cX4_growsLateBy 79 = .ok (.aload_n 0, 1) := by decide +kernel
theorem dX4_growsLateBy_80 : decode cX4_growsLateBy 80 = .ok (.getfield 33, 3) := by decide +kernel
theorem dX4_growsLateBy_83 : decode cX4_growsLateBy 83 = .ok (.if_icmp .gt 30, 3) := by decide +kernel
theorem dX4_growsLateBy_86 : decode cX4_growsLateBy 86 = .ok (.iload 4, 2) := by decide +kernel
theorem dX4_growsLateBy_88 : decode cX4_growsLateBy 88 = .ok (.aload_n 0, 1) := by decide +kernel
theorem dX4_growsLateBy_89 : decode cX4_growsLateBy 89 = .ok (.getfield 29, 3) := by decide +kernel
theorem dX4_growsLateBy_92 : decode cX4_growsLateBy 92 = .ok (.getfield 81, 3) := by decide +kernel
theorem dX4_growsLateBy_95 : decode cX4_growsLateBy 95 = .ok (.if_icmp .ne 20, 3) := by decide +kernel
theorem dX4_growsLateBy_98 : decode cX4_growsLateBy 98 = .ok (.aload_n 0, 1) := by decide +kernel
theorem dX4_growsLateBy_99 : decode cX4_growsLateBy 99 = .ok (.getfield 12, 3) := by decide +kernel
theorem dX4_growsLateBy_102 : decode cX4_growsLateBy 102 = .ok (.getfield 117, 3) := by decide +kernel
theorem dX4_growsLateBy_105 : decode cX4_growsLateBy 105 = .ok (.invokestatic 107, 3) := by decide +kernel
theorem dX4_growsLateBy_108 : decode cX4_growsLateBy 108 = .ok (.iload 4, 2) := by decide +kernel
theorem dX4_growsLateBy_110 : decode cX4_growsLateBy 110 = .ok (.if_icmp .ge 5, 3) := by decide +kernel
theorem dX4_growsLateBy_113 : decode cX4_growsLateBy 113 = .ok (.iconst 1, 1) := by decide +kernel
theorem dX4_growsLateBy_114 : decode cX4_growsLateBy 114 = .ok (.ireturn, 1) := by decide +kernel
theorem dX4_growsLateBy_115 : decode cX4_growsLateBy 115 = .ok (.iinc 3 1, 3) := by decide +kernel
theorem dX4_growsLateBy_118 : decode cX4_growsLateBy 118 = .ok (.goto (-110), 3) := by decide +kernel
theorem dX4_growsLateBy_121 : decode cX4_growsLateBy 121 = .ok (.iconst 0, 1) := by decide +kernel
theorem dX4_growsLateBy_122 : decode cX4_growsLateBy 122 = .ok (.ireturn, 1) := by decide +kernel
set_option maxRecDepth 20000 in
theorem ggX4_partingTicks_X4_start : GoodIn wsX4_partingTicks wsX4_start := goodIn_r _ [11, 1, 12, 13, 14, 15, 16, 17, 18, 19, 20, 21, 22, 23, 24, 25, 26, 27, 28, 29, 30, 31, 32, 85, 86, 87, 88, 89, 90, 91, 92, 93, 94, 95, 96, 97, 98, 99, 100, 101, 102, 103, 104, 105] (by decide +kernel) (by decide +kernel)
set_option maxRecDepth 20000 in
theorem gX4_partingTicks_X4_start : GoodIn wsX4_partingTicks (wsV RX4 51 RX4 yX4_start wsX4_start) := goodIn_app (goodIn_of _ (by decide +kernel)) ggX4_partingTicks_X4_start
set_option maxRecDepth 20000 in
theorem ggX4_partingTicks_X8_unwinds : GoodIn wsX4_partingTicks wsX8_unwinds := goodIn_r _ [36, 25, 37, 38, 39, 18, 40, 23, 94, 95, 96, 97, 98, 99, 100, 101, 102, 103, 104, 105] (by decide +kernel) (by decide +kernel)
set_option maxRecDepth 20000 in
theorem gX4_partingTicks_X8_unwinds : GoodIn wsX4_partingTicks (wsV RX4 53 RX8 yX8_unwinds wsX8_unwinds) := goodIn_app (goodIn_of _ (by decide +kernel)) ggX4_partingTicks_X8_unwinds
set_option maxRecDepth 20000 in
theorem ggX4_partingTicks_X8_tick : GoodIn wsX4_partingTicks wsX8_tick := goodIn_r _ [44, 21, 23, 45, 46, 47, 48, 20, 49, 25, 50, 51, 52, 26, 27, 24, 53, 31, 28, 30, 54, 55, 56, 57, 58, 59, 60, 61, 62, 63, 64, 65, 66, 67, 68, 69, 70, 71, 72, 73, 74, 75, 76, 77, 78, 79, 80, 81, 82, 18, 83, 84, 32, 94, 95, 96, 97, 98, 99, 100, 101, 102, 103, 104, 105, 106, 107, 108, 109, 110, 111, 112] (by decide +kernel) (by decide +kernel)
set_option maxRecDepth 20000 in
theorem gX4_partingTicks_X8_tick : GoodIn wsX4_partingTicks (wsV RX4 57 RX8 yX8_tick wsX8_tick) := goodIn_app (goodIn_of _ (by decide +kernel)) ggX4_partingTicks_X8_tick
theorem dX4_partingTicks_0 : decode cX4_partingTicks 0 = .ok (.lconst 0, 1) := by decide +kernel
theorem dX4_partingTicks_1 : decode cX4_partingTicks 1 = .ok (.lstore_n 2, 1) := by decide +kernel
theorem dX4_partingTicks_2 : decode cX4_partingTicks 2 = .ok (.aload_n 0, 1) := by decide +kernel
theorem dX4_partingTicks_3 : decode cX4_partingTicks 3 = .ok (.invokevirtual 51, 3) := by decide +kernel
theorem dX4_partingTicks_6 : decode cX4_partingTicks 6 = .ok (.iconst 1, 1) := by decide +kernel
theorem dX4_partingTicks_7 : decode cX4_partingTicks 7 = .ok (.istore 4, 2) := by decide +kernel
theorem dX4_partingTicks_9 : decode cX4_partingTicks 9 = .ok (.iload 4, 2) := by decide +kernel
theorem dX4_partingTicks_11 : decode cX4_partingTicks 11 = .ok (.sipush 500, 3) := by decide +kernel
theorem dX4_partingTicks_14 : decode cX4_partingTicks 14 = .ok (.if_icmp .gt 79, 3) := by decide +kernel
theorem dX4_partingTicks_17 : decode cX4_partingTicks 17 = .ok (.aload_n 0, 1) := by decide +kernel
theorem dX4_partingTicks_18 : decode cX4_partingTicks 18 = .ok (.getfield 12, 3) := by decide +kernel
theorem dX4_partingTicks_21 : decode cX4_partingTicks 21 = .ok (.getfield 43, 3) := by decide +kernel
theorem dX4_partingTicks_24 : decode cX4_partingTicks 24 = .ok (.ifCond .ne 69, 3) := by decide +kernel
theorem dX4_partingTicks_27 : decode cX4_partingTicks 27 = .ok (.aload_n 0, 1) := by decide +kernel
theorem dX4_partingTicks_28 : decode cX4_partingTicks 28 = .ok (.getfield 12, 3) := by decide +kernel
theorem dX4_partingTicks_31 : decode cX4_partingTicks 31 = .ok (.aload_n 0, 1) := by decide +kernel
theorem dX4_partingTicks_32 : decode cX4_partingTicks 32 = .ok (.getfield 12, 3) := by decide +kernel
theorem dX4_partingTicks_35 : decode cX4_partingTicks 35 = .ok (.invokevirtual 53, 3) := by decide +kernel
theorem dX4_partingTicks_38 : decode cX4_partingTicks 38 = .ok (.ifCond .eq 10, 3) := by decide +kernel
theorem dX4_partingTicks_41 : decode cX4_partingTicks 41 = .ok (.aload_n 0, 1) := by decide +kernel
theorem dX4_partingTicks_42 : decode cX4_partingTicks 42 = .ok (.getfield 37, 3) := by decide +kernel
theorem dX4_partingTicks_45 : decode cX4_partingTicks 45 = .ok (.goto 4, 3) := by decide +kernel
theorem dX4_partingTicks_48 : decode cX4_partingTicks 48 = .ok (.iconst 0, 1) := by decide +kernel
theorem dX4_partingTicks_49 : decode cX4_partingTicks 49 = .ok (.iconst 0, 1) := by decide +kernel
theorem dX4_partingTicks_50 : decode cX4_partingTicks 50 = .ok (.invokevirtual 57, 3) := by decide +kernel
theorem dX4_partingTicks_53 : decode cX4_partingTicks 53 = .ok (.lload_n 2, 1) := by decide +kernel
theorem dX4_partingTicks_54 : decode cX4_partingTicks 54 = .ok (.aload_n 0, 1) := by decide +kernel
theorem dX4_partingTicks_55 : decode cX4_partingTicks 55 = .ok (.getfield 12, 3) := by decide +kernel
theorem dX4_partingTicks_58 : decode cX4_partingTicks 58 = .ok (.getfield 120, 3) := by decide +kernel
theorem dX4_partingTicks_61 : decode cX4_partingTicks 61 = .ok (.i2l, 1) := by decide +kernel
theorem dX4_partingTicks_62 : decode cX4_partingTicks 62 = .ok (.aload_n 0, 1) := by decide +kernel
theorem dX4_partingTicks_63 : decode cX4_partingTicks 63 = .ok (.getfield 12, 3) := by decide +kernel
theorem dX4_partingTicks_66 : decode cX4_partingTicks 66 = .ok (.getfield 120, 3) := by decide +kernel
theorem dX4_partingTicks_69 : decode cX4_partingTicks 69 = .ok (.i2l, 1) := by decide +kernel
theorem dX4_partingTicks_70 : decode cX4_partingTicks 70 = .ok (.lmul, 1) := by decide +kernel
theorem dX4_partingTicks_71 : decode cX4_partingTicks 71 = .ok (.ladd, 1) := by decide +kernel
theorem dX4_partingTicks_72 : decode cX4_partingTicks 72 = .ok (.lstore_n 2, 1) := by decide +kernel
theorem dX4_partingTicks_73 : decode cX4_partingTicks 73 = .ok (.lload_n 2, 1) := by decide +kernel
theorem dX4_partingTicks_74 : decode cX4_partingTicks 74 = .ok (.ldc2_w 123, 3) := by decide +kernel
theorem dX4_partingTicks_77 : decode cX4_partingTicks 77 = .ok (.iload_n 1, 1) := by decide +kernel
theorem dX4_partingTicks_78 : decode cX4_partingTicks 78 = .ok (.i2l, 1) := by decide +kernel
theorem dX4_partingTicks_79 : decode cX4_partingTicks 79 = .ok (.lmul, 1) := by decide +kernel
theorem dX4_partingTicks_80 : decode cX4_partingTicks 80 = .ok (.lcmp, 1) := by decide +kernel
theorem dX4_partingTicks_81 : decode cX4_partingTicks 81 = .ok (.ifCond .lt 6, 3) := by decide +kernel
theorem dX4_partingTicks_84 : decode cX4_partingTicks 84 = .ok (.iload 4, 2) := by decide +kernel
theorem dX4_partingTicks_86 : decode cX4_partingTicks 86 = .ok (.ireturn, 1) := by decide +kernel
theorem dX4_partingTicks_87 : decode cX4_partingTicks 87 = .ok (.iinc 4 1, 3) := by decide +kernel
theorem dX4_partingTicks_90 : decode cX4_partingTicks 90 = .ok (.goto (-81), 3) := by decide +kernel
theorem dX4_partingTicks_93 : decode cX4_partingTicks 93 = .ok (.ldc 64, 2) := by decide +kernel
theorem dX4_partingTicks_95 : decode cX4_partingTicks 95 = .ok (.ireturn, 1) := by decide +kernel
set_option maxRecDepth 20000 in
theorem ggX4_greatestLamp_X4_goesThroughWith : GoodIn wsX4_greatestLamp wsX4_goesThroughWith := goodIn_r _ [6, 7, 8, 9, 10, 11, 12, 13, 14, 5, 15, 16, 17, 18, 19, 20, 21, 22, 23, 24, 25, 26, 27, 28, 29, 30, 31, 32, 33, 34, 35, 36, 37, 38, 39, 40, 41, 42, 43, 44, 45, 46, 47, 48, 49, 50, 51, 52, 53, 54, 55, 56, 57, 58, 59, 60, 61, 62, 63, 64, 65, 66, 67, 68, 69, 70, 71, 72, 73, 74, 75, 76, 77, 78, 79, 80, 81, 82, 83, 84, 85, 86, 87, 88, 89, 90, 91, 92, 93, 94, 95, 96, 97, 98, 99, 100, 101, 102, 103, 104, 105, 106, 107, 108, 109, 110, 111, 112, 113, 114, 115, 116] (by decide +kernel) (by decide +kernel)
set_option maxRecDepth 20000 in
theorem gX4_greatestLamp_X4_goesThroughWith : GoodIn wsX4_greatestLamp (wsV RX4 125 RX4 yX4_goesThroughWith wsX4_goesThroughWith) := goodIn_app (goodIn_of _ (by decide +kernel)) ggX4_greatestLamp_X4_goesThroughWith
theorem dX4_greatestLamp_0 : decode cX4_greatestLamp 0 = .ok (.bipush 50, 2) := by decide +kernel
theorem dX4_greatestLamp_2 : decode cX4_greatestLamp 2 = .ok (.istore_n 1, 1) := by decide +kernel
theorem dX4_greatestLamp_3 : decode cX4_greatestLamp 3 = .ok (.iload_n 1, 1) := by decide +kernel
theorem dX4_greatestLamp_4 : decode cX4_greatestLamp 4 = .ok (.ifCond .lt 19, 3) := by decide +kernel
theorem dX4_greatestLamp_7 : decode cX4_greatestLamp 7 = .ok (.aload_n 0, 1) := by decide +kernel
theorem dX4_greatestLamp_8 : decode cX4_greatestLamp 8 = .ok (.iload_n 1, 1) := by decide +kernel
theorem dX4_greatestLamp_9 : decode cX4_greatestLamp 9 = .ok (.invokevirtual 125, 3) := by decide +kernel
theorem dX4_greatestLamp_12 : decode cX4_greatestLamp 12 = .ok (.ifCond .eq 5, 3) := by decide +kernel
theorem dX4_greatestLamp_15 : decode cX4_greatestLamp 15 = .ok (.iload_n 1, 1) := by decide +kernel
theorem dX4_greatestLamp_16 : decode cX4_greatestLamp 16 = .ok (.ireturn, 1) := by decide +kernel
theorem dX4_greatestLamp_17 : decode cX4_greatestLamp 17 = .ok (.iinc 1 (-1), 3) := by decide +kernel
theorem dX4_greatestLamp_20 : decode cX4_greatestLamp 20 = .ok (.goto (-17), 3) := by decide +kernel
theorem dX4_greatestLamp_23 : decode cX4_greatestLamp 23 = .ok (.ldc 64, 2) := by decide +kernel
theorem dX4_greatestLamp_25 : decode cX4_greatestLamp 25 = .ok (.ireturn, 1) := by decide +kernel
set_option maxRecDepth 20000 in
theorem ggX4_goesThroughWith_X4_start : GoodIn wsX4_goesThroughWith wsX4_start := goodIn_r _ [10, 2, 11, 12, 13, 14, 15, 16, 17, 18, 19, 20, 21, 22, 23, 24, 25, 26, 27, 28, 29, 30, 31, 84, 85, 86, 87, 88, 89, 90, 91, 92, 93, 94, 95, 96, 97, 98, 99, 100, 101, 102, 103, 104] (by decide +kernel) (by decide +kernel)
set_option maxRecDepth 20000 in
theorem gX4_goesThroughWith_X4_start : GoodIn wsX4_goesThroughWith (wsV RX4 51 RX4 yX4_start wsX4_start) := goodIn_app (goodIn_of _ (by decide +kernel)) ggX4_goesThroughWith_X4_start
set_option maxRecDepth 20000 in
theorem ggX4_goesThroughWith_X8_unwinds : GoodIn wsX4_goesThroughWith wsX8_unwinds := goodIn_r _ [35, 24, 36, 37, 38, 17, 39, 22, 93, 94, 95, 96, 97, 98, 99, 100, 101, 102, 103, 104] (by decide +kernel) (by decide +kernel)
set_option maxRecDepth 20000 in
theorem gX4_goesThroughWith_X8_unwinds : GoodIn wsX4_goesThroughWith (wsV RX4 53 RX8 yX8_unwinds wsX8_unwinds) := goodIn_app (goodIn_of _ (by decide +kernel)) ggX4_goesThroughWith_X8_unwinds
set_option maxRecDepth 20000 in
theorem ggX4_goesThroughWith_X8_tick : GoodIn wsX4_goesThroughWith wsX8_tick := goodIn_r _ [43, 20, 22, 44, 45, 46, 47, 19, 48, 24, 49, 50, 51, 25, 26, 23, 52, 30, 27, 29, 53, 54, 55, 56, 57, 58, 59, 60, 61, 62, 63, 64, 65, 66, 67, 68, 69, 70, 71, 72, 73, 74, 75, 76, 77, 78, 79, 80, 81, 17, 82, 83, 31, 93, 94, 95, 96, 97, 98, 99, 100, 101, 102, 103, 104, 105, 106, 107, 108, 109, 110, 111] (by decide +kernel) (by decide +kernel)
set_option maxRecDepth 20000 in
theorem gX4_goesThroughWith_X8_tick : GoodIn wsX4_goesThroughWith (wsV RX4 57 RX8 yX8_tick wsX8_tick) := goodIn_app (goodIn_of _ (by decide +kernel)) ggX4_goesThroughWith_X8_tick
theorem dX4_goesThroughWith_0 : decode cX4_goesThroughWith 0 = .ok (.aload_n 0, 1) := by decide +kernel
theorem dX4_goesThroughWith_1 : decode cX4_goesThroughWith 1 = .ok (.invokevirtual 51, 3) := by decide +kernel
theorem dX4_goesThroughWith_4 : decode cX4_goesThroughWith 4 = .ok (.iconst 0, 1) := by decide +kernel
theorem dX4_goesThroughWith_5 : decode cX4_goesThroughWith 5 = .ok (.istore_n 2, 1) := by decide +kernel
theorem dX4_goesThroughWith_6 : decode cX4_goesThroughWith 6 = .ok (.iload_n 2, 1) := by decide +kernel
theorem dX4_goesThroughWith_7 : decode cX4_goesThroughWith 7 = .ok (.aload_n 0, 1) := by decide +kernel
theorem dX4_goesThroughWith_8 : decode cX4_goesThroughWith 8 = .ok (.getfield 40, 3) := by decide +kernel
theorem dX4_goesThroughWith_11 : decode cX4_goesThroughWith 11 = .ok (.if_icmp .ge 56, 3) := by decide +kernel
theorem dX4_goesThroughWith_14 : decode cX4_goesThroughWith 14 = .ok (.aload_n 0, 1) := by decide +kernel
theorem dX4_goesThroughWith_15 : decode cX4_goesThroughWith 15 = .ok (.getfield 12, 3) := by decide +kernel
theorem dX4_goesThroughWith_18 : decode cX4_goesThroughWith 18 = .ok (.getfield 43, 3) := by decide +kernel
theorem dX4_goesThroughWith_21 : decode cX4_goesThroughWith 21 = .ok (.ifCond .ne 46, 3) := by decide +kernel
theorem dX4_goesThroughWith_24 : decode cX4_goesThroughWith 24 = .ok (.aload_n 0, 1) := by decide +kernel
theorem dX4_goesThroughWith_25 : decode cX4_goesThroughWith 25 = .ok (.getfield 12, 3) := by decide +kernel
theorem dX4_goesThroughWith_28 : decode cX4_goesThroughWith 28 = .ok (.getfield 128, 3) := by decide +kernel
theorem dX4_goesThroughWith_31 : decode cX4_goesThroughWith 31 = .ok (.iconst 3, 1) := by decide +kernel
theorem dX4_goesThroughWith_32 : decode cX4_goesThroughWith 32 = .ok (.if_icmp .ge 35, 3) := by decide +kernel
theorem dX4_goesThroughWith_35 : decode cX4_goesThroughWith 35 = .ok (.aload_n 0, 1) := by decide +kernel
theorem dX4_goesThroughWith_36 : decode cX4_goesThroughWith 36 = .ok (.getfield 12, 3) := by decide +kernel
theorem dX4_goesThroughWith_39 : decode cX4_goesThroughWith 39 = .ok (.aload_n 0, 1) := by decide +kernel
theorem dX4_goesThroughWith_40 : decode cX4_goesThroughWith 40 = .ok (.getfield 12, 3) := by decide +kernel
theorem dX4_goesThroughWith_43 : decode cX4_goesThroughWith 43 = .ok (.invokevirtual 53, 3) := by decide +kernel
theorem dX4_goesThroughWith_46 : decode cX4_goesThroughWith 46 = .ok (.ifCond .eq 10, 3) := by decide +kernel
theorem dX4_goesThroughWith_49 : decode cX4_goesThroughWith 49 = .ok (.aload_n 0, 1) := by decide +kernel
theorem dX4_goesThroughWith_50 : decode cX4_goesThroughWith 50 = .ok (.getfield 37, 3) := by decide +kernel
theorem dX4_goesThroughWith_53 : decode cX4_goesThroughWith 53 = .ok (.goto 4, 3) := by decide +kernel
theorem dX4_goesThroughWith_56 : decode cX4_goesThroughWith 56 = .ok (.iconst 0, 1) := by decide +kernel
theorem dX4_goesThroughWith_57 : decode cX4_goesThroughWith 57 = .ok (.iload_n 1, 1) := by decide +kernel
theorem dX4_goesThroughWith_58 : decode cX4_goesThroughWith 58 = .ok (.invokevirtual 57, 3) := by decide +kernel
theorem dX4_goesThroughWith_61 : decode cX4_goesThroughWith 61 = .ok (.iinc 2 1, 3) := by decide +kernel
theorem dX4_goesThroughWith_64 : decode cX4_goesThroughWith 64 = .ok (.goto (-58), 3) := by decide +kernel
theorem dX4_goesThroughWith_67 : decode cX4_goesThroughWith 67 = .ok (.aload_n 0, 1) := by decide +kernel
theorem dX4_goesThroughWith_68 : decode cX4_goesThroughWith 68 = .ok (.getfield 12, 3) := by decide +kernel
theorem dX4_goesThroughWith_71 : decode cX4_goesThroughWith 71 = .ok (.getfield 128, 3) := by decide +kernel
theorem dX4_goesThroughWith_74 : decode cX4_goesThroughWith 74 = .ok (.iconst 3, 1) := by decide +kernel
theorem dX4_goesThroughWith_75 : decode cX4_goesThroughWith 75 = .ok (.if_icmp .lt 7, 3) := by decide +kernel
theorem dX4_goesThroughWith_78 : decode cX4_goesThroughWith 78 = .ok (.iconst 1, 1) := by decide +kernel
theorem dX4_goesThroughWith_79 : decode cX4_goesThroughWith 79 = .ok (.goto 4, 3) := by decide +kernel
theorem dX4_goesThroughWith_82 : decode cX4_goesThroughWith 82 = .ok (.iconst 0, 1) := by decide +kernel
theorem dX4_goesThroughWith_83 : decode cX4_goesThroughWith 83 = .ok (.ireturn, 1) := by decide +kernel
set_option maxRecDepth 20000 in
theorem ggX4_forcesFor_X4_playBy : GoodIn wsX4_forcesFor wsX4_playBy := goodIn_r _ [13, 14, 1, 15, 16, 17, 18, 19, 20, 6, 21, 22, 23, 24, 12, 25, 2, 26, 27, 28, 29, 30, 31, 32, 33, 34, 35, 36, 37, 38, 39, 40, 41, 42, 43, 44, 45, 46, 47, 48, 49, 50, 51, 52, 53, 54, 55, 56, 57, 58, 5, 7, 59, 60, 61, 62, 63, 64, 65, 66, 67, 68, 69, 70, 71, 72, 73, 74, 75, 76, 77, 78, 79, 80, 81, 82, 83, 84, 85, 86, 87, 88, 89, 90, 91, 92, 93, 94, 95, 96, 97, 98, 99, 100, 101, 105, 106, 107, 108, 109, 110, 111, 112, 113, 114, 115, 116, 102, 103, 104, 117, 118, 119, 120] (by decide +kernel) (by decide +kernel)
set_option maxRecDepth 20000 in
theorem gX4_forcesFor_X4_playBy : GoodIn wsX4_forcesFor (wsV RX4 131 RX4 yX4_playBy wsX4_playBy) := goodIn_app (goodIn_of _ (by decide +kernel)) ggX4_forcesFor_X4_playBy
theorem dX4_forcesFor_0 : decode cX4_forcesFor 0 = .ok (.iconst 0, 1) := by decide +kernel
theorem dX4_forcesFor_1 : decode cX4_forcesFor 1 = .ok (.istore 4, 2) := by decide +kernel
theorem dX4_forcesFor_3 : decode cX4_forcesFor 3 = .ok (.iload_n 3, 1) := by decide +kernel
theorem dX4_forcesFor_4 : decode cX4_forcesFor 4 = .ok (.iconst 1, 1) := by decide +kernel
theorem dX4_forcesFor_5 : decode cX4_forcesFor 5 = .ok (.if_icmp .ne 8, 3) := by decide +kernel
theorem dX4_forcesFor_8 : decode cX4_forcesFor 8 = .ok (.bipush 10, 2) := by decide +kernel
theorem dX4_forcesFor_10 : decode cX4_forcesFor 10 = .ok (.goto 16, 3) := by decide +kernel
theorem dX4_forcesFor_13 : decode cX4_forcesFor 13 = .ok (.iload_n 3, 1) := by decide +kernel
theorem dX4_forcesFor_14 : decode cX4_forcesFor 14 = .ok (.iconst 2, 1) := by decide +kernel
theorem dX4_forcesFor_15 : decode cX4_forcesFor 15 = .ok (.if_icmp .ne 8, 3) := by decide +kernel
theorem dX4_forcesFor_18 : decode cX4_forcesFor 18 = .ok (.bipush 100, 2) := by decide +kernel
theorem dX4_forcesFor_20 : decode cX4_forcesFor 20 = .ok (.goto 6, 3) := by decide +kernel
theorem dX4_forcesFor_23 : decode cX4_forcesFor 23 = .ok (.sipush 1000, 3) := by decide +kernel
theorem dX4_forcesFor_26 : decode cX4_forcesFor 26 = .ok (.istore 5, 2) := by decide +kernel
theorem dX4_forcesFor_28 : decode cX4_forcesFor 28 = .ok (.iconst 0, 1) := by decide +kernel
theorem dX4_forcesFor_29 : decode cX4_forcesFor 29 = .ok (.istore 6, 2) := by decide +kernel
theorem dX4_forcesFor_31 : decode cX4_forcesFor 31 = .ok (.iload 6, 2) := by decide +kernel
theorem dX4_forcesFor_33 : decode cX4_forcesFor 33 = .ok (.iload 5, 2) := by decide +kernel
theorem dX4_forcesFor_35 : decode cX4_forcesFor 35 = .ok (.if_icmp .ge 91, 3) := by decide +kernel
theorem dX4_forcesFor_38 : decode cX4_forcesFor 38 = .ok (.aload_n 0, 1) := by decide +kernel
theorem dX4_forcesFor_39 : decode cX4_forcesFor 39 = .ok (.iload 6, 2) := by decide +kernel
theorem dX4_forcesFor_41 : decode cX4_forcesFor 41 = .ok (.iload_n 3, 1) := by decide +kernel
theorem dX4_forcesFor_42 : decode cX4_forcesFor 42 = .ok (.invokevirtual 131, 3) := by decide +kernel
theorem dX4_forcesFor_45 : decode cX4_forcesFor 45 = .ok (.iconst 0, 1) := by decide +kernel
theorem dX4_forcesFor_46 : decode cX4_forcesFor 46 = .ok (.istore 7, 2) := by decide +kernel
theorem dX4_forcesFor_48 : decode cX4_forcesFor 48 = .ok (.iconst 0, 1) := by decide +kernel
theorem dX4_forcesFor_49 : decode cX4_forcesFor 49 = .ok (.istore 8, 2) := by decide +kernel
theorem dX4_forcesFor_51 : decode cX4_forcesFor 51 = .ok (.iload 8, 2) := by decide +kernel
theorem dX4_forcesFor_53 : decode cX4_forcesFor 53 = .ok (.iload_n 3, 1) := by decide +kernel
theorem dX4_forcesFor_54 : decode cX4_forcesFor 54 = .ok (.if_icmp .ge 39, 3) := by decide +kernel
theorem dX4_forcesFor_57 : decode cX4_forcesFor 57 = .ok (.iload 7, 2) := by decide +kernel
theorem dX4_forcesFor_59 : decode cX4_forcesFor 59 = .ok (.aload_n 0, 1) := by decide +kernel
theorem dX4_forcesFor_60 : decode cX4_forcesFor 60 = .ok (.getfield 22, 3) := by decide +kernel
theorem dX4_forcesFor_63 : decode cX4_forcesFor 63 = .ok (.iload 8, 2) := by decide +kernel
theorem dX4_forcesFor_65 : decode cX4_forcesFor 65 = .ok (.iaload, 1) := by decide +kernel
theorem dX4_forcesFor_66 : decode cX4_forcesFor 66 = .ok (.aload_n 0, 1) := by decide +kernel
theorem dX4_forcesFor_67 : decode cX4_forcesFor 67 = .ok (.getfield 25, 3) := by decide +kernel
theorem dX4_forcesFor_70 : decode cX4_forcesFor 70 = .ok (.getfield 134, 3) := by decide +kernel
theorem dX4_forcesFor_73 : decode cX4_forcesFor 73 = .ok (.imul, 1) := by decide +kernel
theorem dX4_forcesFor_74 : decode cX4_forcesFor 74 = .ok (.aload_n 1, 1) := by decide +kernel
theorem dX4_forcesFor_75 : decode cX4_forcesFor 75 = .ok (.iload_n 2, 1) := by decide +kernel
theorem dX4_forcesFor_76 : decode cX4_forcesFor 76 = .ok (.iload 8, 2) := by decide +kernel
theorem dX4_forcesFor_78 : decode cX4_forcesFor 78 = .ok (.iadd, 1) := by decide +kernel
theorem dX4_forcesFor_79 : decode cX4_forcesFor 79 = .ok (.iaload, 1) := by decide +kernel
theorem dX4_forcesFor_80 : decode cX4_forcesFor 80 = .ok (.isub, 1) := by decide +kernel
theorem dX4_forcesFor_81 : decode cX4_forcesFor 81 = .ok (.invokestatic 107, 3) := by decide +kernel
theorem dX4_forcesFor_84 : decode cX4_forcesFor 84 = .ok (.iadd, 1) := by decide +kernel
theorem dX4_forcesFor_85 : decode cX4_forcesFor 85 = .ok (.istore 7, 2) := by decide +kernel
theorem dX4_forcesFor_87 : decode cX4_forcesFor 87 = .ok (.iinc 8 1, 3) := by decide +kernel
theorem dX4_forcesFor_90 : decode cX4_forcesFor 90 = .ok (.goto (-39), 3) := by decide +kernel
theorem dX4_forcesFor_93 : decode cX4_forcesFor 93 = .ok (.iload 6, 2) := by decide +kernel
theorem dX4_forcesFor_95 : decode cX4_forcesFor 95 = .ok (.ifCond .le 15, 3) := by decide +kernel
theorem dX4_forcesFor_98 : decode cX4_forcesFor 98 = .ok (.iload 7, 2) := by decide +kernel
theorem dX4_forcesFor_100 : decode cX4_forcesFor 100 = .ok (.aload_n 0, 1) := by decide +kernel
theorem dX4_forcesFor_101 : decode cX4_forcesFor 101 = .ok (.getfield 139, 3) := by decide +kernel
theorem dX4_forcesFor_104 : decode cX4_forcesFor 104 = .ok (.if_icmp .lt 6, 3) := by decide +kernel
theorem dX4_forcesFor_107 : decode cX4_forcesFor 107 = .ok (.goto 13, 3) := by decide +kernel
theorem dX4_forcesFor_110 : decode cX4_forcesFor 110 = .ok (.aload_n 0, 1) := by decide +kernel
theorem dX4_forcesFor_111 : decode cX4_forcesFor 111 = .ok (.iload 7, 2) := by decide +kernel
theorem dX4_forcesFor_113 : decode cX4_forcesFor 113 = .ok (.putfield 139, 3) := by decide +kernel
theorem dX4_forcesFor_116 : decode cX4_forcesFor 116 = .ok (.iload 6, 2) := by decide +kernel
theorem dX4_forcesFor_118 : decode cX4_forcesFor 118 = .ok (.istore 4, 2) := by decide +kernel
theorem dX4_forcesFor_120 : decode cX4_forcesFor 120 = .ok (.iinc 6 1, 3) := by decide +kernel
theorem dX4_forcesFor_123 : decode cX4_forcesFor 123 = .ok (.goto (-92), 3) := by decide +kernel
theorem dX4_forcesFor_126 : decode cX4_forcesFor 126 = .ok (.iload 4, 2) := by decide +kernel
theorem dX4_forcesFor_128 : decode cX4_forcesFor 128 = .ok (.ireturn, 1) := by decide +kernel
set_option maxRecDepth 20000 in
theorem ggX4_playBy_X4_start : GoodIn wsX4_playBy wsX4_start := goodIn_r _ [15, 3, 16, 17, 18, 19, 20, 21, 22, 23, 24, 25, 26, 27, 28, 29, 30, 31, 32, 33, 34, 35, 36, 86, 87, 88, 89, 90, 91, 92, 93, 94, 95, 96, 97, 98, 99, 100, 101, 102, 103, 104, 105, 106] (by decide +kernel) (by decide +kernel)
set_option maxRecDepth 20000 in
theorem gX4_playBy_X4_start : GoodIn wsX4_playBy (wsV RX4 51 RX4 yX4_start wsX4_start) := goodIn_app (goodIn_of _ (by decide +kernel)) ggX4_playBy_X4_start
set_option maxRecDepth 20000 in
theorem ggX4_playBy_X8_unwinds : GoodIn wsX4_playBy wsX8_unwinds := goodIn_r _ [40, 29, 41, 42, 43, 22, 44, 27, 95, 96, 97, 98, 99, 100, 101, 102, 103, 104, 105, 106] (by decide +kernel) (by decide +kernel)
set_option maxRecDepth 20000 in
theorem gX4_playBy_X8_unwinds : GoodIn wsX4_playBy (wsV RX4 53 RX8 yX8_unwinds wsX8_unwinds) := goodIn_app (goodIn_of _ (by decide +kernel)) ggX4_playBy_X8_unwinds
set_option maxRecDepth 20000 in
theorem ggX4_playBy_X8_tick : GoodIn wsX4_playBy wsX8_tick := goodIn_r _ [48, 25, 27, 49, 50, 9, 51, 24, 52, 29, 53, 8, 10, 30, 31, 28, 54, 35, 32, 34, 55, 56, 57, 58, 59, 60, 61, 62, 63, 64, 65, 66, 67, 68, 69, 70, 71, 72, 73, 74, 75, 76, 77, 78, 79, 80, 81, 82, 83, 22, 84, 85, 36, 95, 96, 97, 98, 99, 100, 101, 102, 103, 104, 105, 106, 107, 108, 109, 110, 111, 112, 113] (by decide +kernel) (by decide +kernel)
set_option maxRecDepth 20000 in
theorem gX4_playBy_X8_tick : GoodIn wsX4_playBy (wsV RX4 57 RX8 yX8_tick wsX8_tick) := goodIn_app (goodIn_of _ (by decide +kernel)) ggX4_playBy_X8_tick
theorem dX4_playBy_0 : decode cX4_playBy 0 = .ok (.iload_n 1, 1) := by decide +kernel
theorem dX4_playBy_1 : decode cX4_playBy 1 = .ok (.istore_n 3, 1) := by decide +kernel
theorem dX4_playBy_2 : decode cX4_playBy 2 = .ok (.iload_n 2, 1) := by decide +kernel
theorem dX4_playBy_3 : decode cX4_playBy 3 = .ok (.iconst 1, 1) := by decide +kernel
theorem dX4_playBy_4 : decode cX4_playBy 4 = .ok (.isub, 1) := by decide +kernel
theorem dX4_playBy_5 : decode cX4_playBy 5 = .ok (.istore 4, 2) := by decide +kernel
theorem dX4_playBy_7 : decode cX4_playBy 7 = .ok (.iload 4, 2) := by decide +kernel
theorem dX4_playBy_9 : decode cX4_playBy 9 = .ok (.ifCond .lt 36, 3) := by decide +kernel
theorem dX4_playBy_12 : decode cX4_playBy 12 = .ok (.aload_n 0, 1) := by decide +kernel
theorem dX4_playBy_13 : decode cX4_playBy 13 = .ok (.getfield 18, 3) := by decide +kernel
theorem dX4_playBy_16 : decode cX4_playBy 16 = .ok (.iload 4, 2) := by decide +kernel
theorem dX4_playBy_18 : decode cX4_playBy 18 = .ok (.bipush 10, 2) := by decide +kernel
theorem dX4_playBy_20 : decode cX4_playBy 20 = .ok (.iload_n 3, 1) := by decide +kernel
theorem dX4_playBy_21 : decode cX4_playBy 21 = .ok (.bipush 10, 2) := by decide +kernel
theorem dX4_playBy_23 : decode cX4_playBy 23 = .ok (.irem, 1) := by decide +kernel
theorem dX4_playBy_24 : decode cX4_playBy 24 = .ok (.imul, 1) := by decide +kernel
theorem dX4_playBy_25 : decode cX4_playBy 25 = .ok (.iastore, 1) := by decide +kernel
theorem dX4_playBy_26 : decode cX4_playBy 26 = .ok (.aload_n 0, 1) := by decide +kernel
theorem dX4_playBy_27 : decode cX4_playBy 27 = .ok (.getfield 22, 3) := by decide +kernel
theorem dX4_playBy_30 : decode cX4_playBy 30 = .ok (.iload 4, 2) := by decide +kernel
theorem dX4_playBy_32 : decode cX4_playBy 32 = .ok (.iconst 0, 1) := by decide +kernel
theorem dX4_playBy_33 : decode cX4_playBy 33 = .ok (.iastore, 1) := by decide +kernel
theorem dX4_playBy_34 : decode cX4_playBy 34 = .ok (.iload_n 3, 1) := by decide +kernel
theorem dX4_playBy_35 : decode cX4_playBy 35 = .ok (.bipush 10, 2) := by decide +kernel
theorem dX4_playBy_37 : decode cX4_playBy 37 = .ok (.idiv, 1) := by decide +kernel
theorem dX4_playBy_38 : decode cX4_playBy 38 = .ok (.istore_n 3, 1) := by decide +kernel
theorem dX4_playBy_39 : decode cX4_playBy 39 = .ok (.iinc 4 (-1), 3) := by decide +kernel
theorem dX4_playBy_42 : decode cX4_playBy 42 = .ok (.goto (-35), 3) := by decide +kernel
theorem dX4_playBy_45 : decode cX4_playBy 45 = .ok (.aload_n 0, 1) := by decide +kernel
theorem dX4_playBy_46 : decode cX4_playBy 46 = .ok (.invokevirtual 51, 3) := by decide +kernel
theorem dX4_playBy_49 : decode cX4_playBy 49 = .ok (.iconst 0, 1) := by decide +kernel
theorem dX4_playBy_50 : decode cX4_playBy 50 = .ok (.istore 4, 2) := by decide +kernel
theorem dX4_playBy_52 : decode cX4_playBy 52 = .ok (.iload 4, 2) := by decide +kernel
theorem dX4_playBy_54 : decode cX4_playBy 54 = .ok (.bipush 120, 2) := by decide +kernel
theorem dX4_playBy_56 : decode cX4_playBy 56 = .ok (.if_icmp .ge 101, 3) := by decide +kernel
theorem dX4_playBy_59 : decode cX4_playBy 59 = .ok (.aload_n 0, 1) := by decide +kernel
theorem dX4_playBy_60 : decode cX4_playBy 60 = .ok (.getfield 12, 3) := by decide +kernel
theorem dX4_playBy_63 : decode cX4_playBy 63 = .ok (.getfield 43, 3) := by decide +kernel
theorem dX4_playBy_66 : decode cX4_playBy 66 = .ok (.ifCond .ne 91, 3) := by decide +kernel
theorem dX4_playBy_69 : decode cX4_playBy 69 = .ok (.aload_n 0, 1) := by decide +kernel
theorem dX4_playBy_70 : decode cX4_playBy 70 = .ok (.getfield 12, 3) := by decide +kernel
theorem dX4_playBy_73 : decode cX4_playBy 73 = .ok (.getfield 128, 3) := by decide +kernel
theorem dX4_playBy_76 : decode cX4_playBy 76 = .ok (.iload_n 2, 1) := by decide +kernel
theorem dX4_playBy_77 : decode cX4_playBy 77 = .ok (.if_icmp .ge 80, 3) := by decide +kernel
theorem dX4_playBy_80 : decode cX4_playBy 80 = .ok (.aload_n 0, 1) := by decide +kernel
theorem dX4_playBy_81 : decode cX4_playBy 81 = .ok (.getfield 12, 3) := by decide +kernel
theorem dX4_playBy_84 : decode cX4_playBy 84 = .ok (.getfield 128, 3) := by decide +kernel
theorem dX4_playBy_87 : decode cX4_playBy 87 = .ok (.istore 5, 2) := by decide +kernel
theorem dX4_playBy_89 : decode cX4_playBy 89 = .ok (.aload_n 0, 1) := by decide +kernel
theorem dX4_playBy_90 : decode cX4_playBy 90 = .ok (.getfield 12, 3) := by decide +kernel
theorem dX4_playBy_93 : decode cX4_playBy 93 = .ok (.invokevirtual 53, 3) := by decide +kernel
theorem dX4_playBy_96 : decode cX4_playBy 96 = .ok (.istore 6, 2) := by decide +kernel
theorem dX4_playBy_98 : decode cX4_playBy 98 = .ok (.aload_n 0, 1) := by decide +kernel
theorem dX4_playBy_99 : decode cX4_playBy 99 = .ok (.getfield 12, 3) := by decide +kernel
theorem dX4_playBy_102 : decode cX4_playBy 102 = .ok (.iload 6, 2) := by decide +kernel
theorem dX4_playBy_104 : decode cX4_playBy 104 = .ok (.ifCond .eq 13, 3) := by decide +kernel
theorem dX4_playBy_107 : decode cX4_playBy 107 = .ok (.aload_n 0, 1) := by decide +kernel
theorem dX4_playBy_108 : decode cX4_playBy 108 = .ok (.getfield 18, 3) := by decide +kernel
theorem dX4_playBy_111 : decode cX4_playBy 111 = .ok (.iload 5, 2) := by decide +kernel
theorem dX4_playBy_113 : decode cX4_playBy 113 = .ok (.iaload, 1) := by decide +kernel
theorem dX4_playBy_114 : decode cX4_playBy 114 = .ok (.goto 4, 3) := by decide +kernel
theorem dX4_playBy_117 : decode cX4_playBy 117 = .ok (.iconst 0, 1) := by decide +kernel
theorem dX4_playBy_118 : decode cX4_playBy 118 = .ok (.iconst 0, 1) := by decide +kernel
theorem dX4_playBy_119 : decode cX4_playBy 119 = .ok (.invokevirtual 57, 3) := by decide +kernel
theorem dX4_playBy_122 : decode cX4_playBy 122 = .ok (.iload 6, 2) := by decide +kernel
theorem dX4_playBy_124 : decode cX4_playBy 124 = .ok (.ifCond .eq 27, 3) := by decide +kernel
theorem dX4_playBy_127 : decode cX4_playBy 127 = .ok (.aload_n 0, 1) := by decide +kernel
theorem dX4_playBy_128 : decode cX4_playBy 128 = .ok (.getfield 22, 3) := by decide +kernel
theorem dX4_playBy_131 : decode cX4_playBy 131 = .ok (.iload 5, 2) := by decide +kernel
theorem dX4_playBy_133 : decode cX4_playBy 133 = .ok (.aload_n 0, 1) := by decide +kernel
theorem dX4_playBy_134 : decode cX4_playBy 134 = .ok (.getfield 22, 3) := by decide +kernel
theorem dX4_playBy_137 : decode cX4_playBy 137 = .ok (.iload 5, 2) := by decide +kernel
theorem dX4_playBy_139 : decode cX4_playBy 139 = .ok (.iaload, 1) := by decide +kernel
theorem dX4_playBy_140 : decode cX4_playBy 140 = .ok (.aload_n 0, 1) := by decide +kernel
theorem dX4_playBy_141 : decode cX4_playBy 141 = .ok (.getfield 12, 3) := by decide +kernel
theorem dX4_playBy_144 : decode cX4_playBy 144 = .ok (.getfield 120, 3) := by decide +kernel
theorem dX4_playBy_147 : decode cX4_playBy 147 = .ok (.invokestatic 110, 3) := by decide +kernel
theorem dX4_playBy_150 : decode cX4_playBy 150 = .ok (.iastore, 1) := by decide +kernel
theorem dX4_playBy_151 : decode cX4_playBy 151 = .ok (.iinc 4 1, 3) := by decide +kernel
theorem dX4_playBy_154 : decode cX4_playBy 154 = .ok (.goto (-102), 3) := by decide +kernel
theorem dX4_playBy_157 : decode cX4_playBy 157 = .ok (.return_, 1) := by decide +kernel
theorem dX5_init_0 : decode cX5_init 0 = .ok (.aload_n 0, 1) := by decide +kernel
theorem dX5_init_1 : decode cX5_init 1 = .ok (.invokespecial 1, 3) := by decide +kernel
theorem dX5_init_4 : decode cX5_init 4 = .ok (.aload_n 0, 1) := by decide +kernel
theorem dX5_init_5 : decode cX5_init 5 = .ok (.bipush 6, 2) := by decide +kernel
theorem dX5_init_7 : decode cX5_init 7 = .ok (.anewarray 9, 3) := by decide +kernel
theorem dX5_init_10 : decode cX5_init 10 = .ok (.putfield 11, 3) := by decide +kernel
theorem dX5_init_13 : decode cX5_init 13 = .ok (.return_, 1) := by decide +kernel
theorem dX5_hasRoom_0 : decode cX5_hasRoom 0 = .ok (.aload_n 0, 1) := by decide +kernel
theorem dX5_hasRoom_1 : decode cX5_hasRoom 1 = .ok (.getfield 15, 3) := by decide +kernel
theorem dX5_hasRoom_4 : decode cX5_hasRoom 4 = .ok (.bipush 6, 2) := by decide +kernel
theorem dX5_hasRoom_6 : decode cX5_hasRoom 6 = .ok (.if_icmp .ge 7, 3) := by decide +kernel
theorem dX5_hasRoom_9 : decode cX5_hasRoom 9 = .ok (.iconst 1, 1) := by decide +kernel
theorem dX5_hasRoom_10 : decode cX5_hasRoom 10 = .ok (.goto 4, 3) := by decide +kernel
theorem dX5_hasRoom_13 : decode cX5_hasRoom 13 = .ok (.iconst 0, 1) := by decide +kernel
theorem dX5_hasRoom_14 : decode cX5_hasRoom 14 = .ok (.ireturn, 1) := by decide +kernel
set_option maxRecDepth 20000 in
theorem ggX5_add_X5_hasRoom : GoodIn wsX5_add wsX5_hasRoom := goodIn_r _ [7, 2, 8, 9] (by decide +kernel) (by decide +kernel)
set_option maxRecDepth 20000 in
theorem gX5_add_X5_hasRoom : GoodIn wsX5_add (wsV RX5 19 RX5 yX5_hasRoom wsX5_hasRoom) := goodIn_app (goodIn_of _ (by decide +kernel)) ggX5_add_X5_hasRoom
theorem dX5_add_0 : decode cX5_add 0 = .ok (.aload_n 0, 1) := by decide +kernel
theorem dX5_add_1 : decode cX5_add 1 = .ok (.invokevirtual 19, 3) := by decide +kernel
theorem dX5_add_4 : decode cX5_add 4 = .ok (.ifCond .eq 20, 3) := by decide +kernel
theorem dX5_add_7 : decode cX5_add 7 = .ok (.aload_n 0, 1) := by decide +kernel
theorem dX5_add_8 : decode cX5_add 8 = .ok (.getfield 11, 3) := by decide +kernel
theorem dX5_add_11 : decode cX5_add 11 = .ok (.aload_n 0, 1) := by decide +kernel
theorem dX5_add_12 : decode cX5_add 12 = .ok (.dup, 1) := by decide +kernel
theorem dX5_add_13 : decode cX5_add 13 = .ok (.getfield 15, 3) := by decide +kernel
theorem dX5_add_16 : decode cX5_add 16 = .ok (.dup_x1, 1) := by decide +kernel
theorem dX5_add_17 : decode cX5_add 17 = .ok (.iconst 1, 1) := by decide +kernel
theorem dX5_add_18 : decode cX5_add 18 = .ok (.iadd, 1) := by decide +kernel
theorem dX5_add_19 : decode cX5_add 19 = .ok (.putfield 15, 3) := by decide +kernel
theorem dX5_add_22 : decode cX5_add 22 = .ok (.aload_n 1, 1) := by decide +kernel
theorem dX5_add_23 : decode cX5_add 23 = .ok (.aastore, 1) := by decide +kernel
theorem dX5_add_24 : decode cX5_add 24 = .ok (.return_, 1) := by decide +kernel
set_option maxRecDepth 20000 in
theorem ggX5_pullIn_X7_isMetBy : GoodIn wsX5_pullIn wsX7_isMetBy := goodIn_r _ [8, 9, 10, 11, 12, 13, 14, 15, 16, 17, 18, 19, 20, 21, 22, 23, 24, 25, 26, 27, 28, 29, 30, 31, 32, 33, 34, 35, 36, 39, 40, 41, 42, 43, 44, 45, 46, 47, 48, 49, 50, 51, 52, 53, 54, 55, 56, 57, 58] (by decide +kernel) (by decide +kernel)
set_option maxRecDepth 20000 in
theorem gX5_pullIn_X7_isMetBy : GoodIn wsX5_pullIn (wsV RX5 23 RX7 yX7_isMetBy wsX7_isMetBy) := goodIn_app (goodIn_of _ (by decide +kernel)) ggX5_pullIn_X7_isMetBy
theorem dX5_pullIn_0 : decode cX5_pullIn 0 = .ok (.iconst 0, 1) := by decide +kernel
theorem dX5_pullIn_1 : decode cX5_pullIn 1 = .ok (.istore_n 2, 1) := by decide +kernel
theorem dX5_pullIn_2 : decode cX5_pullIn 2 = .ok (.iload_n 2, 1) := by decide +kernel
theorem dX5_pullIn_3 : decode cX5_pullIn 3 = .ok (.aload_n 0, 1) := by decide +kernel
theorem dX5_pullIn_4 : decode cX5_pullIn 4 = .ok (.getfield 15, 3) := by decide +kernel
theorem dX5_pullIn_7 : decode cX5_pullIn 7 = .ok (.if_icmp .ge 32, 3) := by decide +kernel
theorem dX5_pullIn_10 : decode cX5_pullIn 10 = .ok (.aload_n 0, 1) := by decide +kernel
theorem dX5_pullIn_11 : decode cX5_pullIn 11 = .ok (.getfield 11, 3) := by decide +kernel
theorem dX5_pullIn_14 : decode cX5_pullIn 14 = .ok (.iload_n 2, 1) := by decide +kernel
theorem dX5_pullIn_15 : decode cX5_pullIn 15 = .ok (.aaload, 1) := by decide +kernel
theorem dX5_pullIn_16 : decode cX5_pullIn 16 = .ok (.aload_n 1, 1) := by decide +kernel
theorem dX5_pullIn_17 : decode cX5_pullIn 17 = .ok (.invokevirtual 23, 3) := by decide +kernel
theorem dX5_pullIn_20 : decode cX5_pullIn 20 = .ok (.ifCond .eq 13, 3) := by decide +kernel
theorem dX5_pullIn_23 : decode cX5_pullIn 23 = .ok (.aload_n 0, 1) := by decide +kernel
theorem dX5_pullIn_24 : decode cX5_pullIn 24 = .ok (.getfield 11, 3) := by decide +kernel
theorem dX5_pullIn_27 : decode cX5_pullIn 27 = .ok (.iload_n 2, 1) := by decide +kernel
theorem dX5_pullIn_28 : decode cX5_pullIn 28 = .ok (.aaload, 1) := by decide +kernel
theorem dX5_pullIn_29 : decode cX5_pullIn 29 = .ok (.getfield 27, 3) := by decide +kernel
theorem dX5_pullIn_32 : decode cX5_pullIn 32 = .ok (.ireturn, 1) := by decide +kernel
theorem dX5_pullIn_33 : decode cX5_pullIn 33 = .ok (.iinc 2 1, 3) := by decide +kernel
theorem dX5_pullIn_36 : decode cX5_pullIn 36 = .ok (.goto (-34), 3) := by decide +kernel
theorem dX5_pullIn_39 : decode cX5_pullIn 39 = .ok (.iconst 0, 1) := by decide +kernel
theorem dX5_pullIn_40 : decode cX5_pullIn 40 = .ok (.ireturn, 1) := by decide +kernel
theorem dX6_init_0 : decode cX6_init 0 = .ok (.aload_n 0, 1) := by decide +kernel
theorem dX6_init_1 : decode cX6_init 1 = .ok (.invokespecial 3, 3) := by decide +kernel
theorem dX6_init_4 : decode cX6_init 4 = .ok (.aload_n 0, 1) := by decide +kernel
theorem dX6_init_5 : decode cX6_init 5 = .ok (.bipush 40, 2) := by decide +kernel
theorem dX6_init_7 : decode cX6_init 7 = .ok (.newarray .int, 2) := by decide +kernel
theorem dX6_init_9 : decode cX6_init 9 = .ok (.putfield 9, 3) := by decide +kernel
theorem dX6_init_12 : decode cX6_init 12 = .ok (.return_, 1) := by decide +kernel
set_option maxRecDepth 20000 in
theorem ggX6_make_J7_fill_53178 : GoodIn wsX6_make wsJ7_fill_53178 := goodIn_r _ [8] (by decide +kernel) (by decide +kernel)
set_option maxRecDepth 20000 in
theorem gX6_make_J7_fill_53178 : GoodIn wsX6_make (va_wsS RX6 26 yJ7_fill_53178 wsJ7_fill_53178) := goodIn_app (goodIn_of _ (by decide +kernel)) ggX6_make_J7_fill_53178
theorem dX6_make_0 : decode cX6_make 0 = .ok (.aload_n 0, 1) := by decide +kernel
theorem dX6_make_1 : decode cX6_make 1 = .ok (.iconst 1, 1) := by decide +kernel
theorem dX6_make_2 : decode cX6_make 2 = .ok (.putfield 15, 3) := by decide +kernel
theorem dX6_make_5 : decode cX6_make 5 = .ok (.aload_n 0, 1) := by decide +kernel
theorem dX6_make_6 : decode cX6_make 6 = .ok (.iload_n 1, 1) := by decide +kernel
theorem dX6_make_7 : decode cX6_make 7 = .ok (.putfield 19, 3) := by decide +kernel
theorem dX6_make_10 : decode cX6_make 10 = .ok (.aload_n 0, 1) := by decide +kernel
theorem dX6_make_11 : decode cX6_make 11 = .ok (.iload_n 2, 1) := by decide +kernel
theorem dX6_make_12 : decode cX6_make 12 = .ok (.putfield 23, 3) := by decide +kernel
theorem dX6_make_15 : decode cX6_make 15 = .ok (.aload_n 0, 1) := by decide +kernel
theorem dX6_make_16 : decode cX6_make 16 = .ok (.getfield 9, 3) := by decide +kernel
theorem dX6_make_19 : decode cX6_make 19 = .ok (.iconst 0, 1) := by decide +kernel
theorem dX6_make_20 : decode cX6_make 20 = .ok (.invokestatic 26, 3) := by decide +kernel
theorem dX6_make_23 : decode cX6_make 23 = .ok (.return_, 1) := by decide +kernel
theorem dX6_holds_0 : decode cX6_holds 0 = .ok (.iload_n 1, 1) := by decide +kernel
theorem dX6_holds_1 : decode cX6_holds 1 = .ok (.ifCond .lt 25, 3) := by decide +kernel
theorem dX6_holds_4 : decode cX6_holds 4 = .ok (.iload_n 2, 1) := by decide +kernel
theorem dX6_holds_5 : decode cX6_holds 5 = .ok (.ifCond .lt 21, 3) := by decide +kernel
theorem dX6_holds_8 : decode cX6_holds 8 = .ok (.iload_n 1, 1) := by decide +kernel
theorem dX6_holds_9 : decode cX6_holds 9 = .ok (.i2l, 1) := by decide +kernel
theorem dX6_holds_10 : decode cX6_holds 10 = .ok (.iload_n 2, 1) := by decide +kernel
theorem dX6_holds_11 : decode cX6_holds 11 = .ok (.i2l, 1) := by decide +kernel
theorem dX6_holds_12 : decode cX6_holds 12 = .ok (.ladd, 1) := by decide +kernel
theorem dX6_holds_13 : decode cX6_holds 13 = .ok (.aload_n 0, 1) := by decide +kernel
theorem dX6_holds_14 : decode cX6_holds 14 = .ok (.getfield 23, 3) := by decide +kernel
theorem dX6_holds_17 : decode cX6_holds 17 = .ok (.i2l, 1) := by decide +kernel
theorem dX6_holds_18 : decode cX6_holds 18 = .ok (.lcmp, 1) := by decide +kernel
theorem dX6_holds_19 : decode cX6_holds 19 = .ok (.ifCond .gt 7, 3) := by decide +kernel
theorem dX6_holds_22 : decode cX6_holds 22 = .ok (.iconst 1, 1) := by decide +kernel
theorem dX6_holds_23 : decode cX6_holds 23 = .ok (.goto 4, 3) := by decide +kernel
theorem dX6_holds_26 : decode cX6_holds 26 = .ok (.iconst 0, 1) := by decide +kernel
theorem dX6_holds_27 : decode cX6_holds 27 = .ok (.ireturn, 1) := by decide +kernel
set_option maxRecDepth 20000 in
theorem ggX6_findingAt_X6_holds : GoodIn wsX6_findingAt wsX6_holds := goodIn_r _ [6, 7, 8, 9, 10, 11] (by decide +kernel) (by decide +kernel)
set_option maxRecDepth 20000 in
theorem gX6_findingAt_X6_holds : GoodIn wsX6_findingAt (wsV RX6 32 RX6 yX6_holds wsX6_holds) := goodIn_app (goodIn_of _ (by decide +kernel)) ggX6_findingAt_X6_holds
theorem dX6_findingAt_0 : decode cX6_findingAt 0 = .ok (.aload_n 0, 1) := by decide +kernel
theorem dX6_findingAt_1 : decode cX6_findingAt 1 = .ok (.getfield 15, 3) := by decide +kernel
theorem dX6_findingAt_4 : decode cX6_findingAt 4 = .ok (.ifCond .ne 5, 3) := by decide +kernel
theorem dX6_findingAt_7 : decode cX6_findingAt 7 = .ok (.iconst 1, 1) := by decide +kernel
theorem dX6_findingAt_8 : decode cX6_findingAt 8 = .ok (.ireturn, 1) := by decide +kernel
theorem dX6_findingAt_9 : decode cX6_findingAt 9 = .ok (.aload_n 0, 1) := by decide +kernel
theorem dX6_findingAt_10 : decode cX6_findingAt 10 = .ok (.iload_n 1, 1) := by decide +kernel
theorem dX6_findingAt_11 : decode cX6_findingAt 11 = .ok (.iload_n 2, 1) := by decide +kernel
theorem dX6_findingAt_12 : decode cX6_findingAt 12 = .ok (.invokevirtual 32, 3) := by decide +kernel
theorem dX6_findingAt_15 : decode cX6_findingAt 15 = .ok (.ifCond .eq 7, 3) := by decide +kernel
theorem dX6_findingAt_18 : decode cX6_findingAt 18 = .ok (.iconst 0, 1) := by decide +kernel
theorem dX6_findingAt_19 : decode cX6_findingAt 19 = .ok (.goto 4, 3) := by decide +kernel
theorem dX6_findingAt_22 : decode cX6_findingAt 22 = .ok (.iconst 2, 1) := by decide +kernel
theorem dX6_findingAt_23 : decode cX6_findingAt 23 = .ok (.ireturn, 1) := by decide +kernel
set_option maxRecDepth 20000 in
theorem ggX6_put_X6_holds : GoodIn wsX6_put wsX6_holds := goodIn_r _ [7, 8, 9, 10, 11, 12] (by decide +kernel) (by decide +kernel)
set_option maxRecDepth 20000 in
theorem gX6_put_X6_holds : GoodIn wsX6_put (wsV RX6 32 RX6 yX6_holds wsX6_holds) := goodIn_app (goodIn_of _ (by decide +kernel)) ggX6_put_X6_holds
theorem dX6_put_0 : decode cX6_put 0 = .ok (.aload_n 0, 1) := by decide +kernel
theorem dX6_put_1 : decode cX6_put 1 = .ok (.iload_n 1, 1) := by decide +kernel
theorem dX6_put_2 : decode cX6_put 2 = .ok (.iconst 1, 1) := by decide +kernel
theorem dX6_put_3 : decode cX6_put 3 = .ok (.invokevirtual 32, 3) := by decide +kernel
theorem dX6_put_6 : decode cX6_put 6 = .ok (.ifCond .ne 5, 3) := by decide +kernel
theorem dX6_put_9 : decode cX6_put 9 = .ok (.iconst 0, 1) := by decide +kernel
theorem dX6_put_10 : decode cX6_put 10 = .ok (.ireturn, 1) := by decide +kernel
theorem dX6_put_11 : decode cX6_put 11 = .ok (.aload_n 0, 1) := by decide +kernel
theorem dX6_put_12 : decode cX6_put 12 = .ok (.getfield 9, 3) := by decide +kernel
theorem dX6_put_15 : decode cX6_put 15 = .ok (.iload_n 1, 1) := by decide +kernel
theorem dX6_put_16 : decode cX6_put 16 = .ok (.aload_n 0, 1) := by decide +kernel
theorem dX6_put_17 : decode cX6_put 17 = .ok (.getfield 19, 3) := by decide +kernel
theorem dX6_put_20 : decode cX6_put 20 = .ok (.ifCond .ne 8, 3) := by decide +kernel
theorem dX6_put_23 : decode cX6_put 23 = .ok (.iload_n 2, 1) := by decide +kernel
theorem dX6_put_24 : decode cX6_put 24 = .ok (.i2b, 1) := by decide +kernel
theorem dX6_put_25 : decode cX6_put 25 = .ok (.goto 17, 3) := by decide +kernel
theorem dX6_put_28 : decode cX6_put 28 = .ok (.aload_n 0, 1) := by decide +kernel
theorem dX6_put_29 : decode cX6_put 29 = .ok (.getfield 19, 3) := by decide +kernel
theorem dX6_put_32 : decode cX6_put 32 = .ok (.iconst 1, 1) := by decide +kernel
theorem dX6_put_33 : decode cX6_put 33 = .ok (.if_icmp .ne 8, 3) := by decide +kernel
theorem dX6_put_36 : decode cX6_put 36 = .ok (.iload_n 2, 1) := by decide +kernel
theorem dX6_put_37 : decode cX6_put 37 = .ok (.i2s, 1) := by decide +kernel
theorem dX6_put_38 : decode cX6_put 38 = .ok (.goto 4, 3) := by decide +kernel
theorem dX6_put_41 : decode cX6_put 41 = .ok (.iload_n 2, 1) := by decide +kernel
theorem dX6_put_42 : decode cX6_put 42 = .ok (.iastore, 1) := by decide +kernel
theorem dX6_put_43 : decode cX6_put 43 = .ok (.aload_n 0, 1) := by decide +kernel
theorem dX6_put_44 : decode cX6_put 44 = .ok (.getfield 9, 3) := by decide +kernel
theorem dX6_put_47 : decode cX6_put 47 = .ok (.iload_n 1, 1) := by decide +kernel
theorem dX6_put_48 : decode cX6_put 48 = .ok (.iaload, 1) := by decide +kernel
theorem dX6_put_49 : decode cX6_put 49 = .ok (.ireturn, 1) := by decide +kernel
set_option maxRecDepth 20000 in
theorem ggX6_areWithin_X6_holds : GoodIn wsX6_areWithin wsX6_holds := goodIn_r _ [6, 7, 8, 9, 10, 11] (by decide +kernel) (by decide +kernel)
set_option maxRecDepth 20000 in
theorem gX6_areWithin_X6_holds : GoodIn wsX6_areWithin (wsV RX6 32 RX6 yX6_holds wsX6_holds) := goodIn_app (goodIn_of _ (by decide +kernel)) ggX6_areWithin_X6_holds
theorem dX6_areWithin_0 : decode cX6_areWithin 0 = .ok (.aload_n 0, 1) := by decide +kernel
theorem dX6_areWithin_1 : decode cX6_areWithin 1 = .ok (.iload_n 1, 1) := by decide +kernel
theorem dX6_areWithin_2 : decode cX6_areWithin 2 = .ok (.iload_n 2, 1) := by decide +kernel
theorem dX6_areWithin_3 : decode cX6_areWithin 3 = .ok (.invokevirtual 32, 3) := by decide +kernel
theorem dX6_areWithin_6 : decode cX6_areWithin 6 = .ok (.ifCond .ne 5, 3) := by decide +kernel
theorem dX6_areWithin_9 : decode cX6_areWithin 9 = .ok (.iconst 0, 1) := by decide +kernel
theorem dX6_areWithin_10 : decode cX6_areWithin 10 = .ok (.ireturn, 1) := by decide +kernel
theorem dX6_areWithin_11 : decode cX6_areWithin 11 = .ok (.iload_n 1, 1) := by decide +kernel
theorem dX6_areWithin_12 : decode cX6_areWithin 12 = .ok (.istore 4, 2) := by decide +kernel
theorem dX6_areWithin_14 : decode cX6_areWithin 14 = .ok (.iload 4, 2) := by decide +kernel
theorem dX6_areWithin_16 : decode cX6_areWithin 16 = .ok (.iload_n 1, 1) := by decide +kernel
theorem dX6_areWithin_17 : decode cX6_areWithin 17 = .ok (.iload_n 2, 1) := by decide +kernel
theorem dX6_areWithin_18 : decode cX6_areWithin 18 = .ok (.iadd, 1) := by decide +kernel
theorem dX6_areWithin_19 : decode cX6_areWithin 19 = .ok (.if_icmp .ge 32, 3) := by decide +kernel
theorem dX6_areWithin_22 : decode cX6_areWithin 22 = .ok (.aload_n 0, 1) := by decide +kernel
theorem dX6_areWithin_23 : decode cX6_areWithin 23 = .ok (.getfield 9, 3) := by decide +kernel
theorem dX6_areWithin_26 : decode cX6_areWithin 26 = .ok (.iload 4, 2) := by decide +kernel
theorem dX6_areWithin_28 : decode cX6_areWithin 28 = .ok (.iaload, 1) := by decide +kernel
theorem dX6_areWithin_29 : decode cX6_areWithin 29 = .ok (.ifCond .lt 14, 3) := by decide +kernel
theorem dX6_areWithin_32 : decode cX6_areWithin 32 = .ok (.aload_n 0, 1) := by decide +kernel
theorem dX6_areWithin_33 : decode cX6_areWithin 33 = .ok (.getfield 9, 3) := by decide +kernel
theorem dX6_areWithin_36 : decode cX6_areWithin 36 = .ok (.iload 4, 2) := by decide +kernel
theorem dX6_areWithin_38 : decode cX6_areWithin 38 = .ok (.iaload, 1) := by decide +kernel
theorem dX6_areWithin_39 : decode cX6_areWithin 39 = .ok (.iload_n 3, 1) := by decide +kernel
theorem dX6_areWithin_40 : decode cX6_areWithin 40 = .ok (.if_icmp .le 5, 3) := by decide +kernel
theorem dX6_areWithin_43 : decode cX6_areWithin 43 = .ok (.iconst 0, 1) := by decide +kernel
theorem dX6_areWithin_44 : decode cX6_areWithin 44 = .ok (.ireturn, 1) := by decide +kernel
theorem dX6_areWithin_45 : decode cX6_areWithin 45 = .ok (.iinc 4 1, 3) := by decide +kernel
theorem dX6_areWithin_48 : decode cX6_areWithin 48 = .ok (.goto (-34), 3) := by decide +kernel
theorem dX6_areWithin_51 : decode cX6_areWithin 51 = .ok (.iconst 1, 1) := by decide +kernel
theorem dX6_areWithin_52 : decode cX6_areWithin 52 = .ok (.ireturn, 1) := by decide +kernel
set_option maxRecDepth 20000 in
theorem ggX6_greatestItem_X6_holds : GoodIn wsX6_greatestItem wsX6_holds := goodIn_r _ [10, 11, 12, 13, 14, 15] (by decide +kernel) (by decide +kernel)
set_option maxRecDepth 20000 in
theorem gX6_greatestItem_X6_holds : GoodIn wsX6_greatestItem (wsV RX6 32 RX6 yX6_holds wsX6_holds) := goodIn_app (goodIn_of _ (by decide +kernel)) ggX6_greatestItem_X6_holds
theorem dX6_greatestItem_0 : decode cX6_greatestItem 0 = .ok (.iconst 0, 1) := by decide +kernel
theorem dX6_greatestItem_1 : decode cX6_greatestItem 1 = .ok (.istore_n 3, 1) := by decide +kernel
theorem dX6_greatestItem_2 : decode cX6_greatestItem 2 = .ok (.aload_n 0, 1) := by decide +kernel
theorem dX6_greatestItem_3 : decode cX6_greatestItem 3 = .ok (.iload_n 1, 1) := by decide +kernel
theorem dX6_greatestItem_4 : decode cX6_greatestItem 4 = .ok (.iload_n 2, 1) := by decide +kernel
theorem dX6_greatestItem_5 : decode cX6_greatestItem 5 = .ok (.invokevirtual 32, 3) := by decide +kernel
theorem dX6_greatestItem_8 : decode cX6_greatestItem 8 = .ok (.ifCond .ne 5, 3) := by decide +kernel
theorem dX6_greatestItem_11 : decode cX6_greatestItem 11 = .ok (.iload_n 3, 1) := by decide +kernel
theorem dX6_greatestItem_12 : decode cX6_greatestItem 12 = .ok (.ireturn, 1) := by decide +kernel
theorem dX6_greatestItem_13 : decode cX6_greatestItem 13 = .ok (.iload_n 1, 1) := by decide +kernel
theorem dX6_greatestItem_14 : decode cX6_greatestItem 14 = .ok (.istore 4, 2) := by decide +kernel
theorem dX6_greatestItem_16 : decode cX6_greatestItem 16 = .ok (.iload 4, 2) := by decide +kernel
theorem dX6_greatestItem_18 : decode cX6_greatestItem 18 = .ok (.iload_n 1, 1) := by decide +kernel
theorem dX6_greatestItem_19 : decode cX6_greatestItem 19 = .ok (.iload_n 2, 1) := by decide +kernel
theorem dX6_greatestItem_20 : decode cX6_greatestItem 20 = .ok (.iadd, 1) := by decide +kernel
theorem dX6_greatestItem_21 : decode cX6_greatestItem 21 = .ok (.if_icmp .ge 21, 3) := by decide +kernel
theorem dX6_greatestItem_24 : decode cX6_greatestItem 24 = .ok (.iload_n 3, 1) := by decide +kernel
theorem dX6_greatestItem_25 : decode cX6_greatestItem 25 = .ok (.aload_n 0, 1) := by decide +kernel
theorem dX6_greatestItem_26 : decode cX6_greatestItem 26 = .ok (.getfield 9, 3) := by decide +kernel
theorem dX6_greatestItem_29 : decode cX6_greatestItem 29 = .ok (.iload 4, 2) := by decide +kernel
theorem dX6_greatestItem_31 : decode cX6_greatestItem 31 = .ok (.iaload, 1) := by decide +kernel
theorem dX6_greatestItem_32 : decode cX6_greatestItem 32 = .ok (.invokestatic 36, 3) := by decide +kernel
theorem dX6_greatestItem_35 : decode cX6_greatestItem 35 = .ok (.istore_n 3, 1) := by decide +kernel
theorem dX6_greatestItem_36 : decode cX6_greatestItem 36 = .ok (.iinc 4 1, 3) := by decide +kernel
theorem dX6_greatestItem_39 : decode cX6_greatestItem 39 = .ok (.goto (-23), 3) := by decide +kernel
theorem dX6_greatestItem_42 : decode cX6_greatestItem 42 = .ok (.iload_n 3, 1) := by decide +kernel
theorem dX6_greatestItem_43 : decode cX6_greatestItem 43 = .ok (.ireturn, 1) := by decide +kernel
theorem dX7_init_0 : decode cX7_init 0 = .ok (.aload_n 0, 1) := by decide +kernel
theorem dX7_init_1 : decode cX7_init 1 = .ok (.invokespecial 1, 3) := by decide +kernel
theorem dX7_init_4 : decode cX7_init 4 = .ok (.aload_n 0, 1) := by decide +kernel
theorem dX7_init_5 : decode cX7_init 5 = .ok (.iload_n 1, 1) := by decide +kernel
theorem dX7_init_6 : decode cX7_init 6 = .ok (.putfield 7, 3) := by decide +kernel
theorem dX7_init_9 : decode cX7_init 9 = .ok (.aload_n 0, 1) := by decide +kernel
theorem dX7_init_10 : decode cX7_init 10 = .ok (.iload_n 2, 1) := by decide +kernel
theorem dX7_init_11 : decode cX7_init 11 = .ok (.putfield 13, 3) := by decide +kernel
theorem dX7_init_14 : decode cX7_init 14 = .ok (.aload_n 0, 1) := by decide +kernel
theorem dX7_init_15 : decode cX7_init 15 = .ok (.iload_n 3, 1) := by decide +kernel
theorem dX7_init_16 : decode cX7_init 16 = .ok (.putfield 17, 3) := by decide +kernel
theorem dX7_init_19 : decode cX7_init 19 = .ok (.aload_n 0, 1) := by decide +kernel
theorem dX7_init_20 : decode cX7_init 20 = .ok (.iload 4, 2) := by decide +kernel
theorem dX7_init_22 : decode cX7_init 22 = .ok (.putfield 20, 3) := by decide +kernel
theorem dX7_init_25 : decode cX7_init 25 = .ok (.return_, 1) := by decide +kernel
set_option maxRecDepth 20000 in
theorem ggX7_isMetBy_X8_felt : GoodIn wsX7_isMetBy wsX8_felt := goodIn_r _ [8, 9, 10, 11, 12, 13, 14, 15, 16, 17, 18, 19, 20, 21, 22, 23, 24, 25, 26, 27, 28, 33, 34, 35, 36, 37, 38, 39, 40, 41, 42, 43, 44, 45, 46, 47, 48] (by decide +kernel) (by decide +kernel)
set_option maxRecDepth 20000 in
theorem gX7_isMetBy_X8_felt : GoodIn wsX7_isMetBy (wsV RX7 23 RX8 yX8_felt wsX8_felt) := goodIn_app (goodIn_of _ (by decide +kernel)) ggX7_isMetBy_X8_felt
theorem dX7_isMetBy_0 : decode cX7_isMetBy 0 = .ok (.aload_n 1, 1) := by decide +kernel
theorem dX7_isMetBy_1 : decode cX7_isMetBy 1 = .ok (.aload_n 0, 1) := by decide +kernel
theorem dX7_isMetBy_2 : decode cX7_isMetBy 2 = .ok (.getfield 7, 3) := by decide +kernel
theorem dX7_isMetBy_5 : decode cX7_isMetBy 5 = .ok (.invokevirtual 23, 3) := by decide +kernel
theorem dX7_isMetBy_8 : decode cX7_isMetBy 8 = .ok (.istore_n 2, 1) := by decide +kernel
theorem dX7_isMetBy_9 : decode cX7_isMetBy 9 = .ok (.aload_n 0, 1) := by decide +kernel
theorem dX7_isMetBy_10 : decode cX7_isMetBy 10 = .ok (.getfield 13, 3) := by decide +kernel
theorem dX7_isMetBy_13 : decode cX7_isMetBy 13 = .ok (.ifCond .eq 19, 3) := by decide +kernel
theorem dX7_isMetBy_16 : decode cX7_isMetBy 16 = .ok (.iload_n 2, 1) := by decide +kernel
theorem dX7_isMetBy_17 : decode cX7_isMetBy 17 = .ok (.aload_n 0, 1) := by decide +kernel
theorem dX7_isMetBy_18 : decode cX7_isMetBy 18 = .ok (.getfield 17, 3) := by decide +kernel
theorem dX7_isMetBy_21 : decode cX7_isMetBy 21 = .ok (.if_icmp .le 7, 3) := by decide +kernel
theorem dX7_isMetBy_24 : decode cX7_isMetBy 24 = .ok (.iconst 1, 1) := by decide +kernel
theorem dX7_isMetBy_25 : decode cX7_isMetBy 25 = .ok (.goto 20, 3) := by decide +kernel
theorem dX7_isMetBy_28 : decode cX7_isMetBy 28 = .ok (.iconst 0, 1) := by decide +kernel
theorem dX7_isMetBy_29 : decode cX7_isMetBy 29 = .ok (.goto 16, 3) := by decide +kernel
theorem dX7_isMetBy_32 : decode cX7_isMetBy 32 = .ok (.iload_n 2, 1) := by decide +kernel
theorem dX7_isMetBy_33 : decode cX7_isMetBy 33 = .ok (.aload_n 0, 1) := by decide +kernel
theorem dX7_isMetBy_34 : decode cX7_isMetBy 34 = .ok (.getfield 17, 3) := by decide +kernel
theorem dX7_isMetBy_37 : decode cX7_isMetBy 37 = .ok (.if_icmp .ge 7, 3) := by decide +kernel
theorem dX7_isMetBy_40 : decode cX7_isMetBy 40 = .ok (.iconst 1, 1) := by decide +kernel
theorem dX7_isMetBy_41 : decode cX7_isMetBy 41 = .ok (.goto 4, 3) := by decide +kernel
theorem dX7_isMetBy_44 : decode cX7_isMetBy 44 = .ok (.iconst 0, 1) := by decide +kernel
theorem dX7_isMetBy_45 : decode cX7_isMetBy 45 = .ok (.ireturn, 1) := by decide +kernel
theorem dX8_init_0 : decode cX8_init 0 = .ok (.aload_n 0, 1) := by decide +kernel
theorem dX8_init_1 : decode cX8_init 1 = .ok (.invokespecial 3, 3) := by decide +kernel
theorem dX8_init_4 : decode cX8_init 4 = .ok (.return_, 1) := by decide +kernel
theorem dX8_start_0 : decode cX8_start 0 = .ok (.aload_n 0, 1) := by decide +kernel
theorem dX8_start_1 : decode cX8_start 1 = .ok (.aload_n 1, 1) := by decide +kernel
theorem dX8_start_2 : decode cX8_start 2 = .ok (.putfield 9, 3) := by decide +kernel
theorem dX8_start_5 : decode cX8_start 5 = .ok (.aload_n 0, 1) := by decide +kernel
theorem dX8_start_6 : decode cX8_start 6 = .ok (.aload_n 2, 1) := by decide +kernel
theorem dX8_start_7 : decode cX8_start 7 = .ok (.putfield 15, 3) := by decide +kernel
theorem dX8_start_10 : decode cX8_start 10 = .ok (.aload_n 0, 1) := by decide +kernel
theorem dX8_start_11 : decode cX8_start 11 = .ok (.aload_n 3, 1) := by decide +kernel
theorem dX8_start_12 : decode cX8_start 12 = .ok (.putfield 19, 3) := by decide +kernel
theorem dX8_start_15 : decode cX8_start 15 = .ok (.aload_n 0, 1) := by decide +kernel
theorem dX8_start_16 : decode cX8_start 16 = .ok (.iload 4, 2) := by decide +kernel
theorem dX8_start_18 : decode cX8_start 18 = .ok (.putfield 23, 3) := by decide +kernel
theorem dX8_start_21 : decode cX8_start 21 = .ok (.aload_n 0, 1) := by decide +kernel
theorem dX8_start_22 : decode cX8_start 22 = .ok (.iload 4, 2) := by decide +kernel
theorem dX8_start_24 : decode cX8_start 24 = .ok (.putfield 27, 3) := by decide +kernel
theorem dX8_start_27 : decode cX8_start 27 = .ok (.aload_n 0, 1) := by decide +kernel
theorem dX8_start_28 : decode cX8_start 28 = .ok (.iconst 0, 1) := by decide +kernel
theorem dX8_start_29 : decode cX8_start 29 = .ok (.putfield 30, 3) := by decide +kernel
theorem dX8_start_32 : decode cX8_start 32 = .ok (.aload_n 0, 1) := by decide +kernel
theorem dX8_start_33 : decode cX8_start 33 = .ok (.iconst 0, 1) := by decide +kernel
theorem dX8_start_34 : decode cX8_start 34 = .ok (.putfield 33, 3) := by decide +kernel
theorem dX8_start_37 : decode cX8_start 37 = .ok (.aload_n 0, 1) := by decide +kernel
theorem dX8_start_38 : decode cX8_start 38 = .ok (.iconst 0, 1) := by decide +kernel
theorem dX8_start_39 : decode cX8_start 39 = .ok (.putfield 36, 3) := by decide +kernel
theorem dX8_start_42 : decode cX8_start 42 = .ok (.aload_n 0, 1) := by decide +kernel
theorem dX8_start_43 : decode cX8_start 43 = .ok (.iconst 0, 1) := by decide +kernel
theorem dX8_start_44 : decode cX8_start 44 = .ok (.putfield 39, 3) := by decide +kernel
theorem dX8_start_47 : decode cX8_start 47 = .ok (.aload_n 0, 1) := by decide +kernel
theorem dX8_start_48 : decode cX8_start 48 = .ok (.ldc 42, 2) := by decide +kernel
theorem dX8_start_50 : decode cX8_start 50 = .ok (.putfield 43, 3) := by decide +kernel
theorem dX8_start_53 : decode cX8_start 53 = .ok (.aload_n 0, 1) := by decide +kernel
theorem dX8_start_54 : decode cX8_start 54 = .ok (.iconst 0, 1) := by decide +kernel
theorem dX8_start_55 : decode cX8_start 55 = .ok (.putfield 46, 3) := by decide +kernel
theorem dX8_start_58 : decode cX8_start 58 = .ok (.aload_n 0, 1) := by decide +kernel
theorem dX8_start_59 : decode cX8_start 59 = .ok (.iconst 0, 1) := by decide +kernel
theorem dX8_start_60 : decode cX8_start 60 = .ok (.putfield 49, 3) := by decide +kernel
theorem dX8_start_63 : decode cX8_start 63 = .ok (.return_, 1) := by decide +kernel
theorem dX8_end_0 : decode cX8_end 0 = .ok (.aload_n 0, 1) := by decide +kernel
theorem dX8_end_1 : decode cX8_end 1 = .ok (.aconst_null, 1) := by decide +kernel
theorem dX8_end_2 : decode cX8_end 2 = .ok (.putfield 19, 3) := by decide +kernel
theorem dX8_end_5 : decode cX8_end 5 = .ok (.return_, 1) := by decide +kernel
theorem dX8_become_0 : decode cX8_become 0 = .ok (.aload_n 0, 1) := by decide +kernel
theorem dX8_become_1 : decode cX8_become 1 = .ok (.aload_n 1, 1) := by decide +kernel
theorem dX8_become_2 : decode cX8_become 2 = .ok (.getfield 9, 3) := by decide +kernel
theorem dX8_become_5 : decode cX8_become 5 = .ok (.putfield 9, 3) := by decide +kernel
theorem dX8_become_8 : decode cX8_become 8 = .ok (.aload_n 0, 1) := by decide +kernel
theorem dX8_become_9 : decode cX8_become 9 = .ok (.aload_n 1, 1) := by decide +kernel
theorem dX8_become_10 : decode cX8_become 10 = .ok (.getfield 15, 3) := by decide +kernel
theorem dX8_become_13 : decode cX8_become 13 = .ok (.putfield 15, 3) := by decide +kernel
theorem dX8_become_16 : decode cX8_become 16 = .ok (.aload_n 0, 1) := by decide +kernel
theorem dX8_become_17 : decode cX8_become 17 = .ok (.aload_n 1, 1) := by decide +kernel
theorem dX8_become_18 : decode cX8_become 18 = .ok (.getfield 19, 3) := by decide +kernel
theorem dX8_become_21 : decode cX8_become 21 = .ok (.putfield 19, 3) := by decide +kernel
theorem dX8_become_24 : decode cX8_become 24 = .ok (.aload_n 0, 1) := by decide +kernel
theorem dX8_become_25 : decode cX8_become 25 = .ok (.aload_n 1, 1) := by decide +kernel
theorem dX8_become_26 : decode cX8_become 26 = .ok (.getfield 23, 3) := by decide +kernel
theorem dX8_become_29 : decode cX8_become 29 = .ok (.putfield 23, 3) := by decide +kernel
theorem dX8_become_32 : decode cX8_become 32 = .ok (.aload_n 0, 1) := by decide +kernel
theorem dX8_become_33 : decode cX8_become 33 = .ok (.aload_n 1, 1) := by decide +kernel
theorem dX8_become_34 : decode cX8_become 34 = .ok (.getfield 27, 3) := by decide +kernel
theorem dX8_become_37 : decode cX8_become 37 = .ok (.putfield 27, 3) := by decide +kernel
theorem dX8_become_40 : decode cX8_become 40 = .ok (.aload_n 0, 1) := by decide +kernel
theorem dX8_become_41 : decode cX8_become 41 = .ok (.aload_n 1, 1) := by decide +kernel
theorem dX8_become_42 : decode cX8_become 42 = .ok (.getfield 30, 3) := by decide +kernel
theorem dX8_become_45 : decode cX8_become 45 = .ok (.putfield 30, 3) := by decide +kernel
theorem dX8_become_48 : decode cX8_become 48 = .ok (.aload_n 0, 1) := by decide +kernel
theorem dX8_become_49 : decode cX8_become 49 = .ok (.aload_n 1, 1) := by decide +kernel
theorem dX8_become_50 : decode cX8_become 50 = .ok (.getfield 33, 3) := by decide +kernel
theorem dX8_become_53 : decode cX8_become 53 = .ok (.putfield 33, 3) := by decide +kernel
theorem dX8_become_56 : decode cX8_become 56 = .ok (.aload_n 0, 1) := by decide +kernel
theorem dX8_become_57 : decode cX8_become 57 = .ok (.aload_n 1, 1) := by decide +kernel
theorem dX8_become_58 : decode cX8_become 58 = .ok (.getfield 36, 3) := by decide +kernel
theorem dX8_become_61 : decode cX8_become 61 = .ok (.putfield 36, 3) := by decide +kernel
theorem dX8_become_64 : decode cX8_become 64 = .ok (.aload_n 0, 1) := by decide +kernel
theorem dX8_become_65 : decode cX8_become 65 = .ok (.aload_n 1, 1) := by decide +kernel
theorem dX8_become_66 : decode cX8_become 66 = .ok (.getfield 39, 3) := by decide +kernel
theorem dX8_become_69 : decode cX8_become 69 = .ok (.putfield 39, 3) := by decide +kernel
theorem dX8_become_72 : decode cX8_become 72 = .ok (.aload_n 0, 1) := by decide +kernel
theorem dX8_become_73 : decode cX8_become 73 = .ok (.aload_n 1, 1) := by decide +kernel
theorem dX8_become_74 : decode cX8_become 74 = .ok (.getfield 43, 3) := by decide +kernel
theorem dX8_become_77 : decode cX8_become 77 = .ok (.putfield 43, 3) := by decide +kernel
theorem dX8_become_80 : decode cX8_become 80 = .ok (.aload_n 0, 1) := by decide +kernel
theorem dX8_become_81 : decode cX8_become 81 = .ok (.aload_n 1, 1) := by decide +kernel
theorem dX8_become_82 : decode cX8_become 82 = .ok (.getfield 46, 3) := by decide +kernel
theorem dX8_become_85 : decode cX8_become 85 = .ok (.putfield 46, 3) := by decide +kernel
theorem dX8_become_88 : decode cX8_become 88 = .ok (.aload_n 0, 1) := by decide +kernel
theorem dX8_become_89 : decode cX8_become 89 = .ok (.aload_n 1, 1) := by decide +kernel
theorem dX8_become_90 : decode cX8_become 90 = .ok (.getfield 49, 3) := by decide +kernel
theorem dX8_become_93 : decode cX8_become 93 = .ok (.putfield 49, 3) := by decide +kernel
theorem dX8_become_96 : decode cX8_become 96 = .ok (.return_, 1) := by decide +kernel
set_option maxRecDepth 20000 in
theorem ggX8_felt_X2_shortBy : GoodIn wsX8_felt wsX2_shortBy := goodIn_r _ [14, 15, 16, 17, 18, 13, 19, 20, 33, 34, 35, 36] (by decide +kernel) (by decide +kernel)
set_option maxRecDepth 20000 in
theorem gX8_felt_X2_shortBy : GoodIn wsX8_felt (wsV RX8 59 RX2 yX2_shortBy wsX2_shortBy) := goodIn_app (goodIn_of _ (by decide +kernel)) ggX8_felt_X2_shortBy
theorem dX8_felt_0 : decode cX8_felt 0 = .ok (.iload_n 1, 1) := by decide +kernel
theorem dX8_felt_1 : decode cX8_felt 1 = .ok (.tableswitch 73 0 2 #[27, 35, 43], 27) := by decide +kernel
theorem dX8_felt_28 : decode cX8_felt 28 = .ok (.aload_n 0, 1) := by decide +kernel
theorem dX8_felt_29 : decode cX8_felt 29 = .ok (.getfield 23, 3) := by decide +kernel
theorem dX8_felt_32 : decode cX8_felt 32 = .ok (.invokestatic 53, 3) := by decide +kernel
theorem dX8_felt_35 : decode cX8_felt 35 = .ok (.ireturn, 1) := by decide +kernel
theorem dX8_felt_36 : decode cX8_felt 36 = .ok (.aload_n 0, 1) := by decide +kernel
theorem dX8_felt_37 : decode cX8_felt 37 = .ok (.getfield 30, 3) := by decide +kernel
theorem dX8_felt_40 : decode cX8_felt 40 = .ok (.invokestatic 53, 3) := by decide +kernel
theorem dX8_felt_43 : decode cX8_felt 43 = .ok (.ireturn, 1) := by decide +kernel
theorem dX8_felt_44 : decode cX8_felt 44 = .ok (.aload_n 0, 1) := by decide +kernel
theorem dX8_felt_45 : decode cX8_felt 45 = .ok (.getfield 15, 3) := by decide +kernel
theorem dX8_felt_48 : decode cX8_felt 48 = .ok (.aload_n 0, 1) := by decide +kernel
theorem dX8_felt_49 : decode cX8_felt 49 = .ok (.getfield 23, 3) := by decide +kernel
theorem dX8_felt_52 : decode cX8_felt 52 = .ok (.invokestatic 53, 3) := by decide +kernel
theorem dX8_felt_55 : decode cX8_felt 55 = .ok (.invokevirtual 59, 3) := by decide +kernel
theorem dX8_felt_58 : decode cX8_felt 58 = .ok (.aload_n 0, 1) := by decide +kernel
theorem dX8_felt_59 : decode cX8_felt 59 = .ok (.getfield 15, 3) := by decide +kernel
theorem dX8_felt_62 : decode cX8_felt 62 = .ok (.aload_n 0, 1) := by decide +kernel
theorem dX8_felt_63 : decode cX8_felt 63 = .ok (.getfield 27, 3) := by decide +kernel
theorem dX8_felt_66 : decode cX8_felt 66 = .ok (.invokestatic 53, 3) := by decide +kernel
theorem dX8_felt_69 : decode cX8_felt 69 = .ok (.invokevirtual 59, 3) := by decide +kernel
theorem dX8_felt_72 : decode cX8_felt 72 = .ok (.isub, 1) := by decide +kernel
theorem dX8_felt_73 : decode cX8_felt 73 = .ok (.ireturn, 1) := by decide +kernel
theorem dX8_felt_74 : decode cX8_felt 74 = .ok (.aload_n 0, 1) := by decide +kernel
theorem dX8_felt_75 : decode cX8_felt 75 = .ok (.getfield 39, 3) := by decide +kernel
theorem dX8_felt_78 : decode cX8_felt 78 = .ok (.ireturn, 1) := by decide +kernel
set_option maxRecDepth 20000 in
theorem ggX8_unwinds_X8_isTurningBack : GoodIn wsX8_unwinds wsX8_isTurningBack := goodIn_r _ [6, 1, 7, 8, 9, 10, 11, 12, 13, 14, 15, 16, 17, 18, 19] (by decide +kernel) (by decide +kernel)
set_option maxRecDepth 20000 in
theorem gX8_unwinds_X8_isTurningBack : GoodIn wsX8_unwinds (wsV RX8 64 RX8 yX8_isTurningBack wsX8_isTurningBack) := goodIn_app (goodIn_of _ (by decide +kernel)) ggX8_unwinds_X8_isTurningBack
theorem dX8_unwinds_0 : decode cX8_unwinds 0 = .ok (.aload_n 0, 1) := by decide +kernel
theorem dX8_unwinds_1 : decode cX8_unwinds 1 = .ok (.getfield 30, 3) := by decide +kernel
theorem dX8_unwinds_4 : decode cX8_unwinds 4 = .ok (.ifCond .eq 10, 3) := by decide +kernel
theorem dX8_unwinds_7 : decode cX8_unwinds 7 = .ok (.aload_n 0, 1) := by decide +kernel
theorem dX8_unwinds_8 : decode cX8_unwinds 8 = .ok (.invokevirtual 64, 3) := by decide +kernel
theorem dX8_unwinds_11 : decode cX8_unwinds 11 = .ok (.ifCond .eq 7, 3) := by decide +kernel
theorem dX8_unwinds_14 : decode cX8_unwinds 14 = .ok (.iconst 1, 1) := by decide +kernel
theorem dX8_unwinds_15 : decode cX8_unwinds 15 = .ok (.goto 4, 3) := by decide +kernel
theorem dX8_unwinds_18 : decode cX8_unwinds 18 = .ok (.iconst 0, 1) := by decide +kernel
theorem dX8_unwinds_19 : decode cX8_unwinds 19 = .ok (.ireturn, 1) := by decide +kernel
theorem dX8_isTurningBack_0 : decode cX8_isTurningBack 0 = .ok (.aload_n 0, 1) := by decide +kernel
theorem dX8_isTurningBack_1 : decode cX8_isTurningBack 1 = .ok (.getfield 30, 3) := by decide +kernel
theorem dX8_isTurningBack_4 : decode cX8_isTurningBack 4 = .ok (.ifCond .ge 10, 3) := by decide +kernel
theorem dX8_isTurningBack_7 : decode cX8_isTurningBack 7 = .ok (.aload_n 0, 1) := by decide +kernel
theorem dX8_isTurningBack_8 : decode cX8_isTurningBack 8 = .ok (.getfield 23, 3) := by decide +kernel
theorem dX8_isTurningBack_11 : decode cX8_isTurningBack 11 = .ok (.ifCond .gt 17, 3) := by decide +kernel
theorem dX8_isTurningBack_14 : decode cX8_isTurningBack 14 = .ok (.aload_n 0, 1) := by decide +kernel
theorem dX8_isTurningBack_15 : decode cX8_isTurningBack 15 = .ok (.getfield 30, 3) := by decide +kernel
theorem dX8_isTurningBack_18 : decode cX8_isTurningBack 18 = .ok (.ifCond .le 14, 3) := by decide +kernel
theorem dX8_isTurningBack_21 : decode cX8_isTurningBack 21 = .ok (.aload_n 0, 1) := by decide +kernel
theorem dX8_isTurningBack_22 : decode cX8_isTurningBack 22 = .ok (.getfield 23, 3) := by decide +kernel
theorem dX8_isTurningBack_25 : decode cX8_isTurningBack 25 = .ok (.ifCond .ge 7, 3) := by decide +kernel
theorem dX8_isTurningBack_28 : decode cX8_isTurningBack 28 = .ok (.iconst 1, 1) := by decide +kernel
theorem dX8_isTurningBack_29 : decode cX8_isTurningBack 29 = .ok (.goto 4, 3) := by decide +kernel
theorem dX8_isTurningBack_32 : decode cX8_isTurningBack 32 = .ok (.iconst 0, 1) := by decide +kernel
theorem dX8_isTurningBack_33 : decode cX8_isTurningBack 33 = .ok (.ireturn, 1) := by decide +kernel
set_option maxRecDepth 20000 in
theorem ggX8_tick_X2_slopeAt : GoodIn wsX8_tick wsX2_slopeAt := goodIn_r _ [24, 25, 26, 27, 23, 28, 29, 30, 31, 32, 33, 34, 68, 69, 70, 71] (by decide +kernel) (by decide +kernel)
set_option maxRecDepth 20000 in
theorem gX8_tick_X2_slopeAt : GoodIn wsX8_tick (wsV RX8 68 RX2 yX2_slopeAt wsX2_slopeAt) := goodIn_app (goodIn_of _ (by decide +kernel)) ggX8_tick_X2_slopeAt
set_option maxRecDepth 20000 in
theorem ggX8_tick_X3_behindAir : GoodIn wsX8_tick wsX3_behindAir := goodIn_r _ [39, 40, 41, 42, 43, 44, 5, 45, 65, 66, 67] (by decide +kernel) (by decide +kernel)
set_option maxRecDepth 20000 in
theorem gX8_tick_X3_behindAir : GoodIn wsX8_tick (wsV RX8 76 RX3 yX3_behindAir wsX3_behindAir) := goodIn_app (goodIn_of _ (by decide +kernel)) ggX8_tick_X3_behindAir
set_option maxRecDepth 20000 in
theorem ggX8_tick_X8_stop : GoodIn wsX8_tick wsX8_stop := goodIn_r _ [50, 2, 1, 16, 13, 51, 52, 9, 53, 54, 55, 56, 57, 58, 59, 60, 61, 62, 63, 64, 68, 69, 70, 71] (by decide +kernel) (by decide +kernel)
set_option maxRecDepth 20000 in
theorem gX8_tick_X8_stop : GoodIn wsX8_tick (wsV RX8 86 RX8 yX8_stop wsX8_stop) := goodIn_app (goodIn_of _ (by decide +kernel)) ggX8_tick_X8_stop
theorem dX8_tick_0 : decode cX8_tick 0 = .ok (.iload_n 1, 1) := by decide +kernel
theorem dX8_tick_1 : decode cX8_tick 1 = .ok (.aload_n 0, 1) := by decide +kernel
theorem dX8_tick_2 : decode cX8_tick 2 = .ok (.getfield 15, 3) := by decide +kernel
theorem dX8_tick_5 : decode cX8_tick 5 = .ok (.aload_n 0, 1) := by decide +kernel
theorem dX8_tick_6 : decode cX8_tick 6 = .ok (.getfield 23, 3) := by decide +kernel
theorem dX8_tick_9 : decode cX8_tick 9 = .ok (.invokestatic 53, 3) := by decide +kernel
theorem dX8_tick_12 : decode cX8_tick 12 = .ok (.invokevirtual 68, 3) := by decide +kernel
theorem dX8_tick_15 : decode cX8_tick 15 = .ok (.imul, 1) := by decide +kernel
theorem dX8_tick_16 : decode cX8_tick 16 = .ok (.bipush 10, 2) := by decide +kernel
theorem dX8_tick_18 : decode cX8_tick 18 = .ok (.imul, 1) := by decide +kernel
theorem dX8_tick_19 : decode cX8_tick 19 = .ok (.aload_n 0, 1) := by decide +kernel
theorem dX8_tick_20 : decode cX8_tick 20 = .ok (.getfield 9, 3) := by decide +kernel
theorem dX8_tick_23 : decode cX8_tick 23 = .ok (.getfield 71, 3) := by decide +kernel
theorem dX8_tick_26 : decode cX8_tick 26 = .ok (.idiv, 1) := by decide +kernel
theorem dX8_tick_27 : decode cX8_tick 27 = .ok (.istore_n 3, 1) := by decide +kernel
theorem dX8_tick_28 : decode cX8_tick 28 = .ok (.aload_n 0, 1) := by decide +kernel
theorem dX8_tick_29 : decode cX8_tick 29 = .ok (.getfield 23, 3) := by decide +kernel
theorem dX8_tick_32 : decode cX8_tick 32 = .ok (.ifCond .le 12, 3) := by decide +kernel
theorem dX8_tick_35 : decode cX8_tick 35 = .ok (.aload_n 0, 1) := by decide +kernel
theorem dX8_tick_36 : decode cX8_tick 36 = .ok (.getfield 30, 3) := by decide +kernel
theorem dX8_tick_39 : decode cX8_tick 39 = .ok (.iload_n 3, 1) := by decide +kernel
theorem dX8_tick_40 : decode cX8_tick 40 = .ok (.isub, 1) := by decide +kernel
theorem dX8_tick_41 : decode cX8_tick 41 = .ok (.goto 9, 3) := by decide +kernel
theorem dX8_tick_44 : decode cX8_tick 44 = .ok (.aload_n 0, 1) := by decide +kernel
theorem dX8_tick_45 : decode cX8_tick 45 = .ok (.getfield 30, 3) := by decide +kernel
theorem dX8_tick_48 : decode cX8_tick 48 = .ok (.iload_n 3, 1) := by decide +kernel
theorem dX8_tick_49 : decode cX8_tick 49 = .ok (.iadd, 1) := by decide +kernel
theorem dX8_tick_50 : decode cX8_tick 50 = .ok (.istore 4, 2) := by decide +kernel
theorem dX8_tick_52 : decode cX8_tick 52 = .ok (.aload_n 0, 1) := by decide +kernel
theorem dX8_tick_53 : decode cX8_tick 53 = .ok (.iconst 0, 1) := by decide +kernel
theorem dX8_tick_54 : decode cX8_tick 54 = .ok (.aload_n 0, 1) := by decide +kernel
theorem dX8_tick_55 : decode cX8_tick 55 = .ok (.getfield 9, 3) := by decide +kernel
theorem dX8_tick_58 : decode cX8_tick 58 = .ok (.iload 4, 2) := by decide +kernel
theorem dX8_tick_60 : decode cX8_tick 60 = .ok (.invokestatic 53, 3) := by decide +kernel
theorem dX8_tick_63 : decode cX8_tick 63 = .ok (.invokevirtual 76, 3) := by decide +kernel
theorem dX8_tick_66 : decode cX8_tick 66 = .ok (.iload_n 2, 1) := by decide +kernel
theorem dX8_tick_67 : decode cX8_tick 67 = .ok (.isub, 1) := by decide +kernel
theorem dX8_tick_68 : decode cX8_tick 68 = .ok (.invokestatic 79, 3) := by decide +kernel
theorem dX8_tick_71 : decode cX8_tick 71 = .ok (.putfield 33, 3) := by decide +kernel
theorem dX8_tick_74 : decode cX8_tick 74 = .ok (.aload_n 0, 1) := by decide +kernel
theorem dX8_tick_75 : decode cX8_tick 75 = .ok (.iload 4, 2) := by decide +kernel
theorem dX8_tick_77 : decode cX8_tick 77 = .ok (.ifCond .ge 11, 3) := by decide +kernel
theorem dX8_tick_80 : decode cX8_tick 80 = .ok (.aload_n 0, 1) := by decide +kernel
theorem dX8_tick_81 : decode cX8_tick 81 = .ok (.getfield 33, 3) := by decide +kernel
theorem dX8_tick_84 : decode cX8_tick 84 = .ok (.ineg, 1) := by decide +kernel
theorem dX8_tick_85 : decode cX8_tick 85 = .ok (.goto 7, 3) := by decide +kernel
theorem dX8_tick_88 : decode cX8_tick 88 = .ok (.aload_n 0, 1) := by decide +kernel
theorem dX8_tick_89 : decode cX8_tick 89 = .ok (.getfield 33, 3) := by decide +kernel
theorem dX8_tick_92 : decode cX8_tick 92 = .ok (.putfield 30, 3) := by decide +kernel
theorem dX8_tick_95 : decode cX8_tick 95 = .ok (.aload_n 0, 1) := by decide +kernel
theorem dX8_tick_96 : decode cX8_tick 96 = .ok (.aload_n 0, 1) := by decide +kernel
theorem dX8_tick_97 : decode cX8_tick 97 = .ok (.getfield 36, 3) := by decide +kernel
theorem dX8_tick_100 : decode cX8_tick 100 = .ok (.aload_n 0, 1) := by decide +kernel
theorem dX8_tick_101 : decode cX8_tick 101 = .ok (.getfield 33, 3) := by decide +kernel
theorem dX8_tick_104 : decode cX8_tick 104 = .ok (.invokestatic 79, 3) := by decide +kernel
theorem dX8_tick_107 : decode cX8_tick 107 = .ok (.putfield 36, 3) := by decide +kernel
theorem dX8_tick_110 : decode cX8_tick 110 = .ok (.aload_n 0, 1) := by decide +kernel
theorem dX8_tick_111 : decode cX8_tick 111 = .ok (.aload_n 0, 1) := by decide +kernel
theorem dX8_tick_112 : decode cX8_tick 112 = .ok (.getfield 23, 3) := by decide +kernel
theorem dX8_tick_115 : decode cX8_tick 115 = .ok (.putfield 27, 3) := by decide +kernel
theorem dX8_tick_118 : decode cX8_tick 118 = .ok (.aload_n 0, 1) := by decide +kernel
theorem dX8_tick_119 : decode cX8_tick 119 = .ok (.dup, 1) := by decide +kernel
theorem dX8_tick_120 : decode cX8_tick 120 = .ok (.getfield 23, 3) := by decide +kernel
theorem dX8_tick_123 : decode cX8_tick 123 = .ok (.aload_n 0, 1) := by decide +kernel
theorem dX8_tick_124 : decode cX8_tick 124 = .ok (.getfield 30, 3) := by decide +kernel
theorem dX8_tick_127 : decode cX8_tick 127 = .ok (.iadd, 1) := by decide +kernel
theorem dX8_tick_128 : decode cX8_tick 128 = .ok (.putfield 23, 3) := by decide +kernel
theorem dX8_tick_131 : decode cX8_tick 131 = .ok (.aload_n 0, 1) := by decide +kernel
theorem dX8_tick_132 : decode cX8_tick 132 = .ok (.getfield 23, 3) := by decide +kernel
theorem dX8_tick_135 : decode cX8_tick 135 = .ok (.invokestatic 53, 3) := by decide +kernel
theorem dX8_tick_138 : decode cX8_tick 138 = .ok (.aload_n 0, 1) := by decide +kernel
theorem dX8_tick_139 : decode cX8_tick 139 = .ok (.getfield 15, 3) := by decide +kernel
theorem dX8_tick_142 : decode cX8_tick 142 = .ok (.getfield 83, 3) := by decide +kernel
theorem dX8_tick_145 : decode cX8_tick 145 = .ok (.if_icmp .le 7, 3) := by decide +kernel
theorem dX8_tick_148 : decode cX8_tick 148 = .ok (.aload_n 0, 1) := by decide +kernel
theorem dX8_tick_149 : decode cX8_tick 149 = .ok (.invokevirtual 86, 3) := by decide +kernel
theorem dX8_tick_152 : decode cX8_tick 152 = .ok (.aload_n 0, 1) := by decide +kernel
theorem dX8_tick_153 : decode cX8_tick 153 = .ok (.getfield 27, 3) := by decide +kernel

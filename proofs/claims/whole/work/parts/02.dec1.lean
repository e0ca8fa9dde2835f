theorem dX8_tick_156 : decode cX8_tick 156 = .ok (.ifCond .eq 47, 3) := by decide +kernel
theorem dX8_tick_159 : decode cX8_tick 159 = .ok (.aload_n 0, 1) := by decide +kernel
theorem dX8_tick_160 : decode cX8_tick 160 = .ok (.getfield 23, 3) := by decide +kernel
theorem dX8_tick_163 : decode cX8_tick 163 = .ok (.ifCond .eq 30, 3) := by decide +kernel
theorem dX8_tick_166 : decode cX8_tick 166 = .ok (.aload_n 0, 1) := by decide +kernel
theorem dX8_tick_167 : decode cX8_tick 167 = .ok (.getfield 23, 3) := by decide +kernel
theorem dX8_tick_170 : decode cX8_tick 170 = .ok (.ifCond .ge 7, 3) := by decide +kernel
theorem dX8_tick_173 : decode cX8_tick 173 = .ok (.iconst 1, 1) := by decide +kernel
theorem dX8_tick_174 : decode cX8_tick 174 = .ok (.goto 4, 3) := by decide +kernel
theorem dX8_tick_177 : decode cX8_tick 177 = .ok (.iconst 0, 1) := by decide +kernel
theorem dX8_tick_178 : decode cX8_tick 178 = .ok (.aload_n 0, 1) := by decide +kernel
theorem dX8_tick_179 : decode cX8_tick 179 = .ok (.getfield 27, 3) := by decide +kernel
theorem dX8_tick_182 : decode cX8_tick 182 = .ok (.ifCond .ge 7, 3) := by decide +kernel
theorem dX8_tick_185 : decode cX8_tick 185 = .ok (.iconst 1, 1) := by decide +kernel
theorem dX8_tick_186 : decode cX8_tick 186 = .ok (.goto 4, 3) := by decide +kernel
theorem dX8_tick_189 : decode cX8_tick 189 = .ok (.iconst 0, 1) := by decide +kernel
theorem dX8_tick_190 : decode cX8_tick 190 = .ok (.if_icmp .eq 13, 3) := by decide +kernel
theorem dX8_tick_193 : decode cX8_tick 193 = .ok (.aload_n 0, 1) := by decide +kernel
theorem dX8_tick_194 : decode cX8_tick 194 = .ok (.dup, 1) := by decide +kernel
theorem dX8_tick_195 : decode cX8_tick 195 = .ok (.getfield 46, 3) := by decide +kernel
theorem dX8_tick_198 : decode cX8_tick 198 = .ok (.iconst 1, 1) := by decide +kernel
theorem dX8_tick_199 : decode cX8_tick 199 = .ok (.iadd, 1) := by decide +kernel
theorem dX8_tick_200 : decode cX8_tick 200 = .ok (.putfield 46, 3) := by decide +kernel
theorem dX8_tick_203 : decode cX8_tick 203 = .ok (.aload_n 0, 1) := by decide +kernel
theorem dX8_tick_204 : decode cX8_tick 204 = .ok (.dup, 1) := by decide +kernel
theorem dX8_tick_205 : decode cX8_tick 205 = .ok (.getfield 39, 3) := by decide +kernel
theorem dX8_tick_208 : decode cX8_tick 208 = .ok (.iconst 1, 1) := by decide +kernel
theorem dX8_tick_209 : decode cX8_tick 209 = .ok (.iadd, 1) := by decide +kernel
theorem dX8_tick_210 : decode cX8_tick 210 = .ok (.putfield 39, 3) := by decide +kernel
theorem dX8_tick_213 : decode cX8_tick 213 = .ok (.aload_n 0, 1) := by decide +kernel
theorem dX8_tick_214 : decode cX8_tick 214 = .ok (.iload_n 1, 1) := by decide +kernel
theorem dX8_tick_215 : decode cX8_tick 215 = .ok (.putfield 43, 3) := by decide +kernel
theorem dX8_tick_218 : decode cX8_tick 218 = .ok (.return_, 1) := by decide +kernel
theorem dX8_stop_0 : decode cX8_stop 0 = .ok (.aload_n 0, 1) := by decide +kernel
theorem dX8_stop_1 : decode cX8_stop 1 = .ok (.aload_n 0, 1) := by decide +kernel
theorem dX8_stop_2 : decode cX8_stop 2 = .ok (.getfield 23, 3) := by decide +kernel
theorem dX8_stop_5 : decode cX8_stop 5 = .ok (.ifCond .ge 14, 3) := by decide +kernel
theorem dX8_stop_8 : decode cX8_stop 8 = .ok (.aload_n 0, 1) := by decide +kernel
theorem dX8_stop_9 : decode cX8_stop 9 = .ok (.getfield 15, 3) := by decide +kernel
theorem dX8_stop_12 : decode cX8_stop 12 = .ok (.getfield 83, 3) := by decide +kernel
theorem dX8_stop_15 : decode cX8_stop 15 = .ok (.ineg, 1) := by decide +kernel
theorem dX8_stop_16 : decode cX8_stop 16 = .ok (.goto 10, 3) := by decide +kernel
theorem dX8_stop_19 : decode cX8_stop 19 = .ok (.aload_n 0, 1) := by decide +kernel
theorem dX8_stop_20 : decode cX8_stop 20 = .ok (.getfield 15, 3) := by decide +kernel
theorem dX8_stop_23 : decode cX8_stop 23 = .ok (.getfield 83, 3) := by decide +kernel
theorem dX8_stop_26 : decode cX8_stop 26 = .ok (.putfield 23, 3) := by decide +kernel
theorem dX8_stop_29 : decode cX8_stop 29 = .ok (.aload_n 0, 1) := by decide +kernel
theorem dX8_stop_30 : decode cX8_stop 30 = .ok (.aload_n 0, 1) := by decide +kernel
theorem dX8_stop_31 : decode cX8_stop 31 = .ok (.getfield 33, 3) := by decide +kernel
theorem dX8_stop_34 : decode cX8_stop 34 = .ok (.aload_n 0, 1) := by decide +kernel
theorem dX8_stop_35 : decode cX8_stop 35 = .ok (.getfield 15, 3) := by decide +kernel
theorem dX8_stop_38 : decode cX8_stop 38 = .ok (.getfield 89, 3) := by decide +kernel
theorem dX8_stop_41 : decode cX8_stop 41 = .ok (.if_icmp .le 7, 3) := by decide +kernel
theorem dX8_stop_44 : decode cX8_stop 44 = .ok (.iconst 1, 1) := by decide +kernel
theorem dX8_stop_45 : decode cX8_stop 45 = .ok (.goto 4, 3) := by decide +kernel
theorem dX8_stop_48 : decode cX8_stop 48 = .ok (.iconst 0, 1) := by decide +kernel
theorem dX8_stop_49 : decode cX8_stop 49 = .ok (.putfield 49, 3) := by decide +kernel
theorem dX8_stop_52 : decode cX8_stop 52 = .ok (.aload_n 0, 1) := by decide +kernel
theorem dX8_stop_53 : decode cX8_stop 53 = .ok (.iconst 0, 1) := by decide +kernel
theorem dX8_stop_54 : decode cX8_stop 54 = .ok (.putfield 30, 3) := by decide +kernel
theorem dX8_stop_57 : decode cX8_stop 57 = .ok (.return_, 1) := by decide +kernel
set_option maxRecDepth 20000 in
theorem ggX8_toldAs_X8_isTurningBack : GoodIn wsX8_toldAs wsX8_isTurningBack := goodIn_r _ [14, 2, 3, 15, 16, 17, 18, 19, 20, 21, 22, 23, 24, 25, 26] (by decide +kernel) (by decide +kernel)
set_option maxRecDepth 20000 in
theorem gX8_toldAs_X8_isTurningBack : GoodIn wsX8_toldAs (wsV RX8 64 RX8 yX8_isTurningBack wsX8_isTurningBack) := goodIn_app (goodIn_of _ (by decide +kernel)) ggX8_toldAs_X8_isTurningBack
theorem dX8_toldAs_0 : decode cX8_toldAs 0 = .ok (.aload_n 0, 1) := by decide +kernel
theorem dX8_toldAs_1 : decode cX8_toldAs 1 = .ok (.getfield 49, 3) := by decide +kernel
theorem dX8_toldAs_4 : decode cX8_toldAs 4 = .ok (.ifCond .eq 5, 3) := by decide +kernel
theorem dX8_toldAs_7 : decode cX8_toldAs 7 = .ok (.iconst 5, 1) := by decide +kernel
theorem dX8_toldAs_8 : decode cX8_toldAs 8 = .ok (.ireturn, 1) := by decide +kernel
theorem dX8_toldAs_9 : decode cX8_toldAs 9 = .ok (.aload_n 0, 1) := by decide +kernel
theorem dX8_toldAs_10 : decode cX8_toldAs 10 = .ok (.getfield 30, 3) := by decide +kernel
theorem dX8_toldAs_13 : decode cX8_toldAs 13 = .ok (.ifCond .ne 5, 3) := by decide +kernel
theorem dX8_toldAs_16 : decode cX8_toldAs 16 = .ok (.iconst 3, 1) := by decide +kernel
theorem dX8_toldAs_17 : decode cX8_toldAs 17 = .ok (.ireturn, 1) := by decide +kernel
theorem dX8_toldAs_18 : decode cX8_toldAs 18 = .ok (.aload_n 0, 1) := by decide +kernel
theorem dX8_toldAs_19 : decode cX8_toldAs 19 = .ok (.invokevirtual 64, 3) := by decide +kernel
theorem dX8_toldAs_22 : decode cX8_toldAs 22 = .ok (.ifCond .eq 5, 3) := by decide +kernel
theorem dX8_toldAs_25 : decode cX8_toldAs 25 = .ok (.iconst 1, 1) := by decide +kernel
theorem dX8_toldAs_26 : decode cX8_toldAs 26 = .ok (.ireturn, 1) := by decide +kernel
theorem dX8_toldAs_27 : decode cX8_toldAs 27 = .ok (.aload_n 0, 1) := by decide +kernel
theorem dX8_toldAs_28 : decode cX8_toldAs 28 = .ok (.getfield 23, 3) := by decide +kernel
theorem dX8_toldAs_31 : decode cX8_toldAs 31 = .ok (.invokestatic 53, 3) := by decide +kernel
theorem dX8_toldAs_34 : decode cX8_toldAs 34 = .ok (.aload_n 0, 1) := by decide +kernel
theorem dX8_toldAs_35 : decode cX8_toldAs 35 = .ok (.getfield 15, 3) := by decide +kernel
theorem dX8_toldAs_38 : decode cX8_toldAs 38 = .ok (.getfield 92, 3) := by decide +kernel
theorem dX8_toldAs_41 : decode cX8_toldAs 41 = .ok (.if_icmp .le 7, 3) := by decide +kernel
theorem dX8_toldAs_44 : decode cX8_toldAs 44 = .ok (.iconst 4, 1) := by decide +kernel
theorem dX8_toldAs_45 : decode cX8_toldAs 45 = .ok (.goto 4, 3) := by decide +kernel
theorem dX8_toldAs_48 : decode cX8_toldAs 48 = .ok (.iconst 2, 1) := by decide +kernel
theorem dX8_toldAs_49 : decode cX8_toldAs 49 = .ok (.ireturn, 1) := by decide +kernel
set_option maxRecDepth 20000 in
theorem ggX8_isOne_X8_toldAs : GoodIn wsX8_isOne wsX8_toldAs := goodIn_r _ [5, 6, 7, 8, 9, 10, 11, 12, 13, 14, 15, 16, 17, 4, 18, 19, 20, 21, 22, 23, 24, 25, 26, 27, 28, 29, 30, 31, 32, 33, 34] (by decide +kernel) (by decide +kernel)
set_option maxRecDepth 20000 in
theorem gX8_isOne_X8_toldAs : GoodIn wsX8_isOne (wsV RX8 95 RX8 yX8_toldAs wsX8_toldAs) := goodIn_app (goodIn_of _ (by decide +kernel)) ggX8_isOne_X8_toldAs
theorem dX8_isOne_0 : decode cX8_isOne 0 = .ok (.aload_n 0, 1) := by decide +kernel
theorem dX8_isOne_1 : decode cX8_isOne 1 = .ok (.invokevirtual 95, 3) := by decide +kernel
theorem dX8_isOne_4 : decode cX8_isOne 4 = .ok (.istore_n 2, 1) := by decide +kernel
theorem dX8_isOne_5 : decode cX8_isOne 5 = .ok (.iload_n 1, 1) := by decide +kernel
theorem dX8_isOne_6 : decode cX8_isOne 6 = .ok (.ifCond .eq 28, 3) := by decide +kernel
theorem dX8_isOne_9 : decode cX8_isOne 9 = .ok (.iload_n 1, 1) := by decide +kernel
theorem dX8_isOne_10 : decode cX8_isOne 10 = .ok (.iload_n 2, 1) := by decide +kernel
theorem dX8_isOne_11 : decode cX8_isOne 11 = .ok (.if_icmp .eq 23, 3) := by decide +kernel
theorem dX8_isOne_14 : decode cX8_isOne 14 = .ok (.iload_n 1, 1) := by decide +kernel
theorem dX8_isOne_15 : decode cX8_isOne 15 = .ok (.iconst 2, 1) := by decide +kernel
theorem dX8_isOne_16 : decode cX8_isOne 16 = .ok (.if_icmp .ne 8, 3) := by decide +kernel
theorem dX8_isOne_19 : decode cX8_isOne 19 = .ok (.iload_n 2, 1) := by decide +kernel
theorem dX8_isOne_20 : decode cX8_isOne 20 = .ok (.iconst 4, 1) := by decide +kernel
theorem dX8_isOne_21 : decode cX8_isOne 21 = .ok (.if_icmp .eq 13, 3) := by decide +kernel
theorem dX8_isOne_24 : decode cX8_isOne 24 = .ok (.iload_n 1, 1) := by decide +kernel
theorem dX8_isOne_25 : decode cX8_isOne 25 = .ok (.iconst 3, 1) := by decide +kernel
theorem dX8_isOne_26 : decode cX8_isOne 26 = .ok (.if_icmp .ne 12, 3) := by decide +kernel
theorem dX8_isOne_29 : decode cX8_isOne 29 = .ok (.iload_n 2, 1) := by decide +kernel
theorem dX8_isOne_30 : decode cX8_isOne 30 = .ok (.iconst 5, 1) := by decide +kernel
theorem dX8_isOne_31 : decode cX8_isOne 31 = .ok (.if_icmp .ne 7, 3) := by decide +kernel
theorem dX8_isOne_34 : decode cX8_isOne 34 = .ok (.iconst 1, 1) := by decide +kernel
theorem dX8_isOne_35 : decode cX8_isOne 35 = .ok (.goto 4, 3) := by decide +kernel
theorem dX8_isOne_38 : decode cX8_isOne 38 = .ok (.iconst 0, 1) := by decide +kernel
theorem dX8_isOne_39 : decode cX8_isOne 39 = .ok (.ireturn, 1) := by decide +kernel
set_option maxRecDepth 20000 in
theorem ggX9_init_X8_init : GoodIn wsX9_init wsX8_init := goodIn_r _ [9, 10, 2, 3] (by decide +kernel) (by decide +kernel)
set_option maxRecDepth 20000 in
theorem gX9_init_X8_init_n9 : GoodIn wsX9_init (wsX8_init) := ggX9_init_X8_init
theorem dX9_init_0 : decode cX9_init 0 = .ok (.aload_n 0, 1) := by decide +kernel
theorem dX9_init_1 : decode cX9_init 1 = .ok (.invokespecial 1, 3) := by decide +kernel
theorem dX9_init_4 : decode cX9_init 4 = .ok (.aload_n 0, 1) := by decide +kernel
theorem dX9_init_5 : decode cX9_init 5 = .ok (.new 7, 3) := by decide +kernel
theorem dX9_init_8 : decode cX9_init 8 = .ok (.dup, 1) := by decide +kernel
theorem dX9_init_9 : decode cX9_init 9 = .ok (.invokespecial 9, 3) := by decide +kernel
theorem dX9_init_12 : decode cX9_init 12 = .ok (.putfield 10, 3) := by decide +kernel
theorem dX9_init_15 : decode cX9_init 15 = .ok (.return_, 1) := by decide +kernel
set_option maxRecDepth 20000 in
theorem ggX9_become_X8_become : GoodIn wsX9_become wsX8_become := goodIn_r _ [7, 8, 9, 10, 11, 12, 13, 14, 15, 16, 17, 18, 19, 22, 23, 24, 25, 26, 27, 28, 29, 30, 31, 32, 33] (by decide +kernel) (by decide +kernel)
set_option maxRecDepth 20000 in
theorem gX9_become_X8_become : GoodIn wsX9_become (wsV RX9 20 RX8 yX8_become wsX8_become) := goodIn_app (goodIn_of _ (by decide +kernel)) ggX9_become_X8_become
theorem dX9_become_0 : decode cX9_become 0 = .ok (.aload_n 0, 1) := by decide +kernel
theorem dX9_become_1 : decode cX9_become 1 = .ok (.aload_n 1, 1) := by decide +kernel
theorem dX9_become_2 : decode cX9_become 2 = .ok (.getfield 16, 3) := by decide +kernel
theorem dX9_become_5 : decode cX9_become 5 = .ok (.putfield 16, 3) := by decide +kernel
theorem dX9_become_8 : decode cX9_become 8 = .ok (.aload_n 0, 1) := by decide +kernel
theorem dX9_become_9 : decode cX9_become 9 = .ok (.getfield 10, 3) := by decide +kernel
theorem dX9_become_12 : decode cX9_become 12 = .ok (.aload_n 1, 1) := by decide +kernel
theorem dX9_become_13 : decode cX9_become 13 = .ok (.getfield 10, 3) := by decide +kernel
theorem dX9_become_16 : decode cX9_become 16 = .ok (.invokevirtual 20, 3) := by decide +kernel
theorem dX9_become_19 : decode cX9_become 19 = .ok (.return_, 1) := by decide +kernel
theorem dX10_init_0 : decode cX10_init 0 = .ok (.aload_n 0, 1) := by decide +kernel
theorem dX10_init_1 : decode cX10_init 1 = .ok (.invokespecial 3, 3) := by decide +kernel
theorem dX10_init_4 : decode cX10_init 4 = .ok (.aload_n 0, 1) := by decide +kernel
theorem dX10_init_5 : decode cX10_init 5 = .ok (.sipush 500, 3) := by decide +kernel
theorem dX10_init_8 : decode cX10_init 8 = .ok (.newarray .byte, 2) := by decide +kernel
theorem dX10_init_10 : decode cX10_init 10 = .ok (.putfield 9, 3) := by decide +kernel
theorem dX10_init_13 : decode cX10_init 13 = .ok (.return_, 1) := by decide +kernel
theorem dX10_add_0 : decode cX10_add 0 = .ok (.aload_n 0, 1) := by decide +kernel
theorem dX10_add_1 : decode cX10_add 1 = .ok (.getfield 15, 3) := by decide +kernel
theorem dX10_add_4 : decode cX10_add 4 = .ok (.sipush 500, 3) := by decide +kernel
theorem dX10_add_7 : decode cX10_add 7 = .ok (.if_icmp .ge 20, 3) := by decide +kernel
theorem dX10_add_10 : decode cX10_add 10 = .ok (.aload_n 0, 1) := by decide +kernel
theorem dX10_add_11 : decode cX10_add 11 = .ok (.getfield 9, 3) := by decide +kernel
theorem dX10_add_14 : decode cX10_add 14 = .ok (.aload_n 0, 1) := by decide +kernel
theorem dX10_add_15 : decode cX10_add 15 = .ok (.dup, 1) := by decide +kernel
theorem dX10_add_16 : decode cX10_add 16 = .ok (.getfield 15, 3) := by decide +kernel
theorem dX10_add_19 : decode cX10_add 19 = .ok (.dup_x1, 1) := by decide +kernel
theorem dX10_add_20 : decode cX10_add 20 = .ok (.iconst 1, 1) := by decide +kernel
theorem dX10_add_21 : decode cX10_add 21 = .ok (.iadd, 1) := by decide +kernel
theorem dX10_add_22 : decode cX10_add 22 = .ok (.putfield 15, 3) := by decide +kernel
theorem dX10_add_25 : decode cX10_add 25 = .ok (.iload_n 1, 1) := by decide +kernel
theorem dX10_add_26 : decode cX10_add 26 = .ok (.bastore, 1) := by decide +kernel
theorem dX10_add_27 : decode cX10_add 27 = .ok (.return_, 1) := by decide +kernel
set_option maxRecDepth 20000 in
theorem ggX10_readBox_X1_init : GoodIn wsX10_readBox wsX1_init := goodIn_r _ [9, 10, 11, 12, 13, 14, 15, 16, 17, 18, 186, 187, 188, 189, 190, 191] (by decide +kernel) (by decide +kernel)
set_option maxRecDepth 20000 in
theorem gX10_readBox_X1_init_n21 : GoodIn wsX10_readBox (wsX1_init) := ggX10_readBox_X1_init
set_option maxRecDepth 20000 in
theorem ggX10_readBox_X10_nextToken : GoodIn wsX10_readBox wsX10_nextToken := goodIn_r _ [23, 5, 24, 7, 25, 6, 26, 27, 28, 22, 29, 30, 192, 193, 194, 195, 196, 197, 198, 199] (by decide +kernel) (by decide +kernel)
set_option maxRecDepth 20000 in
theorem gX10_readBox_X10_nextToken : GoodIn wsX10_readBox (wsV RX10 28 RX10 yX10_nextToken wsX10_nextToken) := goodIn_app (goodIn_of _ (by decide +kernel)) ggX10_readBox_X10_nextToken
set_option maxRecDepth 20000 in
theorem ggX10_readBox_X10_stands : GoodIn wsX10_readBox wsX10_stands := goodIn_r _ [34, 4, 6, 5, 24, 25, 35, 36, 37, 38, 39, 40, 41, 42, 43, 44, 45, 46, 47, 48, 49, 50, 51, 52, 53, 54, 55, 56, 57, 58, 59, 60, 61, 62, 63, 64, 65, 66, 67, 68, 69, 70, 71, 72, 73, 74, 75, 76, 77, 78, 79, 80, 81, 82, 83, 192, 193, 194, 195, 196, 197, 198, 199] (by decide +kernel) (by decide +kernel)
set_option maxRecDepth 20000 in
theorem gX10_readBox_X10_stands : GoodIn wsX10_readBox (wsV RX10 33 RX10 yX10_stands wsX10_stands) := goodIn_app (goodIn_of _ (by decide +kernel)) ggX10_readBox_X10_stands
set_option maxRecDepth 20000 in
theorem ggX10_readBox_X10_readDisc : GoodIn wsX10_readBox wsX10_readDisc := goodIn_r _ [87, 88, 6, 4, 89, 90, 91, 31, 32, 33, 22, 34, 5, 24, 25, 35, 36, 37, 38, 39, 40, 41, 42, 43, 44, 45, 46, 47, 48, 49, 50, 51, 52, 53, 54, 55, 56, 57, 58, 59, 60, 61, 62, 63, 64, 65, 66, 67, 68, 69, 70, 71, 72, 73, 74, 75, 76, 77, 78, 79, 80, 81, 82, 83, 92, 93, 94, 95, 96, 97, 98, 99, 100, 19, 20, 21, 23, 7, 26, 27, 28, 29, 30, 101, 102, 103, 104, 105, 106, 107, 108, 11, 12, 109, 110, 111, 112, 113, 114, 3, 115, 116, 14, 186, 187, 188, 189, 190, 191, 192, 193, 194, 195, 196, 197, 198, 199, 200, 201, 202] (by decide +kernel) (by decide +kernel)
set_option maxRecDepth 20000 in
theorem gX10_readBox_X10_readDisc : GoodIn wsX10_readBox (wsV RX10 37 RX10 yX10_readDisc wsX10_readDisc) := goodIn_app (goodIn_of _ (by decide +kernel)) ggX10_readBox_X10_readDisc
set_option maxRecDepth 20000 in
theorem ggX10_readBox_X10_readThread : GoodIn wsX10_readBox wsX10_readThread := goodIn_r _ [120, 121, 6, 4, 122, 123, 124, 31, 32, 33, 22, 34, 5, 24, 25, 35, 36, 37, 38, 39, 40, 41, 42, 43, 44, 45, 46, 47, 48, 49, 50, 51, 52, 53, 54, 55, 56, 57, 58, 59, 60, 61, 62, 63, 64, 65, 66, 67, 68, 69, 70, 71, 72, 73, 74, 75, 76, 77, 78, 79, 80, 81, 82, 83, 92, 93, 94, 95, 96, 97, 98, 99, 100, 19, 20, 21, 23, 7, 26, 27, 28, 29, 30, 101, 102, 103, 104, 125, 126, 127, 128, 11, 12, 129, 130, 131, 132, 133, 134, 135, 3, 136, 137, 16, 186, 187, 188, 189, 190, 191, 192, 193, 194, 195, 196, 197, 198, 199, 203, 204, 205, 206] (by decide +kernel) (by decide +kernel)
set_option maxRecDepth 20000 in
theorem gX10_readBox_X10_readThread : GoodIn wsX10_readBox (wsV RX10 43 RX10 yX10_readThread wsX10_readThread) := goodIn_app (goodIn_of _ (by decide +kernel)) ggX10_readBox_X10_readThread
set_option maxRecDepth 20000 in
theorem ggX10_readBox_X10_readHand : GoodIn wsX10_readBox wsX10_readHand := goodIn_r _ [141, 142, 6, 4, 143, 144, 145, 31, 32, 33, 22, 34, 5, 24, 25, 35, 36, 37, 38, 39, 40, 41, 42, 43, 44, 45, 46, 47, 48, 49, 50, 51, 52, 53, 54, 55, 56, 57, 58, 59, 60, 61, 62, 63, 64, 65, 66, 67, 68, 69, 70, 71, 72, 73, 74, 75, 76, 77, 78, 79, 80, 81, 82, 83, 92, 93, 94, 95, 96, 97, 98, 99, 100, 19, 20, 21, 23, 7, 26, 27, 28, 29, 30, 146, 147, 148, 11, 12, 149, 150, 151, 152, 153, 154, 155, 156, 157, 158, 159, 160, 161, 162, 163, 164, 165, 166, 167, 101, 102, 103, 104, 168, 169, 170, 171, 172, 173, 174, 175, 176, 177, 178, 179, 180, 181, 182, 183, 3, 184, 185, 18, 186, 187, 188, 189, 190, 191, 192, 193, 194, 195, 196, 197, 198, 199, 207, 208, 209, 210, 211, 212] (by decide +kernel) (by decide +kernel)
set_option maxRecDepth 20000 in
theorem gX10_readBox_X10_readHand : GoodIn wsX10_readBox (wsV RX10 48 RX10 yX10_readHand wsX10_readHand) := goodIn_app (goodIn_of _ (by decide +kernel)) ggX10_readBox_X10_readHand
set_option maxRecDepth 20000 in
theorem ggX10_readBox_X10_fail : GoodIn wsX10_readBox wsX10_fail := goodIn_r _ [99, 4, 24, 100, 192, 193, 194, 195, 196, 197, 198, 199] (by decide +kernel) (by decide +kernel)
set_option maxRecDepth 20000 in
theorem gX10_readBox_X10_fail : GoodIn wsX10_readBox (wsV RX10 54 RX10 yX10_fail wsX10_fail) := goodIn_app (goodIn_of _ (by decide +kernel)) ggX10_readBox_X10_fail
theorem dX10_readBox_0 : decode cX10_readBox 0 = .ok (.new 19, 3) := by decide +kernel
theorem dX10_readBox_3 : decode cX10_readBox 3 = .ok (.dup, 1) := by decide +kernel
theorem dX10_readBox_4 : decode cX10_readBox 4 = .ok (.invokespecial 21, 3) := by decide +kernel
theorem dX10_readBox_7 : decode cX10_readBox 7 = .ok (.astore_n 1, 1) := by decide +kernel
theorem dX10_readBox_8 : decode cX10_readBox 8 = .ok (.aload_n 0, 1) := by decide +kernel
theorem dX10_readBox_9 : decode cX10_readBox 9 = .ok (.iconst 0, 1) := by decide +kernel
theorem dX10_readBox_10 : decode cX10_readBox 10 = .ok (.putfield 22, 3) := by decide +kernel
theorem dX10_readBox_13 : decode cX10_readBox 13 = .ok (.aload_n 0, 1) := by decide +kernel
theorem dX10_readBox_14 : decode cX10_readBox 14 = .ok (.iconst 0, 1) := by decide +kernel
theorem dX10_readBox_15 : decode cX10_readBox 15 = .ok (.putfield 25, 3) := by decide +kernel
theorem dX10_readBox_18 : decode cX10_readBox 18 = .ok (.aload_n 0, 1) := by decide +kernel
theorem dX10_readBox_19 : decode cX10_readBox 19 = .ok (.invokevirtual 28, 3) := by decide +kernel
theorem dX10_readBox_22 : decode cX10_readBox 22 = .ok (.iconst 0, 1) := by decide +kernel
theorem dX10_readBox_23 : decode cX10_readBox 23 = .ok (.istore_n 2, 1) := by decide +kernel
theorem dX10_readBox_24 : decode cX10_readBox 24 = .ok (.iload_n 2, 1) := by decide +kernel
theorem dX10_readBox_25 : decode cX10_readBox 25 = .ok (.iconst 4, 1) := by decide +kernel
theorem dX10_readBox_26 : decode cX10_readBox 26 = .ok (.if_icmp .gt 27, 3) := by decide +kernel
theorem dX10_readBox_29 : decode cX10_readBox 29 = .ok (.iload_n 2, 1) := by decide +kernel
theorem dX10_readBox_30 : decode cX10_readBox 30 = .ok (.ifCond .eq 12, 3) := by decide +kernel
theorem dX10_readBox_33 : decode cX10_readBox 33 = .ok (.aload_n 0, 1) := by decide +kernel
theorem dX10_readBox_34 : decode cX10_readBox 34 = .ok (.ldc 31, 2) := by decide +kernel
theorem dX10_readBox_36 : decode cX10_readBox 36 = .ok (.invokevirtual 33, 3) := by decide +kernel
theorem dX10_readBox_39 : decode cX10_readBox 39 = .ok (.ifCond .eq 14, 3) := by decide +kernel
theorem dX10_readBox_42 : decode cX10_readBox 42 = .ok (.aload_n 0, 1) := by decide +kernel
theorem dX10_readBox_43 : decode cX10_readBox 43 = .ok (.aload_n 1, 1) := by decide +kernel
theorem dX10_readBox_44 : decode cX10_readBox 44 = .ok (.invokevirtual 37, 3) := by decide +kernel
theorem dX10_readBox_47 : decode cX10_readBox 47 = .ok (.iinc 2 1, 3) := by decide +kernel
theorem dX10_readBox_50 : decode cX10_readBox 50 = .ok (.goto (-26), 3) := by decide +kernel
theorem dX10_readBox_53 : decode cX10_readBox 53 = .ok (.iconst 0, 1) := by decide +kernel
theorem dX10_readBox_54 : decode cX10_readBox 54 = .ok (.istore_n 2, 1) := by decide +kernel
theorem dX10_readBox_55 : decode cX10_readBox 55 = .ok (.iload_n 2, 1) := by decide +kernel
theorem dX10_readBox_56 : decode cX10_readBox 56 = .ok (.iconst 4, 1) := by decide +kernel
theorem dX10_readBox_57 : decode cX10_readBox 57 = .ok (.if_icmp .gt 27, 3) := by decide +kernel
theorem dX10_readBox_60 : decode cX10_readBox 60 = .ok (.iload_n 2, 1) := by decide +kernel
theorem dX10_readBox_61 : decode cX10_readBox 61 = .ok (.ifCond .eq 12, 3) := by decide +kernel
theorem dX10_readBox_64 : decode cX10_readBox 64 = .ok (.aload_n 0, 1) := by decide +kernel
theorem dX10_readBox_65 : decode cX10_readBox 65 = .ok (.ldc 41, 2) := by decide +kernel
theorem dX10_readBox_67 : decode cX10_readBox 67 = .ok (.invokevirtual 33, 3) := by decide +kernel
theorem dX10_readBox_70 : decode cX10_readBox 70 = .ok (.ifCond .eq 14, 3) := by decide +kernel
theorem dX10_readBox_73 : decode cX10_readBox 73 = .ok (.aload_n 0, 1) := by decide +kernel
theorem dX10_readBox_74 : decode cX10_readBox 74 = .ok (.aload_n 1, 1) := by decide +kernel
theorem dX10_readBox_75 : decode cX10_readBox 75 = .ok (.invokevirtual 43, 3) := by decide +kernel
theorem dX10_readBox_78 : decode cX10_readBox 78 = .ok (.iinc 2 1, 3) := by decide +kernel
theorem dX10_readBox_81 : decode cX10_readBox 81 = .ok (.goto (-26), 3) := by decide +kernel
theorem dX10_readBox_84 : decode cX10_readBox 84 = .ok (.iconst 0, 1) := by decide +kernel
theorem dX10_readBox_85 : decode cX10_readBox 85 = .ok (.istore_n 2, 1) := by decide +kernel
theorem dX10_readBox_86 : decode cX10_readBox 86 = .ok (.iload_n 2, 1) := by decide +kernel
theorem dX10_readBox_87 : decode cX10_readBox 87 = .ok (.iconst 4, 1) := by decide +kernel
theorem dX10_readBox_88 : decode cX10_readBox 88 = .ok (.if_icmp .gt 27, 3) := by decide +kernel
theorem dX10_readBox_91 : decode cX10_readBox 91 = .ok (.iload_n 2, 1) := by decide +kernel
theorem dX10_readBox_92 : decode cX10_readBox 92 = .ok (.ifCond .eq 12, 3) := by decide +kernel
theorem dX10_readBox_95 : decode cX10_readBox 95 = .ok (.aload_n 0, 1) := by decide +kernel
theorem dX10_readBox_96 : decode cX10_readBox 96 = .ok (.ldc 46, 2) := by decide +kernel
theorem dX10_readBox_98 : decode cX10_readBox 98 = .ok (.invokevirtual 33, 3) := by decide +kernel
theorem dX10_readBox_101 : decode cX10_readBox 101 = .ok (.ifCond .eq 14, 3) := by decide +kernel
theorem dX10_readBox_104 : decode cX10_readBox 104 = .ok (.aload_n 0, 1) := by decide +kernel
theorem dX10_readBox_105 : decode cX10_readBox 105 = .ok (.aload_n 1, 1) := by decide +kernel
theorem dX10_readBox_106 : decode cX10_readBox 106 = .ok (.invokevirtual 48, 3) := by decide +kernel
theorem dX10_readBox_109 : decode cX10_readBox 109 = .ok (.iinc 2 1, 3) := by decide +kernel
theorem dX10_readBox_112 : decode cX10_readBox 112 = .ok (.goto (-26), 3) := by decide +kernel
theorem dX10_readBox_115 : decode cX10_readBox 115 = .ok (.aload_n 0, 1) := by decide +kernel
theorem dX10_readBox_116 : decode cX10_readBox 116 = .ok (.getfield 51, 3) := by decide +kernel
theorem dX10_readBox_119 : decode cX10_readBox 119 = .ok (.ifCond .eq 8, 3) := by decide +kernel
theorem dX10_readBox_122 : decode cX10_readBox 122 = .ok (.aload_n 0, 1) := by decide +kernel
theorem dX10_readBox_123 : decode cX10_readBox 123 = .ok (.iconst 1, 1) := by decide +kernel
theorem dX10_readBox_124 : decode cX10_readBox 124 = .ok (.invokevirtual 54, 3) := by decide +kernel
theorem dX10_readBox_127 : decode cX10_readBox 127 = .ok (.aload_n 0, 1) := by decide +kernel
theorem dX10_readBox_128 : decode cX10_readBox 128 = .ok (.iconst 0, 1) := by decide +kernel
theorem dX10_readBox_129 : decode cX10_readBox 129 = .ok (.putfield 15, 3) := by decide +kernel
theorem dX10_readBox_132 : decode cX10_readBox 132 = .ok (.aload_n 0, 1) := by decide +kernel
theorem dX10_readBox_133 : decode cX10_readBox 133 = .ok (.getfield 22, 3) := by decide +kernel
theorem dX10_readBox_136 : decode cX10_readBox 136 = .ok (.ifCond .ne 7, 3) := by decide +kernel
theorem dX10_readBox_139 : decode cX10_readBox 139 = .ok (.aload_n 1, 1) := by decide +kernel
theorem dX10_readBox_140 : decode cX10_readBox 140 = .ok (.goto 4, 3) := by decide +kernel
theorem dX10_readBox_143 : decode cX10_readBox 143 = .ok (.aconst_null, 1) := by decide +kernel
theorem dX10_readBox_144 : decode cX10_readBox 144 = .ok (.areturn, 1) := by decide +kernel
set_option maxRecDepth 20000 in
theorem ggX10_readDisc_X10_stands : GoodIn wsX10_readDisc wsX10_stands := goodIn_r _ [11, 3, 2, 12, 13, 14, 15, 16, 17, 18, 19, 20, 21, 22, 23, 24, 25, 26, 27, 28, 29, 30, 31, 32, 33, 34, 35, 36, 37, 38, 39, 40, 41, 42, 43, 44, 45, 46, 47, 48, 49, 50, 51, 52, 53, 54, 55, 56, 57, 58, 59, 60, 61, 62, 63, 109, 110, 111, 112, 113, 114, 115, 116] (by decide +kernel) (by decide +kernel)
set_option maxRecDepth 20000 in
theorem gX10_readDisc_X10_stands : GoodIn wsX10_readDisc (wsV RX10 33 RX10 yX10_stands wsX10_stands) := goodIn_app (goodIn_of _ (by decide +kernel)) ggX10_readDisc_X10_stands
set_option maxRecDepth 20000 in
theorem ggX10_readDisc_X10_take : GoodIn wsX10_readDisc wsX10_take := goodIn_r _ [67, 3, 68, 69, 70, 10, 71, 13, 72, 73, 74, 75, 76, 12, 77, 14, 2, 78, 79, 80, 81, 82, 109, 110, 111, 112, 113, 114, 115, 116] (by decide +kernel) (by decide +kernel)
set_option maxRecDepth 20000 in
theorem gX10_readDisc_X10_take : GoodIn wsX10_readDisc (wsV RX10 61 RX10 yX10_take wsX10_take) := goodIn_app (goodIn_of _ (by decide +kernel)) ggX10_readDisc_X10_take
set_option maxRecDepth 20000 in
theorem ggX10_readDisc_X10_takeNumber : GoodIn wsX10_readDisc wsX10_takeNumber := goodIn_r _ [86, 3, 82, 2, 68, 69, 70, 10, 71, 13, 72, 73, 74, 75, 76, 12, 77, 14, 78, 79, 80, 81, 109, 110, 111, 112, 113, 114, 115, 116] (by decide +kernel) (by decide +kernel)
set_option maxRecDepth 20000 in
theorem gX10_readDisc_X10_takeNumber : GoodIn wsX10_readDisc (wsV RX10 65 RX10 yX10_takeNumber wsX10_takeNumber) := goodIn_app (goodIn_of _ (by decide +kernel)) ggX10_readDisc_X10_takeNumber
set_option maxRecDepth 20000 in
theorem ggX10_readDisc_X3_init : GoodIn wsX10_readDisc wsX3_init := goodIn_r _ [89, 90, 91, 92, 93, 94, 95, 117, 118, 119] (by decide +kernel) (by decide +kernel)
set_option maxRecDepth 20000 in
theorem gX10_readDisc_X3_init : GoodIn wsX10_readDisc (wsX3_init) := ggX10_readDisc_X3_init
set_option maxRecDepth 20000 in
theorem ggX10_readDisc_X1_addDisc : GoodIn wsX10_readDisc wsX1_addDisc := goodIn_r _ [100, 101, 102, 103, 104, 105, 106, 107, 108] (by decide +kernel) (by decide +kernel)
set_option maxRecDepth 20000 in
theorem gX10_readDisc_X1_addDisc : GoodIn wsX10_readDisc (wsV RX10 74 RX1 yX1_addDisc wsX1_addDisc) := goodIn_app (goodIn_of _ (by decide +kernel)) ggX10_readDisc_X1_addDisc
theorem dX10_readDisc_0 : decode cX10_readDisc 0 = .ok (.aload_n 0, 1) := by decide +kernel
theorem dX10_readDisc_1 : decode cX10_readDisc 1 = .ok (.aload_n 0, 1) := by decide +kernel
theorem dX10_readDisc_2 : decode cX10_readDisc 2 = .ok (.ldc 31, 2) := by decide +kernel
theorem dX10_readDisc_4 : decode cX10_readDisc 4 = .ok (.invokevirtual 33, 3) := by decide +kernel
theorem dX10_readDisc_7 : decode cX10_readDisc 7 = .ok (.aload_n 1, 1) := by decide +kernel
theorem dX10_readDisc_8 : decode cX10_readDisc 8 = .ok (.getfield 58, 3) := by decide +kernel
theorem dX10_readDisc_11 : decode cX10_readDisc 11 = .ok (.iconst 4, 1) := by decide +kernel
theorem dX10_readDisc_12 : decode cX10_readDisc 12 = .ok (.if_icmp .ge 7, 3) := by decide +kernel
theorem dX10_readDisc_15 : decode cX10_readDisc 15 = .ok (.iconst 1, 1) := by decide +kernel
theorem dX10_readDisc_16 : decode cX10_readDisc 16 = .ok (.goto 4, 3) := by decide +kernel
theorem dX10_readDisc_19 : decode cX10_readDisc 19 = .ok (.iconst 0, 1) := by decide +kernel
theorem dX10_readDisc_20 : decode cX10_readDisc 20 = .ok (.invokevirtual 61, 3) := by decide +kernel
theorem dX10_readDisc_23 : decode cX10_readDisc 23 = .ok (.aload_n 0, 1) := by decide +kernel
theorem dX10_readDisc_24 : decode cX10_readDisc 24 = .ok (.iconst 1, 1) := by decide +kernel
theorem dX10_readDisc_25 : decode cX10_readDisc 25 = .ok (.sipush 999, 3) := by decide +kernel
theorem dX10_readDisc_28 : decode cX10_readDisc 28 = .ok (.invokevirtual 65, 3) := by decide +kernel
theorem dX10_readDisc_31 : decode cX10_readDisc 31 = .ok (.istore_n 2, 1) := by decide +kernel
theorem dX10_readDisc_32 : decode cX10_readDisc 32 = .ok (.aload_n 0, 1) := by decide +kernel
theorem dX10_readDisc_33 : decode cX10_readDisc 33 = .ok (.iconst 0, 1) := by decide +kernel
theorem dX10_readDisc_34 : decode cX10_readDisc 34 = .ok (.bipush 99, 2) := by decide +kernel
theorem dX10_readDisc_36 : decode cX10_readDisc 36 = .ok (.invokevirtual 65, 3) := by decide +kernel
theorem dX10_readDisc_39 : decode cX10_readDisc 39 = .ok (.istore_n 3, 1) := by decide +kernel
theorem dX10_readDisc_40 : decode cX10_readDisc 40 = .ok (.aload_n 0, 1) := by decide +kernel
theorem dX10_readDisc_41 : decode cX10_readDisc 41 = .ok (.iconst 1, 1) := by decide +kernel
theorem dX10_readDisc_42 : decode cX10_readDisc 42 = .ok (.bipush 60, 2) := by decide +kernel
theorem dX10_readDisc_44 : decode cX10_readDisc 44 = .ok (.invokevirtual 65, 3) := by decide +kernel
theorem dX10_readDisc_47 : decode cX10_readDisc 47 = .ok (.istore 4, 2) := by decide +kernel
theorem dX10_readDisc_49 : decode cX10_readDisc 49 = .ok (.aload_n 0, 1) := by decide +kernel
theorem dX10_readDisc_50 : decode cX10_readDisc 50 = .ok (.aload_n 0, 1) := by decide +kernel
theorem dX10_readDisc_51 : decode cX10_readDisc 51 = .ok (.getfield 51, 3) := by decide +kernel
theorem dX10_readDisc_54 : decode cX10_readDisc 54 = .ok (.iconst 3, 1) := by decide +kernel
theorem dX10_readDisc_55 : decode cX10_readDisc 55 = .ok (.if_icmp .ne 7, 3) := by decide +kernel
theorem dX10_readDisc_58 : decode cX10_readDisc 58 = .ok (.iconst 1, 1) := by decide +kernel
theorem dX10_readDisc_59 : decode cX10_readDisc 59 = .ok (.goto 4, 3) := by decide +kernel
theorem dX10_readDisc_62 : decode cX10_readDisc 62 = .ok (.iconst 0, 1) := by decide +kernel
theorem dX10_readDisc_63 : decode cX10_readDisc 63 = .ok (.iconst 1, 1) := by decide +kernel
theorem dX10_readDisc_64 : decode cX10_readDisc 64 = .ok (.invokevirtual 61, 3) := by decide +kernel
theorem dX10_readDisc_67 : decode cX10_readDisc 67 = .ok (.aload_n 0, 1) := by decide +kernel
theorem dX10_readDisc_68 : decode cX10_readDisc 68 = .ok (.getfield 22, 3) := by decide +kernel
theorem dX10_readDisc_71 : decode cX10_readDisc 71 = .ok (.ifCond .ne 18, 3) := by decide +kernel
theorem dX10_readDisc_74 : decode cX10_readDisc 74 = .ok (.aload_n 1, 1) := by decide +kernel
theorem dX10_readDisc_75 : decode cX10_readDisc 75 = .ok (.new 69, 3) := by decide +kernel
theorem dX10_readDisc_78 : decode cX10_readDisc 78 = .ok (.dup, 1) := by decide +kernel
theorem dX10_readDisc_79 : decode cX10_readDisc 79 = .ok (.iload_n 2, 1) := by decide +kernel
theorem dX10_readDisc_80 : decode cX10_readDisc 80 = .ok (.iload_n 3, 1) := by decide +kernel
theorem dX10_readDisc_81 : decode cX10_readDisc 81 = .ok (.iload 4, 2) := by decide +kernel
theorem dX10_readDisc_83 : decode cX10_readDisc 83 = .ok (.invokespecial 71, 3) := by decide +kernel
theorem dX10_readDisc_86 : decode cX10_readDisc 86 = .ok (.invokevirtual 74, 3) := by decide +kernel
theorem dX10_readDisc_89 : decode cX10_readDisc 89 = .ok (.return_, 1) := by decide +kernel
set_option maxRecDepth 20000 in
theorem ggX10_readThread_X10_stands : GoodIn wsX10_readThread wsX10_stands := goodIn_r _ [11, 3, 2, 12, 13, 14, 15, 16, 17, 18, 19, 20, 21, 22, 23, 24, 25, 26, 27, 28, 29, 30, 31, 32, 33, 34, 35, 36, 37, 38, 39, 40, 41, 42, 43, 44, 45, 46, 47, 48, 49, 50, 51, 52, 53, 54, 55, 56, 57, 58, 59, 60, 61, 62, 63, 110, 111, 112, 113, 114, 115, 116, 117] (by decide +kernel) (by decide +kernel)
set_option maxRecDepth 20000 in
theorem gX10_readThread_X10_stands : GoodIn wsX10_readThread (wsV RX10 33 RX10 yX10_stands wsX10_stands) := goodIn_app (goodIn_of _ (by decide +kernel)) ggX10_readThread_X10_stands
set_option maxRecDepth 20000 in
theorem ggX10_readThread_X10_take : GoodIn wsX10_readThread wsX10_take := goodIn_r _ [67, 3, 68, 69, 70, 10, 71, 13, 72, 73, 74, 75, 76, 12, 77, 14, 2, 78, 79, 80, 81, 82, 110, 111, 112, 113, 114, 115, 116, 117] (by decide +kernel) (by decide +kernel)
set_option maxRecDepth 20000 in
theorem gX10_readThread_X10_take : GoodIn wsX10_readThread (wsV RX10 61 RX10 yX10_take wsX10_take) := goodIn_app (goodIn_of _ (by decide +kernel)) ggX10_readThread_X10_take
set_option maxRecDepth 20000 in
theorem ggX10_readThread_X10_takeNumber : GoodIn wsX10_readThread wsX10_takeNumber := goodIn_r _ [86, 3, 82, 2, 68, 69, 70, 10, 71, 13, 72, 73, 74, 75, 76, 12, 77, 14, 78, 79, 80, 81, 110, 111, 112, 113, 114, 115, 116, 117] (by decide +kernel) (by decide +kernel)
set_option maxRecDepth 20000 in
theorem gX10_readThread_X10_takeNumber : GoodIn wsX10_readThread (wsV RX10 65 RX10 yX10_takeNumber wsX10_takeNumber) := goodIn_app (goodIn_of _ (by decide +kernel)) ggX10_readThread_X10_takeNumber
set_option maxRecDepth 20000 in
theorem ggX10_readThread_X2_init : GoodIn wsX10_readThread wsX2_init := goodIn_r _ [89, 90, 91, 92, 93, 94, 95, 96, 118, 119, 120, 121] (by decide +kernel) (by decide +kernel)
set_option maxRecDepth 20000 in
theorem gX10_readThread_X2_init : GoodIn wsX10_readThread (wsX2_init) := ggX10_readThread_X2_init
set_option maxRecDepth 20000 in
theorem ggX10_readThread_X1_addCord : GoodIn wsX10_readThread wsX1_addCord := goodIn_r _ [101, 102, 103, 104, 105, 106, 107, 108, 109] (by decide +kernel) (by decide +kernel)
set_option maxRecDepth 20000 in
theorem gX10_readThread_X1_addCord : GoodIn wsX10_readThread (wsV RX10 86 RX1 yX1_addCord wsX1_addCord) := goodIn_app (goodIn_of _ (by decide +kernel)) ggX10_readThread_X1_addCord
theorem dX10_readThread_0 : decode cX10_readThread 0 = .ok (.aload_n 0, 1) := by decide +kernel
theorem dX10_readThread_1 : decode cX10_readThread 1 = .ok (.aload_n 0, 1) := by decide +kernel
theorem dX10_readThread_2 : decode cX10_readThread 2 = .ok (.ldc 41, 2) := by decide +kernel
theorem dX10_readThread_4 : decode cX10_readThread 4 = .ok (.invokevirtual 33, 3) := by decide +kernel
theorem dX10_readThread_7 : decode cX10_readThread 7 = .ok (.aload_n 1, 1) := by decide +kernel
theorem dX10_readThread_8 : decode cX10_readThread 8 = .ok (.getfield 78, 3) := by decide +kernel
theorem dX10_readThread_11 : decode cX10_readThread 11 = .ok (.iconst 4, 1) := by decide +kernel
theorem dX10_readThread_12 : decode cX10_readThread 12 = .ok (.if_icmp .ge 7, 3) := by decide +kernel
theorem dX10_readThread_15 : decode cX10_readThread 15 = .ok (.iconst 1, 1) := by decide +kernel
theorem dX10_readThread_16 : decode cX10_readThread 16 = .ok (.goto 4, 3) := by decide +kernel
theorem dX10_readThread_19 : decode cX10_readThread 19 = .ok (.iconst 0, 1) := by decide +kernel
theorem dX10_readThread_20 : decode cX10_readThread 20 = .ok (.invokevirtual 61, 3) := by decide +kernel
theorem dX10_readThread_23 : decode cX10_readThread 23 = .ok (.aload_n 0, 1) := by decide +kernel
theorem dX10_readThread_24 : decode cX10_readThread 24 = .ok (.iconst 1, 1) := by decide +kernel
theorem dX10_readThread_25 : decode cX10_readThread 25 = .ok (.bipush 99, 2) := by decide +kernel
theorem dX10_readThread_27 : decode cX10_readThread 27 = .ok (.invokevirtual 65, 3) := by decide +kernel
theorem dX10_readThread_30 : decode cX10_readThread 30 = .ok (.istore_n 2, 1) := by decide +kernel
theorem dX10_readThread_31 : decode cX10_readThread 31 = .ok (.aload_n 0, 1) := by decide +kernel
theorem dX10_readThread_32 : decode cX10_readThread 32 = .ok (.iconst 1, 1) := by decide +kernel
theorem dX10_readThread_33 : decode cX10_readThread 33 = .ok (.sipush 400, 3) := by decide +kernel
theorem dX10_readThread_36 : decode cX10_readThread 36 = .ok (.invokevirtual 65, 3) := by decide +kernel
theorem dX10_readThread_39 : decode cX10_readThread 39 = .ok (.istore_n 3, 1) := by decide +kernel
theorem dX10_readThread_40 : decode cX10_readThread 40 = .ok (.aload_n 0, 1) := by decide +kernel
theorem dX10_readThread_41 : decode cX10_readThread 41 = .ok (.iload_n 3, 1) := by decide +kernel
theorem dX10_readThread_42 : decode cX10_readThread 42 = .ok (.sipush 800, 3) := by decide +kernel
theorem dX10_readThread_45 : decode cX10_readThread 45 = .ok (.invokevirtual 65, 3) := by decide +kernel
theorem dX10_readThread_48 : decode cX10_readThread 48 = .ok (.istore 4, 2) := by decide +kernel
theorem dX10_readThread_50 : decode cX10_readThread 50 = .ok (.aload_n 0, 1) := by decide +kernel
theorem dX10_readThread_51 : decode cX10_readThread 51 = .ok (.iconst 1, 1) := by decide +kernel
theorem dX10_readThread_52 : decode cX10_readThread 52 = .ok (.sipush 999, 3) := by decide +kernel
theorem dX10_readThread_55 : decode cX10_readThread 55 = .ok (.invokevirtual 65, 3) := by decide +kernel
theorem dX10_readThread_58 : decode cX10_readThread 58 = .ok (.istore 5, 2) := by decide +kernel
theorem dX10_readThread_60 : decode cX10_readThread 60 = .ok (.aload_n 0, 1) := by decide +kernel
theorem dX10_readThread_61 : decode cX10_readThread 61 = .ok (.aload_n 0, 1) := by decide +kernel
theorem dX10_readThread_62 : decode cX10_readThread 62 = .ok (.getfield 51, 3) := by decide +kernel
theorem dX10_readThread_65 : decode cX10_readThread 65 = .ok (.iconst 3, 1) := by decide +kernel
theorem dX10_readThread_66 : decode cX10_readThread 66 = .ok (.if_icmp .ne 7, 3) := by decide +kernel
theorem dX10_readThread_69 : decode cX10_readThread 69 = .ok (.iconst 1, 1) := by decide +kernel
theorem dX10_readThread_70 : decode cX10_readThread 70 = .ok (.goto 4, 3) := by decide +kernel
theorem dX10_readThread_73 : decode cX10_readThread 73 = .ok (.iconst 0, 1) := by decide +kernel
theorem dX10_readThread_74 : decode cX10_readThread 74 = .ok (.iconst 1, 1) := by decide +kernel
theorem dX10_readThread_75 : decode cX10_readThread 75 = .ok (.invokevirtual 61, 3) := by decide +kernel
theorem dX10_readThread_78 : decode cX10_readThread 78 = .ok (.aload_n 0, 1) := by decide +kernel
theorem dX10_readThread_79 : decode cX10_readThread 79 = .ok (.getfield 22, 3) := by decide +kernel
theorem dX10_readThread_82 : decode cX10_readThread 82 = .ok (.ifCond .ne 20, 3) := by decide +kernel
theorem dX10_readThread_85 : decode cX10_readThread 85 = .ok (.aload_n 1, 1) := by decide +kernel
theorem dX10_readThread_86 : decode cX10_readThread 86 = .ok (.new 81, 3) := by decide +kernel
theorem dX10_readThread_89 : decode cX10_readThread 89 = .ok (.dup, 1) := by decide +kernel
theorem dX10_readThread_90 : decode cX10_readThread 90 = .ok (.iload_n 2, 1) := by decide +kernel
theorem dX10_readThread_91 : decode cX10_readThread 91 = .ok (.iload_n 3, 1) := by decide +kernel
theorem dX10_readThread_92 : decode cX10_readThread 92 = .ok (.iload 4, 2) := by decide +kernel
theorem dX10_readThread_94 : decode cX10_readThread 94 = .ok (.iload 5, 2) := by decide +kernel
theorem dX10_readThread_96 : decode cX10_readThread 96 = .ok (.invokespecial 83, 3) := by decide +kernel
theorem dX10_readThread_99 : decode cX10_readThread 99 = .ok (.invokevirtual 86, 3) := by decide +kernel
theorem dX10_readThread_102 : decode cX10_readThread 102 = .ok (.return_, 1) := by decide +kernel
set_option maxRecDepth 20000 in
theorem ggX10_readHand_X10_stands : GoodIn wsX10_readHand wsX10_stands := goodIn_r _ [11, 3, 2, 12, 13, 14, 15, 16, 17, 18, 19, 20, 21, 22, 23, 24, 25, 26, 27, 28, 29, 30, 31, 32, 33, 34, 35, 36, 37, 38, 39, 40, 41, 42, 43, 44, 45, 46, 47, 48, 49, 50, 51, 52, 53, 54, 55, 56, 57, 58, 59, 60, 61, 62, 63, 137, 138, 139, 140, 141, 142, 143, 144] (by decide +kernel) (by decide +kernel)
set_option maxRecDepth 20000 in
theorem gX10_readHand_X10_stands : GoodIn wsX10_readHand (wsV RX10 33 RX10 yX10_stands wsX10_stands) := goodIn_app (goodIn_of _ (by decide +kernel)) ggX10_readHand_X10_stands
set_option maxRecDepth 20000 in
theorem ggX10_readHand_X10_take : GoodIn wsX10_readHand wsX10_take := goodIn_r _ [67, 3, 68, 69, 70, 10, 71, 13, 72, 73, 74, 75, 76, 12, 77, 14, 2, 78, 79, 80, 81, 82, 137, 138, 139, 140, 141, 142, 143, 144] (by decide +kernel) (by decide +kernel)
set_option maxRecDepth 20000 in
theorem gX10_readHand_X10_take : GoodIn wsX10_readHand (wsV RX10 61 RX10 yX10_take wsX10_take) := goodIn_app (goodIn_of _ (by decide +kernel)) ggX10_readHand_X10_take
set_option maxRecDepth 20000 in
theorem ggX10_readHand_X5_init : GoodIn wsX10_readHand wsX5_init := goodIn_r _ [84, 85, 86, 87, 88, 89, 145, 146] (by decide +kernel) (by decide +kernel)
set_option maxRecDepth 20000 in
theorem gX10_readHand_X5_init_n95 : GoodIn wsX10_readHand (wsX5_init) := ggX10_readHand_X5_init
set_option maxRecDepth 20000 in
theorem ggX10_readHand_X10_readRule : GoodIn wsX10_readHand wsX10_readRule := goodIn_r _ [93, 94, 2, 3, 95, 96, 97, 7, 8, 9, 10, 11, 12, 13, 14, 15, 16, 17, 18, 19, 20, 21, 22, 23, 24, 25, 26, 27, 28, 29, 30, 31, 32, 33, 34, 35, 36, 37, 38, 39, 40, 41, 42, 43, 44, 45, 46, 47, 48, 49, 50, 51, 52, 53, 54, 55, 56, 57, 58, 59, 60, 61, 62, 63, 98, 99, 100, 6, 101, 102, 64, 65, 66, 67, 68, 69, 70, 71, 72, 73, 74, 75, 76, 77, 78, 79, 80, 81, 82, 103, 104, 105, 106, 107, 108, 109, 110, 111, 112, 113, 114, 86, 87, 115, 116, 117, 118, 119, 120, 121, 122, 89, 123, 137, 138, 139, 140, 141, 142, 143, 144, 147, 148, 149, 150, 145, 146] (by decide +kernel) (by decide +kernel)
set_option maxRecDepth 20000 in
theorem gX10_readHand_X10_readRule : GoodIn wsX10_readHand (wsV RX10 98 RX10 yX10_readRule wsX10_readRule) := goodIn_app (goodIn_of _ (by decide +kernel)) ggX10_readHand_X10_readRule
set_option maxRecDepth 20000 in
theorem ggX10_readHand_X1_addHand : GoodIn wsX10_readHand wsX1_addHand := goodIn_r _ [128, 129, 130, 131, 132, 133, 134, 135, 136] (by decide +kernel) (by decide +kernel)
set_option maxRecDepth 20000 in
theorem gX10_readHand_X1_addHand : GoodIn wsX10_readHand (wsV RX10 102 RX1 yX1_addHand wsX1_addHand) := goodIn_app (goodIn_of _ (by decide +kernel)) ggX10_readHand_X1_addHand
theorem dX10_readHand_0 : decode cX10_readHand 0 = .ok (.aload_n 0, 1) := by decide +kernel
theorem dX10_readHand_1 : decode cX10_readHand 1 = .ok (.aload_n 0, 1) := by decide +kernel
theorem dX10_readHand_2 : decode cX10_readHand 2 = .ok (.ldc 46, 2) := by decide +kernel
theorem dX10_readHand_4 : decode cX10_readHand 4 = .ok (.invokevirtual 33, 3) := by decide +kernel
theorem dX10_readHand_7 : decode cX10_readHand 7 = .ok (.aload_n 1, 1) := by decide +kernel
theorem dX10_readHand_8 : decode cX10_readHand 8 = .ok (.getfield 90, 3) := by decide +kernel
theorem dX10_readHand_11 : decode cX10_readHand 11 = .ok (.iconst 4, 1) := by decide +kernel
theorem dX10_readHand_12 : decode cX10_readHand 12 = .ok (.if_icmp .ge 7, 3) := by decide +kernel
theorem dX10_readHand_15 : decode cX10_readHand 15 = .ok (.iconst 1, 1) := by decide +kernel
theorem dX10_readHand_16 : decode cX10_readHand 16 = .ok (.goto 4, 3) := by decide +kernel
theorem dX10_readHand_19 : decode cX10_readHand 19 = .ok (.iconst 0, 1) := by decide +kernel
theorem dX10_readHand_20 : decode cX10_readHand 20 = .ok (.invokevirtual 61, 3) := by decide +kernel
theorem dX10_readHand_23 : decode cX10_readHand 23 = .ok (.aload_n 0, 1) := by decide +kernel
theorem dX10_readHand_24 : decode cX10_readHand 24 = .ok (.aload_n 0, 1) := by decide +kernel
theorem dX10_readHand_25 : decode cX10_readHand 25 = .ok (.getfield 51, 3) := by decide +kernel
theorem dX10_readHand_28 : decode cX10_readHand 28 = .ok (.iconst 3, 1) := by decide +kernel
theorem dX10_readHand_29 : decode cX10_readHand 29 = .ok (.if_icmp .ne 7, 3) := by decide +kernel
theorem dX10_readHand_32 : decode cX10_readHand 32 = .ok (.iconst 1, 1) := by decide +kernel
theorem dX10_readHand_33 : decode cX10_readHand 33 = .ok (.goto 4, 3) := by decide +kernel
theorem dX10_readHand_36 : decode cX10_readHand 36 = .ok (.iconst 0, 1) := by decide +kernel
theorem dX10_readHand_37 : decode cX10_readHand 37 = .ok (.iconst 1, 1) := by decide +kernel
theorem dX10_readHand_38 : decode cX10_readHand 38 = .ok (.invokevirtual 61, 3) := by decide +kernel
theorem dX10_readHand_41 : decode cX10_readHand 41 = .ok (.aload_n 0, 1) := by decide +kernel
theorem dX10_readHand_42 : decode cX10_readHand 42 = .ok (.getfield 22, 3) := by decide +kernel
theorem dX10_readHand_45 : decode cX10_readHand 45 = .ok (.ifCond .eq 4, 3) := by decide +kernel
theorem dX10_readHand_48 : decode cX10_readHand 48 = .ok (.return_, 1) := by decide +kernel
theorem dX10_readHand_49 : decode cX10_readHand 49 = .ok (.new 93, 3) := by decide +kernel
theorem dX10_readHand_52 : decode cX10_readHand 52 = .ok (.dup, 1) := by decide +kernel
theorem dX10_readHand_53 : decode cX10_readHand 53 = .ok (.invokespecial 95, 3) := by decide +kernel
theorem dX10_readHand_56 : decode cX10_readHand 56 = .ok (.astore_n 2, 1) := by decide +kernel
theorem dX10_readHand_57 : decode cX10_readHand 57 = .ok (.iconst 0, 1) := by decide +kernel
theorem dX10_readHand_58 : decode cX10_readHand 58 = .ok (.istore_n 3, 1) := by decide +kernel
theorem dX10_readHand_59 : decode cX10_readHand 59 = .ok (.iload_n 3, 1) := by decide +kernel
theorem dX10_readHand_60 : decode cX10_readHand 60 = .ok (.bipush 6, 2) := by decide +kernel
theorem dX10_readHand_62 : decode cX10_readHand 62 = .ok (.if_icmp .gt 23, 3) := by decide +kernel
theorem dX10_readHand_65 : decode cX10_readHand 65 = .ok (.aload_n 0, 1) := by decide +kernel
theorem dX10_readHand_66 : decode cX10_readHand 66 = .ok (.ldc 96, 2) := by decide +kernel
theorem dX10_readHand_68 : decode cX10_readHand 68 = .ok (.invokevirtual 33, 3) := by decide +kernel
theorem dX10_readHand_71 : decode cX10_readHand 71 = .ok (.ifCond .eq 14, 3) := by decide +kernel
theorem dX10_readHand_74 : decode cX10_readHand 74 = .ok (.aload_n 0, 1) := by decide +kernel
theorem dX10_readHand_75 : decode cX10_readHand 75 = .ok (.aload_n 2, 1) := by decide +kernel
theorem dX10_readHand_76 : decode cX10_readHand 76 = .ok (.invokevirtual 98, 3) := by decide +kernel
theorem dX10_readHand_79 : decode cX10_readHand 79 = .ok (.iinc 3 1, 3) := by decide +kernel
theorem dX10_readHand_82 : decode cX10_readHand 82 = .ok (.goto (-23), 3) := by decide +kernel
theorem dX10_readHand_85 : decode cX10_readHand 85 = .ok (.aload_n 1, 1) := by decide +kernel
theorem dX10_readHand_86 : decode cX10_readHand 86 = .ok (.aload_n 2, 1) := by decide +kernel
theorem dX10_readHand_87 : decode cX10_readHand 87 = .ok (.invokevirtual 102, 3) := by decide +kernel
theorem dX10_readHand_90 : decode cX10_readHand 90 = .ok (.return_, 1) := by decide +kernel
set_option maxRecDepth 20000 in
theorem ggX10_readRule_X10_stands : GoodIn wsX10_readRule wsX10_stands := goodIn_r _ [11, 3, 2, 12, 13, 14, 15, 16, 17, 18, 19, 20, 21, 22, 23, 24, 25, 26, 27, 28, 29, 30, 31, 32, 33, 34, 35, 36, 37, 38, 39, 40, 41, 42, 43, 44, 45, 46, 47, 48, 49, 50, 51, 52, 53, 54, 55, 56, 57, 58, 59, 60, 61, 62, 63, 113, 114, 115, 116, 117, 118, 119, 120] (by decide +kernel) (by decide +kernel)
set_option maxRecDepth 20000 in
theorem gX10_readRule_X10_stands : GoodIn wsX10_readRule (wsV RX10 33 RX10 yX10_stands wsX10_stands) := goodIn_app (goodIn_of _ (by decide +kernel)) ggX10_readRule_X10_stands
set_option maxRecDepth 20000 in
theorem ggX10_readRule_X5_hasRoom : GoodIn wsX10_readRule wsX5_hasRoom := goodIn_r _ [68, 69, 125, 126] (by decide +kernel) (by decide +kernel)
set_option maxRecDepth 20000 in
theorem gX10_readRule_X5_hasRoom : GoodIn wsX10_readRule (wsV RX10 105 RX5 yX5_hasRoom wsX5_hasRoom) := goodIn_app (goodIn_of _ (by decide +kernel)) ggX10_readRule_X5_hasRoom
set_option maxRecDepth 20000 in
theorem ggX10_readRule_X10_take : GoodIn wsX10_readRule wsX10_take := goodIn_r _ [73, 3, 74, 75, 76, 10, 77, 13, 78, 79, 80, 81, 82, 12, 83, 14, 2, 84, 85, 86, 87, 88, 113, 114, 115, 116, 117, 118, 119, 120] (by decide +kernel) (by decide +kernel)
set_option maxRecDepth 20000 in
theorem gX10_readRule_X10_take : GoodIn wsX10_readRule (wsV RX10 61 RX10 yX10_take wsX10_take) := goodIn_app (goodIn_of _ (by decide +kernel)) ggX10_readRule_X10_take
set_option maxRecDepth 20000 in
theorem ggX10_readRule_X10_whatStands : GoodIn wsX10_readRule wsX10_whatStands := goodIn_r _ [92, 1, 7, 8, 9, 10, 11, 3, 2, 12, 13, 14, 15, 16, 17, 18, 19, 20, 21, 22, 23, 24, 25, 26, 27, 28, 29, 30, 31, 32, 33, 34, 35, 36, 37, 38, 39, 40, 41, 42, 43, 44, 45, 46, 47, 48, 49, 50, 51, 52, 53, 54, 55, 56, 57, 58, 59, 60, 61, 62, 63, 113, 114, 115, 116, 117, 118, 119, 120] (by decide +kernel) (by decide +kernel)
set_option maxRecDepth 20000 in
theorem gX10_readRule_X10_whatStands : GoodIn wsX10_readRule (wsV RX10 109 RX10 yX10_whatStands wsX10_whatStands) := goodIn_app (goodIn_of _ (by decide +kernel)) ggX10_readRule_X10_whatStands
set_option maxRecDepth 20000 in
theorem ggX10_readRule_X10_takeNumber : GoodIn wsX10_readRule wsX10_takeNumber := goodIn_r _ [96, 3, 88, 2, 74, 75, 76, 10, 77, 13, 78, 79, 80, 81, 82, 12, 83, 14, 84, 85, 86, 87, 113, 114, 115, 116, 117, 118, 119, 120] (by decide +kernel) (by decide +kernel)
set_option maxRecDepth 20000 in
theorem gX10_readRule_X10_takeNumber : GoodIn wsX10_readRule (wsV RX10 65 RX10 yX10_takeNumber wsX10_takeNumber) := goodIn_app (goodIn_of _ (by decide +kernel)) ggX10_readRule_X10_takeNumber
set_option maxRecDepth 20000 in
theorem ggX10_readRule_X7_init : GoodIn wsX10_readRule wsX7_init := goodIn_r _ [99, 100, 101, 102, 103, 104, 105, 106, 121, 122, 123, 124] (by decide +kernel) (by decide +kernel)
set_option maxRecDepth 20000 in
theorem gX10_readRule_X7_init : GoodIn wsX10_readRule (wsX7_init) := ggX10_readRule_X7_init
set_option maxRecDepth 20000 in
theorem ggX10_readRule_X5_add : GoodIn wsX10_readRule wsX5_add := goodIn_r _ [110, 111, 69, 112, 65, 66, 67, 68, 125, 126] (by decide +kernel) (by decide +kernel)
set_option maxRecDepth 20000 in
theorem gX10_readRule_X5_add : GoodIn wsX10_readRule (wsV RX10 125 RX5 yX5_add wsX5_add) := goodIn_app (goodIn_of _ (by decide +kernel)) ggX10_readRule_X5_add
theorem dX10_readRule_0 : decode cX10_readRule 0 = .ok (.aload_n 0, 1) := by decide +kernel
theorem dX10_readRule_1 : decode cX10_readRule 1 = .ok (.aload_n 0, 1) := by decide +kernel
theorem dX10_readRule_2 : decode cX10_readRule 2 = .ok (.ldc 96, 2) := by decide +kernel
theorem dX10_readRule_4 : decode cX10_readRule 4 = .ok (.invokevirtual 33, 3) := by decide +kernel
theorem dX10_readRule_7 : decode cX10_readRule 7 = .ok (.aload_n 1, 1) := by decide +kernel
theorem dX10_readRule_8 : decode cX10_readRule 8 = .ok (.invokevirtual 105, 3) := by decide +kernel
theorem dX10_readRule_11 : decode cX10_readRule 11 = .ok (.invokevirtual 61, 3) := by decide +kernel
theorem dX10_readRule_14 : decode cX10_readRule 14 = .ok (.aload_n 0, 1) := by decide +kernel
theorem dX10_readRule_15 : decode cX10_readRule 15 = .ok (.invokevirtual 109, 3) := by decide +kernel
theorem dX10_readRule_18 : decode cX10_readRule 18 = .ok (.istore_n 2, 1) := by decide +kernel
theorem dX10_readRule_19 : decode cX10_readRule 19 = .ok (.aload_n 0, 1) := by decide +kernel
theorem dX10_readRule_20 : decode cX10_readRule 20 = .ok (.iload_n 2, 1) := by decide +kernel
theorem dX10_readRule_21 : decode cX10_readRule 21 = .ok (.ldc 113, 2) := by decide +kernel
theorem dX10_readRule_23 : decode cX10_readRule 23 = .ok (.if_icmp .eq 7, 3) := by decide +kernel
theorem dX10_readRule_26 : decode cX10_readRule 26 = .ok (.iconst 1, 1) := by decide +kernel
theorem dX10_readRule_27 : decode cX10_readRule 27 = .ok (.goto 4, 3) := by decide +kernel
theorem dX10_readRule_30 : decode cX10_readRule 30 = .ok (.iconst 0, 1) := by decide +kernel
theorem dX10_readRule_31 : decode cX10_readRule 31 = .ok (.iconst 1, 1) := by decide +kernel
theorem dX10_readRule_32 : decode cX10_readRule 32 = .ok (.invokevirtual 61, 3) := by decide +kernel
theorem dX10_readRule_35 : decode cX10_readRule 35 = .ok (.aload_n 0, 1) := by decide +kernel
theorem dX10_readRule_36 : decode cX10_readRule 36 = .ok (.ldc 114, 2) := by decide +kernel
theorem dX10_readRule_38 : decode cX10_readRule 38 = .ok (.invokevirtual 33, 3) := by decide +kernel
theorem dX10_readRule_41 : decode cX10_readRule 41 = .ok (.istore_n 3, 1) := by decide +kernel
theorem dX10_readRule_42 : decode cX10_readRule 42 = .ok (.aload_n 0, 1) := by decide +kernel
theorem dX10_readRule_43 : decode cX10_readRule 43 = .ok (.iload_n 3, 1) := by decide +kernel
theorem dX10_readRule_44 : decode cX10_readRule 44 = .ok (.ifCond .ne 12, 3) := by decide +kernel
theorem dX10_readRule_47 : decode cX10_readRule 47 = .ok (.aload_n 0, 1) := by decide +kernel
theorem dX10_readRule_48 : decode cX10_readRule 48 = .ok (.ldc 116, 2) := by decide +kernel
theorem dX10_readRule_50 : decode cX10_readRule 50 = .ok (.invokevirtual 33, 3) := by decide +kernel
theorem dX10_readRule_53 : decode cX10_readRule 53 = .ok (.ifCond .eq 7, 3) := by decide +kernel
theorem dX10_readRule_56 : decode cX10_readRule 56 = .ok (.iconst 1, 1) := by decide +kernel
theorem dX10_readRule_57 : decode cX10_readRule 57 = .ok (.goto 4, 3) := by decide +kernel
theorem dX10_readRule_60 : decode cX10_readRule 60 = .ok (.iconst 0, 1) := by decide +kernel
theorem dX10_readRule_61 : decode cX10_readRule 61 = .ok (.iconst 1, 1) := by decide +kernel
theorem dX10_readRule_62 : decode cX10_readRule 62 = .ok (.invokevirtual 61, 3) := by decide +kernel
theorem dX10_readRule_65 : decode cX10_readRule 65 = .ok (.aload_n 0, 1) := by decide +kernel
theorem dX10_readRule_66 : decode cX10_readRule 66 = .ok (.sipush (-999), 3) := by decide +kernel
theorem dX10_readRule_69 : decode cX10_readRule 69 = .ok (.sipush 9999, 3) := by decide +kernel
theorem dX10_readRule_72 : decode cX10_readRule 72 = .ok (.invokevirtual 65, 3) := by decide +kernel
theorem dX10_readRule_75 : decode cX10_readRule 75 = .ok (.istore 4, 2) := by decide +kernel
theorem dX10_readRule_77 : decode cX10_readRule 77 = .ok (.aload_n 0, 1) := by decide +kernel
theorem dX10_readRule_78 : decode cX10_readRule 78 = .ok (.aload_n 0, 1) := by decide +kernel
theorem dX10_readRule_79 : decode cX10_readRule 79 = .ok (.ldc 118, 2) := by decide +kernel
theorem dX10_readRule_81 : decode cX10_readRule 81 = .ok (.invokevirtual 33, 3) := by decide +kernel
theorem dX10_readRule_84 : decode cX10_readRule 84 = .ok (.iconst 1, 1) := by decide +kernel
theorem dX10_readRule_85 : decode cX10_readRule 85 = .ok (.invokevirtual 61, 3) := by decide +kernel
theorem dX10_readRule_88 : decode cX10_readRule 88 = .ok (.aload_n 0, 1) := by decide +kernel
theorem dX10_readRule_89 : decode cX10_readRule 89 = .ok (.iconst 0, 1) := by decide +kernel
theorem dX10_readRule_90 : decode cX10_readRule 90 = .ok (.bipush 99, 2) := by decide +kernel
theorem dX10_readRule_92 : decode cX10_readRule 92 = .ok (.invokevirtual 65, 3) := by decide +kernel
theorem dX10_readRule_95 : decode cX10_readRule 95 = .ok (.istore 5, 2) := by decide +kernel
theorem dX10_readRule_97 : decode cX10_readRule 97 = .ok (.aload_n 0, 1) := by decide +kernel
theorem dX10_readRule_98 : decode cX10_readRule 98 = .ok (.aload_n 0, 1) := by decide +kernel
theorem dX10_readRule_99 : decode cX10_readRule 99 = .ok (.getfield 51, 3) := by decide +kernel
theorem dX10_readRule_102 : decode cX10_readRule 102 = .ok (.iconst 3, 1) := by decide +kernel
theorem dX10_readRule_103 : decode cX10_readRule 103 = .ok (.if_icmp .ne 7, 3) := by decide +kernel
theorem dX10_readRule_106 : decode cX10_readRule 106 = .ok (.iconst 1, 1) := by decide +kernel
theorem dX10_readRule_107 : decode cX10_readRule 107 = .ok (.goto 4, 3) := by decide +kernel
theorem dX10_readRule_110 : decode cX10_readRule 110 = .ok (.iconst 0, 1) := by decide +kernel
theorem dX10_readRule_111 : decode cX10_readRule 111 = .ok (.iconst 1, 1) := by decide +kernel
theorem dX10_readRule_112 : decode cX10_readRule 112 = .ok (.invokevirtual 61, 3) := by decide +kernel
theorem dX10_readRule_115 : decode cX10_readRule 115 = .ok (.aload_n 0, 1) := by decide +kernel
theorem dX10_readRule_116 : decode cX10_readRule 116 = .ok (.getfield 22, 3) := by decide +kernel
theorem dX10_readRule_119 : decode cX10_readRule 119 = .ok (.ifCond .ne 20, 3) := by decide +kernel
theorem dX10_readRule_122 : decode cX10_readRule 122 = .ok (.aload_n 1, 1) := by decide +kernel
theorem dX10_readRule_123 : decode cX10_readRule 123 = .ok (.new 120, 3) := by decide +kernel
theorem dX10_readRule_126 : decode cX10_readRule 126 = .ok (.dup, 1) := by decide +kernel
theorem dX10_readRule_127 : decode cX10_readRule 127 = .ok (.iload_n 2, 1) := by decide +kernel
theorem dX10_readRule_128 : decode cX10_readRule 128 = .ok (.iload_n 3, 1) := by decide +kernel
theorem dX10_readRule_129 : decode cX10_readRule 129 = .ok (.iload 4, 2) := by decide +kernel
theorem dX10_readRule_131 : decode cX10_readRule 131 = .ok (.iload 5, 2) := by decide +kernel
theorem dX10_readRule_133 : decode cX10_readRule 133 = .ok (.invokespecial 122, 3) := by decide +kernel
theorem dX10_readRule_136 : decode cX10_readRule 136 = .ok (.invokevirtual 125, 3) := by decide +kernel
theorem dX10_readRule_139 : decode cX10_readRule 139 = .ok (.return_, 1) := by decide +kernel
set_option maxRecDepth 20000 in
theorem ggX10_whatStands_X10_stands : GoodIn wsX10_whatStands wsX10_stands := goodIn_r _ [6, 7, 8, 9, 10, 11, 12, 13, 14, 15, 16, 17, 18, 19, 20, 21, 22, 23, 24, 25, 26, 27, 28, 29, 30, 31, 32, 33, 34, 35, 36, 37, 38, 39, 40, 41, 42, 43, 44, 45, 46, 47, 48, 49, 50, 51, 52, 53, 54, 55, 56, 57, 58, 59, 60, 61, 62, 63, 64, 65, 66, 67, 68] (by decide +kernel) (by decide +kernel)
set_option maxRecDepth 20000 in
theorem gX10_whatStands_X10_stands : GoodIn wsX10_whatStands (wsV RX10 33 RX10 yX10_stands wsX10_stands) := goodIn_app (goodIn_of _ (by decide +kernel)) ggX10_whatStands_X10_stands
theorem dX10_whatStands_0 : decode cX10_whatStands 0 = .ok (.aload_n 0, 1) := by decide +kernel
theorem dX10_whatStands_1 : decode cX10_whatStands 1 = .ok (.ldc 129, 2) := by decide +kernel
theorem dX10_whatStands_3 : decode cX10_whatStands 3 = .ok (.invokevirtual 33, 3) := by decide +kernel
theorem dX10_whatStands_6 : decode cX10_whatStands 6 = .ok (.ifCond .eq 5, 3) := by decide +kernel
theorem dX10_whatStands_9 : decode cX10_whatStands 9 = .ok (.iconst 0, 1) := by decide +kernel
theorem dX10_whatStands_10 : decode cX10_whatStands 10 = .ok (.ireturn, 1) := by decide +kernel
theorem dX10_whatStands_11 : decode cX10_whatStands 11 = .ok (.aload_n 0, 1) := by decide +kernel
theorem dX10_whatStands_12 : decode cX10_whatStands 12 = .ok (.ldc 131, 2) := by decide +kernel
theorem dX10_whatStands_14 : decode cX10_whatStands 14 = .ok (.invokevirtual 33, 3) := by decide +kernel
theorem dX10_whatStands_17 : decode cX10_whatStands 17 = .ok (.ifCond .eq 5, 3) := by decide +kernel
theorem dX10_whatStands_20 : decode cX10_whatStands 20 = .ok (.iconst 1, 1) := by decide +kernel
theorem dX10_whatStands_21 : decode cX10_whatStands 21 = .ok (.ireturn, 1) := by decide +kernel
theorem dX10_whatStands_22 : decode cX10_whatStands 22 = .ok (.aload_n 0, 1) := by decide +kernel
theorem dX10_whatStands_23 : decode cX10_whatStands 23 = .ok (.ldc 133, 2) := by decide +kernel
theorem dX10_whatStands_25 : decode cX10_whatStands 25 = .ok (.invokevirtual 33, 3) := by decide +kernel
theorem dX10_whatStands_28 : decode cX10_whatStands 28 = .ok (.ifCond .eq 5, 3) := by decide +kernel
theorem dX10_whatStands_31 : decode cX10_whatStands 31 = .ok (.iconst 2, 1) := by decide +kernel
theorem dX10_whatStands_32 : decode cX10_whatStands 32 = .ok (.ireturn, 1) := by decide +kernel
theorem dX10_whatStands_33 : decode cX10_whatStands 33 = .ok (.aload_n 0, 1) := by decide +kernel
theorem dX10_whatStands_34 : decode cX10_whatStands 34 = .ok (.ldc 135, 2) := by decide +kernel
theorem dX10_whatStands_36 : decode cX10_whatStands 36 = .ok (.invokevirtual 33, 3) := by decide +kernel
theorem dX10_whatStands_39 : decode cX10_whatStands 39 = .ok (.ifCond .eq 7, 3) := by decide +kernel
theorem dX10_whatStands_42 : decode cX10_whatStands 42 = .ok (.iconst 3, 1) := by decide +kernel
theorem dX10_whatStands_43 : decode cX10_whatStands 43 = .ok (.goto 5, 3) := by decide +kernel
theorem dX10_whatStands_46 : decode cX10_whatStands 46 = .ok (.ldc 113, 2) := by decide +kernel
theorem dX10_whatStands_48 : decode cX10_whatStands 48 = .ok (.ireturn, 1) := by decide +kernel
set_option maxRecDepth 20000 in
theorem ggX10_take_X10_fail : GoodIn wsX10_take wsX10_fail := goodIn_r _ [6, 1, 7, 8, 22, 23, 24, 25, 26, 27, 28, 29] (by decide +kernel) (by decide +kernel)
set_option maxRecDepth 20000 in
theorem gX10_take_X10_fail : GoodIn wsX10_take (wsV RX10 54 RX10 yX10_fail wsX10_fail) := goodIn_app (goodIn_of _ (by decide +kernel)) ggX10_take_X10_fail
set_option maxRecDepth 20000 in
theorem ggX10_take_X10_nextToken : GoodIn wsX10_take wsX10_nextToken := goodIn_r _ [12, 13, 7, 14, 15, 16, 17, 18, 19, 5, 20, 21, 22, 23, 24, 25, 26, 27, 28, 29] (by decide +kernel) (by decide +kernel)
set_option maxRecDepth 20000 in
theorem gX10_take_X10_nextToken : GoodIn wsX10_take (wsV RX10 28 RX10 yX10_nextToken wsX10_nextToken) := goodIn_app (goodIn_of _ (by decide +kernel)) ggX10_take_X10_nextToken
theorem dX10_take_0 : decode cX10_take 0 = .ok (.iload_n 1, 1) := by decide +kernel
theorem dX10_take_1 : decode cX10_take 1 = .ok (.ifCond .ne 11, 3) := by decide +kernel
theorem dX10_take_4 : decode cX10_take 4 = .ok (.aload_n 0, 1) := by decide +kernel
theorem dX10_take_5 : decode cX10_take 5 = .ok (.iconst 1, 1) := by decide +kernel
theorem dX10_take_6 : decode cX10_take 6 = .ok (.invokevirtual 54, 3) := by decide +kernel
theorem dX10_take_9 : decode cX10_take 9 = .ok (.goto 26, 3) := by decide +kernel
theorem dX10_take_12 : decode cX10_take 12 = .ok (.iload_n 2, 1) := by decide +kernel
theorem dX10_take_13 : decode cX10_take 13 = .ok (.ifCond .ne 11, 3) := by decide +kernel
theorem dX10_take_16 : decode cX10_take 16 = .ok (.aload_n 0, 1) := by decide +kernel
theorem dX10_take_17 : decode cX10_take 17 = .ok (.iconst 3, 1) := by decide +kernel
theorem dX10_take_18 : decode cX10_take 18 = .ok (.invokevirtual 54, 3) := by decide +kernel
theorem dX10_take_21 : decode cX10_take 21 = .ok (.goto 14, 3) := by decide +kernel
theorem dX10_take_24 : decode cX10_take 24 = .ok (.aload_n 0, 1) := by decide +kernel
theorem dX10_take_25 : decode cX10_take 25 = .ok (.getfield 22, 3) := by decide +kernel
theorem dX10_take_28 : decode cX10_take 28 = .ok (.ifCond .ne 7, 3) := by decide +kernel
theorem dX10_take_31 : decode cX10_take 31 = .ok (.aload_n 0, 1) := by decide +kernel
theorem dX10_take_32 : decode cX10_take 32 = .ok (.invokevirtual 28, 3) := by decide +kernel
theorem dX10_take_35 : decode cX10_take 35 = .ok (.return_, 1) := by decide +kernel
set_option maxRecDepth 20000 in
theorem ggX10_takeNumber_X10_fail : GoodIn wsX10_takeNumber wsX10_fail := goodIn_r _ [8, 1, 9, 10, 22, 23, 24, 25, 26, 27, 28, 29] (by decide +kernel) (by decide +kernel)
set_option maxRecDepth 20000 in
theorem gX10_takeNumber_X10_fail : GoodIn wsX10_takeNumber (wsV RX10 54 RX10 yX10_fail wsX10_fail) := goodIn_app (goodIn_of _ (by decide +kernel)) ggX10_takeNumber_X10_fail
set_option maxRecDepth 20000 in
theorem ggX10_takeNumber_X10_nextToken : GoodIn wsX10_takeNumber wsX10_nextToken := goodIn_r _ [14, 15, 9, 16, 17, 3, 18, 19, 20, 7, 21, 2, 22, 23, 24, 25, 26, 27, 28, 29] (by decide +kernel) (by decide +kernel)
set_option maxRecDepth 20000 in
theorem gX10_takeNumber_X10_nextToken : GoodIn wsX10_takeNumber (wsV RX10 28 RX10 yX10_nextToken wsX10_nextToken) := goodIn_app (goodIn_of _ (by decide +kernel)) ggX10_takeNumber_X10_nextToken
theorem dX10_takeNumber_0 : decode cX10_takeNumber 0 = .ok (.aload_n 0, 1) := by decide +kernel
theorem dX10_takeNumber_1 : decode cX10_takeNumber 1 = .ok (.getfield 22, 3) := by decide +kernel
theorem dX10_takeNumber_4 : decode cX10_takeNumber 4 = .ok (.ifCond .eq 5, 3) := by decide +kernel
theorem dX10_takeNumber_7 : decode cX10_takeNumber 7 = .ok (.iconst 0, 1) := by decide +kernel
theorem dX10_takeNumber_8 : decode cX10_takeNumber 8 = .ok (.ireturn, 1) := by decide +kernel
theorem dX10_takeNumber_9 : decode cX10_takeNumber 9 = .ok (.aload_n 0, 1) := by decide +kernel
theorem dX10_takeNumber_10 : decode cX10_takeNumber 10 = .ok (.getfield 137, 3) := by decide +kernel
theorem dX10_takeNumber_13 : decode cX10_takeNumber 13 = .ok (.istore_n 3, 1) := by decide +kernel
theorem dX10_takeNumber_14 : decode cX10_takeNumber 14 = .ok (.aload_n 0, 1) := by decide +kernel
theorem dX10_takeNumber_15 : decode cX10_takeNumber 15 = .ok (.getfield 51, 3) := by decide +kernel
theorem dX10_takeNumber_18 : decode cX10_takeNumber 18 = .ok (.iconst 2, 1) := by decide +kernel
theorem dX10_takeNumber_19 : decode cX10_takeNumber 19 = .ok (.if_icmp .eq 11, 3) := by decide +kernel
theorem dX10_takeNumber_22 : decode cX10_takeNumber 22 = .ok (.aload_n 0, 1) := by decide +kernel
theorem dX10_takeNumber_23 : decode cX10_takeNumber 23 = .ok (.iconst 1, 1) := by decide +kernel
theorem dX10_takeNumber_24 : decode cX10_takeNumber 24 = .ok (.invokevirtual 54, 3) := by decide +kernel
theorem dX10_takeNumber_27 : decode cX10_takeNumber 27 = .ok (.goto 25, 3) := by decide +kernel
theorem dX10_takeNumber_30 : decode cX10_takeNumber 30 = .ok (.iload_n 3, 1) := by decide +kernel
theorem dX10_takeNumber_31 : decode cX10_takeNumber 31 = .ok (.iload_n 1, 1) := by decide +kernel
theorem dX10_takeNumber_32 : decode cX10_takeNumber 32 = .ok (.if_icmp .lt 8, 3) := by decide +kernel
theorem dX10_takeNumber_35 : decode cX10_takeNumber 35 = .ok (.iload_n 3, 1) := by decide +kernel
theorem dX10_takeNumber_36 : decode cX10_takeNumber 36 = .ok (.iload_n 2, 1) := by decide +kernel
theorem dX10_takeNumber_37 : decode cX10_takeNumber 37 = .ok (.if_icmp .le 11, 3) := by decide +kernel
theorem dX10_takeNumber_40 : decode cX10_takeNumber 40 = .ok (.aload_n 0, 1) := by decide +kernel
theorem dX10_takeNumber_41 : decode cX10_takeNumber 41 = .ok (.iconst 2, 1) := by decide +kernel
theorem dX10_takeNumber_42 : decode cX10_takeNumber 42 = .ok (.invokevirtual 54, 3) := by decide +kernel
theorem dX10_takeNumber_45 : decode cX10_takeNumber 45 = .ok (.goto 7, 3) := by decide +kernel
theorem dX10_takeNumber_48 : decode cX10_takeNumber 48 = .ok (.aload_n 0, 1) := by decide +kernel
theorem dX10_takeNumber_49 : decode cX10_takeNumber 49 = .ok (.invokevirtual 28, 3) := by decide +kernel
theorem dX10_takeNumber_52 : decode cX10_takeNumber 52 = .ok (.iload_n 3, 1) := by decide +kernel
theorem dX10_takeNumber_53 : decode cX10_takeNumber 53 = .ok (.ireturn, 1) := by decide +kernel
theorem dX10_fail_0 : decode cX10_fail 0 = .ok (.aload_n 0, 1) := by decide +kernel
theorem dX10_fail_1 : decode cX10_fail 1 = .ok (.getfield 22, 3) := by decide +kernel
theorem dX10_fail_4 : decode cX10_fail 4 = .ok (.ifCond .eq 4, 3) := by decide +kernel
theorem dX10_fail_7 : decode cX10_fail 7 = .ok (.return_, 1) := by decide +kernel
theorem dX10_fail_8 : decode cX10_fail 8 = .ok (.aload_n 0, 1) := by decide +kernel
theorem dX10_fail_9 : decode cX10_fail 9 = .ok (.iload_n 1, 1) := by decide +kernel
theorem dX10_fail_10 : decode cX10_fail 10 = .ok (.putfield 22, 3) := by decide +kernel
theorem dX10_fail_13 : decode cX10_fail 13 = .ok (.aload_n 0, 1) := by decide +kernel
theorem dX10_fail_14 : decode cX10_fail 14 = .ok (.aload_n 0, 1) := by decide +kernel
theorem dX10_fail_15 : decode cX10_fail 15 = .ok (.getfield 140, 3) := by decide +kernel
theorem dX10_fail_18 : decode cX10_fail 18 = .ok (.putfield 143, 3) := by decide +kernel
theorem dX10_fail_21 : decode cX10_fail 21 = .ok (.return_, 1) := by decide +kernel
set_option maxRecDepth 20000 in
theorem ggX10_stands_J0_length_8abf5 : GoodIn wsX10_stands wsJ0_length_8abf5 := goodIn_r _ [10, 11, 12, 13, 14, 9, 15, 16, 17] (by decide +kernel) (by decide +kernel)
set_option maxRecDepth 20000 in
theorem gX10_stands_J0_length_8abf5 : GoodIn wsX10_stands (wsV RX10 146 RJ0 yJ0_length_8abf5 wsJ0_length_8abf5) := goodIn_app (goodIn_of _ (by decide +kernel)) ggX10_stands_J0_length_8abf5
set_option maxRecDepth 20000 in
theorem ggX10_stands_J0_charAt_5068e : GoodIn wsX10_stands wsJ0_charAt_5068e := goodIn_r _ [21, 11, 22, 23, 24, 9, 25, 16, 17, 26, 27, 28, 29, 30, 31, 32, 33, 34, 35, 36, 37, 38, 39, 40, 41, 42, 43, 44, 45, 46, 47, 48, 49, 50, 51, 52, 53, 54] (by decide +kernel) (by decide +kernel)
set_option maxRecDepth 20000 in
theorem gX10_stands_J0_charAt_5068e : GoodIn wsX10_stands (wsV RX10 150 RJ0 yJ0_charAt_5068e wsJ0_charAt_5068e) := goodIn_app (goodIn_of _ (by decide +kernel)) ggX10_stands_J0_charAt_5068e
theorem dX10_stands_0 : decode cX10_stands 0 = .ok (.aload_n 0, 1) := by decide +kernel
theorem dX10_stands_1 : decode cX10_stands 1 = .ok (.getfield 22, 3) := by decide +kernel
theorem dX10_stands_4 : decode cX10_stands 4 = .ok (.ifCond .ne 27, 3) := by decide +kernel
theorem dX10_stands_7 : decode cX10_stands 7 = .ok (.aload_n 0, 1) := by decide +kernel
theorem dX10_stands_8 : decode cX10_stands 8 = .ok (.getfield 51, 3) := by decide +kernel
theorem dX10_stands_11 : decode cX10_stands 11 = .ok (.iconst 1, 1) := by decide +kernel
theorem dX10_stands_12 : decode cX10_stands 12 = .ok (.if_icmp .ne 19, 3) := by decide +kernel
theorem dX10_stands_15 : decode cX10_stands 15 = .ok (.aload_n 0, 1) := by decide +kernel
theorem dX10_stands_16 : decode cX10_stands 16 = .ok (.getfield 25, 3) := by decide +kernel
theorem dX10_stands_19 : decode cX10_stands 19 = .ok (.aload_n 0, 1) := by decide +kernel
theorem dX10_stands_20 : decode cX10_stands 20 = .ok (.getfield 140, 3) := by decide +kernel
theorem dX10_stands_23 : decode cX10_stands 23 = .ok (.isub, 1) := by decide +kernel
theorem dX10_stands_24 : decode cX10_stands 24 = .ok (.aload_n 1, 1) := by decide +kernel
theorem dX10_stands_25 : decode cX10_stands 25 = .ok (.invokevirtual 146, 3) := by decide +kernel
theorem dX10_stands_28 : decode cX10_stands 28 = .ok (.if_icmp .eq 5, 3) := by decide +kernel
theorem dX10_stands_31 : decode cX10_stands 31 = .ok (.iconst 0, 1) := by decide +kernel
theorem dX10_stands_32 : decode cX10_stands 32 = .ok (.ireturn, 1) := by decide +kernel
theorem dX10_stands_33 : decode cX10_stands 33 = .ok (.iconst 0, 1) := by decide +kernel
theorem dX10_stands_34 : decode cX10_stands 34 = .ok (.istore_n 2, 1) := by decide +kernel
theorem dX10_stands_35 : decode cX10_stands 35 = .ok (.iload_n 2, 1) := by decide +kernel
theorem dX10_stands_36 : decode cX10_stands 36 = .ok (.aload_n 1, 1) := by decide +kernel
theorem dX10_stands_37 : decode cX10_stands 37 = .ok (.invokevirtual 146, 3) := by decide +kernel
theorem dX10_stands_40 : decode cX10_stands 40 = .ok (.if_icmp .ge 30, 3) := by decide +kernel
theorem dX10_stands_43 : decode cX10_stands 43 = .ok (.aload_n 0, 1) := by decide +kernel
theorem dX10_stands_44 : decode cX10_stands 44 = .ok (.getfield 9, 3) := by decide +kernel
theorem dX10_stands_47 : decode cX10_stands 47 = .ok (.aload_n 0, 1) := by decide +kernel
theorem dX10_stands_48 : decode cX10_stands 48 = .ok (.getfield 140, 3) := by decide +kernel
theorem dX10_stands_51 : decode cX10_stands 51 = .ok (.iload_n 2, 1) := by decide +kernel
theorem dX10_stands_52 : decode cX10_stands 52 = .ok (.iadd, 1) := by decide +kernel
theorem dX10_stands_53 : decode cX10_stands 53 = .ok (.baload, 1) := by decide +kernel
theorem dX10_stands_54 : decode cX10_stands 54 = .ok (.aload_n 1, 1) := by decide +kernel
theorem dX10_stands_55 : decode cX10_stands 55 = .ok (.iload_n 2, 1) := by decide +kernel
theorem dX10_stands_56 : decode cX10_stands 56 = .ok (.invokevirtual 150, 3) := by decide +kernel
theorem dX10_stands_59 : decode cX10_stands 59 = .ok (.if_icmp .eq 5, 3) := by decide +kernel
theorem dX10_stands_62 : decode cX10_stands 62 = .ok (.iconst 0, 1) := by decide +kernel
theorem dX10_stands_63 : decode cX10_stands 63 = .ok (.ireturn, 1) := by decide +kernel
theorem dX10_stands_64 : decode cX10_stands 64 = .ok (.iinc 2 1, 3) := by decide +kernel
theorem dX10_stands_67 : decode cX10_stands 67 = .ok (.goto (-32), 3) := by decide +kernel
theorem dX10_stands_70 : decode cX10_stands 70 = .ok (.iconst 1, 1) := by decide +kernel
theorem dX10_stands_71 : decode cX10_stands 71 = .ok (.ireturn, 1) := by decide +kernel
set_option maxRecDepth 20000 in
theorem ggX10_nextToken_X10_nextNumber : GoodIn wsX10_nextToken wsX10_nextNumber := goodIn_r _ [10, 4, 2, 11, 1, 3, 5, 12, 13, 14, 15, 16, 17, 18, 19] (by decide +kernel) (by decide +kernel)
set_option maxRecDepth 20000 in
theorem gX10_nextToken_X10_nextNumber : GoodIn wsX10_nextToken (wsV RX10 154 RX10 yX10_nextNumber wsX10_nextNumber) := goodIn_app (goodIn_of _ (by decide +kernel)) ggX10_nextToken_X10_nextNumber
theorem dX10_nextToken_0 : decode cX10_nextToken 0 = .ok (.aload_n 0, 1) := by decide +kernel
theorem dX10_nextToken_1 : decode cX10_nextToken 1 = .ok (.aload_n 0, 1) := by decide +kernel
theorem dX10_nextToken_2 : decode cX10_nextToken 2 = .ok (.getfield 25, 3) := by decide +kernel
theorem dX10_nextToken_5 : decode cX10_nextToken 5 = .ok (.putfield 140, 3) := by decide +kernel
theorem dX10_nextToken_8 : decode cX10_nextToken 8 = .ok (.aload_n 0, 1) := by decide +kernel
theorem dX10_nextToken_9 : decode cX10_nextToken 9 = .ok (.getfield 140, 3) := by decide +kernel
theorem dX10_nextToken_12 : decode cX10_nextToken 12 = .ok (.aload_n 0, 1) := by decide +kernel
theorem dX10_nextToken_13 : decode cX10_nextToken 13 = .ok (.getfield 15, 3) := by decide +kernel
theorem dX10_nextToken_16 : decode cX10_nextToken 16 = .ok (.if_icmp .ge 44, 3) := by decide +kernel
theorem dX10_nextToken_19 : decode cX10_nextToken 19 = .ok (.aload_n 0, 1) := by decide +kernel
theorem dX10_nextToken_20 : decode cX10_nextToken 20 = .ok (.getfield 9, 3) := by decide +kernel
theorem dX10_nextToken_23 : decode cX10_nextToken 23 = .ok (.aload_n 0, 1) := by decide +kernel
theorem dX10_nextToken_24 : decode cX10_nextToken 24 = .ok (.getfield 140, 3) := by decide +kernel
theorem dX10_nextToken_27 : decode cX10_nextToken 27 = .ok (.baload, 1) := by decide +kernel
theorem dX10_nextToken_28 : decode cX10_nextToken 28 = .ok (.bipush 32, 2) := by decide +kernel
theorem dX10_nextToken_30 : decode cX10_nextToken 30 = .ok (.if_icmp .eq 17, 3) := by decide +kernel
theorem dX10_nextToken_33 : decode cX10_nextToken 33 = .ok (.aload_n 0, 1) := by decide +kernel
theorem dX10_nextToken_34 : decode cX10_nextToken 34 = .ok (.getfield 9, 3) := by decide +kernel
theorem dX10_nextToken_37 : decode cX10_nextToken 37 = .ok (.aload_n 0, 1) := by decide +kernel
theorem dX10_nextToken_38 : decode cX10_nextToken 38 = .ok (.getfield 140, 3) := by decide +kernel
theorem dX10_nextToken_41 : decode cX10_nextToken 41 = .ok (.baload, 1) := by decide +kernel
theorem dX10_nextToken_42 : decode cX10_nextToken 42 = .ok (.bipush 10, 2) := by decide +kernel
theorem dX10_nextToken_44 : decode cX10_nextToken 44 = .ok (.if_icmp .ne 16, 3) := by decide +kernel
theorem dX10_nextToken_47 : decode cX10_nextToken 47 = .ok (.aload_n 0, 1) := by decide +kernel
theorem dX10_nextToken_48 : decode cX10_nextToken 48 = .ok (.dup, 1) := by decide +kernel
theorem dX10_nextToken_49 : decode cX10_nextToken 49 = .ok (.getfield 140, 3) := by decide +kernel
theorem dX10_nextToken_52 : decode cX10_nextToken 52 = .ok (.iconst 1, 1) := by decide +kernel
theorem dX10_nextToken_53 : decode cX10_nextToken 53 = .ok (.iadd, 1) := by decide +kernel
theorem dX10_nextToken_54 : decode cX10_nextToken 54 = .ok (.putfield 140, 3) := by decide +kernel
theorem dX10_nextToken_57 : decode cX10_nextToken 57 = .ok (.goto (-49), 3) := by decide +kernel
theorem dX10_nextToken_60 : decode cX10_nextToken 60 = .ok (.aload_n 0, 1) := by decide +kernel
theorem dX10_nextToken_61 : decode cX10_nextToken 61 = .ok (.aload_n 0, 1) := by decide +kernel
theorem dX10_nextToken_62 : decode cX10_nextToken 62 = .ok (.getfield 140, 3) := by decide +kernel
theorem dX10_nextToken_65 : decode cX10_nextToken 65 = .ok (.putfield 25, 3) := by decide +kernel
theorem dX10_nextToken_68 : decode cX10_nextToken 68 = .ok (.aload_n 0, 1) := by decide +kernel
theorem dX10_nextToken_69 : decode cX10_nextToken 69 = .ok (.getfield 25, 3) := by decide +kernel
theorem dX10_nextToken_72 : decode cX10_nextToken 72 = .ok (.aload_n 0, 1) := by decide +kernel
theorem dX10_nextToken_73 : decode cX10_nextToken 73 = .ok (.getfield 15, 3) := by decide +kernel
theorem dX10_nextToken_76 : decode cX10_nextToken 76 = .ok (.if_icmp .ge 44, 3) := by decide +kernel
theorem dX10_nextToken_79 : decode cX10_nextToken 79 = .ok (.aload_n 0, 1) := by decide +kernel
theorem dX10_nextToken_80 : decode cX10_nextToken 80 = .ok (.getfield 9, 3) := by decide +kernel
theorem dX10_nextToken_83 : decode cX10_nextToken 83 = .ok (.aload_n 0, 1) := by decide +kernel
theorem dX10_nextToken_84 : decode cX10_nextToken 84 = .ok (.getfield 25, 3) := by decide +kernel
theorem dX10_nextToken_87 : decode cX10_nextToken 87 = .ok (.baload, 1) := by decide +kernel
theorem dX10_nextToken_88 : decode cX10_nextToken 88 = .ok (.bipush 97, 2) := by decide +kernel
theorem dX10_nextToken_90 : decode cX10_nextToken 90 = .ok (.if_icmp .lt 30, 3) := by decide +kernel
theorem dX10_nextToken_93 : decode cX10_nextToken 93 = .ok (.aload_n 0, 1) := by decide +kernel
theorem dX10_nextToken_94 : decode cX10_nextToken 94 = .ok (.getfield 9, 3) := by decide +kernel
theorem dX10_nextToken_97 : decode cX10_nextToken 97 = .ok (.aload_n 0, 1) := by decide +kernel
theorem dX10_nextToken_98 : decode cX10_nextToken 98 = .ok (.getfield 25, 3) := by decide +kernel
theorem dX10_nextToken_101 : decode cX10_nextToken 101 = .ok (.baload, 1) := by decide +kernel
theorem dX10_nextToken_102 : decode cX10_nextToken 102 = .ok (.bipush 122, 2) := by decide +kernel
theorem dX10_nextToken_104 : decode cX10_nextToken 104 = .ok (.if_icmp .gt 16, 3) := by decide +kernel
theorem dX10_nextToken_107 : decode cX10_nextToken 107 = .ok (.aload_n 0, 1) := by decide +kernel
theorem dX10_nextToken_108 : decode cX10_nextToken 108 = .ok (.dup, 1) := by decide +kernel
theorem dX10_nextToken_109 : decode cX10_nextToken 109 = .ok (.getfield 25, 3) := by decide +kernel
theorem dX10_nextToken_112 : decode cX10_nextToken 112 = .ok (.iconst 1, 1) := by decide +kernel
theorem dX10_nextToken_113 : decode cX10_nextToken 113 = .ok (.iadd, 1) := by decide +kernel
theorem dX10_nextToken_114 : decode cX10_nextToken 114 = .ok (.putfield 25, 3) := by decide +kernel
theorem dX10_nextToken_117 : decode cX10_nextToken 117 = .ok (.goto (-49), 3) := by decide +kernel
theorem dX10_nextToken_120 : decode cX10_nextToken 120 = .ok (.aload_n 0, 1) := by decide +kernel
theorem dX10_nextToken_121 : decode cX10_nextToken 121 = .ok (.getfield 140, 3) := by decide +kernel
theorem dX10_nextToken_124 : decode cX10_nextToken 124 = .ok (.aload_n 0, 1) := by decide +kernel
theorem dX10_nextToken_125 : decode cX10_nextToken 125 = .ok (.getfield 15, 3) := by decide +kernel
theorem dX10_nextToken_128 : decode cX10_nextToken 128 = .ok (.if_icmp .lt 11, 3) := by decide +kernel
theorem dX10_nextToken_131 : decode cX10_nextToken 131 = .ok (.aload_n 0, 1) := by decide +kernel
theorem dX10_nextToken_132 : decode cX10_nextToken 132 = .ok (.iconst 0, 1) := by decide +kernel
theorem dX10_nextToken_133 : decode cX10_nextToken 133 = .ok (.putfield 51, 3) := by decide +kernel
theorem dX10_nextToken_136 : decode cX10_nextToken 136 = .ok (.goto 58, 3) := by decide +kernel
theorem dX10_nextToken_139 : decode cX10_nextToken 139 = .ok (.aload_n 0, 1) := by decide +kernel
theorem dX10_nextToken_140 : decode cX10_nextToken 140 = .ok (.getfield 25, 3) := by decide +kernel
theorem dX10_nextToken_143 : decode cX10_nextToken 143 = .ok (.aload_n 0, 1) := by decide +kernel
theorem dX10_nextToken_144 : decode cX10_nextToken 144 = .ok (.getfield 140, 3) := by decide +kernel
theorem dX10_nextToken_147 : decode cX10_nextToken 147 = .ok (.if_icmp .le 11, 3) := by decide +kernel
theorem dX10_nextToken_150 : decode cX10_nextToken 150 = .ok (.aload_n 0, 1) := by decide +kernel
theorem dX10_nextToken_151 : decode cX10_nextToken 151 = .ok (.iconst 1, 1) := by decide +kernel
theorem dX10_nextToken_152 : decode cX10_nextToken 152 = .ok (.putfield 51, 3) := by decide +kernel
theorem dX10_nextToken_155 : decode cX10_nextToken 155 = .ok (.goto 39, 3) := by decide +kernel
theorem dX10_nextToken_158 : decode cX10_nextToken 158 = .ok (.aload_n 0, 1) := by decide +kernel
theorem dX10_nextToken_159 : decode cX10_nextToken 159 = .ok (.getfield 9, 3) := by decide +kernel
theorem dX10_nextToken_162 : decode cX10_nextToken 162 = .ok (.aload_n 0, 1) := by decide +kernel
theorem dX10_nextToken_163 : decode cX10_nextToken 163 = .ok (.getfield 140, 3) := by decide +kernel
theorem dX10_nextToken_166 : decode cX10_nextToken 166 = .ok (.baload, 1) := by decide +kernel
theorem dX10_nextToken_167 : decode cX10_nextToken 167 = .ok (.bipush 59, 2) := by decide +kernel
theorem dX10_nextToken_169 : decode cX10_nextToken 169 = .ok (.if_icmp .ne 21, 3) := by decide +kernel
theorem dX10_nextToken_172 : decode cX10_nextToken 172 = .ok (.aload_n 0, 1) := by decide +kernel
theorem dX10_nextToken_173 : decode cX10_nextToken 173 = .ok (.iconst 3, 1) := by decide +kernel
theorem dX10_nextToken_174 : decode cX10_nextToken 174 = .ok (.putfield 51, 3) := by decide +kernel
theorem dX10_nextToken_177 : decode cX10_nextToken 177 = .ok (.aload_n 0, 1) := by decide +kernel
theorem dX10_nextToken_178 : decode cX10_nextToken 178 = .ok (.dup, 1) := by decide +kernel
theorem dX10_nextToken_179 : decode cX10_nextToken 179 = .ok (.getfield 25, 3) := by decide +kernel
theorem dX10_nextToken_182 : decode cX10_nextToken 182 = .ok (.iconst 1, 1) := by decide +kernel
theorem dX10_nextToken_183 : decode cX10_nextToken 183 = .ok (.iadd, 1) := by decide +kernel
theorem dX10_nextToken_184 : decode cX10_nextToken 184 = .ok (.putfield 25, 3) := by decide +kernel
theorem dX10_nextToken_187 : decode cX10_nextToken 187 = .ok (.goto 7, 3) := by decide +kernel
theorem dX10_nextToken_190 : decode cX10_nextToken 190 = .ok (.aload_n 0, 1) := by decide +kernel
theorem dX10_nextToken_191 : decode cX10_nextToken 191 = .ok (.invokevirtual 154, 3) := by decide +kernel
theorem dX10_nextToken_194 : decode cX10_nextToken 194 = .ok (.return_, 1) := by decide +kernel
theorem dX10_nextNumber_0 : decode cX10_nextNumber 0 = .ok (.aload_n 0, 1) := by decide +kernel
theorem dX10_nextNumber_1 : decode cX10_nextNumber 1 = .ok (.getfield 9, 3) := by decide +kernel
theorem dX10_nextNumber_4 : decode cX10_nextNumber 4 = .ok (.aload_n 0, 1) := by decide +kernel
theorem dX10_nextNumber_5 : decode cX10_nextNumber 5 = .ok (.getfield 140, 3) := by decide +kernel
theorem dX10_nextNumber_8 : decode cX10_nextNumber 8 = .ok (.baload, 1) := by decide +kernel
theorem dX10_nextNumber_9 : decode cX10_nextNumber 9 = .ok (.bipush 45, 2) := by decide +kernel
theorem dX10_nextNumber_11 : decode cX10_nextNumber 11 = .ok (.if_icmp .ne 7, 3) := by decide +kernel
theorem dX10_nextNumber_14 : decode cX10_nextNumber 14 = .ok (.iconst 1, 1) := by decide +kernel
theorem dX10_nextNumber_15 : decode cX10_nextNumber 15 = .ok (.goto 4, 3) := by decide +kernel
theorem dX10_nextNumber_18 : decode cX10_nextNumber 18 = .ok (.iconst 0, 1) := by decide +kernel
theorem dX10_nextNumber_19 : decode cX10_nextNumber 19 = .ok (.istore_n 1, 1) := by decide +kernel
theorem dX10_nextNumber_20 : decode cX10_nextNumber 20 = .ok (.iload_n 1, 1) := by decide +kernel
theorem dX10_nextNumber_21 : decode cX10_nextNumber 21 = .ok (.ifCond .eq 12, 3) := by decide +kernel
theorem dX10_nextNumber_24 : decode cX10_nextNumber 24 = .ok (.aload_n 0, 1) := by decide +kernel
theorem dX10_nextNumber_25 : decode cX10_nextNumber 25 = .ok (.getfield 140, 3) := by decide +kernel
theorem dX10_nextNumber_28 : decode cX10_nextNumber 28 = .ok (.iconst 1, 1) := by decide +kernel
theorem dX10_nextNumber_29 : decode cX10_nextNumber 29 = .ok (.iadd, 1) := by decide +kernel
theorem dX10_nextNumber_30 : decode cX10_nextNumber 30 = .ok (.goto 7, 3) := by decide +kernel
theorem dX10_nextNumber_33 : decode cX10_nextNumber 33 = .ok (.aload_n 0, 1) := by decide +kernel
theorem dX10_nextNumber_34 : decode cX10_nextNumber 34 = .ok (.getfield 140, 3) := by decide +kernel
theorem dX10_nextNumber_37 : decode cX10_nextNumber 37 = .ok (.istore_n 2, 1) := by decide +kernel
theorem dX10_nextNumber_38 : decode cX10_nextNumber 38 = .ok (.aload_n 0, 1) := by decide +kernel
theorem dX10_nextNumber_39 : decode cX10_nextNumber 39 = .ok (.iconst 0, 1) := by decide +kernel
theorem dX10_nextNumber_40 : decode cX10_nextNumber 40 = .ok (.putfield 137, 3) := by decide +kernel
theorem dX10_nextNumber_43 : decode cX10_nextNumber 43 = .ok (.aload_n 0, 1) := by decide +kernel
theorem dX10_nextNumber_44 : decode cX10_nextNumber 44 = .ok (.iload_n 2, 1) := by decide +kernel
theorem dX10_nextNumber_45 : decode cX10_nextNumber 45 = .ok (.putfield 25, 3) := by decide +kernel
theorem dX10_nextNumber_48 : decode cX10_nextNumber 48 = .ok (.aload_n 0, 1) := by decide +kernel
theorem dX10_nextNumber_49 : decode cX10_nextNumber 49 = .ok (.getfield 25, 3) := by decide +kernel
theorem dX10_nextNumber_52 : decode cX10_nextNumber 52 = .ok (.aload_n 0, 1) := by decide +kernel
theorem dX10_nextNumber_53 : decode cX10_nextNumber 53 = .ok (.getfield 15, 3) := by decide +kernel
theorem dX10_nextNumber_56 : decode cX10_nextNumber 56 = .ok (.if_icmp .ge 78, 3) := by decide +kernel
theorem dX10_nextNumber_59 : decode cX10_nextNumber 59 = .ok (.aload_n 0, 1) := by decide +kernel
theorem dX10_nextNumber_60 : decode cX10_nextNumber 60 = .ok (.getfield 9, 3) := by decide +kernel
theorem dX10_nextNumber_63 : decode cX10_nextNumber 63 = .ok (.aload_n 0, 1) := by decide +kernel
theorem dX10_nextNumber_64 : decode cX10_nextNumber 64 = .ok (.getfield 25, 3) := by decide +kernel
theorem dX10_nextNumber_67 : decode cX10_nextNumber 67 = .ok (.baload, 1) := by decide +kernel
theorem dX10_nextNumber_68 : decode cX10_nextNumber 68 = .ok (.bipush 48, 2) := by decide +kernel
theorem dX10_nextNumber_70 : decode cX10_nextNumber 70 = .ok (.if_icmp .lt 64, 3) := by decide +kernel
theorem dX10_nextNumber_73 : decode cX10_nextNumber 73 = .ok (.aload_n 0, 1) := by decide +kernel
theorem dX10_nextNumber_74 : decode cX10_nextNumber 74 = .ok (.getfield 9, 3) := by decide +kernel
theorem dX10_nextNumber_77 : decode cX10_nextNumber 77 = .ok (.aload_n 0, 1) := by decide +kernel
theorem dX10_nextNumber_78 : decode cX10_nextNumber 78 = .ok (.getfield 25, 3) := by decide +kernel
theorem dX10_nextNumber_81 : decode cX10_nextNumber 81 = .ok (.baload, 1) := by decide +kernel
theorem dX10_nextNumber_82 : decode cX10_nextNumber 82 = .ok (.bipush 57, 2) := by decide +kernel
theorem dX10_nextNumber_84 : decode cX10_nextNumber 84 = .ok (.if_icmp .gt 50, 3) := by decide +kernel
theorem dX10_nextNumber_87 : decode cX10_nextNumber 87 = .ok (.aload_n 0, 1) := by decide +kernel
theorem dX10_nextNumber_88 : decode cX10_nextNumber 88 = .ok (.getfield 25, 3) := by decide +kernel
theorem dX10_nextNumber_91 : decode cX10_nextNumber 91 = .ok (.iload_n 2, 1) := by decide +kernel
theorem dX10_nextNumber_92 : decode cX10_nextNumber 92 = .ok (.isub, 1) := by decide +kernel
theorem dX10_nextNumber_93 : decode cX10_nextNumber 93 = .ok (.iconst 4, 1) := by decide +kernel
theorem dX10_nextNumber_94 : decode cX10_nextNumber 94 = .ok (.if_icmp .ge 27, 3) := by decide +kernel
theorem dX10_nextNumber_97 : decode cX10_nextNumber 97 = .ok (.aload_n 0, 1) := by decide +kernel
theorem dX10_nextNumber_98 : decode cX10_nextNumber 98 = .ok (.bipush 10, 2) := by decide +kernel
theorem dX10_nextNumber_100 : decode cX10_nextNumber 100 = .ok (.aload_n 0, 1) := by decide +kernel
theorem dX10_nextNumber_101 : decode cX10_nextNumber 101 = .ok (.getfield 137, 3) := by decide +kernel
theorem dX10_nextNumber_104 : decode cX10_nextNumber 104 = .ok (.imul, 1) := by decide +kernel
theorem dX10_nextNumber_105 : decode cX10_nextNumber 105 = .ok (.aload_n 0, 1) := by decide +kernel
theorem dX10_nextNumber_106 : decode cX10_nextNumber 106 = .ok (.getfield 9, 3) := by decide +kernel
theorem dX10_nextNumber_109 : decode cX10_nextNumber 109 = .ok (.aload_n 0, 1) := by decide +kernel
theorem dX10_nextNumber_110 : decode cX10_nextNumber 110 = .ok (.getfield 25, 3) := by decide +kernel
theorem dX10_nextNumber_113 : decode cX10_nextNumber 113 = .ok (.baload, 1) := by decide +kernel
theorem dX10_nextNumber_114 : decode cX10_nextNumber 114 = .ok (.iadd, 1) := by decide +kernel
theorem dX10_nextNumber_115 : decode cX10_nextNumber 115 = .ok (.bipush 48, 2) := by decide +kernel
theorem dX10_nextNumber_117 : decode cX10_nextNumber 117 = .ok (.isub, 1) := by decide +kernel
theorem dX10_nextNumber_118 : decode cX10_nextNumber 118 = .ok (.putfield 137, 3) := by decide +kernel
theorem dX10_nextNumber_121 : decode cX10_nextNumber 121 = .ok (.aload_n 0, 1) := by decide +kernel
theorem dX10_nextNumber_122 : decode cX10_nextNumber 122 = .ok (.dup, 1) := by decide +kernel
theorem dX10_nextNumber_123 : decode cX10_nextNumber 123 = .ok (.getfield 25, 3) := by decide +kernel
theorem dX10_nextNumber_126 : decode cX10_nextNumber 126 = .ok (.iconst 1, 1) := by decide +kernel
theorem dX10_nextNumber_127 : decode cX10_nextNumber 127 = .ok (.iadd, 1) := by decide +kernel
theorem dX10_nextNumber_128 : decode cX10_nextNumber 128 = .ok (.putfield 25, 3) := by decide +kernel
theorem dX10_nextNumber_131 : decode cX10_nextNumber 131 = .ok (.goto (-83), 3) := by decide +kernel
theorem dX10_nextNumber_134 : decode cX10_nextNumber 134 = .ok (.iload_n 1, 1) := by decide +kernel
theorem dX10_nextNumber_135 : decode cX10_nextNumber 135 = .ok (.ifCond .eq 12, 3) := by decide +kernel
theorem dX10_nextNumber_138 : decode cX10_nextNumber 138 = .ok (.aload_n 0, 1) := by decide +kernel
theorem dX10_nextNumber_139 : decode cX10_nextNumber 139 = .ok (.aload_n 0, 1) := by decide +kernel
theorem dX10_nextNumber_140 : decode cX10_nextNumber 140 = .ok (.getfield 137, 3) := by decide +kernel
theorem dX10_nextNumber_143 : decode cX10_nextNumber 143 = .ok (.ineg, 1) := by decide +kernel
theorem dX10_nextNumber_144 : decode cX10_nextNumber 144 = .ok (.putfield 137, 3) := by decide +kernel
theorem dX10_nextNumber_147 : decode cX10_nextNumber 147 = .ok (.aload_n 0, 1) := by decide +kernel
theorem dX10_nextNumber_148 : decode cX10_nextNumber 148 = .ok (.aload_n 0, 1) := by decide +kernel
theorem dX10_nextNumber_149 : decode cX10_nextNumber 149 = .ok (.getfield 25, 3) := by decide +kernel
theorem dX10_nextNumber_152 : decode cX10_nextNumber 152 = .ok (.iload_n 2, 1) := by decide +kernel
theorem dX10_nextNumber_153 : decode cX10_nextNumber 153 = .ok (.if_icmp .eq 13, 3) := by decide +kernel
theorem dX10_nextNumber_156 : decode cX10_nextNumber 156 = .ok (.aload_n 0, 1) := by decide +kernel
theorem dX10_nextNumber_157 : decode cX10_nextNumber 157 = .ok (.getfield 25, 3) := by decide +kernel
theorem dX10_nextNumber_160 : decode cX10_nextNumber 160 = .ok (.iload_n 2, 1) := by decide +kernel
theorem dX10_nextNumber_161 : decode cX10_nextNumber 161 = .ok (.isub, 1) := by decide +kernel
theorem dX10_nextNumber_162 : decode cX10_nextNumber 162 = .ok (.iconst 4, 1) := by decide +kernel
theorem dX10_nextNumber_163 : decode cX10_nextNumber 163 = .ok (.if_icmp .le 7, 3) := by decide +kernel
theorem dX10_nextNumber_166 : decode cX10_nextNumber 166 = .ok (.iconst 4, 1) := by decide +kernel
theorem dX10_nextNumber_167 : decode cX10_nextNumber 167 = .ok (.goto 4, 3) := by decide +kernel
theorem dX10_nextNumber_170 : decode cX10_nextNumber 170 = .ok (.iconst 2, 1) := by decide +kernel
theorem dX10_nextNumber_171 : decode cX10_nextNumber 171 = .ok (.putfield 51, 3) := by decide +kernel
theorem dX10_nextNumber_174 : decode cX10_nextNumber 174 = .ok (.return_, 1) := by decide +kernel
set_option maxRecDepth 20000 in
theorem ggX11_init_X10_init : GoodIn wsX11_init wsX10_init := goodIn_r _ [28, 29, 2, 3, 30, 31, 67, 68, 69, 70, 71, 72, 73, 74] (by decide +kernel) (by decide +kernel)
set_option maxRecDepth 20000 in
theorem gX11_init_X10_init_n17 : GoodIn wsX11_init (wsX10_init) := ggX11_init_X10_init
set_option maxRecDepth 20000 in
theorem ggX11_init_X9_init : GoodIn wsX11_init wsX9_init := goodIn_r _ [33, 34, 2, 3, 35, 36, 37, 38, 39, 40, 41, 94, 95, 96, 97, 98, 99, 100, 101, 102, 103, 104, 105, 75, 76] (by decide +kernel) (by decide +kernel)
set_option maxRecDepth 20000 in
theorem gX11_init_X9_init_n24 : GoodIn wsX11_init (wsX9_init) := ggX11_init_X9_init
set_option maxRecDepth 20000 in
theorem ggX11_init_X4_init : GoodIn wsX11_init wsX4_init := goodIn_r _ [43, 44, 2, 3, 45, 36, 37, 46, 47, 48, 49, 39, 40, 41, 94, 95, 96, 97, 98, 99, 100, 101, 102, 103, 104, 105, 77, 78, 79, 80, 81, 82, 83, 84, 85] (by decide +kernel) (by decide +kernel)
set_option maxRecDepth 20000 in
theorem gX11_init_X4_init_n35 : GoodIn wsX11_init (wsX4_init) := ggX11_init_X4_init
set_option maxRecDepth 20000 in
theorem ggX11_init_X0_init : GoodIn wsX11_init wsX0_init := goodIn_r _ [51, 52, 2, 3, 47, 53, 86, 87, 88, 89] (by decide +kernel) (by decide +kernel)
set_option maxRecDepth 20000 in
theorem gX11_init_X0_init_n42 : GoodIn wsX11_init (wsX0_init) := ggX11_init_X0_init
set_option maxRecDepth 20000 in
theorem ggX11_init_X6_init : GoodIn wsX11_init wsX6_init := goodIn_r _ [55, 56, 2, 3, 47, 57, 90, 91, 92, 93] (by decide +kernel) (by decide +kernel)
set_option maxRecDepth 20000 in
theorem gX11_init_X6_init_n52 : GoodIn wsX11_init (wsX6_init) := ggX11_init_X6_init
theorem dX11_init_0 : decode cX11_init 0 = .ok (.aload_n 0, 1) := by decide +kernel
theorem dX11_init_1 : decode cX11_init 1 = .ok (.invokespecial 1, 3) := by decide +kernel
theorem dX11_init_4 : decode cX11_init 4 = .ok (.aload_n 0, 1) := by decide +kernel
theorem dX11_init_5 : decode cX11_init 5 = .ok (.bipush 8, 2) := by decide +kernel
theorem dX11_init_7 : decode cX11_init 7 = .ok (.anewarray 9, 3) := by decide +kernel
theorem dX11_init_10 : decode cX11_init 10 = .ok (.putfield 11, 3) := by decide +kernel
theorem dX11_init_13 : decode cX11_init 13 = .ok (.aload_n 0, 1) := by decide +kernel
theorem dX11_init_14 : decode cX11_init 14 = .ok (.new 15, 3) := by decide +kernel
theorem dX11_init_17 : decode cX11_init 17 = .ok (.dup, 1) := by decide +kernel
theorem dX11_init_18 : decode cX11_init 18 = .ok (.invokespecial 17, 3) := by decide +kernel
theorem dX11_init_21 : decode cX11_init 21 = .ok (.putfield 18, 3) := by decide +kernel
theorem dX11_init_24 : decode cX11_init 24 = .ok (.aload_n 0, 1) := by decide +kernel
theorem dX11_init_25 : decode cX11_init 25 = .ok (.new 22, 3) := by decide +kernel
theorem dX11_init_28 : decode cX11_init 28 = .ok (.dup, 1) := by decide +kernel
theorem dX11_init_29 : decode cX11_init 29 = .ok (.invokespecial 24, 3) := by decide +kernel
theorem dX11_init_32 : decode cX11_init 32 = .ok (.putfield 25, 3) := by decide +kernel
theorem dX11_init_35 : decode cX11_init 35 = .ok (.aload_n 0, 1) := by decide +kernel
theorem dX11_init_36 : decode cX11_init 36 = .ok (.iconst 2, 1) := by decide +kernel
theorem dX11_init_37 : decode cX11_init 37 = .ok (.anewarray 22, 3) := by decide +kernel
theorem dX11_init_40 : decode cX11_init 40 = .ok (.putfield 29, 3) := by decide +kernel
theorem dX11_init_43 : decode cX11_init 43 = .ok (.aload_n 0, 1) := by decide +kernel
theorem dX11_init_44 : decode cX11_init 44 = .ok (.new 33, 3) := by decide +kernel
theorem dX11_init_47 : decode cX11_init 47 = .ok (.dup, 1) := by decide +kernel
theorem dX11_init_48 : decode cX11_init 48 = .ok (.invokespecial 35, 3) := by decide +kernel
theorem dX11_init_51 : decode cX11_init 51 = .ok (.putfield 36, 3) := by decide +kernel
theorem dX11_init_54 : decode cX11_init 54 = .ok (.aload_n 0, 1) := by decide +kernel
theorem dX11_init_55 : decode cX11_init 55 = .ok (.new 40, 3) := by decide +kernel
theorem dX11_init_58 : decode cX11_init 58 = .ok (.dup, 1) := by decide +kernel
theorem dX11_init_59 : decode cX11_init 59 = .ok (.invokespecial 42, 3) := by decide +kernel
theorem dX11_init_62 : decode cX11_init 62 = .ok (.putfield 43, 3) := by decide +kernel
theorem dX11_init_65 : decode cX11_init 65 = .ok (.aload_n 0, 1) := by decide +kernel
theorem dX11_init_66 : decode cX11_init 66 = .ok (.ldc 47, 2) := by decide +kernel
theorem dX11_init_68 : decode cX11_init 68 = .ok (.putfield 48, 3) := by decide +kernel
theorem dX11_init_71 : decode cX11_init 71 = .ok (.iconst 0, 1) := by decide +kernel
theorem dX11_init_72 : decode cX11_init 72 = .ok (.istore_n 1, 1) := by decide +kernel
theorem dX11_init_73 : decode cX11_init 73 = .ok (.iload_n 1, 1) := by decide +kernel
theorem dX11_init_74 : decode cX11_init 74 = .ok (.bipush 8, 2) := by decide +kernel
theorem dX11_init_76 : decode cX11_init 76 = .ok (.if_icmp .ge 22, 3) := by decide +kernel
theorem dX11_init_79 : decode cX11_init 79 = .ok (.aload_n 0, 1) := by decide +kernel
theorem dX11_init_80 : decode cX11_init 80 = .ok (.getfield 11, 3) := by decide +kernel
theorem dX11_init_83 : decode cX11_init 83 = .ok (.iload_n 1, 1) := by decide +kernel
theorem dX11_init_84 : decode cX11_init 84 = .ok (.new 9, 3) := by decide +kernel
theorem dX11_init_87 : decode cX11_init 87 = .ok (.dup, 1) := by decide +kernel
theorem dX11_init_88 : decode cX11_init 88 = .ok (.invokespecial 52, 3) := by decide +kernel
theorem dX11_init_91 : decode cX11_init 91 = .ok (.aastore, 1) := by decide +kernel
theorem dX11_init_92 : decode cX11_init 92 = .ok (.iinc 1 1, 3) := by decide +kernel
theorem dX11_init_95 : decode cX11_init 95 = .ok (.goto (-22), 3) := by decide +kernel
theorem dX11_init_98 : decode cX11_init 98 = .ok (.iconst 0, 1) := by decide +kernel
theorem dX11_init_99 : decode cX11_init 99 = .ok (.istore_n 1, 1) := by decide +kernel
theorem dX11_init_100 : decode cX11_init 100 = .ok (.iload_n 1, 1) := by decide +kernel
theorem dX11_init_101 : decode cX11_init 101 = .ok (.iconst 2, 1) := by decide +kernel
theorem dX11_init_102 : decode cX11_init 102 = .ok (.if_icmp .ge 22, 3) := by decide +kernel
theorem dX11_init_105 : decode cX11_init 105 = .ok (.aload_n 0, 1) := by decide +kernel
theorem dX11_init_106 : decode cX11_init 106 = .ok (.getfield 29, 3) := by decide +kernel
theorem dX11_init_109 : decode cX11_init 109 = .ok (.iload_n 1, 1) := by decide +kernel
theorem dX11_init_110 : decode cX11_init 110 = .ok (.new 22, 3) := by decide +kernel
theorem dX11_init_113 : decode cX11_init 113 = .ok (.dup, 1) := by decide +kernel
theorem dX11_init_114 : decode cX11_init 114 = .ok (.invokespecial 24, 3) := by decide +kernel
theorem dX11_init_117 : decode cX11_init 117 = .ok (.aastore, 1) := by decide +kernel
theorem dX11_init_118 : decode cX11_init 118 = .ok (.iinc 1 1, 3) := by decide +kernel
theorem dX11_init_121 : decode cX11_init 121 = .ok (.goto (-21), 3) := by decide +kernel
theorem dX11_init_124 : decode cX11_init 124 = .ok (.return_, 1) := by decide +kernel
set_option maxRecDepth 20000 in
theorem ggX11_row_X11_rowAt : GoodIn wsX11_row wsX11_rowAt := goodIn_r _ [6, 7, 31, 32, 33, 34, 35, 36, 37, 38, 39] (by decide +kernel) (by decide +kernel)
set_option maxRecDepth 20000 in
theorem gX11_row_X11_rowAt : GoodIn wsX11_row (wsV RX11 53 RX11 yX11_rowAt wsX11_rowAt) := goodIn_app (goodIn_of _ (by decide +kernel)) ggX11_row_X11_rowAt
set_option maxRecDepth 20000 in
theorem ggX11_row_X11_found : GoodIn wsX11_row wsX11_found := goodIn_r _ [11, 12, 13, 31, 32, 33, 34, 35, 36, 37, 38, 39] (by decide +kernel) (by decide +kernel)
set_option maxRecDepth 20000 in
theorem gX11_row_X11_found : GoodIn wsX11_row (wsV RX11 58 RX11 yX11_found wsX11_found) := goodIn_app (goodIn_of _ (by decide +kernel)) ggX11_row_X11_found
set_option maxRecDepth 20000 in
theorem ggX11_row_X6_make : GoodIn wsX11_row wsX6_make := goodIn_r _ [18, 19, 20, 21, 22, 23, 24, 25, 26, 40, 41, 42, 43] (by decide +kernel) (by decide +kernel)
set_option maxRecDepth 20000 in
theorem gX11_row_X6_make : GoodIn wsX11_row (wsV RX11 62 RX6 yX6_make wsX6_make) := goodIn_app (goodIn_of _ (by decide +kernel)) ggX11_row_X6_make
set_option maxRecDepth 20000 in
theorem ggX11_row_X11_fine : GoodIn wsX11_row wsX11_fine := goodIn_r _ [30, 12, 31, 32, 33, 34, 35, 36, 37, 38, 39] (by decide +kernel) (by decide +kernel)
set_option maxRecDepth 20000 in
theorem gX11_row_X11_fine : GoodIn wsX11_row (wsV RX11 66 RX11 yX11_fine wsX11_fine) := goodIn_app (goodIn_of _ (by decide +kernel)) ggX11_row_X11_fine
theorem dX11_row_0 : decode cX11_row 0 = .ok (.aload_n 0, 1) := by decide +kernel
theorem dX11_row_1 : decode cX11_row 1 = .ok (.iload_n 1, 1) := by decide +kernel
theorem dX11_row_2 : decode cX11_row 2 = .ok (.invokevirtual 53, 3) := by decide +kernel
theorem dX11_row_5 : decode cX11_row 5 = .ok (.astore 4, 2) := by decide +kernel
theorem dX11_row_7 : decode cX11_row 7 = .ok (.aload 4, 2) := by decide +kernel
theorem dX11_row_9 : decode cX11_row 9 = .ok (.ifnull 18, 3) := by decide +kernel
theorem dX11_row_12 : decode cX11_row 12 = .ok (.iload_n 2, 1) := by decide +kernel
theorem dX11_row_13 : decode cX11_row 13 = .ok (.ifCond .lt 14, 3) := by decide +kernel
theorem dX11_row_16 : decode cX11_row 16 = .ok (.iload_n 2, 1) := by decide +kernel
theorem dX11_row_17 : decode cX11_row 17 = .ok (.iconst 3, 1) := by decide +kernel
theorem dX11_row_18 : decode cX11_row 18 = .ok (.if_icmp .ge 9, 3) := by decide +kernel
theorem dX11_row_21 : decode cX11_row 21 = .ok (.iload_n 3, 1) := by decide +kernel
theorem dX11_row_22 : decode cX11_row 22 = .ok (.bipush 40, 2) := by decide +kernel
theorem dX11_row_24 : decode cX11_row 24 = .ok (.if_icmp .le 6, 3) := by decide +kernel
theorem dX11_row_27 : decode cX11_row 27 = .ok (.ldc 57, 2) := by decide +kernel
theorem dX11_row_29 : decode cX11_row 29 = .ok (.ireturn, 1) := by decide +kernel
theorem dX11_row_30 : decode cX11_row 30 = .ok (.iload_n 3, 1) := by decide +kernel
theorem dX11_row_31 : decode cX11_row 31 = .ok (.ifCond .ge 9, 3) := by decide +kernel
theorem dX11_row_34 : decode cX11_row 34 = .ok (.aload_n 0, 1) := by decide +kernel
theorem dX11_row_35 : decode cX11_row 35 = .ok (.iconst 4, 1) := by decide +kernel
theorem dX11_row_36 : decode cX11_row 36 = .ok (.invokevirtual 58, 3) := by decide +kernel
theorem dX11_row_39 : decode cX11_row 39 = .ok (.ireturn, 1) := by decide +kernel
theorem dX11_row_40 : decode cX11_row 40 = .ok (.aload 4, 2) := by decide +kernel
theorem dX11_row_42 : decode cX11_row 42 = .ok (.iload_n 2, 1) := by decide +kernel
theorem dX11_row_43 : decode cX11_row 43 = .ok (.iload_n 3, 1) := by decide +kernel
theorem dX11_row_44 : decode cX11_row 44 = .ok (.invokevirtual 62, 3) := by decide +kernel
theorem dX11_row_47 : decode cX11_row 47 = .ok (.aload_n 0, 1) := by decide +kernel
theorem dX11_row_48 : decode cX11_row 48 = .ok (.iload_n 3, 1) := by decide +kernel
theorem dX11_row_49 : decode cX11_row 49 = .ok (.invokevirtual 66, 3) := by decide +kernel
theorem dX11_row_52 : decode cX11_row 52 = .ok (.ireturn, 1) := by decide +kernel
set_option maxRecDepth 20000 in
theorem ggX11_set_X11_rowAt : GoodIn wsX11_set wsX11_rowAt := goodIn_r _ [6, 7, 35, 36, 37, 38, 39, 40, 41, 42, 43] (by decide +kernel) (by decide +kernel)
set_option maxRecDepth 20000 in
theorem gX11_set_X11_rowAt : GoodIn wsX11_set (wsV RX11 53 RX11 yX11_rowAt wsX11_rowAt) := goodIn_app (goodIn_of _ (by decide +kernel)) ggX11_set_X11_rowAt
set_option maxRecDepth 20000 in
theorem ggX11_set_X6_findingAt : GoodIn wsX11_set wsX6_findingAt := goodIn_r _ [12, 13, 14, 15, 16, 11, 17, 18, 44, 45, 46, 47] (by decide +kernel) (by decide +kernel)
set_option maxRecDepth 20000 in
theorem gX11_set_X6_findingAt : GoodIn wsX11_set (wsV RX11 69 RX6 yX6_findingAt wsX6_findingAt) := goodIn_app (goodIn_of _ (by decide +kernel)) ggX11_set_X6_findingAt
set_option maxRecDepth 20000 in
theorem ggX11_set_X11_found : GoodIn wsX11_set wsX11_found := goodIn_r _ [22, 23, 24, 35, 36, 37, 38, 39, 40, 41, 42, 43] (by decide +kernel) (by decide +kernel)
set_option maxRecDepth 20000 in
theorem gX11_set_X11_found : GoodIn wsX11_set (wsV RX11 58 RX11 yX11_found wsX11_found) := goodIn_app (goodIn_of _ (by decide +kernel)) ggX11_set_X11_found
set_option maxRecDepth 20000 in
theorem ggX11_set_X6_put : GoodIn wsX11_set wsX6_put := goodIn_r _ [28, 29, 30, 14, 15, 16, 11, 17, 18, 44, 45, 46, 47] (by decide +kernel) (by decide +kernel)
set_option maxRecDepth 20000 in
theorem gX11_set_X6_put : GoodIn wsX11_set (wsV RX11 73 RX6 yX6_put wsX6_put) := goodIn_app (goodIn_of _ (by decide +kernel)) ggX11_set_X6_put
set_option maxRecDepth 20000 in
theorem ggX11_set_X11_fine : GoodIn wsX11_set wsX11_fine := goodIn_r _ [34, 23, 35, 36, 37, 38, 39, 40, 41, 42, 43] (by decide +kernel) (by decide +kernel)
set_option maxRecDepth 20000 in
theorem gX11_set_X11_fine : GoodIn wsX11_set (wsV RX11 66 RX11 yX11_fine wsX11_fine) := goodIn_app (goodIn_of _ (by decide +kernel)) ggX11_set_X11_fine
theorem dX11_set_0 : decode cX11_set 0 = .ok (.aload_n 0, 1) := by decide +kernel
theorem dX11_set_1 : decode cX11_set 1 = .ok (.iload_n 1, 1) := by decide +kernel
theorem dX11_set_2 : decode cX11_set 2 = .ok (.invokevirtual 53, 3) := by decide +kernel
theorem dX11_set_5 : decode cX11_set 5 = .ok (.astore 4, 2) := by decide +kernel
theorem dX11_set_7 : decode cX11_set 7 = .ok (.aload 4, 2) := by decide +kernel
theorem dX11_set_9 : decode cX11_set 9 = .ok (.ifnonnull 6, 3) := by decide +kernel
theorem dX11_set_12 : decode cX11_set 12 = .ok (.ldc 57, 2) := by decide +kernel
theorem dX11_set_14 : decode cX11_set 14 = .ok (.ireturn, 1) := by decide +kernel
theorem dX11_set_15 : decode cX11_set 15 = .ok (.aload 4, 2) := by decide +kernel
theorem dX11_set_17 : decode cX11_set 17 = .ok (.iload_n 2, 1) := by decide +kernel
theorem dX11_set_18 : decode cX11_set 18 = .ok (.iconst 1, 1) := by decide +kernel
theorem dX11_set_19 : decode cX11_set 19 = .ok (.invokevirtual 69, 3) := by decide +kernel
theorem dX11_set_22 : decode cX11_set 22 = .ok (.istore 5, 2) := by decide +kernel
theorem dX11_set_24 : decode cX11_set 24 = .ok (.iload 5, 2) := by decide +kernel
theorem dX11_set_26 : decode cX11_set 26 = .ok (.ifCond .eq 10, 3) := by decide +kernel
theorem dX11_set_29 : decode cX11_set 29 = .ok (.aload_n 0, 1) := by decide +kernel
theorem dX11_set_30 : decode cX11_set 30 = .ok (.iload 5, 2) := by decide +kernel
theorem dX11_set_32 : decode cX11_set 32 = .ok (.invokevirtual 58, 3) := by decide +kernel
theorem dX11_set_35 : decode cX11_set 35 = .ok (.ireturn, 1) := by decide +kernel
theorem dX11_set_36 : decode cX11_set 36 = .ok (.aload_n 0, 1) := by decide +kernel
theorem dX11_set_37 : decode cX11_set 37 = .ok (.aload 4, 2) := by decide +kernel
theorem dX11_set_39 : decode cX11_set 39 = .ok (.iload_n 2, 1) := by decide +kernel
theorem dX11_set_40 : decode cX11_set 40 = .ok (.iload_n 3, 1) := by decide +kernel
theorem dX11_set_41 : decode cX11_set 41 = .ok (.invokevirtual 73, 3) := by decide +kernel
theorem dX11_set_44 : decode cX11_set 44 = .ok (.invokevirtual 66, 3) := by decide +kernel
theorem dX11_set_47 : decode cX11_set 47 = .ok (.ireturn, 1) := by decide +kernel
set_option maxRecDepth 20000 in
theorem ggX11_copy_X11_rowAt : GoodIn wsX11_copy wsX11_rowAt := goodIn_r _ [13, 14, 35, 36, 37, 38, 39, 40, 41, 42, 43] (by decide +kernel) (by decide +kernel)
set_option maxRecDepth 20000 in
theorem gX11_copy_X11_rowAt : GoodIn wsX11_copy (wsV RX11 53 RX11 yX11_rowAt wsX11_rowAt) := goodIn_app (goodIn_of _ (by decide +kernel)) ggX11_copy_X11_rowAt
set_option maxRecDepth 20000 in
theorem ggX11_copy_X11_found : GoodIn wsX11_copy wsX11_found := goodIn_r _ [18, 19, 20, 35, 36, 37, 38, 39, 40, 41, 42, 43] (by decide +kernel) (by decide +kernel)
set_option maxRecDepth 20000 in
theorem gX11_copy_X11_found : GoodIn wsX11_copy (wsV RX11 58 RX11 yX11_found wsX11_found) := goodIn_app (goodIn_of _ (by decide +kernel)) ggX11_copy_X11_found
set_option maxRecDepth 20000 in
theorem ggX11_copy_X6_holds : GoodIn wsX11_copy wsX6_holds := goodIn_r _ [25, 26, 31, 32, 33, 34] (by decide +kernel) (by decide +kernel)
set_option maxRecDepth 20000 in
theorem gX11_copy_X6_holds : GoodIn wsX11_copy (wsV RX11 83 RX6 yX6_holds wsX6_holds) := goodIn_app (goodIn_of _ (by decide +kernel)) ggX11_copy_X6_holds
set_option maxRecDepth 20000 in
theorem ggX11_copy_X11_fine : GoodIn wsX11_copy wsX11_fine := goodIn_r _ [30, 19, 35, 36, 37, 38, 39, 40, 41, 42, 43] (by decide +kernel) (by decide +kernel)
set_option maxRecDepth 20000 in
theorem gX11_copy_X11_fine : GoodIn wsX11_copy (wsV RX11 66 RX11 yX11_fine wsX11_fine) := goodIn_app (goodIn_of _ (by decide +kernel)) ggX11_copy_X11_fine
theorem dX11_copy_0 : decode cX11_copy 0 = .ok (.aload_n 0, 1) := by decide +kernel
theorem dX11_copy_1 : decode cX11_copy 1 = .ok (.iload_n 1, 1) := by decide +kernel
theorem dX11_copy_2 : decode cX11_copy 2 = .ok (.invokevirtual 53, 3) := by decide +kernel
theorem dX11_copy_5 : decode cX11_copy 5 = .ok (.astore 6, 2) := by decide +kernel
theorem dX11_copy_7 : decode cX11_copy 7 = .ok (.aload_n 0, 1) := by decide +kernel
theorem dX11_copy_8 : decode cX11_copy 8 = .ok (.iload_n 3, 1) := by decide +kernel
theorem dX11_copy_9 : decode cX11_copy 9 = .ok (.invokevirtual 53, 3) := by decide +kernel
theorem dX11_copy_12 : decode cX11_copy 12 = .ok (.astore 7, 2) := by decide +kernel
theorem dX11_copy_14 : decode cX11_copy 14 = .ok (.aload 6, 2) := by decide +kernel
theorem dX11_copy_16 : decode cX11_copy 16 = .ok (.ifnull 8, 3) := by decide +kernel
theorem dX11_copy_19 : decode cX11_copy 19 = .ok (.aload 7, 2) := by decide +kernel
theorem dX11_copy_21 : decode cX11_copy 21 = .ok (.ifnonnull 6, 3) := by decide +kernel
theorem dX11_copy_24 : decode cX11_copy 24 = .ok (.ldc 57, 2) := by decide +kernel
theorem dX11_copy_26 : decode cX11_copy 26 = .ok (.ireturn, 1) := by decide +kernel
theorem dX11_copy_27 : decode cX11_copy 27 = .ok (.aload 6, 2) := by decide +kernel
theorem dX11_copy_29 : decode cX11_copy 29 = .ok (.getfield 76, 3) := by decide +kernel
theorem dX11_copy_32 : decode cX11_copy 32 = .ok (.ifCond .eq 11, 3) := by decide +kernel
theorem dX11_copy_35 : decode cX11_copy 35 = .ok (.aload 7, 2) := by decide +kernel
theorem dX11_copy_37 : decode cX11_copy 37 = .ok (.getfield 76, 3) := by decide +kernel
theorem dX11_copy_40 : decode cX11_copy 40 = .ok (.ifCond .ne 9, 3) := by decide +kernel
theorem dX11_copy_43 : decode cX11_copy 43 = .ok (.aload_n 0, 1) := by decide +kernel
theorem dX11_copy_44 : decode cX11_copy 44 = .ok (.iconst 1, 1) := by decide +kernel
theorem dX11_copy_45 : decode cX11_copy 45 = .ok (.invokevirtual 58, 3) := by decide +kernel
theorem dX11_copy_48 : decode cX11_copy 48 = .ok (.ireturn, 1) := by decide +kernel
theorem dX11_copy_49 : decode cX11_copy 49 = .ok (.aload 6, 2) := by decide +kernel
theorem dX11_copy_51 : decode cX11_copy 51 = .ok (.getfield 80, 3) := by decide +kernel
theorem dX11_copy_54 : decode cX11_copy 54 = .ok (.aload 7, 2) := by decide +kernel
theorem dX11_copy_56 : decode cX11_copy 56 = .ok (.getfield 80, 3) := by decide +kernel
theorem dX11_copy_59 : decode cX11_copy 59 = .ok (.if_icmp .eq 9, 3) := by decide +kernel
theorem dX11_copy_62 : decode cX11_copy 62 = .ok (.aload_n 0, 1) := by decide +kernel
theorem dX11_copy_63 : decode cX11_copy 63 = .ok (.iconst 5, 1) := by decide +kernel
theorem dX11_copy_64 : decode cX11_copy 64 = .ok (.invokevirtual 58, 3) := by decide +kernel
theorem dX11_copy_67 : decode cX11_copy 67 = .ok (.ireturn, 1) := by decide +kernel
theorem dX11_copy_68 : decode cX11_copy 68 = .ok (.aload 6, 2) := by decide +kernel
theorem dX11_copy_70 : decode cX11_copy 70 = .ok (.iload_n 2, 1) := by decide +kernel
theorem dX11_copy_71 : decode cX11_copy 71 = .ok (.iload 5, 2) := by decide +kernel
theorem dX11_copy_73 : decode cX11_copy 73 = .ok (.invokevirtual 83, 3) := by decide +kernel
theorem dX11_copy_76 : decode cX11_copy 76 = .ok (.ifCond .eq 15, 3) := by decide +kernel
theorem dX11_copy_79 : decode cX11_copy 79 = .ok (.aload 7, 2) := by decide +kernel
theorem dX11_copy_81 : decode cX11_copy 81 = .ok (.iload 4, 2) := by decide +kernel
theorem dX11_copy_83 : decode cX11_copy 83 = .ok (.iload 5, 2) := by decide +kernel
theorem dX11_copy_85 : decode cX11_copy 85 = .ok (.invokevirtual 83, 3) := by decide +kernel
theorem dX11_copy_88 : decode cX11_copy 88 = .ok (.ifCond .ne 9, 3) := by decide +kernel
theorem dX11_copy_91 : decode cX11_copy 91 = .ok (.aload_n 0, 1) := by decide +kernel
theorem dX11_copy_92 : decode cX11_copy 92 = .ok (.iconst 2, 1) := by decide +kernel
theorem dX11_copy_93 : decode cX11_copy 93 = .ok (.invokevirtual 58, 3) := by decide +kernel
theorem dX11_copy_96 : decode cX11_copy 96 = .ok (.ireturn, 1) := by decide +kernel
theorem dX11_copy_97 : decode cX11_copy 97 = .ok (.aload 6, 2) := by decide +kernel
theorem dX11_copy_99 : decode cX11_copy 99 = .ok (.getfield 87, 3) := by decide +kernel
theorem dX11_copy_102 : decode cX11_copy 102 = .ok (.iload_n 2, 1) := by decide +kernel
theorem dX11_copy_103 : decode cX11_copy 103 = .ok (.aload 7, 2) := by decide +kernel
theorem dX11_copy_105 : decode cX11_copy 105 = .ok (.getfield 87, 3) := by decide +kernel
theorem dX11_copy_108 : decode cX11_copy 108 = .ok (.iload 4, 2) := by decide +kernel
theorem dX11_copy_110 : decode cX11_copy 110 = .ok (.iload 5, 2) := by decide +kernel
theorem dX11_copy_112 : decode cX11_copy 112 = .ok (.invokestatic 91, 3) := by decide +kernel
theorem dX11_copy_115 : decode cX11_copy 115 = .ok (.aload_n 0, 1) := by decide +kernel
theorem dX11_copy_116 : decode cX11_copy 116 = .ok (.iload 5, 2) := by decide +kernel
theorem dX11_copy_118 : decode cX11_copy 118 = .ok (.invokevirtual 66, 3) := by decide +kernel
theorem dX11_copy_121 : decode cX11_copy 121 = .ok (.ireturn, 1) := by decide +kernel
set_option maxRecDepth 20000 in
theorem ggX11_drop_X11_rowAt : GoodIn wsX11_drop wsX11_rowAt := goodIn_r _ [8, 9, 24, 25, 26, 27, 28, 29, 30, 31, 32] (by decide +kernel) (by decide +kernel)
set_option maxRecDepth 20000 in
theorem gX11_drop_X11_rowAt : GoodIn wsX11_drop (wsV RX11 53 RX11 yX11_rowAt wsX11_rowAt) := goodIn_app (goodIn_of _ (by decide +kernel)) ggX11_drop_X11_rowAt
set_option maxRecDepth 20000 in
theorem ggX11_drop_X11_found : GoodIn wsX11_drop wsX11_found := goodIn_r _ [13, 14, 15, 24, 25, 26, 27, 28, 29, 30, 31, 32] (by decide +kernel) (by decide +kernel)
set_option maxRecDepth 20000 in
theorem gX11_drop_X11_found : GoodIn wsX11_drop (wsV RX11 58 RX11 yX11_found wsX11_found) := goodIn_app (goodIn_of _ (by decide +kernel)) ggX11_drop_X11_found
set_option maxRecDepth 20000 in
theorem ggX11_drop_X11_fine : GoodIn wsX11_drop wsX11_fine := goodIn_r _ [19, 14, 24, 25, 26, 27, 28, 29, 30, 31, 32] (by decide +kernel) (by decide +kernel)
set_option maxRecDepth 20000 in
theorem gX11_drop_X11_fine : GoodIn wsX11_drop (wsV RX11 66 RX11 yX11_fine wsX11_fine) := goodIn_app (goodIn_of _ (by decide +kernel)) ggX11_drop_X11_fine
theorem dX11_drop_0 : decode cX11_drop 0 = .ok (.aload_n 0, 1) := by decide +kernel
theorem dX11_drop_1 : decode cX11_drop 1 = .ok (.iload_n 1, 1) := by decide +kernel
theorem dX11_drop_2 : decode cX11_drop 2 = .ok (.invokevirtual 53, 3) := by decide +kernel
theorem dX11_drop_5 : decode cX11_drop 5 = .ok (.astore_n 2, 1) := by decide +kernel
theorem dX11_drop_6 : decode cX11_drop 6 = .ok (.aload_n 2, 1) := by decide +kernel
theorem dX11_drop_7 : decode cX11_drop 7 = .ok (.ifnonnull 6, 3) := by decide +kernel
theorem dX11_drop_10 : decode cX11_drop 10 = .ok (.ldc 57, 2) := by decide +kernel
theorem dX11_drop_12 : decode cX11_drop 12 = .ok (.ireturn, 1) := by decide +kernel
theorem dX11_drop_13 : decode cX11_drop 13 = .ok (.aload_n 2, 1) := by decide +kernel
theorem dX11_drop_14 : decode cX11_drop 14 = .ok (.getfield 76, 3) := by decide +kernel
theorem dX11_drop_17 : decode cX11_drop 17 = .ok (.ifCond .ne 9, 3) := by decide +kernel
theorem dX11_drop_20 : decode cX11_drop 20 = .ok (.aload_n 0, 1) := by decide +kernel
theorem dX11_drop_21 : decode cX11_drop 21 = .ok (.iconst 1, 1) := by decide +kernel
theorem dX11_drop_22 : decode cX11_drop 22 = .ok (.invokevirtual 58, 3) := by decide +kernel
theorem dX11_drop_25 : decode cX11_drop 25 = .ok (.ireturn, 1) := by decide +kernel
theorem dX11_drop_26 : decode cX11_drop 26 = .ok (.aload_n 2, 1) := by decide +kernel
theorem dX11_drop_27 : decode cX11_drop 27 = .ok (.iconst 0, 1) := by decide +kernel
theorem dX11_drop_28 : decode cX11_drop 28 = .ok (.putfield 76, 3) := by decide +kernel
theorem dX11_drop_31 : decode cX11_drop 31 = .ok (.aload_n 0, 1) := by decide +kernel
theorem dX11_drop_32 : decode cX11_drop 32 = .ok (.aload_n 2, 1) := by decide +kernel
theorem dX11_drop_33 : decode cX11_drop 33 = .ok (.getfield 97, 3) := by decide +kernel
theorem dX11_drop_36 : decode cX11_drop 36 = .ok (.invokevirtual 66, 3) := by decide +kernel
theorem dX11_drop_39 : decode cX11_drop 39 = .ok (.ireturn, 1) := by decide +kernel
set_option maxRecDepth 20000 in
theorem ggX11_feed_X10_add : GoodIn wsX11_feed wsX10_add := goodIn_r _ [9, 10, 11, 21, 22, 23, 24, 25, 26, 27, 28] (by decide +kernel) (by decide +kernel)
set_option maxRecDepth 20000 in
theorem gX11_feed_X10_add : GoodIn wsX11_feed (wsV RX11 104 RX10 yX10_add wsX10_add) := goodIn_app (goodIn_of _ (by decide +kernel)) ggX11_feed_X10_add
theorem dX11_feed_0 : decode cX11_feed 0 = .ok (.iload_n 3, 1) := by decide +kernel
theorem dX11_feed_1 : decode cX11_feed 1 = .ok (.iconst 1, 1) := by decide +kernel
theorem dX11_feed_2 : decode cX11_feed 2 = .ok (.if_icmp .lt 9, 3) := by decide +kernel
theorem dX11_feed_5 : decode cX11_feed 5 = .ok (.iload_n 3, 1) := by decide +kernel
theorem dX11_feed_6 : decode cX11_feed 6 = .ok (.bipush 8, 2) := by decide +kernel
theorem dX11_feed_8 : decode cX11_feed 8 = .ok (.if_icmp .le 6, 3) := by decide +kernel
theorem dX11_feed_11 : decode cX11_feed 11 = .ok (.ldc 57, 2) := by decide +kernel
theorem dX11_feed_13 : decode cX11_feed 13 = .ok (.ireturn, 1) := by decide +kernel
theorem dX11_feed_14 : decode cX11_feed 14 = .ok (.aload_n 0, 1) := by decide +kernel
theorem dX11_feed_15 : decode cX11_feed 15 = .ok (.getfield 18, 3) := by decide +kernel
theorem dX11_feed_18 : decode cX11_feed 18 = .ok (.getfield 100, 3) := by decide +kernel
theorem dX11_feed_21 : decode cX11_feed 21 = .ok (.iload_n 3, 1) := by decide +kernel
theorem dX11_feed_22 : decode cX11_feed 22 = .ok (.iadd, 1) := by decide +kernel
theorem dX11_feed_23 : decode cX11_feed 23 = .ok (.sipush 500, 3) := by decide +kernel
theorem dX11_feed_26 : decode cX11_feed 26 = .ok (.if_icmp .le 6, 3) := by decide +kernel
theorem dX11_feed_29 : decode cX11_feed 29 = .ok (.ldc 103, 2) := by decide +kernel
theorem dX11_feed_31 : decode cX11_feed 31 = .ok (.ireturn, 1) := by decide +kernel
theorem dX11_feed_32 : decode cX11_feed 32 = .ok (.iload_n 3, 1) := by decide +kernel
theorem dX11_feed_33 : decode cX11_feed 33 = .ok (.iconst 1, 1) := by decide +kernel
theorem dX11_feed_34 : decode cX11_feed 34 = .ok (.isub, 1) := by decide +kernel
theorem dX11_feed_35 : decode cX11_feed 35 = .ok (.istore 4, 2) := by decide +kernel
theorem dX11_feed_37 : decode cX11_feed 37 = .ok (.iload 4, 2) := by decide +kernel
theorem dX11_feed_39 : decode cX11_feed 39 = .ok (.ifCond .lt 25, 3) := by decide +kernel
theorem dX11_feed_42 : decode cX11_feed 42 = .ok (.aload_n 0, 1) := by decide +kernel
theorem dX11_feed_43 : decode cX11_feed 43 = .ok (.getfield 18, 3) := by decide +kernel
theorem dX11_feed_46 : decode cX11_feed 46 = .ok (.lload_n 1, 1) := by decide +kernel
theorem dX11_feed_47 : decode cX11_feed 47 = .ok (.bipush 8, 2) := by decide +kernel
theorem dX11_feed_49 : decode cX11_feed 49 = .ok (.iload 4, 2) := by decide +kernel
theorem dX11_feed_51 : decode cX11_feed 51 = .ok (.imul, 1) := by decide +kernel
theorem dX11_feed_52 : decode cX11_feed 52 = .ok (.lshr, 1) := by decide +kernel
theorem dX11_feed_53 : decode cX11_feed 53 = .ok (.l2i, 1) := by decide +kernel
theorem dX11_feed_54 : decode cX11_feed 54 = .ok (.i2b, 1) := by decide +kernel
theorem dX11_feed_55 : decode cX11_feed 55 = .ok (.invokevirtual 104, 3) := by decide +kernel
theorem dX11_feed_58 : decode cX11_feed 58 = .ok (.iinc 4 (-1), 3) := by decide +kernel
theorem dX11_feed_61 : decode cX11_feed 61 = .ok (.goto (-24), 3) := by decide +kernel
theorem dX11_feed_64 : decode cX11_feed 64 = .ok (.aload_n 0, 1) := by decide +kernel
theorem dX11_feed_65 : decode cX11_feed 65 = .ok (.getfield 18, 3) := by decide +kernel
theorem dX11_feed_68 : decode cX11_feed 68 = .ok (.getfield 100, 3) := by decide +kernel
theorem dX11_feed_71 : decode cX11_feed 71 = .ok (.ireturn, 1) := by decide +kernel
set_option maxRecDepth 20000 in
theorem ggX11_box_X10_readBox : GoodIn wsX11_box wsX10_readBox := goodIn_r _ [14, 15, 16, 17, 18, 19, 20, 21, 22, 23, 24, 25, 26, 27, 28, 29, 30, 31, 32, 33, 34, 35, 13, 36, 37, 38, 39, 40, 41, 42, 43, 44, 45, 46, 47, 48, 49, 50, 51, 52, 53, 54, 55, 56, 57, 58, 59, 60, 61, 62, 63, 64, 65, 66, 67, 68, 69, 70, 71, 72, 73, 74, 75, 76, 77, 78, 79, 80, 81, 82, 83, 84, 85, 86, 87, 88, 89, 90, 91, 92, 93, 94, 95, 96, 97, 98, 99, 100, 101, 102, 103, 104, 105, 106, 107, 108, 109, 110, 111, 112, 113, 114, 115, 116, 117, 118, 119, 120, 121, 122, 123, 124, 125, 126, 127, 128, 129, 130, 131, 132, 133, 134, 135, 136, 137, 138, 139, 140, 141, 142, 143, 144, 145, 146, 147, 148, 149, 150, 151, 152, 153, 154, 155, 156, 157, 158, 159, 160, 161, 162, 163, 164, 165, 166, 167, 168, 169, 170, 171, 172, 173, 174, 175, 176, 177, 178, 179, 180, 181, 182, 183, 184, 185, 186, 187, 188, 189, 190, 191, 192, 193, 194, 195, 196, 197, 198, 224, 225, 226, 227, 228, 229, 214, 215, 216, 217, 218, 219, 220, 221, 230, 231, 232, 233, 234, 235, 236, 237, 238, 239, 240, 241, 242] (by decide +kernel) (by decide +kernel)
set_option maxRecDepth 20000 in
theorem gX11_box_X10_readBox : GoodIn wsX11_box (wsV RX11 108 RX10 yX10_readBox wsX10_readBox) := goodIn_app (goodIn_of _ (by decide +kernel)) ggX11_box_X10_readBox
set_option maxRecDepth 20000 in
theorem ggX11_box_X8_end : GoodIn wsX11_box wsX8_end := goodIn_r _ [203, 204, 243, 244, 245, 246, 247, 248, 249, 250, 251, 252, 253, 254] (by decide +kernel) (by decide +kernel)
set_option maxRecDepth 20000 in
theorem gX11_box_X8_end : GoodIn wsX11_box (wsV RX11 130 RX8 yX8_end wsX8_end) := goodIn_app (goodIn_of _ (by decide +kernel)) ggX11_box_X8_end
theorem dX11_box_0 : decode cX11_box 0 = .ok (.aload_n 0, 1) := by decide +kernel
theorem dX11_box_1 : decode cX11_box 1 = .ok (.getfield 18, 3) := by decide +kernel
theorem dX11_box_4 : decode cX11_box 4 = .ok (.invokevirtual 108, 3) := by decide +kernel
theorem dX11_box_7 : decode cX11_box 7 = .ok (.astore_n 1, 1) := by decide +kernel
theorem dX11_box_8 : decode cX11_box 8 = .ok (.aload_n 1, 1) := by decide +kernel
theorem dX11_box_9 : decode cX11_box 9 = .ok (.ifnonnull 25, 3) := by decide +kernel
theorem dX11_box_12 : decode cX11_box 12 = .ok (.aload_n 0, 1) := by decide +kernel
theorem dX11_box_13 : decode cX11_box 13 = .ok (.aload_n 0, 1) := by decide +kernel
theorem dX11_box_14 : decode cX11_box 14 = .ok (.getfield 18, 3) := by decide +kernel
theorem dX11_box_17 : decode cX11_box 17 = .ok (.getfield 112, 3) := by decide +kernel
theorem dX11_box_20 : decode cX11_box 20 = .ok (.putfield 115, 3) := by decide +kernel
theorem dX11_box_23 : decode cX11_box 23 = .ok (.ldc 118, 2) := by decide +kernel
theorem dX11_box_25 : decode cX11_box 25 = .ok (.aload_n 0, 1) := by decide +kernel
theorem dX11_box_26 : decode cX11_box 26 = .ok (.getfield 18, 3) := by decide +kernel
theorem dX11_box_29 : decode cX11_box 29 = .ok (.getfield 119, 3) := by decide +kernel
theorem dX11_box_32 : decode cX11_box 32 = .ok (.isub, 1) := by decide +kernel
theorem dX11_box_33 : decode cX11_box 33 = .ok (.ireturn, 1) := by decide +kernel
theorem dX11_box_34 : decode cX11_box 34 = .ok (.aload_n 0, 1) := by decide +kernel
theorem dX11_box_35 : decode cX11_box 35 = .ok (.getfield 25, 3) := by decide +kernel
theorem dX11_box_38 : decode cX11_box 38 = .ok (.aload_n 1, 1) := by decide +kernel
theorem dX11_box_39 : decode cX11_box 39 = .ok (.putfield 122, 3) := by decide +kernel
theorem dX11_box_42 : decode cX11_box 42 = .ok (.aload_n 0, 1) := by decide +kernel
theorem dX11_box_43 : decode cX11_box 43 = .ok (.getfield 25, 3) := by decide +kernel
theorem dX11_box_46 : decode cX11_box 46 = .ok (.getfield 126, 3) := by decide +kernel
theorem dX11_box_49 : decode cX11_box 49 = .ok (.invokevirtual 130, 3) := by decide +kernel
theorem dX11_box_52 : decode cX11_box 52 = .ok (.aload_n 1, 1) := by decide +kernel
theorem dX11_box_53 : decode cX11_box 53 = .ok (.getfield 135, 3) := by decide +kernel
theorem dX11_box_56 : decode cX11_box 56 = .ok (.ireturn, 1) := by decide +kernel
theorem dX11_fault_0 : decode cX11_fault 0 = .ok (.aload_n 0, 1) := by decide +kernel
theorem dX11_fault_1 : decode cX11_fault 1 = .ok (.getfield 115, 3) := by decide +kernel
theorem dX11_fault_4 : decode cX11_fault 4 = .ok (.ireturn, 1) := by decide +kernel
set_option maxRecDepth 20000 in
theorem ggX11_shorter_X11_cordAt : GoodIn wsX11_shorter wsX11_cordAt := goodIn_r _ [6, 7, 8, 9, 10, 27, 28, 29, 30, 31, 32, 33, 34, 35, 36, 37, 38, 39, 40, 41, 42, 43] (by decide +kernel) (by decide +kernel)
set_option maxRecDepth 20000 in
theorem gX11_shorter_X11_cordAt : GoodIn wsX11_shorter (wsV RX11 140 RX11 yX11_cordAt wsX11_cordAt) := goodIn_app (goodIn_of _ (by decide +kernel)) ggX11_shorter_X11_cordAt
set_option maxRecDepth 20000 in
theorem ggX11_shorter_X2_shortBy : GoodIn wsX11_shorter wsX2_shortBy := goodIn_r _ [15, 16, 17, 18, 19, 14, 20, 21, 44, 45, 46, 47] (by decide +kernel) (by decide +kernel)
set_option maxRecDepth 20000 in
theorem gX11_shorter_X2_shortBy : GoodIn wsX11_shorter (wsV RX11 144 RX2 yX2_shortBy wsX2_shortBy) := goodIn_app (goodIn_of _ (by decide +kernel)) ggX11_shorter_X2_shortBy
set_option maxRecDepth 20000 in
theorem ggX11_shorter_X2_slopeAt : GoodIn wsX11_shorter wsX2_slopeAt := goodIn_r _ [25, 26, 12, 13, 14, 15, 16, 17, 18, 19, 20, 21, 44, 45, 46, 47] (by decide +kernel) (by decide +kernel)
set_option maxRecDepth 20000 in
theorem gX11_shorter_X2_slopeAt : GoodIn wsX11_shorter (wsV RX11 149 RX2 yX2_slopeAt wsX2_slopeAt) := goodIn_app (goodIn_of _ (by decide +kernel)) ggX11_shorter_X2_slopeAt
theorem dX11_shorter_0 : decode cX11_shorter 0 = .ok (.aload_n 0, 1) := by decide +kernel
theorem dX11_shorter_1 : decode cX11_shorter 1 = .ok (.iload_n 1, 1) := by decide +kernel
theorem dX11_shorter_2 : decode cX11_shorter 2 = .ok (.invokevirtual 140, 3) := by decide +kernel
theorem dX11_shorter_5 : decode cX11_shorter 5 = .ok (.astore 4, 2) := by decide +kernel
theorem dX11_shorter_7 : decode cX11_shorter 7 = .ok (.aload 4, 2) := by decide +kernel
theorem dX11_shorter_9 : decode cX11_shorter 9 = .ok (.ifnull 23, 3) := by decide +kernel
theorem dX11_shorter_12 : decode cX11_shorter 12 = .ok (.iload_n 2, 1) := by decide +kernel
theorem dX11_shorter_13 : decode cX11_shorter 13 = .ok (.ifCond .lt 19, 3) := by decide +kernel
theorem dX11_shorter_16 : decode cX11_shorter 16 = .ok (.iload_n 2, 1) := by decide +kernel
theorem dX11_shorter_17 : decode cX11_shorter 17 = .ok (.sipush 800, 3) := by decide +kernel
theorem dX11_shorter_20 : decode cX11_shorter 20 = .ok (.if_icmp .gt 12, 3) := by decide +kernel
theorem dX11_shorter_23 : decode cX11_shorter 23 = .ok (.iload_n 3, 1) := by decide +kernel
theorem dX11_shorter_24 : decode cX11_shorter 24 = .ok (.ifCond .lt 8, 3) := by decide +kernel
theorem dX11_shorter_27 : decode cX11_shorter 27 = .ok (.iload_n 3, 1) := by decide +kernel
theorem dX11_shorter_28 : decode cX11_shorter 28 = .ok (.iconst 1, 1) := by decide +kernel
theorem dX11_shorter_29 : decode cX11_shorter 29 = .ok (.if_icmp .le 6, 3) := by decide +kernel
theorem dX11_shorter_32 : decode cX11_shorter 32 = .ok (.ldc 57, 2) := by decide +kernel
theorem dX11_shorter_34 : decode cX11_shorter 34 = .ok (.ireturn, 1) := by decide +kernel
theorem dX11_shorter_35 : decode cX11_shorter 35 = .ok (.iload_n 3, 1) := by decide +kernel
theorem dX11_shorter_36 : decode cX11_shorter 36 = .ok (.ifCond .ne 12, 3) := by decide +kernel
theorem dX11_shorter_39 : decode cX11_shorter 39 = .ok (.aload 4, 2) := by decide +kernel
theorem dX11_shorter_41 : decode cX11_shorter 41 = .ok (.iload_n 2, 1) := by decide +kernel
theorem dX11_shorter_42 : decode cX11_shorter 42 = .ok (.invokevirtual 144, 3) := by decide +kernel
theorem dX11_shorter_45 : decode cX11_shorter 45 = .ok (.goto 9, 3) := by decide +kernel
theorem dX11_shorter_48 : decode cX11_shorter 48 = .ok (.aload 4, 2) := by decide +kernel
theorem dX11_shorter_50 : decode cX11_shorter 50 = .ok (.iload_n 2, 1) := by decide +kernel
theorem dX11_shorter_51 : decode cX11_shorter 51 = .ok (.invokevirtual 149, 3) := by decide +kernel
theorem dX11_shorter_54 : decode cX11_shorter 54 = .ok (.ireturn, 1) := by decide +kernel
set_option maxRecDepth 20000 in
theorem ggX11_begin_X11_discAt : GoodIn wsX11_begin wsX11_discAt := goodIn_r _ [9, 3, 10, 11, 12, 47, 48, 49, 50, 51, 52, 53, 54, 55, 56, 57, 58, 59, 60, 61, 62, 63] (by decide +kernel) (by decide +kernel)
set_option maxRecDepth 20000 in
theorem gX11_begin_X11_discAt : GoodIn wsX11_begin (wsV RX11 152 RX11 yX11_discAt wsX11_discAt) := goodIn_app (goodIn_of _ (by decide +kernel)) ggX11_begin_X11_discAt
set_option maxRecDepth 20000 in
theorem ggX11_begin_X11_cordAt : GoodIn wsX11_begin wsX11_cordAt := goodIn_r _ [16, 3, 10, 17, 18, 47, 48, 49, 50, 51, 52, 53, 54, 55, 56, 57, 58, 59, 60, 61, 62, 63] (by decide +kernel) (by decide +kernel)
set_option maxRecDepth 20000 in
theorem gX11_begin_X11_cordAt : GoodIn wsX11_begin (wsV RX11 140 RX11 yX11_cordAt wsX11_cordAt) := goodIn_app (goodIn_of _ (by decide +kernel)) ggX11_begin_X11_cordAt
set_option maxRecDepth 20000 in
theorem ggX11_begin_X11_handAt : GoodIn wsX11_begin wsX11_handAt := goodIn_r _ [22, 3, 10, 23, 24, 47, 48, 49, 50, 51, 52, 53, 54, 55, 56, 57, 58, 59, 60, 61, 62, 63] (by decide +kernel) (by decide +kernel)
set_option maxRecDepth 20000 in
theorem gX11_begin_X11_handAt : GoodIn wsX11_begin (wsV RX11 156 RX11 yX11_handAt wsX11_handAt) := goodIn_app (goodIn_of _ (by decide +kernel)) ggX11_begin_X11_handAt
set_option maxRecDepth 20000 in
theorem ggX11_begin_X8_start : GoodIn wsX11_begin wsX8_start := goodIn_r _ [29, 30, 31, 32, 33, 34, 35, 36, 37, 38, 39, 40, 41, 42, 64, 65, 66, 67, 68, 69, 70, 71, 72, 73, 74, 75] (by decide +kernel) (by decide +kernel)
set_option maxRecDepth 20000 in
theorem gX11_begin_X8_start : GoodIn wsX11_begin (wsV RX11 163 RX8 yX8_start wsX8_start) := goodIn_app (goodIn_of _ (by decide +kernel)) ggX11_begin_X8_start
theorem dX11_begin_0 : decode cX11_begin 0 = .ok (.aload_n 0, 1) := by decide +kernel
theorem dX11_begin_1 : decode cX11_begin 1 = .ok (.iload_n 1, 1) := by decide +kernel
theorem dX11_begin_2 : decode cX11_begin 2 = .ok (.invokevirtual 152, 3) := by decide +kernel
theorem dX11_begin_5 : decode cX11_begin 5 = .ok (.astore 5, 2) := by decide +kernel
theorem dX11_begin_7 : decode cX11_begin 7 = .ok (.aload_n 0, 1) := by decide +kernel
theorem dX11_begin_8 : decode cX11_begin 8 = .ok (.iload_n 2, 1) := by decide +kernel
theorem dX11_begin_9 : decode cX11_begin 9 = .ok (.invokevirtual 140, 3) := by decide +kernel
theorem dX11_begin_12 : decode cX11_begin 12 = .ok (.astore 6, 2) := by decide +kernel
theorem dX11_begin_14 : decode cX11_begin 14 = .ok (.aload_n 0, 1) := by decide +kernel
theorem dX11_begin_15 : decode cX11_begin 15 = .ok (.iload_n 3, 1) := by decide +kernel
theorem dX11_begin_16 : decode cX11_begin 16 = .ok (.invokevirtual 156, 3) := by decide +kernel
theorem dX11_begin_19 : decode cX11_begin 19 = .ok (.astore 7, 2) := by decide +kernel
theorem dX11_begin_21 : decode cX11_begin 21 = .ok (.aload 5, 2) := by decide +kernel
theorem dX11_begin_23 : decode cX11_begin 23 = .ok (.ifnull 13, 3) := by decide +kernel
theorem dX11_begin_26 : decode cX11_begin 26 = .ok (.aload 6, 2) := by decide +kernel
theorem dX11_begin_28 : decode cX11_begin 28 = .ok (.ifnull 8, 3) := by decide +kernel
theorem dX11_begin_31 : decode cX11_begin 31 = .ok (.aload 7, 2) := by decide +kernel
theorem dX11_begin_33 : decode cX11_begin 33 = .ok (.ifnonnull 6, 3) := by decide +kernel
theorem dX11_begin_36 : decode cX11_begin 36 = .ok (.ldc 57, 2) := by decide +kernel
theorem dX11_begin_38 : decode cX11_begin 38 = .ok (.ireturn, 1) := by decide +kernel
theorem dX11_begin_39 : decode cX11_begin 39 = .ok (.iload 4, 2) := by decide +kernel
theorem dX11_begin_41 : decode cX11_begin 41 = .ok (.aload 6, 2) := by decide +kernel
theorem dX11_begin_43 : decode cX11_begin 43 = .ok (.getfield 160, 3) := by decide +kernel
theorem dX11_begin_46 : decode cX11_begin 46 = .ok (.ineg, 1) := by decide +kernel
theorem dX11_begin_47 : decode cX11_begin 47 = .ok (.if_icmp .lt 13, 3) := by decide +kernel
theorem dX11_begin_50 : decode cX11_begin 50 = .ok (.iload 4, 2) := by decide +kernel
theorem dX11_begin_52 : decode cX11_begin 52 = .ok (.aload 6, 2) := by decide +kernel
theorem dX11_begin_54 : decode cX11_begin 54 = .ok (.getfield 160, 3) := by decide +kernel
theorem dX11_begin_57 : decode cX11_begin 57 = .ok (.if_icmp .le 6, 3) := by decide +kernel
theorem dX11_begin_60 : decode cX11_begin 60 = .ok (.ldc 57, 2) := by decide +kernel
theorem dX11_begin_62 : decode cX11_begin 62 = .ok (.ireturn, 1) := by decide +kernel
theorem dX11_begin_63 : decode cX11_begin 63 = .ok (.aload_n 0, 1) := by decide +kernel
theorem dX11_begin_64 : decode cX11_begin 64 = .ok (.getfield 25, 3) := by decide +kernel
theorem dX11_begin_67 : decode cX11_begin 67 = .ok (.getfield 126, 3) := by decide +kernel
theorem dX11_begin_70 : decode cX11_begin 70 = .ok (.aload 5, 2) := by decide +kernel
theorem dX11_begin_72 : decode cX11_begin 72 = .ok (.aload 6, 2) := by decide +kernel
theorem dX11_begin_74 : decode cX11_begin 74 = .ok (.aload 7, 2) := by decide +kernel
theorem dX11_begin_76 : decode cX11_begin 76 = .ok (.iload 4, 2) := by decide +kernel
theorem dX11_begin_78 : decode cX11_begin 78 = .ok (.invokevirtual 163, 3) := by decide +kernel
theorem dX11_begin_81 : decode cX11_begin 81 = .ok (.iconst 1, 1) := by decide +kernel
theorem dX11_begin_82 : decode cX11_begin 82 = .ok (.ireturn, 1) := by decide +kernel
set_option maxRecDepth 20000 in
theorem ggX11_go_X5_pullIn : GoodIn wsX11_go wsX5_pullIn := goodIn_r _ [11, 12, 13, 14, 15, 16, 17, 18, 19, 20, 21, 22, 23, 24, 25, 26, 27, 28, 29, 30, 31, 32, 33, 34, 35, 36, 37, 38, 39, 40, 41, 42, 43, 44, 45, 46, 47, 107, 108, 109, 110, 111, 112, 95, 96, 97, 98, 99, 100, 101, 102, 103, 104, 105, 106, 113, 114, 115, 116] (by decide +kernel) (by decide +kernel)
set_option maxRecDepth 20000 in
theorem gX11_go_X5_pullIn : GoodIn wsX11_go (wsV RX11 175 RX5 yX5_pullIn wsX5_pullIn) := goodIn_app (goodIn_of _ (by decide +kernel)) ggX11_go_X5_pullIn
set_option maxRecDepth 20000 in
theorem ggX11_go_X8_tick : GoodIn wsX11_go wsX8_tick := goodIn_r _ [51, 34, 28, 29, 30, 31, 32, 52, 53, 33, 54, 55, 56, 57, 58, 35, 59, 60, 36, 61, 62, 63, 64, 40, 65, 66, 38, 39, 41, 42, 43, 44, 45, 46, 47, 67, 68, 69, 70, 71, 72, 73, 74, 75, 76, 77, 78, 79, 80, 26, 81, 82, 83, 95, 96, 97, 98, 99, 100, 101, 102, 103, 104, 105, 106, 117, 118, 119, 113, 114, 115, 116] (by decide +kernel) (by decide +kernel)
set_option maxRecDepth 20000 in
theorem gX11_go_X8_tick : GoodIn wsX11_go (wsV RX11 181 RX8 yX8_tick wsX8_tick) := goodIn_app (goodIn_of _ (by decide +kernel)) ggX11_go_X8_tick
theorem dX11_go_0 : decode cX11_go 0 = .ok (.iload_n 1, 1) := by decide +kernel
theorem dX11_go_1 : decode cX11_go 1 = .ok (.iconst 1, 1) := by decide +kernel
theorem dX11_go_2 : decode cX11_go 2 = .ok (.if_icmp .lt 10, 3) := by decide +kernel
theorem dX11_go_5 : decode cX11_go 5 = .ok (.iload_n 1, 1) := by decide +kernel
theorem dX11_go_6 : decode cX11_go 6 = .ok (.sipush 200, 3) := by decide +kernel
theorem dX11_go_9 : decode cX11_go 9 = .ok (.if_icmp .le 6, 3) := by decide +kernel
theorem dX11_go_12 : decode cX11_go 12 = .ok (.ldc 57, 2) := by decide +kernel
theorem dX11_go_14 : decode cX11_go 14 = .ok (.ireturn, 1) := by decide +kernel
theorem dX11_go_15 : decode cX11_go 15 = .ok (.aload_n 0, 1) := by decide +kernel
theorem dX11_go_16 : decode cX11_go 16 = .ok (.getfield 25, 3) := by decide +kernel
theorem dX11_go_19 : decode cX11_go 19 = .ok (.getfield 126, 3) := by decide +kernel
theorem dX11_go_22 : decode cX11_go 22 = .ok (.astore_n 2, 1) := by decide +kernel
theorem dX11_go_23 : decode cX11_go 23 = .ok (.aload_n 2, 1) := by decide +kernel
theorem dX11_go_24 : decode cX11_go 24 = .ok (.getfield 167, 3) := by decide +kernel
theorem dX11_go_27 : decode cX11_go 27 = .ok (.astore_n 3, 1) := by decide +kernel
theorem dX11_go_28 : decode cX11_go 28 = .ok (.aload_n 3, 1) := by decide +kernel
theorem dX11_go_29 : decode cX11_go 29 = .ok (.ifnonnull 6, 3) := by decide +kernel
theorem dX11_go_32 : decode cX11_go 32 = .ok (.ldc 171, 2) := by decide +kernel
theorem dX11_go_34 : decode cX11_go 34 = .ok (.ireturn, 1) := by decide +kernel
theorem dX11_go_35 : decode cX11_go 35 = .ok (.iconst 0, 1) := by decide +kernel
theorem dX11_go_36 : decode cX11_go 36 = .ok (.istore 4, 2) := by decide +kernel
theorem dX11_go_38 : decode cX11_go 38 = .ok (.iload 4, 2) := by decide +kernel
theorem dX11_go_40 : decode cX11_go 40 = .ok (.iload_n 1, 1) := by decide +kernel
theorem dX11_go_41 : decode cX11_go 41 = .ok (.if_icmp .ge 26, 3) := by decide +kernel
theorem dX11_go_44 : decode cX11_go 44 = .ok (.aload_n 2, 1) := by decide +kernel
theorem dX11_go_45 : decode cX11_go 45 = .ok (.getfield 172, 3) := by decide +kernel
theorem dX11_go_48 : decode cX11_go 48 = .ok (.ifCond .ne 19, 3) := by decide +kernel
theorem dX11_go_51 : decode cX11_go 51 = .ok (.aload_n 2, 1) := by decide +kernel
theorem dX11_go_52 : decode cX11_go 52 = .ok (.aload_n 3, 1) := by decide +kernel
theorem dX11_go_53 : decode cX11_go 53 = .ok (.aload_n 2, 1) := by decide +kernel
theorem dX11_go_54 : decode cX11_go 54 = .ok (.invokevirtual 175, 3) := by decide +kernel
theorem dX11_go_57 : decode cX11_go 57 = .ok (.iconst 0, 1) := by decide +kernel
theorem dX11_go_58 : decode cX11_go 58 = .ok (.invokevirtual 181, 3) := by decide +kernel
theorem dX11_go_61 : decode cX11_go 61 = .ok (.iinc 4 1, 3) := by decide +kernel
theorem dX11_go_64 : decode cX11_go 64 = .ok (.goto (-26), 3) := by decide +kernel
theorem dX11_go_67 : decode cX11_go 67 = .ok (.iload 4, 2) := by decide +kernel
theorem dX11_go_69 : decode cX11_go 69 = .ok (.ireturn, 1) := by decide +kernel
set_option maxRecDepth 20000 in
theorem ggX11_pulls_X11_rowAt : GoodIn wsX11_pulls wsX11_rowAt := goodIn_r _ [12, 13, 96, 97, 98, 99, 100, 101, 102, 103, 104] (by decide +kernel) (by decide +kernel)
set_option maxRecDepth 20000 in
theorem gX11_pulls_X11_rowAt : GoodIn wsX11_pulls (wsV RX11 53 RX11 yX11_rowAt wsX11_rowAt) := goodIn_app (goodIn_of _ (by decide +kernel)) ggX11_pulls_X11_rowAt
set_option maxRecDepth 20000 in
theorem ggX11_pulls_X6_findingAt : GoodIn wsX11_pulls wsX6_findingAt := goodIn_r _ [18, 19, 20, 21, 22, 17, 23, 24, 119, 120, 121, 122] (by decide +kernel) (by decide +kernel)
set_option maxRecDepth 20000 in
theorem gX11_pulls_X6_findingAt : GoodIn wsX11_pulls (wsV RX11 69 RX6 yX6_findingAt wsX6_findingAt) := goodIn_app (goodIn_of _ (by decide +kernel)) ggX11_pulls_X6_findingAt
set_option maxRecDepth 20000 in
theorem ggX11_pulls_X11_found : GoodIn wsX11_pulls wsX11_found := goodIn_r _ [28, 29, 30, 96, 97, 98, 99, 100, 101, 102, 103, 104] (by decide +kernel) (by decide +kernel)
set_option maxRecDepth 20000 in
theorem gX11_pulls_X11_found : GoodIn wsX11_pulls (wsV RX11 58 RX11 yX11_found wsX11_found) := goodIn_app (goodIn_of _ (by decide +kernel)) ggX11_pulls_X11_found
set_option maxRecDepth 20000 in
theorem ggX11_pulls_X6_areWithin : GoodIn wsX11_pulls wsX6_areWithin := goodIn_r _ [34, 35, 20, 21, 22, 17, 23, 24, 119, 120, 121, 122] (by decide +kernel) (by decide +kernel)
set_option maxRecDepth 20000 in
theorem gX11_pulls_X6_areWithin : GoodIn wsX11_pulls (wsV RX11 184 RX6 yX6_areWithin wsX6_areWithin) := goodIn_app (goodIn_of _ (by decide +kernel)) ggX11_pulls_X6_areWithin
set_option maxRecDepth 20000 in
theorem ggX11_pulls_X8_tick : GoodIn wsX11_pulls wsX8_tick := goodIn_r _ [40, 41, 42, 43, 44, 45, 46, 47, 48, 49, 50, 51, 52, 53, 54, 55, 56, 57, 58, 59, 60, 61, 62, 63, 64, 65, 66, 67, 68, 69, 70, 71, 72, 73, 74, 75, 76, 77, 78, 79, 80, 81, 82, 83, 84, 85, 86, 87, 88, 39, 89, 90, 91, 107, 108, 109, 110, 111, 112, 113, 114, 115, 116, 117, 118, 123, 124, 125, 126, 127, 128, 129] (by decide +kernel) (by decide +kernel)
set_option maxRecDepth 20000 in
theorem gX11_pulls_X8_tick : GoodIn wsX11_pulls (wsV RX11 181 RX8 yX8_tick wsX8_tick) := goodIn_app (goodIn_of _ (by decide +kernel)) ggX11_pulls_X8_tick
set_option maxRecDepth 20000 in
theorem ggX11_pulls_X11_fine : GoodIn wsX11_pulls wsX11_fine := goodIn_r _ [95, 29, 96, 97, 98, 99, 100, 101, 102, 103, 104] (by decide +kernel) (by decide +kernel)
set_option maxRecDepth 20000 in
theorem gX11_pulls_X11_fine : GoodIn wsX11_pulls (wsV RX11 66 RX11 yX11_fine wsX11_fine) := goodIn_app (goodIn_of _ (by decide +kernel)) ggX11_pulls_X11_fine
theorem dX11_pulls_0 : decode cX11_pulls 0 = .ok (.aload_n 0, 1) := by decide +kernel
theorem dX11_pulls_1 : decode cX11_pulls 1 = .ok (.iload_n 1, 1) := by decide +kernel
theorem dX11_pulls_2 : decode cX11_pulls 2 = .ok (.invokevirtual 53, 3) := by decide +kernel
theorem dX11_pulls_5 : decode cX11_pulls 5 = .ok (.astore 4, 2) := by decide +kernel
theorem dX11_pulls_7 : decode cX11_pulls 7 = .ok (.aload 4, 2) := by decide +kernel
theorem dX11_pulls_9 : decode cX11_pulls 9 = .ok (.ifnull 14, 3) := by decide +kernel
theorem dX11_pulls_12 : decode cX11_pulls 12 = .ok (.iload_n 3, 1) := by decide +kernel
theorem dX11_pulls_13 : decode cX11_pulls 13 = .ok (.iconst 1, 1) := by decide +kernel
theorem dX11_pulls_14 : decode cX11_pulls 14 = .ok (.if_icmp .lt 9, 3) := by decide +kernel
theorem dX11_pulls_17 : decode cX11_pulls 17 = .ok (.iload_n 3, 1) := by decide +kernel
theorem dX11_pulls_18 : decode cX11_pulls 18 = .ok (.bipush 40, 2) := by decide +kernel
theorem dX11_pulls_20 : decode cX11_pulls 20 = .ok (.if_icmp .le 6, 3) := by decide +kernel
theorem dX11_pulls_23 : decode cX11_pulls 23 = .ok (.ldc 57, 2) := by decide +kernel
theorem dX11_pulls_25 : decode cX11_pulls 25 = .ok (.ireturn, 1) := by decide +kernel
theorem dX11_pulls_26 : decode cX11_pulls 26 = .ok (.aload_n 0, 1) := by decide +kernel
theorem dX11_pulls_27 : decode cX11_pulls 27 = .ok (.getfield 25, 3) := by decide +kernel
theorem dX11_pulls_30 : decode cX11_pulls 30 = .ok (.getfield 126, 3) := by decide +kernel
theorem dX11_pulls_33 : decode cX11_pulls 33 = .ok (.astore 5, 2) := by decide +kernel
theorem dX11_pulls_35 : decode cX11_pulls 35 = .ok (.aload 5, 2) := by decide +kernel
theorem dX11_pulls_37 : decode cX11_pulls 37 = .ok (.getfield 167, 3) := by decide +kernel
theorem dX11_pulls_40 : decode cX11_pulls 40 = .ok (.ifnonnull 6, 3) := by decide +kernel
theorem dX11_pulls_43 : decode cX11_pulls 43 = .ok (.ldc 171, 2) := by decide +kernel
theorem dX11_pulls_45 : decode cX11_pulls 45 = .ok (.ireturn, 1) := by decide +kernel
theorem dX11_pulls_46 : decode cX11_pulls 46 = .ok (.aload 4, 2) := by decide +kernel
theorem dX11_pulls_48 : decode cX11_pulls 48 = .ok (.iload_n 2, 1) := by decide +kernel
theorem dX11_pulls_49 : decode cX11_pulls 49 = .ok (.iload_n 3, 1) := by decide +kernel
theorem dX11_pulls_50 : decode cX11_pulls 50 = .ok (.invokevirtual 69, 3) := by decide +kernel
theorem dX11_pulls_53 : decode cX11_pulls 53 = .ok (.istore 6, 2) := by decide +kernel
theorem dX11_pulls_55 : decode cX11_pulls 55 = .ok (.iload 6, 2) := by decide +kernel
theorem dX11_pulls_57 : decode cX11_pulls 57 = .ok (.ifCond .eq 10, 3) := by decide +kernel
theorem dX11_pulls_60 : decode cX11_pulls 60 = .ok (.aload_n 0, 1) := by decide +kernel
theorem dX11_pulls_61 : decode cX11_pulls 61 = .ok (.iload 6, 2) := by decide +kernel
theorem dX11_pulls_63 : decode cX11_pulls 63 = .ok (.invokevirtual 58, 3) := by decide +kernel
theorem dX11_pulls_66 : decode cX11_pulls 66 = .ok (.ireturn, 1) := by decide +kernel
theorem dX11_pulls_67 : decode cX11_pulls 67 = .ok (.aload 4, 2) := by decide +kernel
theorem dX11_pulls_69 : decode cX11_pulls 69 = .ok (.iload_n 2, 1) := by decide +kernel
theorem dX11_pulls_70 : decode cX11_pulls 70 = .ok (.iload_n 3, 1) := by decide +kernel
theorem dX11_pulls_71 : decode cX11_pulls 71 = .ok (.bipush 99, 2) := by decide +kernel
theorem dX11_pulls_73 : decode cX11_pulls 73 = .ok (.invokevirtual 184, 3) := by decide +kernel
theorem dX11_pulls_76 : decode cX11_pulls 76 = .ok (.ifCond .ne 6, 3) := by decide +kernel
theorem dX11_pulls_79 : decode cX11_pulls 79 = .ok (.ldc 57, 2) := by decide +kernel
theorem dX11_pulls_81 : decode cX11_pulls 81 = .ok (.ireturn, 1) := by decide +kernel
theorem dX11_pulls_82 : decode cX11_pulls 82 = .ok (.iconst 0, 1) := by decide +kernel
theorem dX11_pulls_83 : decode cX11_pulls 83 = .ok (.istore 7, 2) := by decide +kernel
theorem dX11_pulls_85 : decode cX11_pulls 85 = .ok (.iload 7, 2) := by decide +kernel
theorem dX11_pulls_87 : decode cX11_pulls 87 = .ok (.iload_n 3, 1) := by decide +kernel
theorem dX11_pulls_88 : decode cX11_pulls 88 = .ok (.if_icmp .ge 33, 3) := by decide +kernel
theorem dX11_pulls_91 : decode cX11_pulls 91 = .ok (.aload 5, 2) := by decide +kernel
theorem dX11_pulls_93 : decode cX11_pulls 93 = .ok (.getfield 172, 3) := by decide +kernel
theorem dX11_pulls_96 : decode cX11_pulls 96 = .ok (.ifCond .ne 25, 3) := by decide +kernel
theorem dX11_pulls_99 : decode cX11_pulls 99 = .ok (.aload 5, 2) := by decide +kernel
theorem dX11_pulls_101 : decode cX11_pulls 101 = .ok (.aload 4, 2) := by decide +kernel
theorem dX11_pulls_103 : decode cX11_pulls 103 = .ok (.getfield 87, 3) := by decide +kernel
theorem dX11_pulls_106 : decode cX11_pulls 106 = .ok (.iload_n 2, 1) := by decide +kernel
theorem dX11_pulls_107 : decode cX11_pulls 107 = .ok (.iload 7, 2) := by decide +kernel
theorem dX11_pulls_109 : decode cX11_pulls 109 = .ok (.iadd, 1) := by decide +kernel
theorem dX11_pulls_110 : decode cX11_pulls 110 = .ok (.iaload, 1) := by decide +kernel
theorem dX11_pulls_111 : decode cX11_pulls 111 = .ok (.iconst 0, 1) := by decide +kernel
theorem dX11_pulls_112 : decode cX11_pulls 112 = .ok (.invokevirtual 181, 3) := by decide +kernel
theorem dX11_pulls_115 : decode cX11_pulls 115 = .ok (.iinc 7 1, 3) := by decide +kernel
theorem dX11_pulls_118 : decode cX11_pulls 118 = .ok (.goto (-33), 3) := by decide +kernel
theorem dX11_pulls_121 : decode cX11_pulls 121 = .ok (.aload_n 0, 1) := by decide +kernel
theorem dX11_pulls_122 : decode cX11_pulls 122 = .ok (.iload 7, 2) := by decide +kernel
theorem dX11_pulls_124 : decode cX11_pulls 124 = .ok (.invokevirtual 66, 3) := by decide +kernel
theorem dX11_pulls_127 : decode cX11_pulls 127 = .ok (.ireturn, 1) := by decide +kernel
set_option maxRecDepth 20000 in
theorem ggX11_now_X2_shortBy : GoodIn wsX11_now wsX2_shortBy := goodIn_r _ [24, 25, 26, 27, 28, 23, 29, 30, 57, 58, 59, 60] (by decide +kernel) (by decide +kernel)
set_option maxRecDepth 20000 in
theorem gX11_now_X2_shortBy : GoodIn wsX11_now (wsV RX11 144 RX2 yX2_shortBy wsX2_shortBy) := goodIn_app (goodIn_of _ (by decide +kernel)) ggX11_now_X2_shortBy
theorem dX11_now_0 : decode cX11_now 0 = .ok (.iload_n 1, 1) := by decide +kernel
theorem dX11_now_1 : decode cX11_now 1 = .ok (.ifCond .lt 9, 3) := by decide +kernel
theorem dX11_now_4 : decode cX11_now 4 = .ok (.iload_n 1, 1) := by decide +kernel
theorem dX11_now_5 : decode cX11_now 5 = .ok (.bipush 8, 2) := by decide +kernel
theorem dX11_now_7 : decode cX11_now 7 = .ok (.if_icmp .le 6, 3) := by decide +kernel
theorem dX11_now_10 : decode cX11_now 10 = .ok (.ldc 57, 2) := by decide +kernel
theorem dX11_now_12 : decode cX11_now 12 = .ok (.ireturn, 1) := by decide +kernel
theorem dX11_now_13 : decode cX11_now 13 = .ok (.aload_n 0, 1) := by decide +kernel
theorem dX11_now_14 : decode cX11_now 14 = .ok (.getfield 25, 3) := by decide +kernel
theorem dX11_now_17 : decode cX11_now 17 = .ok (.getfield 126, 3) := by decide +kernel
theorem dX11_now_20 : decode cX11_now 20 = .ok (.astore_n 2, 1) := by decide +kernel
theorem dX11_now_21 : decode cX11_now 21 = .ok (.aload_n 2, 1) := by decide +kernel
theorem dX11_now_22 : decode cX11_now 22 = .ok (.getfield 167, 3) := by decide +kernel
theorem dX11_now_25 : decode cX11_now 25 = .ok (.ifnonnull 6, 3) := by decide +kernel
theorem dX11_now_28 : decode cX11_now 28 = .ok (.ldc 171, 2) := by decide +kernel
theorem dX11_now_30 : decode cX11_now 30 = .ok (.ireturn, 1) := by decide +kernel
theorem dX11_now_31 : decode cX11_now 31 = .ok (.iload_n 1, 1) := by decide +kernel
theorem dX11_now_32 : decode cX11_now 32 = .ok (.tableswitch 117 0 7 #[48, 53, 58, 63, 76, 91, 96, 101], 48) := by decide +kernel
theorem dX11_now_80 : decode cX11_now 80 = .ok (.aload_n 2, 1) := by decide +kernel
theorem dX11_now_81 : decode cX11_now 81 = .ok (.getfield 188, 3) := by decide +kernel
theorem dX11_now_84 : decode cX11_now 84 = .ok (.ireturn, 1) := by decide +kernel
theorem dX11_now_85 : decode cX11_now 85 = .ok (.aload_n 2, 1) := by decide +kernel
theorem dX11_now_86 : decode cX11_now 86 = .ok (.getfield 191, 3) := by decide +kernel
theorem dX11_now_89 : decode cX11_now 89 = .ok (.ireturn, 1) := by decide +kernel
theorem dX11_now_90 : decode cX11_now 90 = .ok (.aload_n 2, 1) := by decide +kernel
theorem dX11_now_91 : decode cX11_now 91 = .ok (.getfield 194, 3) := by decide +kernel
theorem dX11_now_94 : decode cX11_now 94 = .ok (.ireturn, 1) := by decide +kernel
theorem dX11_now_95 : decode cX11_now 95 = .ok (.aload_n 2, 1) := by decide +kernel
theorem dX11_now_96 : decode cX11_now 96 = .ok (.getfield 172, 3) := by decide +kernel
theorem dX11_now_99 : decode cX11_now 99 = .ok (.ifCond .eq 7, 3) := by decide +kernel
theorem dX11_now_102 : decode cX11_now 102 = .ok (.iconst 1, 1) := by decide +kernel
theorem dX11_now_103 : decode cX11_now 103 = .ok (.goto 4, 3) := by decide +kernel
theorem dX11_now_106 : decode cX11_now 106 = .ok (.iconst 0, 1) := by decide +kernel
theorem dX11_now_107 : decode cX11_now 107 = .ok (.ireturn, 1) := by decide +kernel
theorem dX11_now_108 : decode cX11_now 108 = .ok (.aload_n 2, 1) := by decide +kernel
theorem dX11_now_109 : decode cX11_now 109 = .ok (.getfield 197, 3) := by decide +kernel
theorem dX11_now_112 : decode cX11_now 112 = .ok (.aload_n 2, 1) := by decide +kernel
theorem dX11_now_113 : decode cX11_now 113 = .ok (.getfield 188, 3) := by decide +kernel
theorem dX11_now_116 : decode cX11_now 116 = .ok (.invokestatic 201, 3) := by decide +kernel
theorem dX11_now_119 : decode cX11_now 119 = .ok (.invokevirtual 144, 3) := by decide +kernel
theorem dX11_now_122 : decode cX11_now 122 = .ok (.ireturn, 1) := by decide +kernel
theorem dX11_now_123 : decode cX11_now 123 = .ok (.aload_n 2, 1) := by decide +kernel
theorem dX11_now_124 : decode cX11_now 124 = .ok (.getfield 206, 3) := by decide +kernel
theorem dX11_now_127 : decode cX11_now 127 = .ok (.ireturn, 1) := by decide +kernel
theorem dX11_now_128 : decode cX11_now 128 = .ok (.aload_n 2, 1) := by decide +kernel
theorem dX11_now_129 : decode cX11_now 129 = .ok (.getfield 209, 3) := by decide +kernel
theorem dX11_now_132 : decode cX11_now 132 = .ok (.ireturn, 1) := by decide +kernel
theorem dX11_now_133 : decode cX11_now 133 = .ok (.aload_n 2, 1) := by decide +kernel
theorem dX11_now_134 : decode cX11_now 134 = .ok (.getfield 191, 3) := by decide +kernel
theorem dX11_now_137 : decode cX11_now 137 = .ok (.invokestatic 201, 3) := by decide +kernel
theorem dX11_now_140 : decode cX11_now 140 = .ok (.aload_n 2, 1) := by decide +kernel
theorem dX11_now_141 : decode cX11_now 141 = .ok (.getfield 212, 3) := by decide +kernel
theorem dX11_now_144 : decode cX11_now 144 = .ok (.getfield 216, 3) := by decide +kernel
theorem dX11_now_147 : decode cX11_now 147 = .ok (.imul, 1) := by decide +kernel
theorem dX11_now_148 : decode cX11_now 148 = .ok (.ireturn, 1) := by decide +kernel
theorem dX11_now_149 : decode cX11_now 149 = .ok (.aload_n 2, 1) := by decide +kernel
theorem dX11_now_150 : decode cX11_now 150 = .ok (.getfield 221, 3) := by decide +kernel
theorem dX11_now_153 : decode cX11_now 153 = .ok (.ireturn, 1) := by decide +kernel
set_option maxRecDepth 20000 in
theorem ggX11_greatest_X11_foretells : GoodIn wsX11_greatest wsX11_foretells := goodIn_r _ [7, 8, 2, 9, 10, 11, 6, 12, 13, 14, 15, 16, 17, 18, 19, 20, 21, 22, 23, 24, 25, 26, 27, 28, 29, 30, 31, 32, 33, 34, 35, 130, 131, 132, 133, 121, 122, 123, 124, 125, 126, 127, 128, 129, 134, 135, 136, 137, 138, 139, 140, 141, 142, 143, 144, 145, 146, 147, 148, 149, 150] (by decide +kernel) (by decide +kernel)
set_option maxRecDepth 20000 in
theorem gX11_greatest_X11_foretells : GoodIn wsX11_greatest (wsV RX11 224 RX11 yX11_foretells wsX11_foretells) := goodIn_app (goodIn_of _ (by decide +kernel)) ggX11_greatest_X11_foretells
set_option maxRecDepth 20000 in
theorem ggX11_greatest_X4_pulledPace : GoodIn wsX11_greatest wsX4_pulledPace := goodIn_r _ [39, 35, 40, 41, 34, 42, 43, 44, 45, 29, 46, 31, 32, 33, 47, 48, 49, 50, 51, 52, 53, 54, 55, 56, 57, 58, 59, 60, 61, 62, 63, 64, 65, 66, 67, 68, 69, 70, 71, 72, 73, 74, 75, 76, 77, 78, 79, 80, 81, 82, 83, 84, 85, 86, 87, 88, 89, 90, 91, 92, 93, 94, 95, 96, 97, 98, 99, 100, 101, 102, 103, 104, 105, 106, 107, 108, 109, 110, 111, 112, 113, 114, 115, 116, 142, 143, 144, 145, 146, 147, 148, 149, 150, 151, 152, 153, 154, 155, 156, 157, 158, 159, 160, 161, 162, 163, 164, 165, 130, 131, 132, 133] (by decide +kernel) (by decide +kernel)
set_option maxRecDepth 20000 in
theorem gX11_greatest_X4_pulledPace : GoodIn wsX11_greatest (wsV RX11 228 RX4 yX4_pulledPace wsX4_pulledPace) := goodIn_app (goodIn_of _ (by decide +kernel)) ggX11_greatest_X4_pulledPace
set_option maxRecDepth 20000 in
theorem ggX11_greatest_X4_snaps : GoodIn wsX11_greatest wsX4_snaps := goodIn_r _ [120, 40, 41, 142, 143, 144, 145, 146, 147, 148, 149, 150, 151, 152, 153, 154, 155, 156, 157, 158, 159, 160, 161, 162] (by decide +kernel) (by decide +kernel)
set_option maxRecDepth 20000 in
theorem gX11_greatest_X4_snaps : GoodIn wsX11_greatest (wsV RX11 232 RX4 yX4_snaps wsX4_snaps) := goodIn_app (goodIn_of _ (by decide +kernel)) ggX11_greatest_X4_snaps
theorem dX11_greatest_0 : decode cX11_greatest 0 = .ok (.iload 6, 2) := by decide +kernel
theorem dX11_greatest_2 : decode cX11_greatest 2 = .ok (.ifCond .lt 23, 3) := by decide +kernel
theorem dX11_greatest_5 : decode cX11_greatest 5 = .ok (.iload 6, 2) := by decide +kernel
theorem dX11_greatest_7 : decode cX11_greatest 7 = .ok (.iconst 1, 1) := by decide +kernel
theorem dX11_greatest_8 : decode cX11_greatest 8 = .ok (.if_icmp .gt 17, 3) := by decide +kernel
theorem dX11_greatest_11 : decode cX11_greatest 11 = .ok (.aload_n 0, 1) := by decide +kernel
theorem dX11_greatest_12 : decode cX11_greatest 12 = .ok (.iload_n 1, 1) := by decide +kernel
theorem dX11_greatest_13 : decode cX11_greatest 13 = .ok (.iload_n 2, 1) := by decide +kernel
theorem dX11_greatest_14 : decode cX11_greatest 14 = .ok (.iload_n 3, 1) := by decide +kernel
theorem dX11_greatest_15 : decode cX11_greatest 15 = .ok (.iload 4, 2) := by decide +kernel
theorem dX11_greatest_17 : decode cX11_greatest 17 = .ok (.iload 5, 2) := by decide +kernel
theorem dX11_greatest_19 : decode cX11_greatest 19 = .ok (.invokevirtual 224, 3) := by decide +kernel
theorem dX11_greatest_22 : decode cX11_greatest 22 = .ok (.ifCond .ne 6, 3) := by decide +kernel
theorem dX11_greatest_25 : decode cX11_greatest 25 = .ok (.ldc 57, 2) := by decide +kernel
theorem dX11_greatest_27 : decode cX11_greatest 27 = .ok (.ireturn, 1) := by decide +kernel
theorem dX11_greatest_28 : decode cX11_greatest 28 = .ok (.aload_n 0, 1) := by decide +kernel
theorem dX11_greatest_29 : decode cX11_greatest 29 = .ok (.getfield 36, 3) := by decide +kernel
theorem dX11_greatest_32 : decode cX11_greatest 32 = .ok (.invokevirtual 228, 3) := by decide +kernel
theorem dX11_greatest_35 : decode cX11_greatest 35 = .ok (.istore 7, 2) := by decide +kernel
theorem dX11_greatest_37 : decode cX11_greatest 37 = .ok (.iload 6, 2) := by decide +kernel
theorem dX11_greatest_39 : decode cX11_greatest 39 = .ok (.ifCond .ne 8, 3) := by decide +kernel
theorem dX11_greatest_42 : decode cX11_greatest 42 = .ok (.iload 7, 2) := by decide +kernel
theorem dX11_greatest_44 : decode cX11_greatest 44 = .ok (.goto 18, 3) := by decide +kernel
theorem dX11_greatest_47 : decode cX11_greatest 47 = .ok (.aload_n 0, 1) := by decide +kernel
theorem dX11_greatest_48 : decode cX11_greatest 48 = .ok (.getfield 36, 3) := by decide +kernel
theorem dX11_greatest_51 : decode cX11_greatest 51 = .ok (.invokevirtual 232, 3) := by decide +kernel
theorem dX11_greatest_54 : decode cX11_greatest 54 = .ok (.ifCond .eq 7, 3) := by decide +kernel
theorem dX11_greatest_57 : decode cX11_greatest 57 = .ok (.iconst 1, 1) := by decide +kernel
theorem dX11_greatest_58 : decode cX11_greatest 58 = .ok (.goto 4, 3) := by decide +kernel
theorem dX11_greatest_61 : decode cX11_greatest 61 = .ok (.iconst 0, 1) := by decide +kernel
theorem dX11_greatest_62 : decode cX11_greatest 62 = .ok (.ireturn, 1) := by decide +kernel
set_option maxRecDepth 20000 in
theorem ggX11_best_X11_isPull : GoodIn wsX11_best wsX11_isPull := goodIn_r _ [9] (by decide +kernel) (by decide +kernel)
set_option maxRecDepth 20000 in
theorem gX11_best_X11_isPull : GoodIn wsX11_best (va_wsS RX11 236 yX11_isPull wsX11_isPull) := goodIn_app (goodIn_of _ (by decide +kernel)) ggX11_best_X11_isPull
set_option maxRecDepth 20000 in
theorem ggX11_best_X4_bestOf : GoodIn wsX11_best wsX4_bestOf := goodIn_r _ [14, 15, 16, 17, 18, 19, 20, 21, 22, 23, 24, 25, 26, 27, 28, 29, 13, 30, 31, 32, 33, 34, 35, 36, 37, 38, 39, 40, 41, 42, 43, 44, 45, 46, 47, 48, 49, 50, 51, 52, 53, 54, 55, 56, 57, 58, 59, 60, 61, 62, 63, 64, 65, 66, 67, 68, 69, 70, 71, 72, 73, 74, 75, 76, 77, 78, 79, 80, 81, 82, 83, 84, 85, 86, 87, 88, 89, 90, 91, 92, 93, 94, 95, 96, 97, 98, 99, 100, 101, 102, 103, 104, 105, 106, 107, 108, 109, 110, 111, 112, 113, 125, 126, 127, 128, 129, 130, 131, 132, 133, 134, 135, 136, 137, 138, 139, 140, 141, 142, 143, 144, 145, 146, 147, 148, 149, 150, 151, 152, 153, 154, 155, 156, 157, 158] (by decide +kernel) (by decide +kernel)
set_option maxRecDepth 20000 in
theorem gX11_best_X4_bestOf : GoodIn wsX11_best (wsV RX11 239 RX4 yX4_bestOf wsX4_bestOf) := goodIn_app (goodIn_of _ (by decide +kernel)) ggX11_best_X4_bestOf
theorem dX11_best_0 : decode cX11_best 0 = .ok (.aload_n 0, 1) := by decide +kernel
theorem dX11_best_1 : decode cX11_best 1 = .ok (.getfield 25, 3) := by decide +kernel

theorem dX11_best_4 : decode cX11_best 4 = .ok (.getfield 122, 3) := by decide +kernel
theorem dX11_best_7 : decode cX11_best 7 = .ok (.astore 4, 2) := by decide +kernel
theorem dX11_best_9 : decode cX11_best 9 = .ok (.aload 4, 2) := by decide +kernel
theorem dX11_best_11 : decode cX11_best 11 = .ok (.ifnonnull 6, 3) := by decide +kernel
theorem dX11_best_14 : decode cX11_best 14 = .ok (.ldc 171, 2) := by decide +kernel
theorem dX11_best_16 : decode cX11_best 16 = .ok (.ireturn, 1) := by decide +kernel
theorem dX11_best_17 : decode cX11_best 17 = .ok (.iload_n 1, 1) := by decide +kernel
theorem dX11_best_18 : decode cX11_best 18 = .ok (.iconst 1, 1) := by decide +kernel
theorem dX11_best_19 : decode cX11_best 19 = .ok (.if_icmp .lt 18, 3) := by decide +kernel
theorem dX11_best_22 : decode cX11_best 22 = .ok (.iload_n 1, 1) := by decide +kernel
theorem dX11_best_23 : decode cX11_best 23 = .ok (.sipush 800, 3) := by decide +kernel
theorem dX11_best_26 : decode cX11_best 26 = .ok (.if_icmp .gt 11, 3) := by decide +kernel
theorem dX11_best_29 : decode cX11_best 29 = .ok (.iload_n 2, 1) := by decide +kernel
theorem dX11_best_30 : decode cX11_best 30 = .ok (.iload_n 3, 1) := by decide +kernel
theorem dX11_best_31 : decode cX11_best 31 = .ok (.invokestatic 236, 3) := by decide +kernel
theorem dX11_best_34 : decode cX11_best 34 = .ok (.ifCond .ne 6, 3) := by decide +kernel
theorem dX11_best_37 : decode cX11_best 37 = .ok (.ldc 57, 2) := by decide +kernel
theorem dX11_best_39 : decode cX11_best 39 = .ok (.ireturn, 1) := by decide +kernel
theorem dX11_best_40 : decode cX11_best 40 = .ok (.aload_n 0, 1) := by decide +kernel
theorem dX11_best_41 : decode cX11_best 41 = .ok (.getfield 36, 3) := by decide +kernel
theorem dX11_best_44 : decode cX11_best 44 = .ok (.aload 4, 2) := by decide +kernel
theorem dX11_best_46 : decode cX11_best 46 = .ok (.iload_n 1, 1) := by decide +kernel
theorem dX11_best_47 : decode cX11_best 47 = .ok (.iload_n 2, 1) := by decide +kernel
theorem dX11_best_48 : decode cX11_best 48 = .ok (.iload_n 3, 1) := by decide +kernel
theorem dX11_best_49 : decode cX11_best 49 = .ok (.invokevirtual 239, 3) := by decide +kernel
theorem dX11_best_52 : decode cX11_best 52 = .ok (.ireturn, 1) := by decide +kernel
set_option maxRecDepth 20000 in
theorem ggX11_from_X11_foretells : GoodIn wsX11_from wsX11_foretells := goodIn_r _ [7, 8, 1, 9, 10, 11, 6, 12, 13, 14, 15, 16, 17, 18, 19, 20, 21, 22, 23, 24, 25, 26, 27, 28, 29, 30, 31, 32, 33, 34, 35, 134, 135, 136, 137, 125, 126, 127, 128, 129, 130, 131, 132, 133, 138, 139, 140, 141, 142, 143, 144, 145, 146, 147, 148, 149, 150, 151, 152, 153, 154] (by decide +kernel) (by decide +kernel)
set_option maxRecDepth 20000 in
theorem gX11_from_X11_foretells : GoodIn wsX11_from (wsV RX11 224 RX11 yX11_foretells wsX11_foretells) := goodIn_app (goodIn_of _ (by decide +kernel)) ggX11_from_X11_foretells
set_option maxRecDepth 20000 in
theorem ggX11_from_X4_bestFrom : GoodIn wsX11_from wsX4_bestFrom := goodIn_r _ [39, 40, 33, 41, 42, 43, 44, 45, 46, 29, 47, 35, 48, 49, 50, 51, 52, 53, 54, 55, 34, 56, 57, 58, 59, 31, 32, 60, 61, 62, 63, 64, 65, 66, 67, 68, 69, 70, 71, 72, 73, 74, 75, 76, 77, 78, 79, 80, 81, 82, 83, 84, 85, 86, 87, 88, 89, 90, 91, 92, 93, 94, 95, 96, 97, 98, 99, 100, 101, 102, 103, 104, 105, 106, 107, 108, 109, 110, 111, 112, 113, 114, 115, 116, 117, 118, 119, 120, 121, 122, 123, 124, 146, 147, 148, 149, 150, 151, 152, 153, 154, 155, 156, 157, 158, 159, 160, 161, 162, 163, 164, 165, 166, 167, 168, 169, 134, 135, 136, 137] (by decide +kernel) (by decide +kernel)
set_option maxRecDepth 20000 in
theorem gX11_from_X4_bestFrom : GoodIn wsX11_from (wsV RX11 243 RX4 yX4_bestFrom wsX4_bestFrom) := goodIn_app (goodIn_of _ (by decide +kernel)) ggX11_from_X4_bestFrom
theorem dX11_from_0 : decode cX11_from 0 = .ok (.aload_n 0, 1) := by decide +kernel
theorem dX11_from_1 : decode cX11_from 1 = .ok (.iload_n 1, 1) := by decide +kernel
theorem dX11_from_2 : decode cX11_from 2 = .ok (.iload_n 2, 1) := by decide +kernel
theorem dX11_from_3 : decode cX11_from 3 = .ok (.iload_n 3, 1) := by decide +kernel
theorem dX11_from_4 : decode cX11_from 4 = .ok (.iload 4, 2) := by decide +kernel
theorem dX11_from_6 : decode cX11_from 6 = .ok (.iload 5, 2) := by decide +kernel
theorem dX11_from_8 : decode cX11_from 8 = .ok (.invokevirtual 224, 3) := by decide +kernel
theorem dX11_from_11 : decode cX11_from 11 = .ok (.ifCond .eq 13, 3) := by decide +kernel
theorem dX11_from_14 : decode cX11_from 14 = .ok (.aload_n 0, 1) := by decide +kernel
theorem dX11_from_15 : decode cX11_from 15 = .ok (.getfield 36, 3) := by decide +kernel
theorem dX11_from_18 : decode cX11_from 18 = .ok (.invokevirtual 243, 3) := by decide +kernel
theorem dX11_from_21 : decode cX11_from 21 = .ok (.goto 5, 3) := by decide +kernel
theorem dX11_from_24 : decode cX11_from 24 = .ok (.ldc 57, 2) := by decide +kernel
theorem dX11_from_26 : decode cX11_from 26 = .ok (.ireturn, 1) := by decide +kernel
set_option maxRecDepth 20000 in
theorem ggX11_late_X11_foretells : GoodIn wsX11_late wsX11_foretells := goodIn_r _ [7, 8, 1, 9, 10, 11, 6, 12, 13, 14, 15, 16, 17, 18, 19, 20, 21, 22, 23, 24, 25, 26, 27, 28, 29, 30, 31, 32, 33, 34, 35, 134, 135, 136, 137, 125, 126, 127, 128, 129, 130, 131, 132, 133, 138, 139, 140, 141, 142, 143, 144, 145, 146, 147, 148, 149, 150, 151, 152, 153, 154] (by decide +kernel) (by decide +kernel)
set_option maxRecDepth 20000 in
theorem gX11_late_X11_foretells : GoodIn wsX11_late (wsV RX11 224 RX11 yX11_foretells wsX11_foretells) := goodIn_app (goodIn_of _ (by decide +kernel)) ggX11_late_X11_foretells
set_option maxRecDepth 20000 in
theorem ggX11_late_X4_latestGrowing : GoodIn wsX11_late wsX4_latestGrowing := goodIn_r _ [39, 40, 41, 42, 43, 29, 44, 35, 45, 46, 34, 47, 48, 49, 50, 51, 33, 32, 52, 53, 54, 55, 56, 57, 31, 58, 59, 60, 61, 62, 63, 64, 65, 66, 67, 68, 69, 70, 71, 72, 73, 74, 75, 76, 77, 78, 79, 80, 81, 82, 83, 84, 85, 86, 87, 88, 89, 90, 91, 92, 93, 94, 95, 96, 97, 98, 99, 100, 101, 102, 103, 104, 105, 106, 107, 108, 109, 110, 111, 112, 113, 114, 115, 116, 117, 118, 119, 120, 121, 122, 123, 124, 146, 147, 148, 149, 150, 151, 152, 153, 154, 155, 156, 157, 158, 159, 160, 161, 162, 163, 164, 165, 166, 134, 135, 136, 137, 167, 168, 169] (by decide +kernel) (by decide +kernel)
set_option maxRecDepth 20000 in
theorem gX11_late_X4_latestGrowing : GoodIn wsX11_late (wsV RX11 246 RX4 yX4_latestGrowing wsX4_latestGrowing) := goodIn_app (goodIn_of _ (by decide +kernel)) ggX11_late_X4_latestGrowing
theorem dX11_late_0 : decode cX11_late 0 = .ok (.aload_n 0, 1) := by decide +kernel
theorem dX11_late_1 : decode cX11_late 1 = .ok (.iload_n 1, 1) := by decide +kernel
theorem dX11_late_2 : decode cX11_late 2 = .ok (.iload_n 2, 1) := by decide +kernel
theorem dX11_late_3 : decode cX11_late 3 = .ok (.iload_n 3, 1) := by decide +kernel
theorem dX11_late_4 : decode cX11_late 4 = .ok (.iload 4, 2) := by decide +kernel
theorem dX11_late_6 : decode cX11_late 6 = .ok (.iload 5, 2) := by decide +kernel
theorem dX11_late_8 : decode cX11_late 8 = .ok (.invokevirtual 224, 3) := by decide +kernel
theorem dX11_late_11 : decode cX11_late 11 = .ok (.ifCond .eq 13, 3) := by decide +kernel
theorem dX11_late_14 : decode cX11_late 14 = .ok (.aload_n 0, 1) := by decide +kernel
theorem dX11_late_15 : decode cX11_late 15 = .ok (.getfield 36, 3) := by decide +kernel
theorem dX11_late_18 : decode cX11_late 18 = .ok (.invokevirtual 246, 3) := by decide +kernel
theorem dX11_late_21 : decode cX11_late 21 = .ok (.goto 5, 3) := by decide +kernel
theorem dX11_late_24 : decode cX11_late 24 = .ok (.ldc 57, 2) := by decide +kernel
theorem dX11_late_26 : decode cX11_late 26 = .ok (.ireturn, 1) := by decide +kernel
set_option maxRecDepth 20000 in
theorem ggX11_parts_X11_foretells : GoodIn wsX11_parts wsX11_foretells := goodIn_r _ [8, 9, 3, 10, 11, 12, 7, 13, 14, 15, 16, 17, 18, 19, 20, 21, 22, 23, 24, 25, 26, 27, 28, 29, 30, 31, 32, 33, 34, 35, 36, 129, 130, 131, 132, 120, 121, 122, 123, 124, 125, 126, 127, 128, 133, 134, 135, 136, 137, 138, 139, 140, 141, 142, 143, 144, 145, 146, 147, 148, 149] (by decide +kernel) (by decide +kernel)
set_option maxRecDepth 20000 in
theorem gX11_parts_X11_foretells : GoodIn wsX11_parts (wsV RX11 224 RX11 yX11_foretells wsX11_foretells) := goodIn_app (goodIn_of _ (by decide +kernel)) ggX11_parts_X11_foretells
set_option maxRecDepth 20000 in
theorem ggX11_parts_X4_partingTicks : GoodIn wsX11_parts wsX4_partingTicks := goodIn_r _ [40, 41, 42, 35, 43, 44, 45, 46, 47, 48, 30, 49, 32, 33, 34, 50, 51, 52, 53, 54, 55, 56, 57, 58, 59, 60, 61, 62, 63, 64, 65, 66, 67, 68, 69, 70, 71, 72, 73, 74, 75, 76, 77, 78, 79, 80, 81, 82, 83, 84, 85, 86, 87, 88, 89, 90, 91, 92, 93, 94, 95, 96, 97, 98, 99, 100, 101, 102, 103, 104, 105, 106, 107, 108, 109, 110, 111, 112, 113, 114, 115, 116, 117, 118, 119, 141, 142, 143, 144, 145, 146, 147, 148, 149, 150, 151, 152, 153, 154, 155, 156, 157, 158, 159, 160, 161, 162, 163, 164, 129, 130, 131, 132] (by decide +kernel) (by decide +kernel)
set_option maxRecDepth 20000 in
theorem gX11_parts_X4_partingTicks : GoodIn wsX11_parts (wsV RX11 250 RX4 yX4_partingTicks wsX4_partingTicks) := goodIn_app (goodIn_of _ (by decide +kernel)) ggX11_parts_X4_partingTicks
theorem dX11_parts_0 : decode cX11_parts 0 = .ok (.iload 5, 2) := by decide +kernel
theorem dX11_parts_2 : decode cX11_parts 2 = .ok (.iconst 1, 1) := by decide +kernel
theorem dX11_parts_3 : decode cX11_parts 3 = .ok (.if_icmp .lt 23, 3) := by decide +kernel
theorem dX11_parts_6 : decode cX11_parts 6 = .ok (.iload 5, 2) := by decide +kernel
theorem dX11_parts_8 : decode cX11_parts 8 = .ok (.ldc 249, 2) := by decide +kernel
theorem dX11_parts_10 : decode cX11_parts 10 = .ok (.if_icmp .gt 16, 3) := by decide +kernel
theorem dX11_parts_13 : decode cX11_parts 13 = .ok (.aload_n 0, 1) := by decide +kernel
theorem dX11_parts_14 : decode cX11_parts 14 = .ok (.iload_n 1, 1) := by decide +kernel
theorem dX11_parts_15 : decode cX11_parts 15 = .ok (.iload_n 2, 1) := by decide +kernel
theorem dX11_parts_16 : decode cX11_parts 16 = .ok (.iload_n 3, 1) := by decide +kernel
theorem dX11_parts_17 : decode cX11_parts 17 = .ok (.iload 4, 2) := by decide +kernel
theorem dX11_parts_19 : decode cX11_parts 19 = .ok (.iconst 1, 1) := by decide +kernel
theorem dX11_parts_20 : decode cX11_parts 20 = .ok (.invokevirtual 224, 3) := by decide +kernel
theorem dX11_parts_23 : decode cX11_parts 23 = .ok (.ifCond .ne 6, 3) := by decide +kernel
theorem dX11_parts_26 : decode cX11_parts 26 = .ok (.ldc 57, 2) := by decide +kernel
theorem dX11_parts_28 : decode cX11_parts 28 = .ok (.ireturn, 1) := by decide +kernel
theorem dX11_parts_29 : decode cX11_parts 29 = .ok (.aload_n 0, 1) := by decide +kernel
theorem dX11_parts_30 : decode cX11_parts 30 = .ok (.getfield 36, 3) := by decide +kernel
theorem dX11_parts_33 : decode cX11_parts 33 = .ok (.iload 5, 2) := by decide +kernel
theorem dX11_parts_35 : decode cX11_parts 35 = .ok (.invokevirtual 250, 3) := by decide +kernel
theorem dX11_parts_38 : decode cX11_parts 38 = .ok (.ireturn, 1) := by decide +kernel
set_option maxRecDepth 20000 in
theorem ggX11_lamp_X11_foretells : GoodIn wsX11_lamp wsX11_foretells := goodIn_r _ [7, 8, 1, 9, 10, 11, 6, 12, 13, 14, 15, 16, 17, 18, 19, 20, 21, 22, 23, 24, 25, 26, 27, 28, 29, 30, 31, 32, 33, 34, 35, 131, 132, 133, 134, 122, 123, 124, 125, 126, 127, 128, 129, 130, 135, 136, 137, 138, 139, 140, 141, 142, 143, 144, 145, 146, 147, 148, 149, 150, 151] (by decide +kernel) (by decide +kernel)
set_option maxRecDepth 20000 in
theorem gX11_lamp_X11_foretells : GoodIn wsX11_lamp (wsV RX11 224 RX11 yX11_foretells wsX11_foretells) := goodIn_app (goodIn_of _ (by decide +kernel)) ggX11_lamp_X11_foretells
set_option maxRecDepth 20000 in
theorem ggX11_lamp_X4_greatestLamp : GoodIn wsX11_lamp wsX4_greatestLamp := goodIn_r _ [39, 40, 41, 42, 43, 29, 44, 35, 45, 46, 47, 34, 48, 49, 50, 51, 31, 32, 33, 52, 53, 54, 55, 56, 57, 58, 59, 60, 61, 62, 63, 64, 65, 66, 67, 68, 69, 70, 71, 72, 73, 74, 75, 76, 77, 78, 79, 80, 81, 82, 83, 84, 85, 86, 87, 88, 89, 90, 91, 92, 93, 94, 95, 96, 97, 98, 99, 100, 101, 102, 103, 104, 105, 106, 107, 108, 109, 110, 111, 112, 113, 114, 115, 116, 117, 118, 119, 120, 121, 143, 144, 145, 146, 147, 148, 149, 150, 151, 152, 153, 154, 155, 156, 157, 158, 159, 160, 161, 162, 163, 164, 165, 166, 131, 132, 133, 134] (by decide +kernel) (by decide +kernel)
set_option maxRecDepth 20000 in
theorem gX11_lamp_X4_greatestLamp : GoodIn wsX11_lamp (wsV RX11 253 RX4 yX4_greatestLamp wsX4_greatestLamp) := goodIn_app (goodIn_of _ (by decide +kernel)) ggX11_lamp_X4_greatestLamp
theorem dX11_lamp_0 : decode cX11_lamp 0 = .ok (.aload_n 0, 1) := by decide +kernel
theorem dX11_lamp_1 : decode cX11_lamp 1 = .ok (.iload_n 1, 1) := by decide +kernel
theorem dX11_lamp_2 : decode cX11_lamp 2 = .ok (.iload_n 2, 1) := by decide +kernel
theorem dX11_lamp_3 : decode cX11_lamp 3 = .ok (.iload_n 3, 1) := by decide +kernel
theorem dX11_lamp_4 : decode cX11_lamp 4 = .ok (.iload 4, 2) := by decide +kernel
theorem dX11_lamp_6 : decode cX11_lamp 6 = .ok (.iload 5, 2) := by decide +kernel
theorem dX11_lamp_8 : decode cX11_lamp 8 = .ok (.invokevirtual 224, 3) := by decide +kernel
theorem dX11_lamp_11 : decode cX11_lamp 11 = .ok (.ifCond .eq 13, 3) := by decide +kernel
theorem dX11_lamp_14 : decode cX11_lamp 14 = .ok (.aload_n 0, 1) := by decide +kernel
theorem dX11_lamp_15 : decode cX11_lamp 15 = .ok (.getfield 36, 3) := by decide +kernel
theorem dX11_lamp_18 : decode cX11_lamp 18 = .ok (.invokevirtual 253, 3) := by decide +kernel
theorem dX11_lamp_21 : decode cX11_lamp 21 = .ok (.goto 5, 3) := by decide +kernel
theorem dX11_lamp_24 : decode cX11_lamp 24 = .ok (.ldc 57, 2) := by decide +kernel
theorem dX11_lamp_26 : decode cX11_lamp 26 = .ok (.ireturn, 1) := by decide +kernel
set_option maxRecDepth 20000 in
theorem ggX11_wobble_X11_discAt : GoodIn wsX11_wobble wsX11_discAt := goodIn_r _ [6, 7, 8, 9, 10, 17, 18, 19, 20, 21, 22, 23, 24, 25, 26, 27, 28, 29, 30, 31, 32, 33] (by decide +kernel) (by decide +kernel)
set_option maxRecDepth 20000 in
theorem gX11_wobble_X11_discAt : GoodIn wsX11_wobble (wsV RX11 152 RX11 yX11_discAt wsX11_discAt) := goodIn_app (goodIn_of _ (by decide +kernel)) ggX11_wobble_X11_discAt
set_option maxRecDepth 20000 in
theorem ggX11_wobble_X3_greatestPaceOffBy : GoodIn wsX11_wobble wsX3_greatestPaceOffBy := goodIn_r _ [15, 16, 34, 35, 36] (by decide +kernel) (by decide +kernel)
set_option maxRecDepth 20000 in
theorem gX11_wobble_X3_greatestPaceOffBy : GoodIn wsX11_wobble (wsV RX11 256 RX3 yX3_greatestPaceOffBy wsX3_greatestPaceOffBy) := goodIn_app (goodIn_of _ (by decide +kernel)) ggX11_wobble_X3_greatestPaceOffBy
theorem dX11_wobble_0 : decode cX11_wobble 0 = .ok (.aload_n 0, 1) := by decide +kernel
theorem dX11_wobble_1 : decode cX11_wobble 1 = .ok (.iload_n 1, 1) := by decide +kernel
theorem dX11_wobble_2 : decode cX11_wobble 2 = .ok (.invokevirtual 152, 3) := by decide +kernel
theorem dX11_wobble_5 : decode cX11_wobble 5 = .ok (.astore_n 3, 1) := by decide +kernel
theorem dX11_wobble_6 : decode cX11_wobble 6 = .ok (.aload_n 3, 1) := by decide +kernel
theorem dX11_wobble_7 : decode cX11_wobble 7 = .ok (.ifnull 14, 3) := by decide +kernel
theorem dX11_wobble_10 : decode cX11_wobble 10 = .ok (.iload_n 2, 1) := by decide +kernel
theorem dX11_wobble_11 : decode cX11_wobble 11 = .ok (.iconst 1, 1) := by decide +kernel
theorem dX11_wobble_12 : decode cX11_wobble 12 = .ok (.if_icmp .lt 9, 3) := by decide +kernel
theorem dX11_wobble_15 : decode cX11_wobble 15 = .ok (.iload_n 2, 1) := by decide +kernel
theorem dX11_wobble_16 : decode cX11_wobble 16 = .ok (.bipush 50, 2) := by decide +kernel
theorem dX11_wobble_18 : decode cX11_wobble 18 = .ok (.if_icmp .le 6, 3) := by decide +kernel
theorem dX11_wobble_21 : decode cX11_wobble 21 = .ok (.ldc 57, 2) := by decide +kernel
theorem dX11_wobble_23 : decode cX11_wobble 23 = .ok (.ireturn, 1) := by decide +kernel
theorem dX11_wobble_24 : decode cX11_wobble 24 = .ok (.aload_n 3, 1) := by decide +kernel
theorem dX11_wobble_25 : decode cX11_wobble 25 = .ok (.iload_n 2, 1) := by decide +kernel
theorem dX11_wobble_26 : decode cX11_wobble 26 = .ok (.invokevirtual 256, 3) := by decide +kernel
theorem dX11_wobble_29 : decode cX11_wobble 29 = .ok (.ireturn, 1) := by decide +kernel
set_option maxRecDepth 20000 in
theorem ggX11_sound_X11_discAt : GoodIn wsX11_sound wsX11_discAt := goodIn_r _ [8, 9, 10, 11, 12, 65, 66, 67, 68, 69, 70, 71, 72, 73, 74, 75, 76, 77, 78, 79, 80, 81] (by decide +kernel) (by decide +kernel)
set_option maxRecDepth 20000 in
theorem gX11_sound_X11_discAt : GoodIn wsX11_sound (wsV RX11 152 RX11 yX11_discAt wsX11_discAt) := goodIn_app (goodIn_of _ (by decide +kernel)) ggX11_sound_X11_discAt
set_option maxRecDepth 20000 in
theorem ggX11_sound_X11_rowAt : GoodIn wsX11_sound wsX11_rowAt := goodIn_r _ [16, 17, 65, 66, 67, 68, 69, 70, 71, 72, 73] (by decide +kernel) (by decide +kernel)
set_option maxRecDepth 20000 in
theorem gX11_sound_X11_rowAt : GoodIn wsX11_sound (wsV RX11 53 RX11 yX11_rowAt wsX11_rowAt) := goodIn_app (goodIn_of _ (by decide +kernel)) ggX11_sound_X11_rowAt
set_option maxRecDepth 20000 in
theorem ggX11_sound_X6_findingAt : GoodIn wsX11_sound wsX6_findingAt := goodIn_r _ [22, 23, 24, 25, 26, 21, 27, 28, 58, 59, 60, 61] (by decide +kernel) (by decide +kernel)
set_option maxRecDepth 20000 in
theorem gX11_sound_X6_findingAt : GoodIn wsX11_sound (wsV RX11 69 RX6 yX6_findingAt wsX6_findingAt) := goodIn_app (goodIn_of _ (by decide +kernel)) ggX11_sound_X6_findingAt
set_option maxRecDepth 20000 in
theorem ggX11_sound_X11_found : GoodIn wsX11_sound wsX11_found := goodIn_r _ [32, 33, 34, 65, 66, 67, 68, 69, 70, 71, 72, 73] (by decide +kernel) (by decide +kernel)
set_option maxRecDepth 20000 in
theorem gX11_sound_X11_found : GoodIn wsX11_sound (wsV RX11 58 RX11 yX11_found wsX11_found) := goodIn_app (goodIn_of _ (by decide +kernel)) ggX11_sound_X11_found
set_option maxRecDepth 20000 in
theorem ggX11_sound_X6_areWithin : GoodIn wsX11_sound wsX6_areWithin := goodIn_r _ [38, 39, 24, 25, 26, 21, 27, 28, 58, 59, 60, 61] (by decide +kernel) (by decide +kernel)
set_option maxRecDepth 20000 in
theorem gX11_sound_X6_areWithin : GoodIn wsX11_sound (wsV RX11 184 RX6 yX6_areWithin wsX6_areWithin) := goodIn_app (goodIn_of _ (by decide +kernel)) ggX11_sound_X6_areWithin
set_option maxRecDepth 20000 in
theorem ggX11_sound_X3_pullsHeard : GoodIn wsX11_sound wsX3_pullsHeard := goodIn_r _ [44, 45, 62, 63, 64] (by decide +kernel) (by decide +kernel)
set_option maxRecDepth 20000 in
theorem gX11_sound_X3_pullsHeard : GoodIn wsX11_sound (wsV RX11 259 RX3 yX3_pullsHeard wsX3_pullsHeard) := goodIn_app (goodIn_of _ (by decide +kernel)) ggX11_sound_X3_pullsHeard
set_option maxRecDepth 20000 in
theorem ggX11_sound_X6_greatestItem : GoodIn wsX11_sound wsX6_greatestItem := goodIn_r _ [49, 39, 50, 51, 52, 53, 24, 25, 26, 21, 27, 28, 58, 59, 60, 61] (by decide +kernel) (by decide +kernel)
set_option maxRecDepth 20000 in
theorem gX11_sound_X6_greatestItem : GoodIn wsX11_sound (wsV RX11 263 RX6 yX6_greatestItem wsX6_greatestItem) := goodIn_app (goodIn_of _ (by decide +kernel)) ggX11_sound_X6_greatestItem
set_option maxRecDepth 20000 in
theorem ggX11_sound_X11_fine : GoodIn wsX11_sound wsX11_fine := goodIn_r _ [57, 33, 65, 66, 67, 68, 69, 70, 71, 72, 73] (by decide +kernel) (by decide +kernel)
set_option maxRecDepth 20000 in
theorem gX11_sound_X11_fine : GoodIn wsX11_sound (wsV RX11 66 RX11 yX11_fine wsX11_fine) := goodIn_app (goodIn_of _ (by decide +kernel)) ggX11_sound_X11_fine
theorem dX11_sound_0 : decode cX11_sound 0 = .ok (.aload_n 0, 1) := by decide +kernel
theorem dX11_sound_1 : decode cX11_sound 1 = .ok (.iload_n 1, 1) := by decide +kernel
theorem dX11_sound_2 : decode cX11_sound 2 = .ok (.invokevirtual 152, 3) := by decide +kernel
theorem dX11_sound_5 : decode cX11_sound 5 = .ok (.astore 6, 2) := by decide +kernel
theorem dX11_sound_7 : decode cX11_sound 7 = .ok (.aload_n 0, 1) := by decide +kernel
theorem dX11_sound_8 : decode cX11_sound 8 = .ok (.iload_n 2, 1) := by decide +kernel
theorem dX11_sound_9 : decode cX11_sound 9 = .ok (.invokevirtual 53, 3) := by decide +kernel
theorem dX11_sound_12 : decode cX11_sound 12 = .ok (.astore 7, 2) := by decide +kernel
theorem dX11_sound_14 : decode cX11_sound 14 = .ok (.aload 6, 2) := by decide +kernel
theorem dX11_sound_16 : decode cX11_sound 16 = .ok (.ifnull 32, 3) := by decide +kernel
theorem dX11_sound_19 : decode cX11_sound 19 = .ok (.aload 7, 2) := by decide +kernel
theorem dX11_sound_21 : decode cX11_sound 21 = .ok (.ifnull 27, 3) := by decide +kernel
theorem dX11_sound_24 : decode cX11_sound 24 = .ok (.iload 4, 2) := by decide +kernel
theorem dX11_sound_26 : decode cX11_sound 26 = .ok (.iconst 2, 1) := by decide +kernel
theorem dX11_sound_27 : decode cX11_sound 27 = .ok (.if_icmp .lt 21, 3) := by decide +kernel
theorem dX11_sound_30 : decode cX11_sound 30 = .ok (.iload 4, 2) := by decide +kernel
theorem dX11_sound_32 : decode cX11_sound 32 = .ok (.bipush 40, 2) := by decide +kernel
theorem dX11_sound_34 : decode cX11_sound 34 = .ok (.if_icmp .gt 14, 3) := by decide +kernel
theorem dX11_sound_37 : decode cX11_sound 37 = .ok (.iload 5, 2) := by decide +kernel
theorem dX11_sound_39 : decode cX11_sound 39 = .ok (.ifCond .lt 9, 3) := by decide +kernel
theorem dX11_sound_42 : decode cX11_sound 42 = .ok (.iload 5, 2) := by decide +kernel
theorem dX11_sound_44 : decode cX11_sound 44 = .ok (.iconst 1, 1) := by decide +kernel
theorem dX11_sound_45 : decode cX11_sound 45 = .ok (.if_icmp .le 6, 3) := by decide +kernel
theorem dX11_sound_48 : decode cX11_sound 48 = .ok (.ldc 57, 2) := by decide +kernel
theorem dX11_sound_50 : decode cX11_sound 50 = .ok (.ireturn, 1) := by decide +kernel
theorem dX11_sound_51 : decode cX11_sound 51 = .ok (.aload 7, 2) := by decide +kernel
theorem dX11_sound_53 : decode cX11_sound 53 = .ok (.iload_n 3, 1) := by decide +kernel
theorem dX11_sound_54 : decode cX11_sound 54 = .ok (.iload 4, 2) := by decide +kernel
theorem dX11_sound_56 : decode cX11_sound 56 = .ok (.invokevirtual 69, 3) := by decide +kernel
theorem dX11_sound_59 : decode cX11_sound 59 = .ok (.istore 8, 2) := by decide +kernel
theorem dX11_sound_61 : decode cX11_sound 61 = .ok (.iload 8, 2) := by decide +kernel
theorem dX11_sound_63 : decode cX11_sound 63 = .ok (.ifCond .eq 10, 3) := by decide +kernel
theorem dX11_sound_66 : decode cX11_sound 66 = .ok (.aload_n 0, 1) := by decide +kernel
theorem dX11_sound_67 : decode cX11_sound 67 = .ok (.iload 8, 2) := by decide +kernel
theorem dX11_sound_69 : decode cX11_sound 69 = .ok (.invokevirtual 58, 3) := by decide +kernel
theorem dX11_sound_72 : decode cX11_sound 72 = .ok (.ireturn, 1) := by decide +kernel
theorem dX11_sound_73 : decode cX11_sound 73 = .ok (.aload 7, 2) := by decide +kernel
theorem dX11_sound_75 : decode cX11_sound 75 = .ok (.iload_n 3, 1) := by decide +kernel
theorem dX11_sound_76 : decode cX11_sound 76 = .ok (.iload 4, 2) := by decide +kernel
theorem dX11_sound_78 : decode cX11_sound 78 = .ok (.sipush 32767, 3) := by decide +kernel
theorem dX11_sound_81 : decode cX11_sound 81 = .ok (.invokevirtual 184, 3) := by decide +kernel
theorem dX11_sound_84 : decode cX11_sound 84 = .ok (.ifCond .ne 6, 3) := by decide +kernel
theorem dX11_sound_87 : decode cX11_sound 87 = .ok (.ldc 57, 2) := by decide +kernel
theorem dX11_sound_89 : decode cX11_sound 89 = .ok (.ireturn, 1) := by decide +kernel
theorem dX11_sound_90 : decode cX11_sound 90 = .ok (.aload_n 0, 1) := by decide +kernel
theorem dX11_sound_91 : decode cX11_sound 91 = .ok (.iload 5, 2) := by decide +kernel
theorem dX11_sound_93 : decode cX11_sound 93 = .ok (.ifCond .ne 19, 3) := by decide +kernel
theorem dX11_sound_96 : decode cX11_sound 96 = .ok (.aload 6, 2) := by decide +kernel
theorem dX11_sound_98 : decode cX11_sound 98 = .ok (.aload 7, 2) := by decide +kernel
theorem dX11_sound_100 : decode cX11_sound 100 = .ok (.getfield 87, 3) := by decide +kernel
theorem dX11_sound_103 : decode cX11_sound 103 = .ok (.iload_n 3, 1) := by decide +kernel
theorem dX11_sound_104 : decode cX11_sound 104 = .ok (.iload 4, 2) := by decide +kernel
theorem dX11_sound_106 : decode cX11_sound 106 = .ok (.invokevirtual 259, 3) := by decide +kernel
theorem dX11_sound_109 : decode cX11_sound 109 = .ok (.goto 17, 3) := by decide +kernel
theorem dX11_sound_112 : decode cX11_sound 112 = .ok (.aload 7, 2) := by decide +kernel
theorem dX11_sound_114 : decode cX11_sound 114 = .ok (.iload_n 3, 1) := by decide +kernel
theorem dX11_sound_115 : decode cX11_sound 115 = .ok (.iload 4, 2) := by decide +kernel
theorem dX11_sound_117 : decode cX11_sound 117 = .ok (.invokevirtual 263, 3) := by decide +kernel
theorem dX11_sound_120 : decode cX11_sound 120 = .ok (.aload 6, 2) := by decide +kernel
theorem dX11_sound_122 : decode cX11_sound 122 = .ok (.getfield 216, 3) := by decide +kernel
theorem dX11_sound_125 : decode cX11_sound 125 = .ok (.idiv, 1) := by decide +kernel
theorem dX11_sound_126 : decode cX11_sound 126 = .ok (.invokevirtual 66, 3) := by decide +kernel
theorem dX11_sound_129 : decode cX11_sound 129 = .ok (.ireturn, 1) := by decide +kernel
set_option maxRecDepth 20000 in
theorem ggX11_tune_X11_rowAt : GoodIn wsX11_tune wsX11_rowAt := goodIn_r _ [10, 11, 162, 163, 164, 165, 166, 167, 168, 169, 170] (by decide +kernel) (by decide +kernel)
set_option maxRecDepth 20000 in
theorem gX11_tune_X11_rowAt : GoodIn wsX11_tune (wsV RX11 53 RX11 yX11_rowAt wsX11_rowAt) := goodIn_app (goodIn_of _ (by decide +kernel)) ggX11_tune_X11_rowAt
set_option maxRecDepth 20000 in
theorem ggX11_tune_X11_foretells : GoodIn wsX11_tune wsX11_foretells := goodIn_r _ [15, 16, 2, 17, 18, 19, 9, 20, 21, 22, 23, 24, 25, 26, 27, 28, 29, 30, 31, 32, 33, 34, 35, 36, 37, 38, 39, 40, 41, 42, 43, 184, 185, 186, 187, 162, 163, 164, 165, 166, 167, 168, 169, 170, 188, 189, 190, 191, 192, 193, 194, 195, 175, 176, 177, 178, 179, 180, 181, 182, 183] (by decide +kernel) (by decide +kernel)
set_option maxRecDepth 20000 in
theorem gX11_tune_X11_foretells : GoodIn wsX11_tune (wsV RX11 224 RX11 yX11_foretells wsX11_foretells) := goodIn_app (goodIn_of _ (by decide +kernel)) ggX11_tune_X11_foretells
set_option maxRecDepth 20000 in
theorem ggX11_tune_X6_findingAt : GoodIn wsX11_tune wsX6_findingAt := goodIn_r _ [48, 49, 50, 51, 52, 47, 53, 54, 171, 172, 173, 174] (by decide +kernel) (by decide +kernel)
set_option maxRecDepth 20000 in
theorem gX11_tune_X6_findingAt : GoodIn wsX11_tune (wsV RX11 69 RX6 yX6_findingAt wsX6_findingAt) := goodIn_app (goodIn_of _ (by decide +kernel)) ggX11_tune_X6_findingAt
set_option maxRecDepth 20000 in
theorem ggX11_tune_X11_found : GoodIn wsX11_tune wsX11_found := goodIn_r _ [58, 59, 60, 162, 163, 164, 165, 166, 167, 168, 169, 170] (by decide +kernel) (by decide +kernel)
set_option maxRecDepth 20000 in
theorem gX11_tune_X11_found : GoodIn wsX11_tune (wsV RX11 58 RX11 yX11_found wsX11_found) := goodIn_app (goodIn_of _ (by decide +kernel)) ggX11_tune_X11_found
set_option maxRecDepth 20000 in
theorem ggX11_tune_X6_areWithin : GoodIn wsX11_tune wsX6_areWithin := goodIn_r _ [64, 65, 50, 51, 52, 47, 53, 54, 171, 172, 173, 174] (by decide +kernel) (by decide +kernel)
set_option maxRecDepth 20000 in
theorem gX11_tune_X6_areWithin : GoodIn wsX11_tune (wsV RX11 184 RX6 yX6_areWithin wsX6_areWithin) := goodIn_app (goodIn_of _ (by decide +kernel)) ggX11_tune_X6_areWithin
set_option maxRecDepth 20000 in
theorem ggX11_tune_X4_forcesFor : GoodIn wsX11_tune wsX4_forcesFor := goodIn_r _ [69, 70, 39, 71, 72, 73, 74, 75, 76, 77, 78, 79, 37, 80, 81, 82, 83, 84, 85, 86, 87, 88, 89, 90, 91, 92, 40, 41, 93, 94, 95, 96, 97, 98, 99, 100, 101, 102, 103, 104, 105, 106, 107, 108, 109, 110, 111, 112, 113, 114, 115, 116, 117, 118, 119, 120, 121, 122, 123, 124, 125, 126, 127, 128, 129, 130, 131, 132, 133, 134, 135, 136, 137, 138, 139, 140, 141, 142, 143, 144, 145, 146, 147, 148, 149, 150, 151, 152, 153, 154, 155, 156, 157, 175, 176, 177, 178, 179, 180, 181, 182, 183, 196, 197, 198, 199, 200, 201, 202, 203, 204, 205, 206, 207, 208, 209, 210, 184, 185, 186, 187] (by decide +kernel) (by decide +kernel)
set_option maxRecDepth 20000 in
theorem gX11_tune_X4_forcesFor : GoodIn wsX11_tune (wsV RX11 266 RX4 yX4_forcesFor wsX4_forcesFor) := goodIn_app (goodIn_of _ (by decide +kernel)) ggX11_tune_X4_forcesFor
set_option maxRecDepth 20000 in
theorem ggX11_tune_X11_fine : GoodIn wsX11_tune wsX11_fine := goodIn_r _ [161, 59, 162, 163, 164, 165, 166, 167, 168, 169, 170] (by decide +kernel) (by decide +kernel)
set_option maxRecDepth 20000 in
theorem gX11_tune_X11_fine : GoodIn wsX11_tune (wsV RX11 66 RX11 yX11_fine wsX11_fine) := goodIn_app (goodIn_of _ (by decide +kernel)) ggX11_tune_X11_fine
theorem dX11_tune_0 : decode cX11_tune 0 = .ok (.aload_n 0, 1) := by decide +kernel
theorem dX11_tune_1 : decode cX11_tune 1 = .ok (.iload 4, 2) := by decide +kernel
theorem dX11_tune_3 : decode cX11_tune 3 = .ok (.invokevirtual 53, 3) := by decide +kernel
theorem dX11_tune_6 : decode cX11_tune 6 = .ok (.astore 7, 2) := by decide +kernel
theorem dX11_tune_8 : decode cX11_tune 8 = .ok (.aload 7, 2) := by decide +kernel
theorem dX11_tune_10 : decode cX11_tune 10 = .ok (.ifnull 27, 3) := by decide +kernel
theorem dX11_tune_13 : decode cX11_tune 13 = .ok (.iload 6, 2) := by decide +kernel
theorem dX11_tune_15 : decode cX11_tune 15 = .ok (.iconst 1, 1) := by decide +kernel
theorem dX11_tune_16 : decode cX11_tune 16 = .ok (.if_icmp .lt 21, 3) := by decide +kernel
theorem dX11_tune_19 : decode cX11_tune 19 = .ok (.iload 6, 2) := by decide +kernel
theorem dX11_tune_21 : decode cX11_tune 21 = .ok (.iconst 3, 1) := by decide +kernel
theorem dX11_tune_22 : decode cX11_tune 22 = .ok (.if_icmp .gt 15, 3) := by decide +kernel
theorem dX11_tune_25 : decode cX11_tune 25 = .ok (.aload_n 0, 1) := by decide +kernel
theorem dX11_tune_26 : decode cX11_tune 26 = .ok (.iload_n 1, 1) := by decide +kernel
theorem dX11_tune_27 : decode cX11_tune 27 = .ok (.iload_n 2, 1) := by decide +kernel
theorem dX11_tune_28 : decode cX11_tune 28 = .ok (.iload_n 3, 1) := by decide +kernel
theorem dX11_tune_29 : decode cX11_tune 29 = .ok (.iconst 0, 1) := by decide +kernel
theorem dX11_tune_30 : decode cX11_tune 30 = .ok (.iconst 1, 1) := by decide +kernel
theorem dX11_tune_31 : decode cX11_tune 31 = .ok (.invokevirtual 224, 3) := by decide +kernel
theorem dX11_tune_34 : decode cX11_tune 34 = .ok (.ifCond .ne 6, 3) := by decide +kernel
theorem dX11_tune_37 : decode cX11_tune 37 = .ok (.ldc 57, 2) := by decide +kernel
theorem dX11_tune_39 : decode cX11_tune 39 = .ok (.ireturn, 1) := by decide +kernel
theorem dX11_tune_40 : decode cX11_tune 40 = .ok (.aload 7, 2) := by decide +kernel
theorem dX11_tune_42 : decode cX11_tune 42 = .ok (.iload 5, 2) := by decide +kernel
theorem dX11_tune_44 : decode cX11_tune 44 = .ok (.iload 6, 2) := by decide +kernel
theorem dX11_tune_46 : decode cX11_tune 46 = .ok (.invokevirtual 69, 3) := by decide +kernel
theorem dX11_tune_49 : decode cX11_tune 49 = .ok (.istore 8, 2) := by decide +kernel
theorem dX11_tune_51 : decode cX11_tune 51 = .ok (.iload 8, 2) := by decide +kernel
theorem dX11_tune_53 : decode cX11_tune 53 = .ok (.ifCond .eq 10, 3) := by decide +kernel
theorem dX11_tune_56 : decode cX11_tune 56 = .ok (.aload_n 0, 1) := by decide +kernel
theorem dX11_tune_57 : decode cX11_tune 57 = .ok (.iload 8, 2) := by decide +kernel
theorem dX11_tune_59 : decode cX11_tune 59 = .ok (.invokevirtual 58, 3) := by decide +kernel
theorem dX11_tune_62 : decode cX11_tune 62 = .ok (.ireturn, 1) := by decide +kernel
theorem dX11_tune_63 : decode cX11_tune 63 = .ok (.aload 7, 2) := by decide +kernel
theorem dX11_tune_65 : decode cX11_tune 65 = .ok (.iload 5, 2) := by decide +kernel
theorem dX11_tune_67 : decode cX11_tune 67 = .ok (.iload 6, 2) := by decide +kernel
theorem dX11_tune_69 : decode cX11_tune 69 = .ok (.sipush 32767, 3) := by decide +kernel
theorem dX11_tune_72 : decode cX11_tune 72 = .ok (.invokevirtual 184, 3) := by decide +kernel
theorem dX11_tune_75 : decode cX11_tune 75 = .ok (.ifCond .ne 6, 3) := by decide +kernel
theorem dX11_tune_78 : decode cX11_tune 78 = .ok (.ldc 57, 2) := by decide +kernel
theorem dX11_tune_80 : decode cX11_tune 80 = .ok (.ireturn, 1) := by decide +kernel
theorem dX11_tune_81 : decode cX11_tune 81 = .ok (.aload_n 0, 1) := by decide +kernel
theorem dX11_tune_82 : decode cX11_tune 82 = .ok (.aload_n 0, 1) := by decide +kernel
theorem dX11_tune_83 : decode cX11_tune 83 = .ok (.getfield 36, 3) := by decide +kernel
theorem dX11_tune_86 : decode cX11_tune 86 = .ok (.aload 7, 2) := by decide +kernel
theorem dX11_tune_88 : decode cX11_tune 88 = .ok (.getfield 87, 3) := by decide +kernel
theorem dX11_tune_91 : decode cX11_tune 91 = .ok (.iload 5, 2) := by decide +kernel
theorem dX11_tune_93 : decode cX11_tune 93 = .ok (.iload 6, 2) := by decide +kernel
theorem dX11_tune_95 : decode cX11_tune 95 = .ok (.invokevirtual 266, 3) := by decide +kernel
theorem dX11_tune_98 : decode cX11_tune 98 = .ok (.putfield 48, 3) := by decide +kernel
theorem dX11_tune_101 : decode cX11_tune 101 = .ok (.aload_n 0, 1) := by decide +kernel
theorem dX11_tune_102 : decode cX11_tune 102 = .ok (.aload_n 0, 1) := by decide +kernel
theorem dX11_tune_103 : decode cX11_tune 103 = .ok (.getfield 36, 3) := by decide +kernel
theorem dX11_tune_106 : decode cX11_tune 106 = .ok (.getfield 269, 3) := by decide +kernel
theorem dX11_tune_109 : decode cX11_tune 109 = .ok (.invokevirtual 66, 3) := by decide +kernel
theorem dX11_tune_112 : decode cX11_tune 112 = .ok (.ireturn, 1) := by decide +kernel
theorem dX11_forces_0 : decode cX11_forces 0 = .ok (.aload_n 0, 1) := by decide +kernel
theorem dX11_forces_1 : decode cX11_forces 1 = .ok (.getfield 48, 3) := by decide +kernel
theorem dX11_forces_4 : decode cX11_forces 4 = .ok (.ireturn, 1) := by decide +kernel
set_option maxRecDepth 20000 in
theorem ggX11_image_X9_become : GoodIn wsX11_image wsX9_become := goodIn_r _ [10, 11, 12, 13, 14, 15, 16, 17, 18, 19, 20, 21, 22, 23, 24, 25, 26, 27, 28, 29, 39, 40, 41, 42, 43, 44, 45, 46, 47, 48, 49, 50, 51, 52] (by decide +kernel) (by decide +kernel)
set_option maxRecDepth 20000 in
theorem gX11_image_X9_become : GoodIn wsX11_image (wsV RX11 272 RX9 yX9_become wsX9_become) := goodIn_app (goodIn_of _ (by decide +kernel)) ggX11_image_X9_become
theorem dX11_image_0 : decode cX11_image 0 = .ok (.iload_n 1, 1) := by decide +kernel
theorem dX11_image_1 : decode cX11_image 1 = .ok (.ifCond .lt 8, 3) := by decide +kernel
theorem dX11_image_4 : decode cX11_image 4 = .ok (.iload_n 1, 1) := by decide +kernel
theorem dX11_image_5 : decode cX11_image 5 = .ok (.iconst 2, 1) := by decide +kernel
theorem dX11_image_6 : decode cX11_image 6 = .ok (.if_icmp .lt 6, 3) := by decide +kernel
theorem dX11_image_9 : decode cX11_image 9 = .ok (.ldc 57, 2) := by decide +kernel
theorem dX11_image_11 : decode cX11_image 11 = .ok (.ireturn, 1) := by decide +kernel
theorem dX11_image_12 : decode cX11_image 12 = .ok (.aload_n 0, 1) := by decide +kernel
theorem dX11_image_13 : decode cX11_image 13 = .ok (.getfield 25, 3) := by decide +kernel
theorem dX11_image_16 : decode cX11_image 16 = .ok (.getfield 122, 3) := by decide +kernel
theorem dX11_image_19 : decode cX11_image 19 = .ok (.ifnonnull 6, 3) := by decide +kernel
theorem dX11_image_22 : decode cX11_image 22 = .ok (.ldc 171, 2) := by decide +kernel
theorem dX11_image_24 : decode cX11_image 24 = .ok (.ireturn, 1) := by decide +kernel
theorem dX11_image_25 : decode cX11_image 25 = .ok (.aload_n 0, 1) := by decide +kernel
theorem dX11_image_26 : decode cX11_image 26 = .ok (.getfield 29, 3) := by decide +kernel
theorem dX11_image_29 : decode cX11_image 29 = .ok (.iload_n 1, 1) := by decide +kernel
theorem dX11_image_30 : decode cX11_image 30 = .ok (.aaload, 1) := by decide +kernel
theorem dX11_image_31 : decode cX11_image 31 = .ok (.aload_n 0, 1) := by decide +kernel
theorem dX11_image_32 : decode cX11_image 32 = .ok (.getfield 25, 3) := by decide +kernel
theorem dX11_image_35 : decode cX11_image 35 = .ok (.invokevirtual 272, 3) := by decide +kernel
theorem dX11_image_38 : decode cX11_image 38 = .ok (.iconst 1, 1) := by decide +kernel
theorem dX11_image_39 : decode cX11_image 39 = .ok (.ireturn, 1) := by decide +kernel
set_option maxRecDepth 20000 in
theorem ggX11_restore_X9_become : GoodIn wsX11_restore wsX9_become := goodIn_r _ [10, 11, 12, 13, 14, 15, 16, 17, 18, 19, 20, 21, 22, 23, 24, 25, 26, 27, 28, 29, 39, 40, 41, 42, 43, 44, 45, 46, 47, 48, 49, 50, 51, 52] (by decide +kernel) (by decide +kernel)
set_option maxRecDepth 20000 in
theorem gX11_restore_X9_become : GoodIn wsX11_restore (wsV RX11 272 RX9 yX9_become wsX9_become) := goodIn_app (goodIn_of _ (by decide +kernel)) ggX11_restore_X9_become
theorem dX11_restore_0 : decode cX11_restore 0 = .ok (.iload_n 1, 1) := by decide +kernel
theorem dX11_restore_1 : decode cX11_restore 1 = .ok (.ifCond .lt 8, 3) := by decide +kernel
theorem dX11_restore_4 : decode cX11_restore 4 = .ok (.iload_n 1, 1) := by decide +kernel
theorem dX11_restore_5 : decode cX11_restore 5 = .ok (.iconst 2, 1) := by decide +kernel
theorem dX11_restore_6 : decode cX11_restore 6 = .ok (.if_icmp .lt 6, 3) := by decide +kernel
theorem dX11_restore_9 : decode cX11_restore 9 = .ok (.ldc 57, 2) := by decide +kernel
theorem dX11_restore_11 : decode cX11_restore 11 = .ok (.ireturn, 1) := by decide +kernel
theorem dX11_restore_12 : decode cX11_restore 12 = .ok (.aload_n 0, 1) := by decide +kernel
theorem dX11_restore_13 : decode cX11_restore 13 = .ok (.getfield 29, 3) := by decide +kernel
theorem dX11_restore_16 : decode cX11_restore 16 = .ok (.iload_n 1, 1) := by decide +kernel
theorem dX11_restore_17 : decode cX11_restore 17 = .ok (.aaload, 1) := by decide +kernel
theorem dX11_restore_18 : decode cX11_restore 18 = .ok (.getfield 122, 3) := by decide +kernel
theorem dX11_restore_21 : decode cX11_restore 21 = .ok (.ifnonnull 6, 3) := by decide +kernel
theorem dX11_restore_24 : decode cX11_restore 24 = .ok (.ldc 171, 2) := by decide +kernel
theorem dX11_restore_26 : decode cX11_restore 26 = .ok (.ireturn, 1) := by decide +kernel
theorem dX11_restore_27 : decode cX11_restore 27 = .ok (.aload_n 0, 1) := by decide +kernel
theorem dX11_restore_28 : decode cX11_restore 28 = .ok (.getfield 25, 3) := by decide +kernel
theorem dX11_restore_31 : decode cX11_restore 31 = .ok (.aload_n 0, 1) := by decide +kernel
theorem dX11_restore_32 : decode cX11_restore 32 = .ok (.getfield 29, 3) := by decide +kernel
theorem dX11_restore_35 : decode cX11_restore 35 = .ok (.iload_n 1, 1) := by decide +kernel
theorem dX11_restore_36 : decode cX11_restore 36 = .ok (.aaload, 1) := by decide +kernel
theorem dX11_restore_37 : decode cX11_restore 37 = .ok (.invokevirtual 272, 3) := by decide +kernel
theorem dX11_restore_40 : decode cX11_restore 40 = .ok (.iconst 1, 1) := by decide +kernel
theorem dX11_restore_41 : decode cX11_restore 41 = .ok (.ireturn, 1) := by decide +kernel
set_option maxRecDepth 20000 in
theorem ggX11_kind_X8_toldAs : GoodIn wsX11_kind wsX8_toldAs := goodIn_r _ [9, 10, 11, 12, 13, 14, 15, 16, 17, 18, 19, 20, 21, 8, 22, 34, 35, 36, 37, 38, 39, 40, 41, 42, 43, 44, 45, 46, 47, 48, 49] (by decide +kernel) (by decide +kernel)
set_option maxRecDepth 20000 in
theorem gX11_kind_X8_toldAs : GoodIn wsX11_kind (wsV RX11 276 RX8 yX8_toldAs wsX8_toldAs) := goodIn_app (goodIn_of _ (by decide +kernel)) ggX11_kind_X8_toldAs
theorem dX11_kind_0 : decode cX11_kind 0 = .ok (.aload_n 0, 1) := by decide +kernel
theorem dX11_kind_1 : decode cX11_kind 1 = .ok (.getfield 25, 3) := by decide +kernel
theorem dX11_kind_4 : decode cX11_kind 4 = .ok (.getfield 126, 3) := by decide +kernel
theorem dX11_kind_7 : decode cX11_kind 7 = .ok (.getfield 167, 3) := by decide +kernel
theorem dX11_kind_10 : decode cX11_kind 10 = .ok (.ifnonnull 8, 3) := by decide +kernel
theorem dX11_kind_13 : decode cX11_kind 13 = .ok (.ldc 171, 2) := by decide +kernel
theorem dX11_kind_15 : decode cX11_kind 15 = .ok (.goto 13, 3) := by decide +kernel
theorem dX11_kind_18 : decode cX11_kind 18 = .ok (.aload_n 0, 1) := by decide +kernel
theorem dX11_kind_19 : decode cX11_kind 19 = .ok (.getfield 25, 3) := by decide +kernel
theorem dX11_kind_22 : decode cX11_kind 22 = .ok (.getfield 126, 3) := by decide +kernel
theorem dX11_kind_25 : decode cX11_kind 25 = .ok (.invokevirtual 276, 3) := by decide +kernel
theorem dX11_kind_28 : decode cX11_kind 28 = .ok (.ireturn, 1) := by decide +kernel
set_option maxRecDepth 20000 in
theorem ggX11_as_X8_isOne : GoodIn wsX11_as wsX8_isOne := goodIn_r _ [11, 12, 13, 14, 10, 15, 16, 17, 18, 19, 20, 21, 22, 23, 24, 25, 26, 27, 28, 51, 52, 53, 54, 55, 56, 57, 58, 59, 60, 61, 62, 63, 64, 65, 66] (by decide +kernel) (by decide +kernel)
set_option maxRecDepth 20000 in
theorem gX11_as_X8_isOne : GoodIn wsX11_as (wsV RX11 279 RX8 yX8_isOne wsX8_isOne) := goodIn_app (goodIn_of _ (by decide +kernel)) ggX11_as_X8_isOne
set_option maxRecDepth 20000 in
theorem ggX11_as_X11_fine : GoodIn wsX11_as wsX11_fine := goodIn_r _ [33, 34, 40, 41, 42, 43, 44, 45, 46, 47, 48] (by decide +kernel) (by decide +kernel)
set_option maxRecDepth 20000 in
theorem gX11_as_X11_fine : GoodIn wsX11_as (wsV RX11 66 RX11 yX11_fine wsX11_fine) := goodIn_app (goodIn_of _ (by decide +kernel)) ggX11_as_X11_fine
set_option maxRecDepth 20000 in
theorem ggX11_as_X11_found : GoodIn wsX11_as wsX11_found := goodIn_r _ [38, 34, 39, 40, 41, 42, 43, 44, 45, 46, 47, 48] (by decide +kernel) (by decide +kernel)
set_option maxRecDepth 20000 in
theorem gX11_as_X11_found : GoodIn wsX11_as (wsV RX11 58 RX11 yX11_found wsX11_found) := goodIn_app (goodIn_of _ (by decide +kernel)) ggX11_as_X11_found
theorem dX11_as_0 : decode cX11_as 0 = .ok (.aload_n 0, 1) := by decide +kernel
theorem dX11_as_1 : decode cX11_as 1 = .ok (.getfield 25, 3) := by decide +kernel
theorem dX11_as_4 : decode cX11_as 4 = .ok (.getfield 126, 3) := by decide +kernel
theorem dX11_as_7 : decode cX11_as 7 = .ok (.astore_n 2, 1) := by decide +kernel
theorem dX11_as_8 : decode cX11_as 8 = .ok (.aload_n 2, 1) := by decide +kernel
theorem dX11_as_9 : decode cX11_as 9 = .ok (.getfield 167, 3) := by decide +kernel
theorem dX11_as_12 : decode cX11_as 12 = .ok (.ifnonnull 6, 3) := by decide +kernel
theorem dX11_as_15 : decode cX11_as 15 = .ok (.ldc 171, 2) := by decide +kernel
theorem dX11_as_17 : decode cX11_as 17 = .ok (.ireturn, 1) := by decide +kernel
theorem dX11_as_18 : decode cX11_as 18 = .ok (.iload_n 1, 1) := by decide +kernel
theorem dX11_as_19 : decode cX11_as 19 = .ok (.ifCond .lt 8, 3) := by decide +kernel
theorem dX11_as_22 : decode cX11_as 22 = .ok (.iload_n 1, 1) := by decide +kernel
theorem dX11_as_23 : decode cX11_as 23 = .ok (.iconst 5, 1) := by decide +kernel
theorem dX11_as_24 : decode cX11_as 24 = .ok (.if_icmp .le 6, 3) := by decide +kernel
theorem dX11_as_27 : decode cX11_as 27 = .ok (.ldc 57, 2) := by decide +kernel
theorem dX11_as_29 : decode cX11_as 29 = .ok (.ireturn, 1) := by decide +kernel
theorem dX11_as_30 : decode cX11_as 30 = .ok (.aload_n 2, 1) := by decide +kernel
theorem dX11_as_31 : decode cX11_as 31 = .ok (.iload_n 1, 1) := by decide +kernel
theorem dX11_as_32 : decode cX11_as 32 = .ok (.invokevirtual 279, 3) := by decide +kernel
theorem dX11_as_35 : decode cX11_as 35 = .ok (.ifCond .eq 14, 3) := by decide +kernel
theorem dX11_as_38 : decode cX11_as 38 = .ok (.aload_n 0, 1) := by decide +kernel
theorem dX11_as_39 : decode cX11_as 39 = .ok (.aload_n 2, 1) := by decide +kernel
theorem dX11_as_40 : decode cX11_as 40 = .ok (.getfield 194, 3) := by decide +kernel
theorem dX11_as_43 : decode cX11_as 43 = .ok (.invokevirtual 66, 3) := by decide +kernel
theorem dX11_as_46 : decode cX11_as 46 = .ok (.goto 8, 3) := by decide +kernel
theorem dX11_as_49 : decode cX11_as 49 = .ok (.aload_n 0, 1) := by decide +kernel
theorem dX11_as_50 : decode cX11_as 50 = .ok (.iconst 3, 1) := by decide +kernel
theorem dX11_as_51 : decode cX11_as 51 = .ok (.invokevirtual 58, 3) := by decide +kernel
theorem dX11_as_54 : decode cX11_as 54 = .ok (.ireturn, 1) := by decide +kernel
set_option maxRecDepth 20000 in
theorem ggX11_ask_X0_about : GoodIn wsX11_ask wsX0_about := goodIn_r _ [11, 12, 13, 14, 15, 16, 17, 18, 19, 20, 21, 22, 23, 24, 25, 26, 27, 28, 29, 30, 31, 32, 94, 95, 96, 97, 82, 83, 84, 85, 86, 87, 88, 89, 90, 91, 92, 93, 98, 99, 100, 101] (by decide +kernel) (by decide +kernel)
set_option maxRecDepth 20000 in
theorem gX11_ask_X0_about : GoodIn wsX11_ask (wsV RX11 283 RX0 yX0_about wsX0_about) := goodIn_app (goodIn_of _ (by decide +kernel)) ggX11_ask_X0_about
set_option maxRecDepth 20000 in
theorem ggX11_ask_X0_size : GoodIn wsX11_ask wsX0_size := goodIn_r _ [36, 13, 37, 38, 39, 10, 40, 14, 41, 42, 43, 44, 45, 12, 46, 47, 24, 25, 26, 48, 49, 50, 51, 52, 53, 54, 55, 56, 57, 58, 59, 60, 61, 62, 63, 64, 65, 66, 67, 68, 69, 94, 95, 96, 97, 82, 83, 84, 85, 86, 87, 88, 89, 90, 91, 92, 93] (by decide +kernel) (by decide +kernel)
set_option maxRecDepth 20000 in
theorem gX11_ask_X0_size : GoodIn wsX11_ask (wsV RX11 287 RX0 yX0_size wsX0_size) := goodIn_app (goodIn_of _ (by decide +kernel)) ggX11_ask_X0_size
set_option maxRecDepth 20000 in
theorem ggX11_ask_X0_mark : GoodIn wsX11_ask wsX0_mark := goodIn_r _ [51, 13, 12, 52, 47, 24, 25, 26, 37, 38, 39, 10, 40, 14, 41, 53, 54, 55, 56, 57, 58, 59, 60, 61, 62, 63, 64, 65, 42, 43, 44, 45, 46, 94, 95, 96, 97, 82, 83, 84, 85, 86, 87, 88, 89, 90, 91, 92, 93] (by decide +kernel) (by decide +kernel)
set_option maxRecDepth 20000 in
theorem gX11_ask_X0_mark : GoodIn wsX11_ask (wsV RX11 289 RX0 yX0_mark wsX0_mark) := goodIn_app (goodIn_of _ (by decide +kernel)) ggX11_ask_X0_mark
theorem dX11_ask_0 : decode cX11_ask 0 = .ok (.aload_n 0, 1) := by decide +kernel
theorem dX11_ask_1 : decode cX11_ask 1 = .ok (.getfield 25, 3) := by decide +kernel
theorem dX11_ask_4 : decode cX11_ask 4 = .ok (.getfield 126, 3) := by decide +kernel
theorem dX11_ask_7 : decode cX11_ask 7 = .ok (.getfield 167, 3) := by decide +kernel
theorem dX11_ask_10 : decode cX11_ask 10 = .ok (.ifnonnull 6, 3) := by decide +kernel
theorem dX11_ask_13 : decode cX11_ask 13 = .ok (.ldc 171, 2) := by decide +kernel
theorem dX11_ask_15 : decode cX11_ask 15 = .ok (.ireturn, 1) := by decide +kernel
theorem dX11_ask_16 : decode cX11_ask 16 = .ok (.iload_n 1, 1) := by decide +kernel
theorem dX11_ask_17 : decode cX11_ask 17 = .ok (.ifCond .lt 8, 3) := by decide +kernel
theorem dX11_ask_20 : decode cX11_ask 20 = .ok (.iload_n 1, 1) := by decide +kernel
theorem dX11_ask_21 : decode cX11_ask 21 = .ok (.iconst 1, 1) := by decide +kernel
theorem dX11_ask_22 : decode cX11_ask 22 = .ok (.if_icmp .le 6, 3) := by decide +kernel
theorem dX11_ask_25 : decode cX11_ask 25 = .ok (.ldc 57, 2) := by decide +kernel
theorem dX11_ask_27 : decode cX11_ask 27 = .ok (.ireturn, 1) := by decide +kernel
theorem dX11_ask_28 : decode cX11_ask 28 = .ok (.aload_n 0, 1) := by decide +kernel
theorem dX11_ask_29 : decode cX11_ask 29 = .ok (.getfield 43, 3) := by decide +kernel
theorem dX11_ask_32 : decode cX11_ask 32 = .ok (.aload_n 0, 1) := by decide +kernel
theorem dX11_ask_33 : decode cX11_ask 33 = .ok (.getfield 25, 3) := by decide +kernel
theorem dX11_ask_36 : decode cX11_ask 36 = .ok (.getfield 126, 3) := by decide +kernel
theorem dX11_ask_39 : decode cX11_ask 39 = .ok (.invokevirtual 283, 3) := by decide +kernel
theorem dX11_ask_42 : decode cX11_ask 42 = .ok (.iload_n 1, 1) := by decide +kernel
theorem dX11_ask_43 : decode cX11_ask 43 = .ok (.ifCond .ne 13, 3) := by decide +kernel
theorem dX11_ask_46 : decode cX11_ask 46 = .ok (.aload_n 0, 1) := by decide +kernel
theorem dX11_ask_47 : decode cX11_ask 47 = .ok (.getfield 43, 3) := by decide +kernel
theorem dX11_ask_50 : decode cX11_ask 50 = .ok (.invokevirtual 287, 3) := by decide +kernel
theorem dX11_ask_53 : decode cX11_ask 53 = .ok (.goto 10, 3) := by decide +kernel
theorem dX11_ask_56 : decode cX11_ask 56 = .ok (.aload_n 0, 1) := by decide +kernel
theorem dX11_ask_57 : decode cX11_ask 57 = .ok (.getfield 43, 3) := by decide +kernel
theorem dX11_ask_60 : decode cX11_ask 60 = .ok (.invokevirtual 289, 3) := by decide +kernel
theorem dX11_ask_63 : decode cX11_ask 63 = .ok (.ireturn, 1) := by decide +kernel
theorem dX11_trace_0 : decode cX11_trace 0 = .ok (.iload_n 1, 1) := by decide +kernel
theorem dX11_trace_1 : decode cX11_trace 1 = .ok (.ifCond .lt 14, 3) := by decide +kernel
theorem dX11_trace_4 : decode cX11_trace 4 = .ok (.iload_n 1, 1) := by decide +kernel
theorem dX11_trace_5 : decode cX11_trace 5 = .ok (.aload_n 0, 1) := by decide +kernel
theorem dX11_trace_6 : decode cX11_trace 6 = .ok (.getfield 43, 3) := by decide +kernel
theorem dX11_trace_9 : decode cX11_trace 9 = .ok (.getfield 292, 3) := by decide +kernel
theorem dX11_trace_12 : decode cX11_trace 12 = .ok (.if_icmp .lt 8, 3) := by decide +kernel
theorem dX11_trace_15 : decode cX11_trace 15 = .ok (.ldc 47, 2) := by decide +kernel
theorem dX11_trace_17 : decode cX11_trace 17 = .ok (.goto 12, 3) := by decide +kernel
theorem dX11_trace_20 : decode cX11_trace 20 = .ok (.aload_n 0, 1) := by decide +kernel
theorem dX11_trace_21 : decode cX11_trace 21 = .ok (.getfield 43, 3) := by decide +kernel
theorem dX11_trace_24 : decode cX11_trace 24 = .ok (.getfield 295, 3) := by decide +kernel
theorem dX11_trace_27 : decode cX11_trace 27 = .ok (.iload_n 1, 1) := by decide +kernel
theorem dX11_trace_28 : decode cX11_trace 28 = .ok (.iaload, 1) := by decide +kernel
theorem dX11_trace_29 : decode cX11_trace 29 = .ok (.ireturn, 1) := by decide +kernel
set_option maxRecDepth 20000 in
theorem ggX11_count_X11_rowsHere : GoodIn wsX11_count wsX11_rowsHere := goodIn_r _ [13, 14, 15, 24, 25, 26, 27, 28, 29, 30, 31, 32, 49, 50, 51, 52] (by decide +kernel) (by decide +kernel)
set_option maxRecDepth 20000 in
theorem gX11_count_X11_rowsHere : GoodIn wsX11_count (wsV RX11 298 RX11 yX11_rowsHere wsX11_rowsHere) := goodIn_app (goodIn_of _ (by decide +kernel)) ggX11_count_X11_rowsHere
set_option maxRecDepth 20000 in
theorem ggX11_count_X1_rulesOfAll : GoodIn wsX11_count wsX1_rulesOfAll := goodIn_r _ [20, 21, 22, 23, 43, 44, 45, 46, 47, 48, 53, 54] (by decide +kernel) (by decide +kernel)
set_option maxRecDepth 20000 in
theorem gX11_count_X1_rulesOfAll : GoodIn wsX11_count (wsV RX11 307 RX1 yX1_rulesOfAll wsX1_rulesOfAll) := goodIn_app (goodIn_of _ (by decide +kernel)) ggX11_count_X1_rulesOfAll
theorem dX11_count_0 : decode cX11_count 0 = .ok (.iload_n 1, 1) := by decide +kernel
theorem dX11_count_1 : decode cX11_count 1 = .ok (.ifCond .lt 8, 3) := by decide +kernel
theorem dX11_count_4 : decode cX11_count 4 = .ok (.iload_n 1, 1) := by decide +kernel
theorem dX11_count_5 : decode cX11_count 5 = .ok (.iconst 5, 1) := by decide +kernel
theorem dX11_count_6 : decode cX11_count 6 = .ok (.if_icmp .le 6, 3) := by decide +kernel
theorem dX11_count_9 : decode cX11_count 9 = .ok (.ldc 57, 2) := by decide +kernel
theorem dX11_count_11 : decode cX11_count 11 = .ok (.ireturn, 1) := by decide +kernel
theorem dX11_count_12 : decode cX11_count 12 = .ok (.iload_n 1, 1) := by decide +kernel
theorem dX11_count_13 : decode cX11_count 13 = .ok (.ifCond .ne 8, 3) := by decide +kernel
theorem dX11_count_16 : decode cX11_count 16 = .ok (.aload_n 0, 1) := by decide +kernel
theorem dX11_count_17 : decode cX11_count 17 = .ok (.invokevirtual 298, 3) := by decide +kernel
theorem dX11_count_20 : decode cX11_count 20 = .ok (.ireturn, 1) := by decide +kernel
theorem dX11_count_21 : decode cX11_count 21 = .ok (.iload_n 1, 1) := by decide +kernel
theorem dX11_count_22 : decode cX11_count 22 = .ok (.iconst 5, 1) := by decide +kernel
theorem dX11_count_23 : decode cX11_count 23 = .ok (.if_icmp .ne 11, 3) := by decide +kernel
theorem dX11_count_26 : decode cX11_count 26 = .ok (.aload_n 0, 1) := by decide +kernel
theorem dX11_count_27 : decode cX11_count 27 = .ok (.getfield 18, 3) := by decide +kernel
theorem dX11_count_30 : decode cX11_count 30 = .ok (.getfield 100, 3) := by decide +kernel
theorem dX11_count_33 : decode cX11_count 33 = .ok (.ireturn, 1) := by decide +kernel
theorem dX11_count_34 : decode cX11_count 34 = .ok (.aload_n 0, 1) := by decide +kernel
theorem dX11_count_35 : decode cX11_count 35 = .ok (.getfield 25, 3) := by decide +kernel
theorem dX11_count_38 : decode cX11_count 38 = .ok (.getfield 122, 3) := by decide +kernel
theorem dX11_count_41 : decode cX11_count 41 = .ok (.astore_n 2, 1) := by decide +kernel
theorem dX11_count_42 : decode cX11_count 42 = .ok (.aload_n 2, 1) := by decide +kernel
theorem dX11_count_43 : decode cX11_count 43 = .ok (.ifnonnull 5, 3) := by decide +kernel
theorem dX11_count_46 : decode cX11_count 46 = .ok (.iconst 0, 1) := by decide +kernel
theorem dX11_count_47 : decode cX11_count 47 = .ok (.ireturn, 1) := by decide +kernel
theorem dX11_count_48 : decode cX11_count 48 = .ok (.iload_n 1, 1) := by decide +kernel
theorem dX11_count_49 : decode cX11_count 49 = .ok (.tableswitch 42 1 3 #[27, 32, 37], 27) := by decide +kernel
theorem dX11_count_76 : decode cX11_count 76 = .ok (.aload_n 2, 1) := by decide +kernel
theorem dX11_count_77 : decode cX11_count 77 = .ok (.getfield 135, 3) := by decide +kernel
theorem dX11_count_80 : decode cX11_count 80 = .ok (.ireturn, 1) := by decide +kernel
theorem dX11_count_81 : decode cX11_count 81 = .ok (.aload_n 2, 1) := by decide +kernel
theorem dX11_count_82 : decode cX11_count 82 = .ok (.getfield 301, 3) := by decide +kernel
theorem dX11_count_85 : decode cX11_count 85 = .ok (.ireturn, 1) := by decide +kernel
theorem dX11_count_86 : decode cX11_count 86 = .ok (.aload_n 2, 1) := by decide +kernel
theorem dX11_count_87 : decode cX11_count 87 = .ok (.getfield 304, 3) := by decide +kernel
theorem dX11_count_90 : decode cX11_count 90 = .ok (.ireturn, 1) := by decide +kernel
theorem dX11_count_91 : decode cX11_count 91 = .ok (.aload_n 2, 1) := by decide +kernel
theorem dX11_count_92 : decode cX11_count 92 = .ok (.invokevirtual 307, 3) := by decide +kernel
theorem dX11_count_95 : decode cX11_count 95 = .ok (.ireturn, 1) := by decide +kernel
theorem dX11_status_0 : decode cX11_status 0 = .ok (.aload_n 0, 1) := by decide +kernel
theorem dX11_status_1 : decode cX11_status 1 = .ok (.getfield 310, 3) := by decide +kernel
theorem dX11_status_4 : decode cX11_status 4 = .ok (.ireturn, 1) := by decide +kernel
theorem dX11_found_0 : decode cX11_found 0 = .ok (.aload_n 0, 1) := by decide +kernel
theorem dX11_found_1 : decode cX11_found 1 = .ok (.iload_n 1, 1) := by decide +kernel
theorem dX11_found_2 : decode cX11_found 2 = .ok (.putfield 310, 3) := by decide +kernel
theorem dX11_found_5 : decode cX11_found 5 = .ok (.ldc_w 313, 3) := by decide +kernel
theorem dX11_found_8 : decode cX11_found 8 = .ok (.iload_n 1, 1) := by decide +kernel
theorem dX11_found_9 : decode cX11_found 9 = .ok (.isub, 1) := by decide +kernel
theorem dX11_found_10 : decode cX11_found 10 = .ok (.ireturn, 1) := by decide +kernel
theorem dX11_fine_0 : decode cX11_fine 0 = .ok (.aload_n 0, 1) := by decide +kernel
theorem dX11_fine_1 : decode cX11_fine 1 = .ok (.iconst 0, 1) := by decide +kernel
theorem dX11_fine_2 : decode cX11_fine 2 = .ok (.putfield 310, 3) := by decide +kernel
theorem dX11_fine_5 : decode cX11_fine 5 = .ok (.iload_n 1, 1) := by decide +kernel
theorem dX11_fine_6 : decode cX11_fine 6 = .ok (.ireturn, 1) := by decide +kernel
theorem dX11_rowAt_0 : decode cX11_rowAt 0 = .ok (.iload_n 1, 1) := by decide +kernel
theorem dX11_rowAt_1 : decode cX11_rowAt 1 = .ok (.ifCond .lt 9, 3) := by decide +kernel
theorem dX11_rowAt_4 : decode cX11_rowAt 4 = .ok (.iload_n 1, 1) := by decide +kernel
theorem dX11_rowAt_5 : decode cX11_rowAt 5 = .ok (.bipush 8, 2) := by decide +kernel
theorem dX11_rowAt_7 : decode cX11_rowAt 7 = .ok (.if_icmp .lt 7, 3) := by decide +kernel
theorem dX11_rowAt_10 : decode cX11_rowAt 10 = .ok (.aconst_null, 1) := by decide +kernel
theorem dX11_rowAt_11 : decode cX11_rowAt 11 = .ok (.goto 9, 3) := by decide +kernel
theorem dX11_rowAt_14 : decode cX11_rowAt 14 = .ok (.aload_n 0, 1) := by decide +kernel
theorem dX11_rowAt_15 : decode cX11_rowAt 15 = .ok (.getfield 11, 3) := by decide +kernel
theorem dX11_rowAt_18 : decode cX11_rowAt 18 = .ok (.iload_n 1, 1) := by decide +kernel
theorem dX11_rowAt_19 : decode cX11_rowAt 19 = .ok (.aaload, 1) := by decide +kernel
theorem dX11_rowAt_20 : decode cX11_rowAt 20 = .ok (.areturn, 1) := by decide +kernel
theorem dX11_rowsHere_0 : decode cX11_rowsHere 0 = .ok (.iconst 0, 1) := by decide +kernel
theorem dX11_rowsHere_1 : decode cX11_rowsHere 1 = .ok (.istore_n 1, 1) := by decide +kernel
theorem dX11_rowsHere_2 : decode cX11_rowsHere 2 = .ok (.aload_n 0, 1) := by decide +kernel
theorem dX11_rowsHere_3 : decode cX11_rowsHere 3 = .ok (.getfield 11, 3) := by decide +kernel
theorem dX11_rowsHere_6 : decode cX11_rowsHere 6 = .ok (.astore_n 2, 1) := by decide +kernel
theorem dX11_rowsHere_7 : decode cX11_rowsHere 7 = .ok (.aload_n 2, 1) := by decide +kernel
theorem dX11_rowsHere_8 : decode cX11_rowsHere 8 = .ok (.arraylength, 1) := by decide +kernel
theorem dX11_rowsHere_9 : decode cX11_rowsHere 9 = .ok (.istore_n 3, 1) := by decide +kernel
theorem dX11_rowsHere_10 : decode cX11_rowsHere 10 = .ok (.iconst 0, 1) := by decide +kernel
theorem dX11_rowsHere_11 : decode cX11_rowsHere 11 = .ok (.istore 4, 2) := by decide +kernel
theorem dX11_rowsHere_13 : decode cX11_rowsHere 13 = .ok (.iload 4, 2) := by decide +kernel
theorem dX11_rowsHere_15 : decode cX11_rowsHere 15 = .ok (.iload_n 3, 1) := by decide +kernel
theorem dX11_rowsHere_16 : decode cX11_rowsHere 16 = .ok (.if_icmp .ge 26, 3) := by decide +kernel
theorem dX11_rowsHere_19 : decode cX11_rowsHere 19 = .ok (.aload_n 2, 1) := by decide +kernel
theorem dX11_rowsHere_20 : decode cX11_rowsHere 20 = .ok (.iload 4, 2) := by decide +kernel
theorem dX11_rowsHere_22 : decode cX11_rowsHere 22 = .ok (.aaload, 1) := by decide +kernel
theorem dX11_rowsHere_23 : decode cX11_rowsHere 23 = .ok (.astore 5, 2) := by decide +kernel
theorem dX11_rowsHere_25 : decode cX11_rowsHere 25 = .ok (.aload 5, 2) := by decide +kernel
theorem dX11_rowsHere_27 : decode cX11_rowsHere 27 = .ok (.getfield 76, 3) := by decide +kernel
theorem dX11_rowsHere_30 : decode cX11_rowsHere 30 = .ok (.ifCond .eq 6, 3) := by decide +kernel
theorem dX11_rowsHere_33 : decode cX11_rowsHere 33 = .ok (.iinc 1 1, 3) := by decide +kernel
theorem dX11_rowsHere_36 : decode cX11_rowsHere 36 = .ok (.iinc 4 1, 3) := by decide +kernel
theorem dX11_rowsHere_39 : decode cX11_rowsHere 39 = .ok (.goto (-26), 3) := by decide +kernel
theorem dX11_rowsHere_42 : decode cX11_rowsHere 42 = .ok (.iload_n 1, 1) := by decide +kernel
theorem dX11_rowsHere_43 : decode cX11_rowsHere 43 = .ok (.ireturn, 1) := by decide +kernel
theorem dX11_discAt_0 : decode cX11_discAt 0 = .ok (.aload_n 0, 1) := by decide +kernel
theorem dX11_discAt_1 : decode cX11_discAt 1 = .ok (.getfield 25, 3) := by decide +kernel
theorem dX11_discAt_4 : decode cX11_discAt 4 = .ok (.getfield 122, 3) := by decide +kernel
theorem dX11_discAt_7 : decode cX11_discAt 7 = .ok (.astore_n 2, 1) := by decide +kernel
theorem dX11_discAt_8 : decode cX11_discAt 8 = .ok (.aload_n 2, 1) := by decide +kernel
theorem dX11_discAt_9 : decode cX11_discAt 9 = .ok (.ifnull 15, 3) := by decide +kernel
theorem dX11_discAt_12 : decode cX11_discAt 12 = .ok (.iload_n 1, 1) := by decide +kernel
theorem dX11_discAt_13 : decode cX11_discAt 13 = .ok (.ifCond .lt 11, 3) := by decide +kernel
theorem dX11_discAt_16 : decode cX11_discAt 16 = .ok (.iload_n 1, 1) := by decide +kernel
theorem dX11_discAt_17 : decode cX11_discAt 17 = .ok (.aload_n 2, 1) := by decide +kernel
theorem dX11_discAt_18 : decode cX11_discAt 18 = .ok (.getfield 135, 3) := by decide +kernel
theorem dX11_discAt_21 : decode cX11_discAt 21 = .ok (.if_icmp .lt 7, 3) := by decide +kernel
theorem dX11_discAt_24 : decode cX11_discAt 24 = .ok (.aconst_null, 1) := by decide +kernel
theorem dX11_discAt_25 : decode cX11_discAt 25 = .ok (.goto 9, 3) := by decide +kernel
theorem dX11_discAt_28 : decode cX11_discAt 28 = .ok (.aload_n 2, 1) := by decide +kernel
theorem dX11_discAt_29 : decode cX11_discAt 29 = .ok (.getfield 314, 3) := by decide +kernel
theorem dX11_discAt_32 : decode cX11_discAt 32 = .ok (.iload_n 1, 1) := by decide +kernel
theorem dX11_discAt_33 : decode cX11_discAt 33 = .ok (.aaload, 1) := by decide +kernel
theorem dX11_discAt_34 : decode cX11_discAt 34 = .ok (.areturn, 1) := by decide +kernel
theorem dX11_cordAt_0 : decode cX11_cordAt 0 = .ok (.aload_n 0, 1) := by decide +kernel
theorem dX11_cordAt_1 : decode cX11_cordAt 1 = .ok (.getfield 25, 3) := by decide +kernel
theorem dX11_cordAt_4 : decode cX11_cordAt 4 = .ok (.getfield 122, 3) := by decide +kernel
theorem dX11_cordAt_7 : decode cX11_cordAt 7 = .ok (.astore_n 2, 1) := by decide +kernel
theorem dX11_cordAt_8 : decode cX11_cordAt 8 = .ok (.aload_n 2, 1) := by decide +kernel
theorem dX11_cordAt_9 : decode cX11_cordAt 9 = .ok (.ifnull 15, 3) := by decide +kernel
theorem dX11_cordAt_12 : decode cX11_cordAt 12 = .ok (.iload_n 1, 1) := by decide +kernel
theorem dX11_cordAt_13 : decode cX11_cordAt 13 = .ok (.ifCond .lt 11, 3) := by decide +kernel
theorem dX11_cordAt_16 : decode cX11_cordAt 16 = .ok (.iload_n 1, 1) := by decide +kernel
theorem dX11_cordAt_17 : decode cX11_cordAt 17 = .ok (.aload_n 2, 1) := by decide +kernel
theorem dX11_cordAt_18 : decode cX11_cordAt 18 = .ok (.getfield 301, 3) := by decide +kernel
theorem dX11_cordAt_21 : decode cX11_cordAt 21 = .ok (.if_icmp .lt 7, 3) := by decide +kernel
theorem dX11_cordAt_24 : decode cX11_cordAt 24 = .ok (.aconst_null, 1) := by decide +kernel
theorem dX11_cordAt_25 : decode cX11_cordAt 25 = .ok (.goto 9, 3) := by decide +kernel
theorem dX11_cordAt_28 : decode cX11_cordAt 28 = .ok (.aload_n 2, 1) := by decide +kernel
theorem dX11_cordAt_29 : decode cX11_cordAt 29 = .ok (.getfield 318, 3) := by decide +kernel
theorem dX11_cordAt_32 : decode cX11_cordAt 32 = .ok (.iload_n 1, 1) := by decide +kernel
theorem dX11_cordAt_33 : decode cX11_cordAt 33 = .ok (.aaload, 1) := by decide +kernel
theorem dX11_cordAt_34 : decode cX11_cordAt 34 = .ok (.areturn, 1) := by decide +kernel
theorem dX11_handAt_0 : decode cX11_handAt 0 = .ok (.aload_n 0, 1) := by decide +kernel
theorem dX11_handAt_1 : decode cX11_handAt 1 = .ok (.getfield 25, 3) := by decide +kernel
theorem dX11_handAt_4 : decode cX11_handAt 4 = .ok (.getfield 122, 3) := by decide +kernel
theorem dX11_handAt_7 : decode cX11_handAt 7 = .ok (.astore_n 2, 1) := by decide +kernel
theorem dX11_handAt_8 : decode cX11_handAt 8 = .ok (.aload_n 2, 1) := by decide +kernel
theorem dX11_handAt_9 : decode cX11_handAt 9 = .ok (.ifnull 15, 3) := by decide +kernel
theorem dX11_handAt_12 : decode cX11_handAt 12 = .ok (.iload_n 1, 1) := by decide +kernel
theorem dX11_handAt_13 : decode cX11_handAt 13 = .ok (.ifCond .lt 11, 3) := by decide +kernel
theorem dX11_handAt_16 : decode cX11_handAt 16 = .ok (.iload_n 1, 1) := by decide +kernel
theorem dX11_handAt_17 : decode cX11_handAt 17 = .ok (.aload_n 2, 1) := by decide +kernel
theorem dX11_handAt_18 : decode cX11_handAt 18 = .ok (.getfield 304, 3) := by decide +kernel
theorem dX11_handAt_21 : decode cX11_handAt 21 = .ok (.if_icmp .lt 7, 3) := by decide +kernel
theorem dX11_handAt_24 : decode cX11_handAt 24 = .ok (.aconst_null, 1) := by decide +kernel
theorem dX11_handAt_25 : decode cX11_handAt 25 = .ok (.goto 9, 3) := by decide +kernel
theorem dX11_handAt_28 : decode cX11_handAt 28 = .ok (.aload_n 2, 1) := by decide +kernel
theorem dX11_handAt_29 : decode cX11_handAt 29 = .ok (.getfield 322, 3) := by decide +kernel
theorem dX11_handAt_32 : decode cX11_handAt 32 = .ok (.iload_n 1, 1) := by decide +kernel
theorem dX11_handAt_33 : decode cX11_handAt 33 = .ok (.aaload, 1) := by decide +kernel
theorem dX11_handAt_34 : decode cX11_handAt 34 = .ok (.areturn, 1) := by decide +kernel
set_option maxRecDepth 20000 in
theorem ggX11_foretells_X11_discAt : GoodIn wsX11_foretells wsX11_discAt := goodIn_r _ [7, 8, 9, 10, 11, 35, 36, 37, 38, 39, 40, 41, 42, 43, 44, 45, 46, 47, 48, 49, 50, 51] (by decide +kernel) (by decide +kernel)
set_option maxRecDepth 20000 in
theorem gX11_foretells_X11_discAt : GoodIn wsX11_foretells (wsV RX11 152 RX11 yX11_discAt wsX11_discAt) := goodIn_app (goodIn_of _ (by decide +kernel)) ggX11_foretells_X11_discAt
set_option maxRecDepth 20000 in
theorem ggX11_foretells_X11_cordAt : GoodIn wsX11_foretells wsX11_cordAt := goodIn_r _ [15, 8, 9, 16, 17, 35, 36, 37, 38, 39, 40, 41, 42, 43, 44, 45, 46, 47, 48, 49, 50, 51] (by decide +kernel) (by decide +kernel)
set_option maxRecDepth 20000 in
theorem gX11_foretells_X11_cordAt : GoodIn wsX11_foretells (wsV RX11 140 RX11 yX11_cordAt wsX11_cordAt) := goodIn_app (goodIn_of _ (by decide +kernel)) ggX11_foretells_X11_cordAt
set_option maxRecDepth 20000 in
theorem ggX11_foretells_X11_isPull : GoodIn wsX11_foretells wsX11_isPull := goodIn_r _ [20] (by decide +kernel) (by decide +kernel)
set_option maxRecDepth 20000 in
theorem gX11_foretells_X11_isPull : GoodIn wsX11_foretells (va_wsS RX11 236 yX11_isPull wsX11_isPull) := goodIn_app (goodIn_of _ (by decide +kernel)) ggX11_foretells_X11_isPull
set_option maxRecDepth 20000 in
theorem ggX11_foretells_X4_about : GoodIn wsX11_foretells wsX4_about := goodIn_r _ [25, 26, 27, 28, 29, 30, 52, 53, 54, 55, 56, 57, 58, 59, 60] (by decide +kernel) (by decide +kernel)
set_option maxRecDepth 20000 in
theorem gX11_foretells_X4_about : GoodIn wsX11_foretells (wsV RX11 326 RX4 yX4_about wsX4_about) := goodIn_app (goodIn_of _ (by decide +kernel)) ggX11_foretells_X4_about
theorem dX11_foretells_0 : decode cX11_foretells 0 = .ok (.aload_n 0, 1) := by decide +kernel
theorem dX11_foretells_1 : decode cX11_foretells 1 = .ok (.iload_n 1, 1) := by decide +kernel
theorem dX11_foretells_2 : decode cX11_foretells 2 = .ok (.invokevirtual 152, 3) := by decide +kernel
theorem dX11_foretells_5 : decode cX11_foretells 5 = .ok (.astore 6, 2) := by decide +kernel
theorem dX11_foretells_7 : decode cX11_foretells 7 = .ok (.aload_n 0, 1) := by decide +kernel
theorem dX11_foretells_8 : decode cX11_foretells 8 = .ok (.iload_n 2, 1) := by decide +kernel
theorem dX11_foretells_9 : decode cX11_foretells 9 = .ok (.invokevirtual 140, 3) := by decide +kernel
theorem dX11_foretells_12 : decode cX11_foretells 12 = .ok (.astore 7, 2) := by decide +kernel
theorem dX11_foretells_14 : decode cX11_foretells 14 = .ok (.aload 6, 2) := by decide +kernel
theorem dX11_foretells_16 : decode cX11_foretells 16 = .ok (.ifnull 32, 3) := by decide +kernel
theorem dX11_foretells_19 : decode cX11_foretells 19 = .ok (.aload 7, 2) := by decide +kernel
theorem dX11_foretells_21 : decode cX11_foretells 21 = .ok (.ifnull 27, 3) := by decide +kernel
theorem dX11_foretells_24 : decode cX11_foretells 24 = .ok (.iload_n 3, 1) := by decide +kernel
theorem dX11_foretells_25 : decode cX11_foretells 25 = .ok (.iconst 1, 1) := by decide +kernel
theorem dX11_foretells_26 : decode cX11_foretells 26 = .ok (.if_icmp .lt 22, 3) := by decide +kernel
theorem dX11_foretells_29 : decode cX11_foretells 29 = .ok (.iload_n 3, 1) := by decide +kernel
theorem dX11_foretells_30 : decode cX11_foretells 30 = .ok (.aload 7, 2) := by decide +kernel
theorem dX11_foretells_32 : decode cX11_foretells 32 = .ok (.getfield 160, 3) := by decide +kernel
theorem dX11_foretells_35 : decode cX11_foretells 35 = .ok (.if_icmp .gt 13, 3) := by decide +kernel
theorem dX11_foretells_38 : decode cX11_foretells 38 = .ok (.iload 4, 2) := by decide +kernel
theorem dX11_foretells_40 : decode cX11_foretells 40 = .ok (.iload 5, 2) := by decide +kernel
theorem dX11_foretells_42 : decode cX11_foretells 42 = .ok (.invokestatic 236, 3) := by decide +kernel
theorem dX11_foretells_45 : decode cX11_foretells 45 = .ok (.ifCond .ne 5, 3) := by decide +kernel
theorem dX11_foretells_48 : decode cX11_foretells 48 = .ok (.iconst 0, 1) := by decide +kernel
theorem dX11_foretells_49 : decode cX11_foretells 49 = .ok (.ireturn, 1) := by decide +kernel
theorem dX11_foretells_50 : decode cX11_foretells 50 = .ok (.aload_n 0, 1) := by decide +kernel
theorem dX11_foretells_51 : decode cX11_foretells 51 = .ok (.getfield 36, 3) := by decide +kernel
theorem dX11_foretells_54 : decode cX11_foretells 54 = .ok (.aload 6, 2) := by decide +kernel
theorem dX11_foretells_56 : decode cX11_foretells 56 = .ok (.aload 7, 2) := by decide +kernel
theorem dX11_foretells_58 : decode cX11_foretells 58 = .ok (.iload_n 3, 1) := by decide +kernel
theorem dX11_foretells_59 : decode cX11_foretells 59 = .ok (.iload 4, 2) := by decide +kernel
theorem dX11_foretells_61 : decode cX11_foretells 61 = .ok (.iload 5, 2) := by decide +kernel
theorem dX11_foretells_63 : decode cX11_foretells 63 = .ok (.invokevirtual 326, 3) := by decide +kernel
theorem dX11_foretells_66 : decode cX11_foretells 66 = .ok (.iconst 1, 1) := by decide +kernel
theorem dX11_foretells_67 : decode cX11_foretells 67 = .ok (.ireturn, 1) := by decide +kernel
theorem dX11_isPull_0 : decode cX11_isPull 0 = .ok (.iload_n 0, 1) := by decide +kernel
theorem dX11_isPull_1 : decode cX11_isPull 1 = .ok (.ifCond .lt 25, 3) := by decide +kernel
theorem dX11_isPull_4 : decode cX11_isPull 4 = .ok (.iload_n 0, 1) := by decide +kernel
theorem dX11_isPull_5 : decode cX11_isPull 5 = .ok (.bipush 99, 2) := by decide +kernel
theorem dX11_isPull_7 : decode cX11_isPull 7 = .ok (.if_icmp .gt 19, 3) := by decide +kernel
theorem dX11_isPull_10 : decode cX11_isPull 10 = .ok (.iload_n 1, 1) := by decide +kernel
theorem dX11_isPull_11 : decode cX11_isPull 11 = .ok (.iconst 1, 1) := by decide +kernel
theorem dX11_isPull_12 : decode cX11_isPull 12 = .ok (.if_icmp .lt 14, 3) := by decide +kernel
theorem dX11_isPull_15 : decode cX11_isPull 15 = .ok (.iload_n 1, 1) := by decide +kernel
theorem dX11_isPull_16 : decode cX11_isPull 16 = .ok (.sipush 300, 3) := by decide +kernel
theorem dX11_isPull_19 : decode cX11_isPull 19 = .ok (.if_icmp .gt 7, 3) := by decide +kernel
theorem dX11_isPull_22 : decode cX11_isPull 22 = .ok (.iconst 1, 1) := by decide +kernel
theorem dX11_isPull_23 : decode cX11_isPull 23 = .ok (.goto 4, 3) := by decide +kernel
theorem dX11_isPull_26 : decode cX11_isPull 26 = .ok (.iconst 0, 1) := by decide +kernel
theorem dX11_isPull_27 : decode cX11_isPull 27 = .ok (.ireturn, 1) := by decide +kernel
theorem dX12_init_0 : decode cX12_init 0 = .ok (.aload_n 0, 1) := by decide +kernel
theorem dX12_init_1 : decode cX12_init 1 = .ok (.invokespecial 1, 3) := by decide +kernel
theorem dX12_init_4 : decode cX12_init 4 = .ok (.aload_n 0, 1) := by decide +kernel
theorem dX12_init_5 : decode cX12_init 5 = .ok (.bipush 8, 2) := by decide +kernel
theorem dX12_init_7 : decode cX12_init 7 = .ok (.newarray .int, 2) := by decide +kernel
theorem dX12_init_9 : decode cX12_init 9 = .ok (.dup, 1) := by decide +kernel
theorem dX12_init_10 : decode cX12_init 10 = .ok (.iconst 0, 1) := by decide +kernel
theorem dX12_init_11 : decode cX12_init 11 = .ok (.iconst (-1), 1) := by decide +kernel
theorem dX12_init_12 : decode cX12_init 12 = .ok (.iastore, 1) := by decide +kernel
theorem dX12_init_13 : decode cX12_init 13 = .ok (.dup, 1) := by decide +kernel
theorem dX12_init_14 : decode cX12_init 14 = .ok (.iconst 1, 1) := by decide +kernel
theorem dX12_init_15 : decode cX12_init 15 = .ok (.iconst (-1), 1) := by decide +kernel
theorem dX12_init_16 : decode cX12_init 16 = .ok (.iastore, 1) := by decide +kernel
theorem dX12_init_17 : decode cX12_init 17 = .ok (.dup, 1) := by decide +kernel
theorem dX12_init_18 : decode cX12_init 18 = .ok (.iconst 2, 1) := by decide +kernel
theorem dX12_init_19 : decode cX12_init 19 = .ok (.iconst (-1), 1) := by decide +kernel
theorem dX12_init_20 : decode cX12_init 20 = .ok (.iastore, 1) := by decide +kernel
theorem dX12_init_21 : decode cX12_init 21 = .ok (.dup, 1) := by decide +kernel
theorem dX12_init_22 : decode cX12_init 22 = .ok (.iconst 3, 1) := by decide +kernel
theorem dX12_init_23 : decode cX12_init 23 = .ok (.iconst (-1), 1) := by decide +kernel
theorem dX12_init_24 : decode cX12_init 24 = .ok (.iastore, 1) := by decide +kernel
theorem dX12_init_25 : decode cX12_init 25 = .ok (.dup, 1) := by decide +kernel
theorem dX12_init_26 : decode cX12_init 26 = .ok (.iconst 4, 1) := by decide +kernel
theorem dX12_init_27 : decode cX12_init 27 = .ok (.iconst (-1), 1) := by decide +kernel
theorem dX12_init_28 : decode cX12_init 28 = .ok (.iastore, 1) := by decide +kernel
theorem dX12_init_29 : decode cX12_init 29 = .ok (.dup, 1) := by decide +kernel
theorem dX12_init_30 : decode cX12_init 30 = .ok (.iconst 5, 1) := by decide +kernel
theorem dX12_init_31 : decode cX12_init 31 = .ok (.iconst (-1), 1) := by decide +kernel
theorem dX12_init_32 : decode cX12_init 32 = .ok (.iastore, 1) := by decide +kernel
theorem dX12_init_33 : decode cX12_init 33 = .ok (.dup, 1) := by decide +kernel
theorem dX12_init_34 : decode cX12_init 34 = .ok (.bipush 6, 2) := by decide +kernel
theorem dX12_init_36 : decode cX12_init 36 = .ok (.iconst (-1), 1) := by decide +kernel
theorem dX12_init_37 : decode cX12_init 37 = .ok (.iastore, 1) := by decide +kernel
theorem dX12_init_38 : decode cX12_init 38 = .ok (.dup, 1) := by decide +kernel
theorem dX12_init_39 : decode cX12_init 39 = .ok (.bipush 7, 2) := by decide +kernel
theorem dX12_init_41 : decode cX12_init 41 = .ok (.iconst (-1), 1) := by decide +kernel
theorem dX12_init_42 : decode cX12_init 42 = .ok (.iastore, 1) := by decide +kernel
theorem dX12_init_43 : decode cX12_init 43 = .ok (.putfield 7, 3) := by decide +kernel
theorem dX12_init_46 : decode cX12_init 46 = .ok (.aload_n 0, 1) := by decide +kernel
theorem dX12_init_47 : decode cX12_init 47 = .ok (.bipush 8, 2) := by decide +kernel
theorem dX12_init_49 : decode cX12_init 49 = .ok (.newarray .int, 2) := by decide +kernel
theorem dX12_init_51 : decode cX12_init 51 = .ok (.putfield 13, 3) := by decide +kernel
theorem dX12_init_54 : decode cX12_init 54 = .ok (.aload_n 0, 1) := by decide +kernel
theorem dX12_init_55 : decode cX12_init 55 = .ok (.sipush 320, 3) := by decide +kernel
theorem dX12_init_58 : decode cX12_init 58 = .ok (.newarray .int, 2) := by decide +kernel
theorem dX12_init_60 : decode cX12_init 60 = .ok (.putfield 16, 3) := by decide +kernel
theorem dX12_init_63 : decode cX12_init 63 = .ok (.aload_n 0, 1) := by decide +kernel
theorem dX12_init_64 : decode cX12_init 64 = .ok (.sipush 131, 3) := by decide +kernel
theorem dX12_init_67 : decode cX12_init 67 = .ok (.newarray .int, 2) := by decide +kernel
theorem dX12_init_69 : decode cX12_init 69 = .ok (.putfield 19, 3) := by decide +kernel
theorem dX12_init_72 : decode cX12_init 72 = .ok (.aload_n 0, 1) := by decide +kernel
theorem dX12_init_73 : decode cX12_init 73 = .ok (.sipush 131, 3) := by decide +kernel
theorem dX12_init_76 : decode cX12_init 76 = .ok (.newarray .int, 2) := by decide +kernel
theorem dX12_init_78 : decode cX12_init 78 = .ok (.putfield 22, 3) := by decide +kernel
theorem dX12_init_81 : decode cX12_init 81 = .ok (.aload_n 0, 1) := by decide +kernel
theorem dX12_init_82 : decode cX12_init 82 = .ok (.sipush 500, 3) := by decide +kernel
theorem dX12_init_85 : decode cX12_init 85 = .ok (.newarray .int, 2) := by decide +kernel
theorem dX12_init_87 : decode cX12_init 87 = .ok (.putfield 25, 3) := by decide +kernel
theorem dX12_init_90 : decode cX12_init 90 = .ok (.aload_n 0, 1) := by decide +kernel
theorem dX12_init_91 : decode cX12_init 91 = .ok (.bipush 12, 2) := by decide +kernel
theorem dX12_init_93 : decode cX12_init 93 = .ok (.newarray .int, 2) := by decide +kernel
theorem dX12_init_95 : decode cX12_init 95 = .ok (.putfield 28, 3) := by decide +kernel
theorem dX12_init_98 : decode cX12_init 98 = .ok (.aload_n 0, 1) := by decide +kernel
theorem dX12_init_99 : decode cX12_init 99 = .ok (.ldc 31, 2) := by decide +kernel
theorem dX12_init_101 : decode cX12_init 101 = .ok (.putfield 32, 3) := by decide +kernel
theorem dX12_init_104 : decode cX12_init 104 = .ok (.aload_n 0, 1) := by decide +kernel
theorem dX12_init_105 : decode cX12_init 105 = .ok (.iconst 3, 1) := by decide +kernel
theorem dX12_init_106 : decode cX12_init 106 = .ok (.newarray .int, 2) := by decide +kernel
theorem dX12_init_108 : decode cX12_init 108 = .ok (.putfield 36, 3) := by decide +kernel
theorem dX12_init_111 : decode cX12_init 111 = .ok (.aload_n 0, 1) := by decide +kernel
theorem dX12_init_112 : decode cX12_init 112 = .ok (.iconst 2, 1) := by decide +kernel
theorem dX12_init_113 : decode cX12_init 113 = .ok (.newarray .boolean, 2) := by decide +kernel
theorem dX12_init_115 : decode cX12_init 115 = .ok (.putfield 39, 3) := by decide +kernel
theorem dX12_init_118 : decode cX12_init 118 = .ok (.aload_n 0, 1) := by decide +kernel
theorem dX12_init_119 : decode cX12_init 119 = .ok (.sipush 262, 3) := by decide +kernel
theorem dX12_init_122 : decode cX12_init 122 = .ok (.newarray .int, 2) := by decide +kernel
theorem dX12_init_124 : decode cX12_init 124 = .ok (.putfield 43, 3) := by decide +kernel
theorem dX12_init_127 : decode cX12_init 127 = .ok (.aload_n 0, 1) := by decide +kernel
theorem dX12_init_128 : decode cX12_init 128 = .ok (.bipush 24, 2) := by decide +kernel
theorem dX12_init_130 : decode cX12_init 130 = .ok (.newarray .int, 2) := by decide +kernel
theorem dX12_init_132 : decode cX12_init 132 = .ok (.putfield 46, 3) := by decide +kernel
theorem dX12_init_135 : decode cX12_init 135 = .ok (.aload_n 0, 1) := by decide +kernel
theorem dX12_init_136 : decode cX12_init 136 = .ok (.bipush 16, 2) := by decide +kernel
theorem dX12_init_138 : decode cX12_init 138 = .ok (.newarray .int, 2) := by decide +kernel
theorem dX12_init_140 : decode cX12_init 140 = .ok (.putfield 49, 3) := by decide +kernel
theorem dX12_init_143 : decode cX12_init 143 = .ok (.return_, 1) := by decide +kernel
theorem dX12_in_0 : decode cX12_in 0 = .ok (.lload_n 0, 1) := by decide +kernel
theorem dX12_in_1 : decode cX12_in 1 = .ok (.lload_n 2, 1) := by decide +kernel
theorem dX12_in_2 : decode cX12_in 2 = .ok (.lcmp, 1) := by decide +kernel
theorem dX12_in_3 : decode cX12_in 3 = .ok (.ifCond .lt 14, 3) := by decide +kernel
theorem dX12_in_6 : decode cX12_in 6 = .ok (.lload_n 0, 1) := by decide +kernel
theorem dX12_in_7 : decode cX12_in 7 = .ok (.lload 4, 2) := by decide +kernel
theorem dX12_in_9 : decode cX12_in 9 = .ok (.lcmp, 1) := by decide +kernel
theorem dX12_in_10 : decode cX12_in 10 = .ok (.ifCond .gt 7, 3) := by decide +kernel
theorem dX12_in_13 : decode cX12_in 13 = .ok (.iconst 1, 1) := by decide +kernel
theorem dX12_in_14 : decode cX12_in 14 = .ok (.goto 4, 3) := by decide +kernel
theorem dX12_in_17 : decode cX12_in 17 = .ok (.iconst 0, 1) := by decide +kernel
theorem dX12_in_18 : decode cX12_in 18 = .ok (.ireturn, 1) := by decide +kernel
theorem dX12_finding_0 : decode cX12_finding 0 = .ok (.aload_n 0, 1) := by decide +kernel
theorem dX12_finding_1 : decode cX12_finding 1 = .ok (.iload_n 1, 1) := by decide +kernel
theorem dX12_finding_2 : decode cX12_finding 2 = .ok (.putfield 55, 3) := by decide +kernel
theorem dX12_finding_5 : decode cX12_finding 5 = .ok (.ldc 58, 2) := by decide +kernel
theorem dX12_finding_7 : decode cX12_finding 7 = .ok (.iload_n 1, 1) := by decide +kernel
theorem dX12_finding_8 : decode cX12_finding 8 = .ok (.isub, 1) := by decide +kernel
theorem dX12_finding_9 : decode cX12_finding 9 = .ok (.ireturn, 1) := by decide +kernel
set_option maxRecDepth 20000 in
theorem ggX12_isRow_X12_in : GoodIn wsX12_isRow wsX12_in := goodIn_r _ [5] (by decide +kernel) (by decide +kernel)
set_option maxRecDepth 20000 in
theorem gX12_isRow_X12_in : GoodIn wsX12_isRow (va_wsS RX12 61 yX12_in wsX12_in) := goodIn_app (goodIn_of _ (by decide +kernel)) ggX12_isRow_X12_in
theorem dX12_isRow_0 : decode cX12_isRow 0 = .ok (.iload_n 0, 1) := by decide +kernel
theorem dX12_isRow_1 : decode cX12_isRow 1 = .ok (.i2l, 1) := by decide +kernel
theorem dX12_isRow_2 : decode cX12_isRow 2 = .ok (.lconst 0, 1) := by decide +kernel
theorem dX12_isRow_3 : decode cX12_isRow 3 = .ok (.ldc2_w 59, 3) := by decide +kernel
theorem dX12_isRow_6 : decode cX12_isRow 6 = .ok (.invokestatic 61, 3) := by decide +kernel
theorem dX12_isRow_9 : decode cX12_isRow 9 = .ok (.ireturn, 1) := by decide +kernel
set_option maxRecDepth 20000 in
theorem ggX12_row_X12_isRow : GoodIn wsX12_row wsX12_isRow := goodIn_r _ [11, 12, 13, 14, 10, 15] (by decide +kernel) (by decide +kernel)
set_option maxRecDepth 20000 in
theorem gX12_row_X12_isRow : GoodIn wsX12_row (va_wsS RX12 65 yX12_isRow wsX12_isRow) := goodIn_app (goodIn_of _ (by decide +kernel)) ggX12_row_X12_isRow
set_option maxRecDepth 20000 in
theorem ggX12_row_X12_in : GoodIn wsX12_row wsX12_in := goodIn_r _ [15] (by decide +kernel) (by decide +kernel)
set_option maxRecDepth 20000 in
theorem gX12_row_X12_in : GoodIn wsX12_row (va_wsS RX12 61 yX12_in wsX12_in) := goodIn_app (goodIn_of _ (by decide +kernel)) ggX12_row_X12_in
set_option maxRecDepth 20000 in
theorem ggX12_row_X12_finding : GoodIn wsX12_row wsX12_finding := goodIn_r _ [19, 4, 20, 21, 22, 23, 24, 25, 26, 27, 28, 29, 30, 31, 32, 33, 34, 35, 36, 37, 38, 39, 40, 41, 42, 43, 44, 45, 46, 47, 48, 49, 50, 51, 52] (by decide +kernel) (by decide +kernel)
set_option maxRecDepth 20000 in
theorem gX12_row_X12_finding : GoodIn wsX12_row (wsV RX12 72 RX12 yX12_finding wsX12_finding) := goodIn_app (goodIn_of _ (by decide +kernel)) ggX12_row_X12_finding
theorem dX12_row_0 : decode cX12_row 0 = .ok (.aload_n 0, 1) := by decide +kernel
theorem dX12_row_1 : decode cX12_row 1 = .ok (.iconst 0, 1) := by decide +kernel
theorem dX12_row_2 : decode cX12_row 2 = .ok (.putfield 52, 3) := by decide +kernel
theorem dX12_row_5 : decode cX12_row 5 = .ok (.iload_n 1, 1) := by decide +kernel
theorem dX12_row_6 : decode cX12_row 6 = .ok (.invokestatic 65, 3) := by decide +kernel
theorem dX12_row_9 : decode cX12_row 9 = .ok (.ifCond .eq 21, 3) := by decide +kernel
theorem dX12_row_12 : decode cX12_row 12 = .ok (.iload_n 2, 1) := by decide +kernel
theorem dX12_row_13 : decode cX12_row 13 = .ok (.i2l, 1) := by decide +kernel
theorem dX12_row_14 : decode cX12_row 14 = .ok (.lconst 0, 1) := by decide +kernel
theorem dX12_row_15 : decode cX12_row 15 = .ok (.ldc2_w 69, 3) := by decide +kernel
theorem dX12_row_18 : decode cX12_row 18 = .ok (.invokestatic 61, 3) := by decide +kernel
theorem dX12_row_21 : decode cX12_row 21 = .ok (.ifCond .eq 9, 3) := by decide +kernel
theorem dX12_row_24 : decode cX12_row 24 = .ok (.iload_n 3, 1) := by decide +kernel
theorem dX12_row_25 : decode cX12_row 25 = .ok (.bipush 40, 2) := by decide +kernel
theorem dX12_row_27 : decode cX12_row 27 = .ok (.if_icmp .le 6, 3) := by decide +kernel
theorem dX12_row_30 : decode cX12_row 30 = .ok (.ldc 71, 2) := by decide +kernel
theorem dX12_row_32 : decode cX12_row 32 = .ok (.ireturn, 1) := by decide +kernel
theorem dX12_row_33 : decode cX12_row 33 = .ok (.aload_n 0, 1) := by decide +kernel
theorem dX12_row_34 : decode cX12_row 34 = .ok (.iconst 0, 1) := by decide +kernel
theorem dX12_row_35 : decode cX12_row 35 = .ok (.putfield 55, 3) := by decide +kernel
theorem dX12_row_38 : decode cX12_row 38 = .ok (.iload_n 3, 1) := by decide +kernel
theorem dX12_row_39 : decode cX12_row 39 = .ok (.ifCond .ge 9, 3) := by decide +kernel
theorem dX12_row_42 : decode cX12_row 42 = .ok (.aload_n 0, 1) := by decide +kernel
theorem dX12_row_43 : decode cX12_row 43 = .ok (.iconst 4, 1) := by decide +kernel
theorem dX12_row_44 : decode cX12_row 44 = .ok (.invokevirtual 72, 3) := by decide +kernel
theorem dX12_row_47 : decode cX12_row 47 = .ok (.ireturn, 1) := by decide +kernel
theorem dX12_row_48 : decode cX12_row 48 = .ok (.aload_n 0, 1) := by decide +kernel
theorem dX12_row_49 : decode cX12_row 49 = .ok (.getfield 7, 3) := by decide +kernel
theorem dX12_row_52 : decode cX12_row 52 = .ok (.iload_n 1, 1) := by decide +kernel
theorem dX12_row_53 : decode cX12_row 53 = .ok (.iload_n 2, 1) := by decide +kernel
theorem dX12_row_54 : decode cX12_row 54 = .ok (.iastore, 1) := by decide +kernel
theorem dX12_row_55 : decode cX12_row 55 = .ok (.aload_n 0, 1) := by decide +kernel
theorem dX12_row_56 : decode cX12_row 56 = .ok (.getfield 13, 3) := by decide +kernel
theorem dX12_row_59 : decode cX12_row 59 = .ok (.iload_n 1, 1) := by decide +kernel
theorem dX12_row_60 : decode cX12_row 60 = .ok (.iload_n 3, 1) := by decide +kernel
theorem dX12_row_61 : decode cX12_row 61 = .ok (.iastore, 1) := by decide +kernel
theorem dX12_row_62 : decode cX12_row 62 = .ok (.iconst 0, 1) := by decide +kernel
theorem dX12_row_63 : decode cX12_row 63 = .ok (.istore 4, 2) := by decide +kernel
theorem dX12_row_65 : decode cX12_row 65 = .ok (.iload 4, 2) := by decide +kernel
theorem dX12_row_67 : decode cX12_row 67 = .ok (.bipush 40, 2) := by decide +kernel
theorem dX12_row_69 : decode cX12_row 69 = .ok (.if_icmp .ge 22, 3) := by decide +kernel
theorem dX12_row_72 : decode cX12_row 72 = .ok (.aload_n 0, 1) := by decide +kernel
theorem dX12_row_73 : decode cX12_row 73 = .ok (.getfield 16, 3) := by decide +kernel
theorem dX12_row_76 : decode cX12_row 76 = .ok (.bipush 40, 2) := by decide +kernel
theorem dX12_row_78 : decode cX12_row 78 = .ok (.iload_n 1, 1) := by decide +kernel
theorem dX12_row_79 : decode cX12_row 79 = .ok (.imul, 1) := by decide +kernel
theorem dX12_row_80 : decode cX12_row 80 = .ok (.iload 4, 2) := by decide +kernel
theorem dX12_row_82 : decode cX12_row 82 = .ok (.iadd, 1) := by decide +kernel
theorem dX12_row_83 : decode cX12_row 83 = .ok (.iconst 0, 1) := by decide +kernel
theorem dX12_row_84 : decode cX12_row 84 = .ok (.iastore, 1) := by decide +kernel
theorem dX12_row_85 : decode cX12_row 85 = .ok (.iinc 4 1, 3) := by decide +kernel
theorem dX12_row_88 : decode cX12_row 88 = .ok (.goto (-23), 3) := by decide +kernel
theorem dX12_row_91 : decode cX12_row 91 = .ok (.iload_n 3, 1) := by decide +kernel
theorem dX12_row_92 : decode cX12_row 92 = .ok (.ireturn, 1) := by decide +kernel
set_option maxRecDepth 20000 in
theorem ggX12_set_X12_isRow : GoodIn wsX12_set wsX12_isRow := goodIn_r _ [10, 11, 12, 13, 9, 14] (by decide +kernel) (by decide +kernel)
set_option maxRecDepth 20000 in
theorem gX12_set_X12_isRow : GoodIn wsX12_set (va_wsS RX12 65 yX12_isRow wsX12_isRow) := goodIn_app (goodIn_of _ (by decide +kernel)) ggX12_set_X12_isRow
set_option maxRecDepth 20000 in
theorem ggX12_set_X12_finding : GoodIn wsX12_set wsX12_finding := goodIn_r _ [18, 3, 19, 20, 21, 22, 23, 24, 25, 26, 27, 28, 29, 30, 31, 32, 33, 34, 35, 36, 37, 38, 39, 40, 41, 42, 43, 44, 45, 46, 47, 48, 49, 50, 51] (by decide +kernel) (by decide +kernel)
set_option maxRecDepth 20000 in
theorem gX12_set_X12_finding : GoodIn wsX12_set (wsV RX12 72 RX12 yX12_finding wsX12_finding) := goodIn_app (goodIn_of _ (by decide +kernel)) ggX12_set_X12_finding
set_option maxRecDepth 20000 in
theorem ggX12_set_X12_in : GoodIn wsX12_set wsX12_in := goodIn_r _ [14] (by decide +kernel) (by decide +kernel)
set_option maxRecDepth 20000 in
theorem gX12_set_X12_in : GoodIn wsX12_set (va_wsS RX12 61 yX12_in wsX12_in) := goodIn_app (goodIn_of _ (by decide +kernel)) ggX12_set_X12_in
theorem dX12_set_0 : decode cX12_set 0 = .ok (.aload_n 0, 1) := by decide +kernel
theorem dX12_set_1 : decode cX12_set 1 = .ok (.iconst 0, 1) := by decide +kernel
theorem dX12_set_2 : decode cX12_set 2 = .ok (.putfield 52, 3) := by decide +kernel
theorem dX12_set_5 : decode cX12_set 5 = .ok (.iload_n 1, 1) := by decide +kernel
theorem dX12_set_6 : decode cX12_set 6 = .ok (.invokestatic 65, 3) := by decide +kernel
theorem dX12_set_9 : decode cX12_set 9 = .ok (.ifCond .ne 6, 3) := by decide +kernel
theorem dX12_set_12 : decode cX12_set 12 = .ok (.ldc 71, 2) := by decide +kernel
theorem dX12_set_14 : decode cX12_set 14 = .ok (.ireturn, 1) := by decide +kernel
theorem dX12_set_15 : decode cX12_set 15 = .ok (.aload_n 0, 1) := by decide +kernel
theorem dX12_set_16 : decode cX12_set 16 = .ok (.iconst 0, 1) := by decide +kernel
theorem dX12_set_17 : decode cX12_set 17 = .ok (.putfield 55, 3) := by decide +kernel
theorem dX12_set_20 : decode cX12_set 20 = .ok (.aload_n 0, 1) := by decide +kernel
theorem dX12_set_21 : decode cX12_set 21 = .ok (.getfield 7, 3) := by decide +kernel
theorem dX12_set_24 : decode cX12_set 24 = .ok (.iload_n 1, 1) := by decide +kernel
theorem dX12_set_25 : decode cX12_set 25 = .ok (.iaload, 1) := by decide +kernel
theorem dX12_set_26 : decode cX12_set 26 = .ok (.ifCond .ge 9, 3) := by decide +kernel
theorem dX12_set_29 : decode cX12_set 29 = .ok (.aload_n 0, 1) := by decide +kernel
theorem dX12_set_30 : decode cX12_set 30 = .ok (.iconst 1, 1) := by decide +kernel
theorem dX12_set_31 : decode cX12_set 31 = .ok (.invokevirtual 72, 3) := by decide +kernel
theorem dX12_set_34 : decode cX12_set 34 = .ok (.ireturn, 1) := by decide +kernel
theorem dX12_set_35 : decode cX12_set 35 = .ok (.iload_n 2, 1) := by decide +kernel
theorem dX12_set_36 : decode cX12_set 36 = .ok (.i2l, 1) := by decide +kernel
theorem dX12_set_37 : decode cX12_set 37 = .ok (.lconst 0, 1) := by decide +kernel
theorem dX12_set_38 : decode cX12_set 38 = .ok (.aload_n 0, 1) := by decide +kernel
theorem dX12_set_39 : decode cX12_set 39 = .ok (.getfield 13, 3) := by decide +kernel
theorem dX12_set_42 : decode cX12_set 42 = .ok (.iload_n 1, 1) := by decide +kernel
theorem dX12_set_43 : decode cX12_set 43 = .ok (.iaload, 1) := by decide +kernel
theorem dX12_set_44 : decode cX12_set 44 = .ok (.iconst 1, 1) := by decide +kernel
theorem dX12_set_45 : decode cX12_set 45 = .ok (.isub, 1) := by decide +kernel
theorem dX12_set_46 : decode cX12_set 46 = .ok (.i2l, 1) := by decide +kernel
theorem dX12_set_47 : decode cX12_set 47 = .ok (.invokestatic 61, 3) := by decide +kernel
theorem dX12_set_50 : decode cX12_set 50 = .ok (.ifCond .ne 9, 3) := by decide +kernel
theorem dX12_set_53 : decode cX12_set 53 = .ok (.aload_n 0, 1) := by decide +kernel
theorem dX12_set_54 : decode cX12_set 54 = .ok (.iconst 2, 1) := by decide +kernel
theorem dX12_set_55 : decode cX12_set 55 = .ok (.invokevirtual 72, 3) := by decide +kernel
theorem dX12_set_58 : decode cX12_set 58 = .ok (.ireturn, 1) := by decide +kernel
theorem dX12_set_59 : decode cX12_set 59 = .ok (.aload_n 0, 1) := by decide +kernel
theorem dX12_set_60 : decode cX12_set 60 = .ok (.getfield 16, 3) := by decide +kernel
theorem dX12_set_63 : decode cX12_set 63 = .ok (.bipush 40, 2) := by decide +kernel
theorem dX12_set_65 : decode cX12_set 65 = .ok (.iload_n 1, 1) := by decide +kernel
theorem dX12_set_66 : decode cX12_set 66 = .ok (.imul, 1) := by decide +kernel
theorem dX12_set_67 : decode cX12_set 67 = .ok (.iload_n 2, 1) := by decide +kernel
theorem dX12_set_68 : decode cX12_set 68 = .ok (.iadd, 1) := by decide +kernel
theorem dX12_set_69 : decode cX12_set 69 = .ok (.aload_n 0, 1) := by decide +kernel
theorem dX12_set_70 : decode cX12_set 70 = .ok (.getfield 7, 3) := by decide +kernel
theorem dX12_set_73 : decode cX12_set 73 = .ok (.iload_n 1, 1) := by decide +kernel
theorem dX12_set_74 : decode cX12_set 74 = .ok (.iaload, 1) := by decide +kernel
theorem dX12_set_75 : decode cX12_set 75 = .ok (.ifCond .ne 8, 3) := by decide +kernel
theorem dX12_set_78 : decode cX12_set 78 = .ok (.iload_n 3, 1) := by decide +kernel
theorem dX12_set_79 : decode cX12_set 79 = .ok (.i2b, 1) := by decide +kernel
theorem dX12_set_80 : decode cX12_set 80 = .ok (.goto 19, 3) := by decide +kernel
theorem dX12_set_83 : decode cX12_set 83 = .ok (.aload_n 0, 1) := by decide +kernel
theorem dX12_set_84 : decode cX12_set 84 = .ok (.getfield 7, 3) := by decide +kernel
theorem dX12_set_87 : decode cX12_set 87 = .ok (.iload_n 1, 1) := by decide +kernel
theorem dX12_set_88 : decode cX12_set 88 = .ok (.iaload, 1) := by decide +kernel
theorem dX12_set_89 : decode cX12_set 89 = .ok (.iconst 1, 1) := by decide +kernel
theorem dX12_set_90 : decode cX12_set 90 = .ok (.if_icmp .ne 8, 3) := by decide +kernel
theorem dX12_set_93 : decode cX12_set 93 = .ok (.iload_n 3, 1) := by decide +kernel
theorem dX12_set_94 : decode cX12_set 94 = .ok (.i2s, 1) := by decide +kernel
theorem dX12_set_95 : decode cX12_set 95 = .ok (.goto 4, 3) := by decide +kernel
theorem dX12_set_98 : decode cX12_set 98 = .ok (.iload_n 3, 1) := by decide +kernel
theorem dX12_set_99 : decode cX12_set 99 = .ok (.iastore, 1) := by decide +kernel
theorem dX12_set_100 : decode cX12_set 100 = .ok (.aload_n 0, 1) := by decide +kernel
theorem dX12_set_101 : decode cX12_set 101 = .ok (.getfield 16, 3) := by decide +kernel
theorem dX12_set_104 : decode cX12_set 104 = .ok (.bipush 40, 2) := by decide +kernel
theorem dX12_set_106 : decode cX12_set 106 = .ok (.iload_n 1, 1) := by decide +kernel
theorem dX12_set_107 : decode cX12_set 107 = .ok (.imul, 1) := by decide +kernel
theorem dX12_set_108 : decode cX12_set 108 = .ok (.iload_n 2, 1) := by decide +kernel
theorem dX12_set_109 : decode cX12_set 109 = .ok (.iadd, 1) := by decide +kernel
theorem dX12_set_110 : decode cX12_set 110 = .ok (.iaload, 1) := by decide +kernel
theorem dX12_set_111 : decode cX12_set 111 = .ok (.ireturn, 1) := by decide +kernel
set_option maxRecDepth 20000 in
theorem ggX12_copy_X12_isRow : GoodIn wsX12_copy wsX12_isRow := goodIn_r _ [10, 11, 12, 13, 9, 14] (by decide +kernel) (by decide +kernel)
set_option maxRecDepth 20000 in
theorem gX12_copy_X12_isRow : GoodIn wsX12_copy (va_wsS RX12 65 yX12_isRow wsX12_isRow) := goodIn_app (goodIn_of _ (by decide +kernel)) ggX12_copy_X12_isRow
set_option maxRecDepth 20000 in
theorem ggX12_copy_X12_finding : GoodIn wsX12_copy wsX12_finding := goodIn_r _ [18, 3, 19, 20, 21, 22, 23, 24, 25, 26, 27, 28, 29, 30, 31, 32, 33, 34, 35, 36, 37, 38, 39, 40, 41, 42, 43, 44, 45, 46, 47, 48, 49, 50, 51] (by decide +kernel) (by decide +kernel)
set_option maxRecDepth 20000 in
theorem gX12_copy_X12_finding : GoodIn wsX12_copy (wsV RX12 72 RX12 yX12_finding wsX12_finding) := goodIn_app (goodIn_of _ (by decide +kernel)) ggX12_copy_X12_finding
theorem dX12_copy_0 : decode cX12_copy 0 = .ok (.aload_n 0, 1) := by decide +kernel
theorem dX12_copy_1 : decode cX12_copy 1 = .ok (.iconst 0, 1) := by decide +kernel
theorem dX12_copy_2 : decode cX12_copy 2 = .ok (.putfield 52, 3) := by decide +kernel
theorem dX12_copy_5 : decode cX12_copy 5 = .ok (.iload_n 1, 1) := by decide +kernel
theorem dX12_copy_6 : decode cX12_copy 6 = .ok (.invokestatic 65, 3) := by decide +kernel
theorem dX12_copy_9 : decode cX12_copy 9 = .ok (.ifCond .eq 10, 3) := by decide +kernel
theorem dX12_copy_12 : decode cX12_copy 12 = .ok (.iload_n 3, 1) := by decide +kernel
theorem dX12_copy_13 : decode cX12_copy 13 = .ok (.invokestatic 65, 3) := by decide +kernel
theorem dX12_copy_16 : decode cX12_copy 16 = .ok (.ifCond .ne 6, 3) := by decide +kernel
theorem dX12_copy_19 : decode cX12_copy 19 = .ok (.ldc 71, 2) := by decide +kernel
theorem dX12_copy_21 : decode cX12_copy 21 = .ok (.ireturn, 1) := by decide +kernel
theorem dX12_copy_22 : decode cX12_copy 22 = .ok (.aload_n 0, 1) := by decide +kernel
theorem dX12_copy_23 : decode cX12_copy 23 = .ok (.iconst 0, 1) := by decide +kernel
theorem dX12_copy_24 : decode cX12_copy 24 = .ok (.putfield 55, 3) := by decide +kernel
theorem dX12_copy_27 : decode cX12_copy 27 = .ok (.aload_n 0, 1) := by decide +kernel
theorem dX12_copy_28 : decode cX12_copy 28 = .ok (.getfield 7, 3) := by decide +kernel
theorem dX12_copy_31 : decode cX12_copy 31 = .ok (.iload_n 1, 1) := by decide +kernel
theorem dX12_copy_32 : decode cX12_copy 32 = .ok (.iaload, 1) := by decide +kernel
theorem dX12_copy_33 : decode cX12_copy 33 = .ok (.ifCond .lt 12, 3) := by decide +kernel
theorem dX12_copy_36 : decode cX12_copy 36 = .ok (.aload_n 0, 1) := by decide +kernel
theorem dX12_copy_37 : decode cX12_copy 37 = .ok (.getfield 7, 3) := by decide +kernel
theorem dX12_copy_40 : decode cX12_copy 40 = .ok (.iload_n 3, 1) := by decide +kernel
theorem dX12_copy_41 : decode cX12_copy 41 = .ok (.iaload, 1) := by decide +kernel
theorem dX12_copy_42 : decode cX12_copy 42 = .ok (.ifCond .ge 9, 3) := by decide +kernel
theorem dX12_copy_45 : decode cX12_copy 45 = .ok (.aload_n 0, 1) := by decide +kernel
theorem dX12_copy_46 : decode cX12_copy 46 = .ok (.iconst 1, 1) := by decide +kernel
theorem dX12_copy_47 : decode cX12_copy 47 = .ok (.invokevirtual 72, 3) := by decide +kernel
theorem dX12_copy_50 : decode cX12_copy 50 = .ok (.ireturn, 1) := by decide +kernel
theorem dX12_copy_51 : decode cX12_copy 51 = .ok (.aload_n 0, 1) := by decide +kernel
theorem dX12_copy_52 : decode cX12_copy 52 = .ok (.getfield 7, 3) := by decide +kernel
theorem dX12_copy_55 : decode cX12_copy 55 = .ok (.iload_n 1, 1) := by decide +kernel
theorem dX12_copy_56 : decode cX12_copy 56 = .ok (.iaload, 1) := by decide +kernel
theorem dX12_copy_57 : decode cX12_copy 57 = .ok (.aload_n 0, 1) := by decide +kernel
theorem dX12_copy_58 : decode cX12_copy 58 = .ok (.getfield 7, 3) := by decide +kernel
theorem dX12_copy_61 : decode cX12_copy 61 = .ok (.iload_n 3, 1) := by decide +kernel
theorem dX12_copy_62 : decode cX12_copy 62 = .ok (.iaload, 1) := by decide +kernel
theorem dX12_copy_63 : decode cX12_copy 63 = .ok (.if_icmp .eq 9, 3) := by decide +kernel
theorem dX12_copy_66 : decode cX12_copy 66 = .ok (.aload_n 0, 1) := by decide +kernel
theorem dX12_copy_67 : decode cX12_copy 67 = .ok (.iconst 5, 1) := by decide +kernel
theorem dX12_copy_68 : decode cX12_copy 68 = .ok (.invokevirtual 72, 3) := by decide +kernel
theorem dX12_copy_71 : decode cX12_copy 71 = .ok (.ireturn, 1) := by decide +kernel
theorem dX12_copy_72 : decode cX12_copy 72 = .ok (.iload_n 2, 1) := by decide +kernel
theorem dX12_copy_73 : decode cX12_copy 73 = .ok (.ifCond .lt 48, 3) := by decide +kernel
theorem dX12_copy_76 : decode cX12_copy 76 = .ok (.iload 4, 2) := by decide +kernel
theorem dX12_copy_78 : decode cX12_copy 78 = .ok (.ifCond .lt 43, 3) := by decide +kernel
theorem dX12_copy_81 : decode cX12_copy 81 = .ok (.iload 5, 2) := by decide +kernel
theorem dX12_copy_83 : decode cX12_copy 83 = .ok (.ifCond .lt 38, 3) := by decide +kernel
theorem dX12_copy_86 : decode cX12_copy 86 = .ok (.iload_n 2, 1) := by decide +kernel
theorem dX12_copy_87 : decode cX12_copy 87 = .ok (.i2l, 1) := by decide +kernel
theorem dX12_copy_88 : decode cX12_copy 88 = .ok (.iload 5, 2) := by decide +kernel
theorem dX12_copy_90 : decode cX12_copy 90 = .ok (.i2l, 1) := by decide +kernel
theorem dX12_copy_91 : decode cX12_copy 91 = .ok (.ladd, 1) := by decide +kernel
theorem dX12_copy_92 : decode cX12_copy 92 = .ok (.aload_n 0, 1) := by decide +kernel
theorem dX12_copy_93 : decode cX12_copy 93 = .ok (.getfield 13, 3) := by decide +kernel
theorem dX12_copy_96 : decode cX12_copy 96 = .ok (.iload_n 1, 1) := by decide +kernel
theorem dX12_copy_97 : decode cX12_copy 97 = .ok (.iaload, 1) := by decide +kernel
theorem dX12_copy_98 : decode cX12_copy 98 = .ok (.i2l, 1) := by decide +kernel
theorem dX12_copy_99 : decode cX12_copy 99 = .ok (.lcmp, 1) := by decide +kernel
theorem dX12_copy_100 : decode cX12_copy 100 = .ok (.ifCond .gt 21, 3) := by decide +kernel
theorem dX12_copy_103 : decode cX12_copy 103 = .ok (.iload 4, 2) := by decide +kernel
theorem dX12_copy_105 : decode cX12_copy 105 = .ok (.i2l, 1) := by decide +kernel
theorem dX12_copy_106 : decode cX12_copy 106 = .ok (.iload 5, 2) := by decide +kernel
theorem dX12_copy_108 : decode cX12_copy 108 = .ok (.i2l, 1) := by decide +kernel
theorem dX12_copy_109 : decode cX12_copy 109 = .ok (.ladd, 1) := by decide +kernel
theorem dX12_copy_110 : decode cX12_copy 110 = .ok (.aload_n 0, 1) := by decide +kernel
theorem dX12_copy_111 : decode cX12_copy 111 = .ok (.getfield 13, 3) := by decide +kernel
theorem dX12_copy_114 : decode cX12_copy 114 = .ok (.iload_n 3, 1) := by decide +kernel
theorem dX12_copy_115 : decode cX12_copy 115 = .ok (.iaload, 1) := by decide +kernel
theorem dX12_copy_116 : decode cX12_copy 116 = .ok (.i2l, 1) := by decide +kernel
theorem dX12_copy_117 : decode cX12_copy 117 = .ok (.lcmp, 1) := by decide +kernel
theorem dX12_copy_118 : decode cX12_copy 118 = .ok (.ifCond .le 9, 3) := by decide +kernel
theorem dX12_copy_121 : decode cX12_copy 121 = .ok (.aload_n 0, 1) := by decide +kernel
theorem dX12_copy_122 : decode cX12_copy 122 = .ok (.iconst 2, 1) := by decide +kernel
theorem dX12_copy_123 : decode cX12_copy 123 = .ok (.invokevirtual 72, 3) := by decide +kernel
theorem dX12_copy_126 : decode cX12_copy 126 = .ok (.ireturn, 1) := by decide +kernel
theorem dX12_copy_127 : decode cX12_copy 127 = .ok (.iload_n 2, 1) := by decide +kernel
theorem dX12_copy_128 : decode cX12_copy 128 = .ok (.iload 4, 2) := by decide +kernel
theorem dX12_copy_130 : decode cX12_copy 130 = .ok (.if_icmp .lt 7, 3) := by decide +kernel
theorem dX12_copy_133 : decode cX12_copy 133 = .ok (.iconst 1, 1) := by decide +kernel
theorem dX12_copy_134 : decode cX12_copy 134 = .ok (.goto 4, 3) := by decide +kernel
theorem dX12_copy_137 : decode cX12_copy 137 = .ok (.iconst 0, 1) := by decide +kernel
theorem dX12_copy_138 : decode cX12_copy 138 = .ok (.istore 6, 2) := by decide +kernel
theorem dX12_copy_140 : decode cX12_copy 140 = .ok (.iconst 0, 1) := by decide +kernel
theorem dX12_copy_141 : decode cX12_copy 141 = .ok (.istore 7, 2) := by decide +kernel
theorem dX12_copy_143 : decode cX12_copy 143 = .ok (.iload 7, 2) := by decide +kernel
theorem dX12_copy_145 : decode cX12_copy 145 = .ok (.iload 5, 2) := by decide +kernel
theorem dX12_copy_147 : decode cX12_copy 147 = .ok (.if_icmp .ge 57, 3) := by decide +kernel
theorem dX12_copy_150 : decode cX12_copy 150 = .ok (.iload 6, 2) := by decide +kernel
theorem dX12_copy_152 : decode cX12_copy 152 = .ok (.ifCond .eq 8, 3) := by decide +kernel
theorem dX12_copy_155 : decode cX12_copy 155 = .ok (.iload 7, 2) := by decide +kernel
theorem dX12_copy_157 : decode cX12_copy 157 = .ok (.goto 10, 3) := by decide +kernel
theorem dX12_copy_160 : decode cX12_copy 160 = .ok (.iload 5, 2) := by decide +kernel
theorem dX12_copy_162 : decode cX12_copy 162 = .ok (.iconst 1, 1) := by decide +kernel
theorem dX12_copy_163 : decode cX12_copy 163 = .ok (.isub, 1) := by decide +kernel
theorem dX12_copy_164 : decode cX12_copy 164 = .ok (.iload 7, 2) := by decide +kernel
theorem dX12_copy_166 : decode cX12_copy 166 = .ok (.isub, 1) := by decide +kernel
theorem dX12_copy_167 : decode cX12_copy 167 = .ok (.istore 8, 2) := by decide +kernel
theorem dX12_copy_169 : decode cX12_copy 169 = .ok (.aload_n 0, 1) := by decide +kernel
theorem dX12_copy_170 : decode cX12_copy 170 = .ok (.getfield 16, 3) := by decide +kernel
theorem dX12_copy_173 : decode cX12_copy 173 = .ok (.bipush 40, 2) := by decide +kernel
theorem dX12_copy_175 : decode cX12_copy 175 = .ok (.iload_n 3, 1) := by decide +kernel
theorem dX12_copy_176 : decode cX12_copy 176 = .ok (.imul, 1) := by decide +kernel
theorem dX12_copy_177 : decode cX12_copy 177 = .ok (.iload 4, 2) := by decide +kernel
theorem dX12_copy_179 : decode cX12_copy 179 = .ok (.iadd, 1) := by decide +kernel
theorem dX12_copy_180 : decode cX12_copy 180 = .ok (.iload 8, 2) := by decide +kernel
theorem dX12_copy_182 : decode cX12_copy 182 = .ok (.iadd, 1) := by decide +kernel
theorem dX12_copy_183 : decode cX12_copy 183 = .ok (.aload_n 0, 1) := by decide +kernel
theorem dX12_copy_184 : decode cX12_copy 184 = .ok (.getfield 16, 3) := by decide +kernel
theorem dX12_copy_187 : decode cX12_copy 187 = .ok (.bipush 40, 2) := by decide +kernel
theorem dX12_copy_189 : decode cX12_copy 189 = .ok (.iload_n 1, 1) := by decide +kernel
theorem dX12_copy_190 : decode cX12_copy 190 = .ok (.imul, 1) := by decide +kernel
theorem dX12_copy_191 : decode cX12_copy 191 = .ok (.iload_n 2, 1) := by decide +kernel
theorem dX12_copy_192 : decode cX12_copy 192 = .ok (.iadd, 1) := by decide +kernel
theorem dX12_copy_193 : decode cX12_copy 193 = .ok (.iload 8, 2) := by decide +kernel
theorem dX12_copy_195 : decode cX12_copy 195 = .ok (.iadd, 1) := by decide +kernel
theorem dX12_copy_196 : decode cX12_copy 196 = .ok (.iaload, 1) := by decide +kernel
theorem dX12_copy_197 : decode cX12_copy 197 = .ok (.iastore, 1) := by decide +kernel
theorem dX12_copy_198 : decode cX12_copy 198 = .ok (.iinc 7 1, 3) := by decide +kernel
theorem dX12_copy_201 : decode cX12_copy 201 = .ok (.goto (-58), 3) := by decide +kernel
theorem dX12_copy_204 : decode cX12_copy 204 = .ok (.iload 5, 2) := by decide +kernel
theorem dX12_copy_206 : decode cX12_copy 206 = .ok (.ireturn, 1) := by decide +kernel
set_option maxRecDepth 20000 in
theorem ggX12_drop_X12_isRow : GoodIn wsX12_drop wsX12_isRow := goodIn_r _ [9, 10, 11, 12, 8, 13] (by decide +kernel) (by decide +kernel)
set_option maxRecDepth 20000 in
theorem gX12_drop_X12_isRow : GoodIn wsX12_drop (va_wsS RX12 65 yX12_isRow wsX12_isRow) := goodIn_app (goodIn_of _ (by decide +kernel)) ggX12_drop_X12_isRow
set_option maxRecDepth 20000 in
theorem ggX12_drop_X12_finding : GoodIn wsX12_drop wsX12_finding := goodIn_r _ [17, 3, 18, 19, 20, 21, 22, 23, 24, 25, 26, 27, 28, 29, 30, 31, 32, 33, 34, 35, 36, 37, 38, 39, 40, 41, 42, 43, 44, 45, 46, 47, 48, 49, 50] (by decide +kernel) (by decide +kernel)
set_option maxRecDepth 20000 in
theorem gX12_drop_X12_finding : GoodIn wsX12_drop (wsV RX12 72 RX12 yX12_finding wsX12_finding) := goodIn_app (goodIn_of _ (by decide +kernel)) ggX12_drop_X12_finding
theorem dX12_drop_0 : decode cX12_drop 0 = .ok (.aload_n 0, 1) := by decide +kernel
theorem dX12_drop_1 : decode cX12_drop 1 = .ok (.iconst 0, 1) := by decide +kernel
theorem dX12_drop_2 : decode cX12_drop 2 = .ok (.putfield 52, 3) := by decide +kernel
theorem dX12_drop_5 : decode cX12_drop 5 = .ok (.iload_n 1, 1) := by decide +kernel
theorem dX12_drop_6 : decode cX12_drop 6 = .ok (.invokestatic 65, 3) := by decide +kernel
theorem dX12_drop_9 : decode cX12_drop 9 = .ok (.ifCond .ne 6, 3) := by decide +kernel
theorem dX12_drop_12 : decode cX12_drop 12 = .ok (.ldc 71, 2) := by decide +kernel
theorem dX12_drop_14 : decode cX12_drop 14 = .ok (.ireturn, 1) := by decide +kernel
theorem dX12_drop_15 : decode cX12_drop 15 = .ok (.aload_n 0, 1) := by decide +kernel
theorem dX12_drop_16 : decode cX12_drop 16 = .ok (.iconst 0, 1) := by decide +kernel
theorem dX12_drop_17 : decode cX12_drop 17 = .ok (.putfield 55, 3) := by decide +kernel
theorem dX12_drop_20 : decode cX12_drop 20 = .ok (.aload_n 0, 1) := by decide +kernel
theorem dX12_drop_21 : decode cX12_drop 21 = .ok (.getfield 7, 3) := by decide +kernel
theorem dX12_drop_24 : decode cX12_drop 24 = .ok (.iload_n 1, 1) := by decide +kernel
theorem dX12_drop_25 : decode cX12_drop 25 = .ok (.iaload, 1) := by decide +kernel
theorem dX12_drop_26 : decode cX12_drop 26 = .ok (.ifCond .ge 9, 3) := by decide +kernel
theorem dX12_drop_29 : decode cX12_drop 29 = .ok (.aload_n 0, 1) := by decide +kernel
theorem dX12_drop_30 : decode cX12_drop 30 = .ok (.iconst 1, 1) := by decide +kernel
theorem dX12_drop_31 : decode cX12_drop 31 = .ok (.invokevirtual 72, 3) := by decide +kernel
theorem dX12_drop_34 : decode cX12_drop 34 = .ok (.ireturn, 1) := by decide +kernel
theorem dX12_drop_35 : decode cX12_drop 35 = .ok (.aload_n 0, 1) := by decide +kernel
theorem dX12_drop_36 : decode cX12_drop 36 = .ok (.getfield 7, 3) := by decide +kernel
theorem dX12_drop_39 : decode cX12_drop 39 = .ok (.iload_n 1, 1) := by decide +kernel
theorem dX12_drop_40 : decode cX12_drop 40 = .ok (.iconst (-1), 1) := by decide +kernel
theorem dX12_drop_41 : decode cX12_drop 41 = .ok (.iastore, 1) := by decide +kernel
theorem dX12_drop_42 : decode cX12_drop 42 = .ok (.aload_n 0, 1) := by decide +kernel
theorem dX12_drop_43 : decode cX12_drop 43 = .ok (.getfield 13, 3) := by decide +kernel
theorem dX12_drop_46 : decode cX12_drop 46 = .ok (.iload_n 1, 1) := by decide +kernel
theorem dX12_drop_47 : decode cX12_drop 47 = .ok (.iaload, 1) := by decide +kernel
theorem dX12_drop_48 : decode cX12_drop 48 = .ok (.ireturn, 1) := by decide +kernel
set_option maxRecDepth 20000 in
theorem ggX12_feed_X12_in : GoodIn wsX12_feed wsX12_in := goodIn_r _ [11] (by decide +kernel) (by decide +kernel)
set_option maxRecDepth 20000 in
theorem gX12_feed_X12_in : GoodIn wsX12_feed (va_wsS RX12 61 yX12_in wsX12_in) := goodIn_app (goodIn_of _ (by decide +kernel)) ggX12_feed_X12_in
theorem dX12_feed_0 : decode cX12_feed 0 = .ok (.aload_n 0, 1) := by decide +kernel
theorem dX12_feed_1 : decode cX12_feed 1 = .ok (.iconst 0, 1) := by decide +kernel
theorem dX12_feed_2 : decode cX12_feed 2 = .ok (.putfield 52, 3) := by decide +kernel
theorem dX12_feed_5 : decode cX12_feed 5 = .ok (.iload_n 3, 1) := by decide +kernel
theorem dX12_feed_6 : decode cX12_feed 6 = .ok (.i2l, 1) := by decide +kernel
theorem dX12_feed_7 : decode cX12_feed 7 = .ok (.lconst 1, 1) := by decide +kernel
theorem dX12_feed_8 : decode cX12_feed 8 = .ok (.ldc2_w 76, 3) := by decide +kernel
theorem dX12_feed_11 : decode cX12_feed 11 = .ok (.invokestatic 61, 3) := by decide +kernel
theorem dX12_feed_14 : decode cX12_feed 14 = .ok (.ifCond .ne 6, 3) := by decide +kernel
theorem dX12_feed_17 : decode cX12_feed 17 = .ok (.ldc 71, 2) := by decide +kernel
theorem dX12_feed_19 : decode cX12_feed 19 = .ok (.ireturn, 1) := by decide +kernel
theorem dX12_feed_20 : decode cX12_feed 20 = .ok (.aload_n 0, 1) := by decide +kernel
theorem dX12_feed_21 : decode cX12_feed 21 = .ok (.getfield 78, 3) := by decide +kernel
theorem dX12_feed_24 : decode cX12_feed 24 = .ok (.iload_n 3, 1) := by decide +kernel
theorem dX12_feed_25 : decode cX12_feed 25 = .ok (.iadd, 1) := by decide +kernel
theorem dX12_feed_26 : decode cX12_feed 26 = .ok (.sipush 500, 3) := by decide +kernel
theorem dX12_feed_29 : decode cX12_feed 29 = .ok (.if_icmp .le 6, 3) := by decide +kernel
theorem dX12_feed_32 : decode cX12_feed 32 = .ok (.ldc 81, 2) := by decide +kernel
theorem dX12_feed_34 : decode cX12_feed 34 = .ok (.ireturn, 1) := by decide +kernel
theorem dX12_feed_35 : decode cX12_feed 35 = .ok (.iload_n 3, 1) := by decide +kernel
theorem dX12_feed_36 : decode cX12_feed 36 = .ok (.iconst 1, 1) := by decide +kernel
theorem dX12_feed_37 : decode cX12_feed 37 = .ok (.isub, 1) := by decide +kernel
theorem dX12_feed_38 : decode cX12_feed 38 = .ok (.istore 4, 2) := by decide +kernel
theorem dX12_feed_40 : decode cX12_feed 40 = .ok (.iload 4, 2) := by decide +kernel
theorem dX12_feed_42 : decode cX12_feed 42 = .ok (.ifCond .lt 40, 3) := by decide +kernel
theorem dX12_feed_45 : decode cX12_feed 45 = .ok (.aload_n 0, 1) := by decide +kernel
theorem dX12_feed_46 : decode cX12_feed 46 = .ok (.getfield 25, 3) := by decide +kernel
theorem dX12_feed_49 : decode cX12_feed 49 = .ok (.aload_n 0, 1) := by decide +kernel
theorem dX12_feed_50 : decode cX12_feed 50 = .ok (.getfield 78, 3) := by decide +kernel
theorem dX12_feed_53 : decode cX12_feed 53 = .ok (.lload_n 1, 1) := by decide +kernel
theorem dX12_feed_54 : decode cX12_feed 54 = .ok (.bipush 8, 2) := by decide +kernel
theorem dX12_feed_56 : decode cX12_feed 56 = .ok (.iload 4, 2) := by decide +kernel
theorem dX12_feed_58 : decode cX12_feed 58 = .ok (.imul, 1) := by decide +kernel
theorem dX12_feed_59 : decode cX12_feed 59 = .ok (.lshr, 1) := by decide +kernel
theorem dX12_feed_60 : decode cX12_feed 60 = .ok (.ldc2_w 82, 3) := by decide +kernel
theorem dX12_feed_63 : decode cX12_feed 63 = .ok (.land, 1) := by decide +kernel
theorem dX12_feed_64 : decode cX12_feed 64 = .ok (.l2i, 1) := by decide +kernel
theorem dX12_feed_65 : decode cX12_feed 65 = .ok (.iastore, 1) := by decide +kernel
theorem dX12_feed_66 : decode cX12_feed 66 = .ok (.aload_n 0, 1) := by decide +kernel
theorem dX12_feed_67 : decode cX12_feed 67 = .ok (.dup, 1) := by decide +kernel
theorem dX12_feed_68 : decode cX12_feed 68 = .ok (.getfield 78, 3) := by decide +kernel
theorem dX12_feed_71 : decode cX12_feed 71 = .ok (.iconst 1, 1) := by decide +kernel
theorem dX12_feed_72 : decode cX12_feed 72 = .ok (.iadd, 1) := by decide +kernel
theorem dX12_feed_73 : decode cX12_feed 73 = .ok (.putfield 78, 3) := by decide +kernel
theorem dX12_feed_76 : decode cX12_feed 76 = .ok (.iinc 4 (-1), 3) := by decide +kernel
theorem dX12_feed_79 : decode cX12_feed 79 = .ok (.goto (-39), 3) := by decide +kernel
theorem dX12_feed_82 : decode cX12_feed 82 = .ok (.aload_n 0, 1) := by decide +kernel
theorem dX12_feed_83 : decode cX12_feed 83 = .ok (.getfield 78, 3) := by decide +kernel
theorem dX12_feed_86 : decode cX12_feed 86 = .ok (.ireturn, 1) := by decide +kernel
theorem dX12_byteAt_0 : decode cX12_byteAt 0 = .ok (.iload_n 1, 1) := by decide +kernel
theorem dX12_byteAt_1 : decode cX12_byteAt 1 = .ok (.aload_n 0, 1) := by decide +kernel
theorem dX12_byteAt_2 : decode cX12_byteAt 2 = .ok (.getfield 84, 3) := by decide +kernel
theorem dX12_byteAt_5 : decode cX12_byteAt 5 = .ok (.if_icmp .ge 12, 3) := by decide +kernel
theorem dX12_byteAt_8 : decode cX12_byteAt 8 = .ok (.aload_n 0, 1) := by decide +kernel
theorem dX12_byteAt_9 : decode cX12_byteAt 9 = .ok (.getfield 25, 3) := by decide +kernel
theorem dX12_byteAt_12 : decode cX12_byteAt 12 = .ok (.iload_n 1, 1) := by decide +kernel
theorem dX12_byteAt_13 : decode cX12_byteAt 13 = .ok (.iaload, 1) := by decide +kernel
theorem dX12_byteAt_14 : decode cX12_byteAt 14 = .ok (.goto 5, 3) := by decide +kernel
theorem dX12_byteAt_17 : decode cX12_byteAt 17 = .ok (.ldc 31, 2) := by decide +kernel
theorem dX12_byteAt_19 : decode cX12_byteAt 19 = .ok (.ireturn, 1) := by decide +kernel
theorem dX12_isLetter_0 : decode cX12_isLetter 0 = .ok (.iload_n 0, 1) := by decide +kernel
theorem dX12_isLetter_1 : decode cX12_isLetter 1 = .ok (.bipush 97, 2) := by decide +kernel
theorem dX12_isLetter_3 : decode cX12_isLetter 3 = .ok (.if_icmp .lt 13, 3) := by decide +kernel
theorem dX12_isLetter_6 : decode cX12_isLetter 6 = .ok (.iload_n 0, 1) := by decide +kernel
theorem dX12_isLetter_7 : decode cX12_isLetter 7 = .ok (.bipush 122, 2) := by decide +kernel
theorem dX12_isLetter_9 : decode cX12_isLetter 9 = .ok (.if_icmp .gt 7, 3) := by decide +kernel
theorem dX12_isLetter_12 : decode cX12_isLetter 12 = .ok (.iconst 1, 1) := by decide +kernel
theorem dX12_isLetter_13 : decode cX12_isLetter 13 = .ok (.goto 4, 3) := by decide +kernel
theorem dX12_isLetter_16 : decode cX12_isLetter 16 = .ok (.iconst 0, 1) := by decide +kernel
theorem dX12_isLetter_17 : decode cX12_isLetter 17 = .ok (.ireturn, 1) := by decide +kernel
theorem dX12_isFigure_0 : decode cX12_isFigure 0 = .ok (.iload_n 0, 1) := by decide +kernel
theorem dX12_isFigure_1 : decode cX12_isFigure 1 = .ok (.bipush 48, 2) := by decide +kernel
theorem dX12_isFigure_3 : decode cX12_isFigure 3 = .ok (.if_icmp .lt 13, 3) := by decide +kernel
theorem dX12_isFigure_6 : decode cX12_isFigure 6 = .ok (.iload_n 0, 1) := by decide +kernel
theorem dX12_isFigure_7 : decode cX12_isFigure 7 = .ok (.bipush 57, 2) := by decide +kernel
theorem dX12_isFigure_9 : decode cX12_isFigure 9 = .ok (.if_icmp .gt 7, 3) := by decide +kernel
theorem dX12_isFigure_12 : decode cX12_isFigure 12 = .ok (.iconst 1, 1) := by decide +kernel
theorem dX12_isFigure_13 : decode cX12_isFigure 13 = .ok (.goto 4, 3) := by decide +kernel
theorem dX12_isFigure_16 : decode cX12_isFigure 16 = .ok (.iconst 0, 1) := by decide +kernel
theorem dX12_isFigure_17 : decode cX12_isFigure 17 = .ok (.ireturn, 1) := by decide +kernel
set_option maxRecDepth 20000 in
theorem ggX12_nextNumber_X12_byteAt : GoodIn wsX12_nextNumber wsX12_byteAt := goodIn_r _ [9, 10, 11, 12, 19, 20, 21, 22, 23, 24, 25, 26, 27, 28, 29, 30, 31, 32, 33, 34, 35, 36, 37, 38, 39, 40, 41, 42, 43, 44, 45, 46, 47, 48, 49, 50] (by decide +kernel) (by decide +kernel)
set_option maxRecDepth 20000 in
theorem gX12_nextNumber_X12_byteAt : GoodIn wsX12_nextNumber (wsV RX12 90 RX12 yX12_byteAt wsX12_byteAt) := goodIn_app (goodIn_of _ (by decide +kernel)) ggX12_nextNumber_X12_byteAt
set_option maxRecDepth 20000 in
theorem ggX12_nextNumber_X12_isFigure : GoodIn wsX12_nextNumber wsX12_isFigure := goodIn_r _ [15] (by decide +kernel) (by decide +kernel)
set_option maxRecDepth 20000 in
theorem gX12_nextNumber_X12_isFigure : GoodIn wsX12_nextNumber (va_wsS RX12 96 yX12_isFigure wsX12_isFigure) := goodIn_app (goodIn_of _ (by decide +kernel)) ggX12_nextNumber_X12_isFigure
set_option maxRecDepth 20000 in
theorem ggX12_nextNumber_X12_in : GoodIn wsX12_nextNumber wsX12_in := goodIn_r _ [18] (by decide +kernel) (by decide +kernel)
set_option maxRecDepth 20000 in
theorem gX12_nextNumber_X12_in : GoodIn wsX12_nextNumber (va_wsS RX12 61 yX12_in wsX12_in) := goodIn_app (goodIn_of _ (by decide +kernel)) ggX12_nextNumber_X12_in
theorem dX12_nextNumber_0 : decode cX12_nextNumber 0 = .ok (.aload_n 0, 1) := by decide +kernel
theorem dX12_nextNumber_1 : decode cX12_nextNumber 1 = .ok (.aload_n 0, 1) := by decide +kernel
theorem dX12_nextNumber_2 : decode cX12_nextNumber 2 = .ok (.getfield 87, 3) := by decide +kernel
theorem dX12_nextNumber_5 : decode cX12_nextNumber 5 = .ok (.invokevirtual 90, 3) := by decide +kernel
theorem dX12_nextNumber_8 : decode cX12_nextNumber 8 = .ok (.bipush 45, 2) := by decide +kernel
theorem dX12_nextNumber_10 : decode cX12_nextNumber 10 = .ok (.if_icmp .ne 7, 3) := by decide +kernel
theorem dX12_nextNumber_13 : decode cX12_nextNumber 13 = .ok (.iconst 1, 1) := by decide +kernel
theorem dX12_nextNumber_14 : decode cX12_nextNumber 14 = .ok (.goto 4, 3) := by decide +kernel
theorem dX12_nextNumber_17 : decode cX12_nextNumber 17 = .ok (.iconst 0, 1) := by decide +kernel
theorem dX12_nextNumber_18 : decode cX12_nextNumber 18 = .ok (.istore_n 1, 1) := by decide +kernel
theorem dX12_nextNumber_19 : decode cX12_nextNumber 19 = .ok (.aload_n 0, 1) := by decide +kernel
theorem dX12_nextNumber_20 : decode cX12_nextNumber 20 = .ok (.dup, 1) := by decide +kernel
theorem dX12_nextNumber_21 : decode cX12_nextNumber 21 = .ok (.getfield 87, 3) := by decide +kernel
theorem dX12_nextNumber_24 : decode cX12_nextNumber 24 = .ok (.iload_n 1, 1) := by decide +kernel
theorem dX12_nextNumber_25 : decode cX12_nextNumber 25 = .ok (.ifCond .eq 7, 3) := by decide +kernel
theorem dX12_nextNumber_28 : decode cX12_nextNumber 28 = .ok (.iconst 1, 1) := by decide +kernel
theorem dX12_nextNumber_29 : decode cX12_nextNumber 29 = .ok (.goto 4, 3) := by decide +kernel
theorem dX12_nextNumber_32 : decode cX12_nextNumber 32 = .ok (.iconst 0, 1) := by decide +kernel
theorem dX12_nextNumber_33 : decode cX12_nextNumber 33 = .ok (.iadd, 1) := by decide +kernel
theorem dX12_nextNumber_34 : decode cX12_nextNumber 34 = .ok (.putfield 87, 3) := by decide +kernel
theorem dX12_nextNumber_37 : decode cX12_nextNumber 37 = .ok (.aload_n 0, 1) := by decide +kernel
theorem dX12_nextNumber_38 : decode cX12_nextNumber 38 = .ok (.getfield 87, 3) := by decide +kernel
theorem dX12_nextNumber_41 : decode cX12_nextNumber 41 = .ok (.istore_n 2, 1) := by decide +kernel
theorem dX12_nextNumber_42 : decode cX12_nextNumber 42 = .ok (.aload_n 0, 1) := by decide +kernel
theorem dX12_nextNumber_43 : decode cX12_nextNumber 43 = .ok (.iconst 0, 1) := by decide +kernel
theorem dX12_nextNumber_44 : decode cX12_nextNumber 44 = .ok (.putfield 93, 3) := by decide +kernel
theorem dX12_nextNumber_47 : decode cX12_nextNumber 47 = .ok (.aload_n 0, 1) := by decide +kernel
theorem dX12_nextNumber_48 : decode cX12_nextNumber 48 = .ok (.aload_n 0, 1) := by decide +kernel
theorem dX12_nextNumber_49 : decode cX12_nextNumber 49 = .ok (.getfield 87, 3) := by decide +kernel
theorem dX12_nextNumber_52 : decode cX12_nextNumber 52 = .ok (.invokevirtual 90, 3) := by decide +kernel
theorem dX12_nextNumber_55 : decode cX12_nextNumber 55 = .ok (.invokestatic 96, 3) := by decide +kernel
theorem dX12_nextNumber_58 : decode cX12_nextNumber 58 = .ok (.ifCond .eq 56, 3) := by decide +kernel
theorem dX12_nextNumber_61 : decode cX12_nextNumber 61 = .ok (.aload_n 0, 1) := by decide +kernel
theorem dX12_nextNumber_62 : decode cX12_nextNumber 62 = .ok (.aload_n 0, 1) := by decide +kernel
theorem dX12_nextNumber_63 : decode cX12_nextNumber 63 = .ok (.getfield 87, 3) := by decide +kernel
theorem dX12_nextNumber_66 : decode cX12_nextNumber 66 = .ok (.iload_n 2, 1) := by decide +kernel
theorem dX12_nextNumber_67 : decode cX12_nextNumber 67 = .ok (.isub, 1) := by decide +kernel
theorem dX12_nextNumber_68 : decode cX12_nextNumber 68 = .ok (.iconst 4, 1) := by decide +kernel
theorem dX12_nextNumber_69 : decode cX12_nextNumber 69 = .ok (.if_icmp .ge 25, 3) := by decide +kernel
theorem dX12_nextNumber_72 : decode cX12_nextNumber 72 = .ok (.bipush 10, 2) := by decide +kernel
theorem dX12_nextNumber_74 : decode cX12_nextNumber 74 = .ok (.aload_n 0, 1) := by decide +kernel
theorem dX12_nextNumber_75 : decode cX12_nextNumber 75 = .ok (.getfield 93, 3) := by decide +kernel
theorem dX12_nextNumber_78 : decode cX12_nextNumber 78 = .ok (.imul, 1) := by decide +kernel
theorem dX12_nextNumber_79 : decode cX12_nextNumber 79 = .ok (.aload_n 0, 1) := by decide +kernel
theorem dX12_nextNumber_80 : decode cX12_nextNumber 80 = .ok (.aload_n 0, 1) := by decide +kernel
theorem dX12_nextNumber_81 : decode cX12_nextNumber 81 = .ok (.getfield 87, 3) := by decide +kernel
theorem dX12_nextNumber_84 : decode cX12_nextNumber 84 = .ok (.invokevirtual 90, 3) := by decide +kernel
theorem dX12_nextNumber_87 : decode cX12_nextNumber 87 = .ok (.iadd, 1) := by decide +kernel
theorem dX12_nextNumber_88 : decode cX12_nextNumber 88 = .ok (.bipush 48, 2) := by decide +kernel
theorem dX12_nextNumber_90 : decode cX12_nextNumber 90 = .ok (.isub, 1) := by decide +kernel
theorem dX12_nextNumber_91 : decode cX12_nextNumber 91 = .ok (.goto 7, 3) := by decide +kernel
theorem dX12_nextNumber_94 : decode cX12_nextNumber 94 = .ok (.aload_n 0, 1) := by decide +kernel
theorem dX12_nextNumber_95 : decode cX12_nextNumber 95 = .ok (.getfield 93, 3) := by decide +kernel
theorem dX12_nextNumber_98 : decode cX12_nextNumber 98 = .ok (.putfield 93, 3) := by decide +kernel
theorem dX12_nextNumber_101 : decode cX12_nextNumber 101 = .ok (.aload_n 0, 1) := by decide +kernel
theorem dX12_nextNumber_102 : decode cX12_nextNumber 102 = .ok (.dup, 1) := by decide +kernel
theorem dX12_nextNumber_103 : decode cX12_nextNumber 103 = .ok (.getfield 87, 3) := by decide +kernel
theorem dX12_nextNumber_106 : decode cX12_nextNumber 106 = .ok (.iconst 1, 1) := by decide +kernel
theorem dX12_nextNumber_107 : decode cX12_nextNumber 107 = .ok (.iadd, 1) := by decide +kernel
theorem dX12_nextNumber_108 : decode cX12_nextNumber 108 = .ok (.putfield 87, 3) := by decide +kernel
theorem dX12_nextNumber_111 : decode cX12_nextNumber 111 = .ok (.goto (-64), 3) := by decide +kernel
theorem dX12_nextNumber_114 : decode cX12_nextNumber 114 = .ok (.aload_n 0, 1) := by decide +kernel
theorem dX12_nextNumber_115 : decode cX12_nextNumber 115 = .ok (.iload_n 1, 1) := by decide +kernel
theorem dX12_nextNumber_116 : decode cX12_nextNumber 116 = .ok (.ifCond .eq 11, 3) := by decide +kernel
theorem dX12_nextNumber_119 : decode cX12_nextNumber 119 = .ok (.aload_n 0, 1) := by decide +kernel
theorem dX12_nextNumber_120 : decode cX12_nextNumber 120 = .ok (.getfield 93, 3) := by decide +kernel
theorem dX12_nextNumber_123 : decode cX12_nextNumber 123 = .ok (.ineg, 1) := by decide +kernel
theorem dX12_nextNumber_124 : decode cX12_nextNumber 124 = .ok (.goto 7, 3) := by decide +kernel
theorem dX12_nextNumber_127 : decode cX12_nextNumber 127 = .ok (.aload_n 0, 1) := by decide +kernel
theorem dX12_nextNumber_128 : decode cX12_nextNumber 128 = .ok (.getfield 93, 3) := by decide +kernel
theorem dX12_nextNumber_131 : decode cX12_nextNumber 131 = .ok (.putfield 93, 3) := by decide +kernel
theorem dX12_nextNumber_134 : decode cX12_nextNumber 134 = .ok (.aload_n 0, 1) := by decide +kernel
theorem dX12_nextNumber_135 : decode cX12_nextNumber 135 = .ok (.aload_n 0, 1) := by decide +kernel
theorem dX12_nextNumber_136 : decode cX12_nextNumber 136 = .ok (.getfield 87, 3) := by decide +kernel
theorem dX12_nextNumber_139 : decode cX12_nextNumber 139 = .ok (.iload_n 2, 1) := by decide +kernel
theorem dX12_nextNumber_140 : decode cX12_nextNumber 140 = .ok (.isub, 1) := by decide +kernel
theorem dX12_nextNumber_141 : decode cX12_nextNumber 141 = .ok (.i2l, 1) := by decide +kernel
theorem dX12_nextNumber_142 : decode cX12_nextNumber 142 = .ok (.lconst 1, 1) := by decide +kernel
theorem dX12_nextNumber_143 : decode cX12_nextNumber 143 = .ok (.ldc2_w 99, 3) := by decide +kernel
theorem dX12_nextNumber_146 : decode cX12_nextNumber 146 = .ok (.invokestatic 61, 3) := by decide +kernel
theorem dX12_nextNumber_149 : decode cX12_nextNumber 149 = .ok (.ifCond .eq 7, 3) := by decide +kernel
theorem dX12_nextNumber_152 : decode cX12_nextNumber 152 = .ok (.iconst 3, 1) := by decide +kernel
theorem dX12_nextNumber_153 : decode cX12_nextNumber 153 = .ok (.goto 4, 3) := by decide +kernel
theorem dX12_nextNumber_156 : decode cX12_nextNumber 156 = .ok (.iconst 0, 1) := by decide +kernel
theorem dX12_nextNumber_157 : decode cX12_nextNumber 157 = .ok (.putfield 101, 3) := by decide +kernel
theorem dX12_nextNumber_160 : decode cX12_nextNumber 160 = .ok (.return_, 1) := by decide +kernel
set_option maxRecDepth 20000 in
theorem ggX12_next_X12_byteAt : GoodIn wsX12_next wsX12_byteAt := goodIn_r _ [10, 11, 12, 3, 28, 29, 30, 31, 32, 33, 34, 35, 36, 37, 38, 39, 40, 41, 42, 43, 44, 45, 46, 47, 48, 49, 50, 51, 52, 53, 54, 55, 56, 57, 58, 59] (by decide +kernel) (by decide +kernel)
set_option maxRecDepth 20000 in
theorem gX12_next_X12_byteAt : GoodIn wsX12_next (wsV RX12 90 RX12 yX12_byteAt wsX12_byteAt) := goodIn_app (goodIn_of _ (by decide +kernel)) ggX12_next_X12_byteAt
set_option maxRecDepth 20000 in
theorem ggX12_next_X12_isLetter : GoodIn wsX12_next wsX12_isLetter := goodIn_r _ [15] (by decide +kernel) (by decide +kernel)
set_option maxRecDepth 20000 in
theorem gX12_next_X12_isLetter : GoodIn wsX12_next (va_wsS RX12 107 yX12_isLetter wsX12_isLetter) := goodIn_app (goodIn_of _ (by decide +kernel)) ggX12_next_X12_isLetter
set_option maxRecDepth 20000 in
theorem ggX12_next_X12_isFigure : GoodIn wsX12_next wsX12_isFigure := goodIn_r _ [18] (by decide +kernel) (by decide +kernel)
set_option maxRecDepth 20000 in
theorem gX12_next_X12_isFigure : GoodIn wsX12_next (va_wsS RX12 96 yX12_isFigure wsX12_isFigure) := goodIn_app (goodIn_of _ (by decide +kernel)) ggX12_next_X12_isFigure
set_option maxRecDepth 20000 in
theorem ggX12_next_X12_nextNumber : GoodIn wsX12_next wsX12_nextNumber := goodIn_r _ [22, 1, 23, 24, 4, 6, 7, 8, 9, 10, 11, 12, 3, 16, 17, 18, 25, 26, 27, 28, 29, 30, 31, 32, 33, 34, 35, 36, 37, 38, 39, 40, 41, 42, 43, 44, 45, 46, 47, 48, 49, 50, 51, 52, 53, 54, 55, 56, 57, 58, 59] (by decide +kernel) (by decide +kernel)
set_option maxRecDepth 20000 in
theorem gX12_next_X12_nextNumber : GoodIn wsX12_next (wsV RX12 110 RX12 yX12_nextNumber wsX12_nextNumber) := goodIn_app (goodIn_of _ (by decide +kernel)) ggX12_next_X12_nextNumber
theorem dX12_next_0 : decode cX12_next 0 = .ok (.aload_n 0, 1) := by decide +kernel
theorem dX12_next_1 : decode cX12_next 1 = .ok (.aload_n 0, 1) := by decide +kernel
theorem dX12_next_2 : decode cX12_next 2 = .ok (.getfield 87, 3) := by decide +kernel
theorem dX12_next_5 : decode cX12_next 5 = .ok (.invokevirtual 90, 3) := by decide +kernel
theorem dX12_next_8 : decode cX12_next 8 = .ok (.bipush 32, 2) := by decide +kernel
theorem dX12_next_10 : decode cX12_next 10 = .ok (.if_icmp .eq 16, 3) := by decide +kernel
theorem dX12_next_13 : decode cX12_next 13 = .ok (.aload_n 0, 1) := by decide +kernel
theorem dX12_next_14 : decode cX12_next 14 = .ok (.aload_n 0, 1) := by decide +kernel
theorem dX12_next_15 : decode cX12_next 15 = .ok (.getfield 87, 3) := by decide +kernel
theorem dX12_next_18 : decode cX12_next 18 = .ok (.invokevirtual 90, 3) := by decide +kernel
theorem dX12_next_21 : decode cX12_next 21 = .ok (.bipush 10, 2) := by decide +kernel
theorem dX12_next_23 : decode cX12_next 23 = .ok (.if_icmp .ne 16, 3) := by decide +kernel
theorem dX12_next_26 : decode cX12_next 26 = .ok (.aload_n 0, 1) := by decide +kernel
theorem dX12_next_27 : decode cX12_next 27 = .ok (.dup, 1) := by decide +kernel
theorem dX12_next_28 : decode cX12_next 28 = .ok (.getfield 87, 3) := by decide +kernel
theorem dX12_next_31 : decode cX12_next 31 = .ok (.iconst 1, 1) := by decide +kernel
theorem dX12_next_32 : decode cX12_next 32 = .ok (.iadd, 1) := by decide +kernel
theorem dX12_next_33 : decode cX12_next 33 = .ok (.putfield 87, 3) := by decide +kernel
theorem dX12_next_36 : decode cX12_next 36 = .ok (.goto (-36), 3) := by decide +kernel
theorem dX12_next_39 : decode cX12_next 39 = .ok (.aload_n 0, 1) := by decide +kernel
theorem dX12_next_40 : decode cX12_next 40 = .ok (.aload_n 0, 1) := by decide +kernel
theorem dX12_next_41 : decode cX12_next 41 = .ok (.getfield 87, 3) := by decide +kernel
theorem dX12_next_44 : decode cX12_next 44 = .ok (.putfield 104, 3) := by decide +kernel
theorem dX12_next_47 : decode cX12_next 47 = .ok (.aload_n 0, 1) := by decide +kernel
theorem dX12_next_48 : decode cX12_next 48 = .ok (.aload_n 0, 1) := by decide +kernel
theorem dX12_next_49 : decode cX12_next 49 = .ok (.getfield 87, 3) := by decide +kernel
theorem dX12_next_52 : decode cX12_next 52 = .ok (.invokevirtual 90, 3) := by decide +kernel
theorem dX12_next_55 : decode cX12_next 55 = .ok (.istore_n 1, 1) := by decide +kernel
theorem dX12_next_56 : decode cX12_next 56 = .ok (.iload_n 1, 1) := by decide +kernel
theorem dX12_next_57 : decode cX12_next 57 = .ok (.ldc 31, 2) := by decide +kernel
theorem dX12_next_59 : decode cX12_next 59 = .ok (.if_icmp .ne 11, 3) := by decide +kernel
theorem dX12_next_62 : decode cX12_next 62 = .ok (.aload_n 0, 1) := by decide +kernel
theorem dX12_next_63 : decode cX12_next 63 = .ok (.iconst 1, 1) := by decide +kernel
theorem dX12_next_64 : decode cX12_next 64 = .ok (.putfield 101, 3) := by decide +kernel
theorem dX12_next_67 : decode cX12_next 67 = .ok (.goto 90, 3) := by decide +kernel
theorem dX12_next_70 : decode cX12_next 70 = .ok (.iload_n 1, 1) := by decide +kernel
theorem dX12_next_71 : decode cX12_next 71 = .ok (.invokestatic 107, 3) := by decide +kernel
theorem dX12_next_74 : decode cX12_next 74 = .ok (.ifCond .eq 38, 3) := by decide +kernel
theorem dX12_next_77 : decode cX12_next 77 = .ok (.aload_n 0, 1) := by decide +kernel
theorem dX12_next_78 : decode cX12_next 78 = .ok (.aload_n 0, 1) := by decide +kernel
theorem dX12_next_79 : decode cX12_next 79 = .ok (.getfield 87, 3) := by decide +kernel
theorem dX12_next_82 : decode cX12_next 82 = .ok (.invokevirtual 90, 3) := by decide +kernel
theorem dX12_next_85 : decode cX12_next 85 = .ok (.invokestatic 107, 3) := by decide +kernel
theorem dX12_next_88 : decode cX12_next 88 = .ok (.ifCond .eq 16, 3) := by decide +kernel
theorem dX12_next_91 : decode cX12_next 91 = .ok (.aload_n 0, 1) := by decide +kernel
theorem dX12_next_92 : decode cX12_next 92 = .ok (.dup, 1) := by decide +kernel
theorem dX12_next_93 : decode cX12_next 93 = .ok (.getfield 87, 3) := by decide +kernel
theorem dX12_next_96 : decode cX12_next 96 = .ok (.iconst 1, 1) := by decide +kernel
theorem dX12_next_97 : decode cX12_next 97 = .ok (.iadd, 1) := by decide +kernel
theorem dX12_next_98 : decode cX12_next 98 = .ok (.putfield 87, 3) := by decide +kernel
theorem dX12_next_101 : decode cX12_next 101 = .ok (.goto (-24), 3) := by decide +kernel
theorem dX12_next_104 : decode cX12_next 104 = .ok (.aload_n 0, 1) := by decide +kernel
theorem dX12_next_105 : decode cX12_next 105 = .ok (.iconst 2, 1) := by decide +kernel
theorem dX12_next_106 : decode cX12_next 106 = .ok (.putfield 101, 3) := by decide +kernel
theorem dX12_next_109 : decode cX12_next 109 = .ok (.goto 48, 3) := by decide +kernel
theorem dX12_next_112 : decode cX12_next 112 = .ok (.iload_n 1, 1) := by decide +kernel
theorem dX12_next_113 : decode cX12_next 113 = .ok (.invokestatic 96, 3) := by decide +kernel
theorem dX12_next_116 : decode cX12_next 116 = .ok (.ifCond .ne 9, 3) := by decide +kernel
theorem dX12_next_119 : decode cX12_next 119 = .ok (.iload_n 1, 1) := by decide +kernel
theorem dX12_next_120 : decode cX12_next 120 = .ok (.bipush 45, 2) := by decide +kernel
theorem dX12_next_122 : decode cX12_next 122 = .ok (.if_icmp .ne 10, 3) := by decide +kernel
theorem dX12_next_125 : decode cX12_next 125 = .ok (.aload_n 0, 1) := by decide +kernel
theorem dX12_next_126 : decode cX12_next 126 = .ok (.invokevirtual 110, 3) := by decide +kernel
theorem dX12_next_129 : decode cX12_next 129 = .ok (.goto 28, 3) := by decide +kernel
theorem dX12_next_132 : decode cX12_next 132 = .ok (.aload_n 0, 1) := by decide +kernel
theorem dX12_next_133 : decode cX12_next 133 = .ok (.dup, 1) := by decide +kernel
theorem dX12_next_134 : decode cX12_next 134 = .ok (.getfield 87, 3) := by decide +kernel
theorem dX12_next_137 : decode cX12_next 137 = .ok (.iconst 1, 1) := by decide +kernel
theorem dX12_next_138 : decode cX12_next 138 = .ok (.iadd, 1) := by decide +kernel
theorem dX12_next_139 : decode cX12_next 139 = .ok (.putfield 87, 3) := by decide +kernel
theorem dX12_next_142 : decode cX12_next 142 = .ok (.aload_n 0, 1) := by decide +kernel
theorem dX12_next_143 : decode cX12_next 143 = .ok (.iload_n 1, 1) := by decide +kernel
theorem dX12_next_144 : decode cX12_next 144 = .ok (.bipush 59, 2) := by decide +kernel
theorem dX12_next_146 : decode cX12_next 146 = .ok (.if_icmp .ne 7, 3) := by decide +kernel
theorem dX12_next_149 : decode cX12_next 149 = .ok (.iconst 4, 1) := by decide +kernel
theorem dX12_next_150 : decode cX12_next 150 = .ok (.goto 4, 3) := by decide +kernel
theorem dX12_next_153 : decode cX12_next 153 = .ok (.iconst 0, 1) := by decide +kernel
theorem dX12_next_154 : decode cX12_next 154 = .ok (.putfield 101, 3) := by decide +kernel
theorem dX12_next_157 : decode cX12_next 157 = .ok (.aload_n 0, 1) := by decide +kernel
theorem dX12_next_158 : decode cX12_next 158 = .ok (.aload_n 0, 1) := by decide +kernel
theorem dX12_next_159 : decode cX12_next 159 = .ok (.getfield 87, 3) := by decide +kernel
theorem dX12_next_162 : decode cX12_next 162 = .ok (.putfield 113, 3) := by decide +kernel
theorem dX12_next_165 : decode cX12_next 165 = .ok (.return_, 1) := by decide +kernel
theorem dX12_bad_0 : decode cX12_bad 0 = .ok (.aload_n 0, 1) := by decide +kernel
theorem dX12_bad_1 : decode cX12_bad 1 = .ok (.getfield 116, 3) := by decide +kernel
theorem dX12_bad_4 : decode cX12_bad 4 = .ok (.ifCond .ne 16, 3) := by decide +kernel
theorem dX12_bad_7 : decode cX12_bad 7 = .ok (.aload_n 0, 1) := by decide +kernel
theorem dX12_bad_8 : decode cX12_bad 8 = .ok (.iload_n 1, 1) := by decide +kernel
theorem dX12_bad_9 : decode cX12_bad 9 = .ok (.putfield 116, 3) := by decide +kernel
theorem dX12_bad_12 : decode cX12_bad 12 = .ok (.aload_n 0, 1) := by decide +kernel
theorem dX12_bad_13 : decode cX12_bad 13 = .ok (.aload_n 0, 1) := by decide +kernel
theorem dX12_bad_14 : decode cX12_bad 14 = .ok (.getfield 104, 3) := by decide +kernel
theorem dX12_bad_17 : decode cX12_bad 17 = .ok (.putfield 119, 3) := by decide +kernel
theorem dX12_bad_20 : decode cX12_bad 20 = .ok (.return_, 1) := by decide +kernel
set_option maxRecDepth 20000 in
theorem ggX12_must_X12_bad : GoodIn wsX12_must wsX12_bad := goodIn_r _ [6, 1, 7, 8, 38, 39, 40, 41, 42, 43, 44, 45, 46, 47, 48, 49, 50, 51, 52, 53, 54, 55, 56, 57, 58, 59, 60, 61, 62, 63, 64, 65, 66, 67, 68, 69] (by decide +kernel) (by decide +kernel)
set_option maxRecDepth 20000 in
theorem gX12_must_X12_bad : GoodIn wsX12_must (wsV RX12 122 RX12 yX12_bad wsX12_bad) := goodIn_app (goodIn_of _ (by decide +kernel)) ggX12_must_X12_bad
set_option maxRecDepth 20000 in
theorem ggX12_must_X12_next : GoodIn wsX12_must wsX12_next := goodIn_r _ [12, 13, 7, 14, 15, 16, 17, 18, 19, 5, 20, 21, 22, 23, 24, 25, 26, 27, 28, 29, 30, 31, 32, 33, 34, 35, 36, 37, 38, 39, 40, 41, 42, 43, 44, 45, 46, 47, 48, 49, 50, 51, 52, 53, 54, 55, 56, 57, 58, 59, 60, 61, 62, 63, 64, 65, 66, 67, 68, 69] (by decide +kernel) (by decide +kernel)
set_option maxRecDepth 20000 in
theorem gX12_must_X12_next : GoodIn wsX12_must (wsV RX12 126 RX12 yX12_next wsX12_next) := goodIn_app (goodIn_of _ (by decide +kernel)) ggX12_must_X12_next
theorem dX12_must_0 : decode cX12_must 0 = .ok (.iload_n 1, 1) := by decide +kernel
theorem dX12_must_1 : decode cX12_must 1 = .ok (.ifCond .ne 8, 3) := by decide +kernel
theorem dX12_must_4 : decode cX12_must 4 = .ok (.aload_n 0, 1) := by decide +kernel
theorem dX12_must_5 : decode cX12_must 5 = .ok (.iconst 1, 1) := by decide +kernel
theorem dX12_must_6 : decode cX12_must 6 = .ok (.invokevirtual 122, 3) := by decide +kernel
theorem dX12_must_9 : decode cX12_must 9 = .ok (.aload_n 0, 1) := by decide +kernel
theorem dX12_must_10 : decode cX12_must 10 = .ok (.getfield 116, 3) := by decide +kernel
theorem dX12_must_13 : decode cX12_must 13 = .ok (.ifCond .ne 7, 3) := by decide +kernel
theorem dX12_must_16 : decode cX12_must 16 = .ok (.aload_n 0, 1) := by decide +kernel
theorem dX12_must_17 : decode cX12_must 17 = .ok (.invokevirtual 126, 3) := by decide +kernel
theorem dX12_must_20 : decode cX12_must 20 = .ok (.return_, 1) := by decide +kernel
theorem dX12_word_0 : decode cX12_word 0 = .ok (.lconst 0, 1) := by decide +kernel
theorem dX12_word_1 : decode cX12_word 1 = .ok (.lstore_n 1, 1) := by decide +kernel
theorem dX12_word_2 : decode cX12_word 2 = .ok (.aload_n 0, 1) := by decide +kernel
theorem dX12_word_3 : decode cX12_word 3 = .ok (.getfield 104, 3) := by decide +kernel
theorem dX12_word_6 : decode cX12_word 6 = .ok (.istore_n 3, 1) := by decide +kernel
theorem dX12_word_7 : decode cX12_word 7 = .ok (.iload_n 3, 1) := by decide +kernel
theorem dX12_word_8 : decode cX12_word 8 = .ok (.aload_n 0, 1) := by decide +kernel
theorem dX12_word_9 : decode cX12_word 9 = .ok (.getfield 113, 3) := by decide +kernel
theorem dX12_word_12 : decode cX12_word 12 = .ok (.if_icmp .ge 44, 3) := by decide +kernel
theorem dX12_word_15 : decode cX12_word 15 = .ok (.aload_n 0, 1) := by decide +kernel
theorem dX12_word_16 : decode cX12_word 16 = .ok (.getfield 101, 3) := by decide +kernel
theorem dX12_word_19 : decode cX12_word 19 = .ok (.iconst 2, 1) := by decide +kernel
theorem dX12_word_20 : decode cX12_word 20 = .ok (.if_icmp .ne 36, 3) := by decide +kernel
theorem dX12_word_23 : decode cX12_word 23 = .ok (.aload_n 0, 1) := by decide +kernel
theorem dX12_word_24 : decode cX12_word 24 = .ok (.getfield 113, 3) := by decide +kernel
theorem dX12_word_27 : decode cX12_word 27 = .ok (.aload_n 0, 1) := by decide +kernel
theorem dX12_word_28 : decode cX12_word 28 = .ok (.getfield 104, 3) := by decide +kernel
theorem dX12_word_31 : decode cX12_word 31 = .ok (.isub, 1) := by decide +kernel
theorem dX12_word_32 : decode cX12_word 32 = .ok (.bipush 8, 2) := by decide +kernel
theorem dX12_word_34 : decode cX12_word 34 = .ok (.if_icmp .ge 22, 3) := by decide +kernel
theorem dX12_word_37 : decode cX12_word 37 = .ok (.lload_n 1, 1) := by decide +kernel
theorem dX12_word_38 : decode cX12_word 38 = .ok (.bipush 8, 2) := by decide +kernel
theorem dX12_word_40 : decode cX12_word 40 = .ok (.lshl, 1) := by decide +kernel
theorem dX12_word_41 : decode cX12_word 41 = .ok (.aload_n 0, 1) := by decide +kernel
theorem dX12_word_42 : decode cX12_word 42 = .ok (.getfield 25, 3) := by decide +kernel
theorem dX12_word_45 : decode cX12_word 45 = .ok (.iload_n 3, 1) := by decide +kernel
theorem dX12_word_46 : decode cX12_word 46 = .ok (.iaload, 1) := by decide +kernel
theorem dX12_word_47 : decode cX12_word 47 = .ok (.i2l, 1) := by decide +kernel
theorem dX12_word_48 : decode cX12_word 48 = .ok (.lor, 1) := by decide +kernel
theorem dX12_word_49 : decode cX12_word 49 = .ok (.lstore_n 1, 1) := by decide +kernel
theorem dX12_word_50 : decode cX12_word 50 = .ok (.iinc 3 1, 3) := by decide +kernel
theorem dX12_word_53 : decode cX12_word 53 = .ok (.goto (-46), 3) := by decide +kernel
theorem dX12_word_56 : decode cX12_word 56 = .ok (.aload_n 0, 1) := by decide +kernel
theorem dX12_word_57 : decode cX12_word 57 = .ok (.getfield 116, 3) := by decide +kernel
theorem dX12_word_60 : decode cX12_word 60 = .ok (.ifCond .ne 7, 3) := by decide +kernel
theorem dX12_word_63 : decode cX12_word 63 = .ok (.lload_n 1, 1) := by decide +kernel
theorem dX12_word_64 : decode cX12_word 64 = .ok (.goto 4, 3) := by decide +kernel
theorem dX12_word_67 : decode cX12_word 67 = .ok (.lconst 0, 1) := by decide +kernel
theorem dX12_word_68 : decode cX12_word 68 = .ok (.lreturn, 1) := by decide +kernel
set_option maxRecDepth 20000 in
theorem ggX12_number_X12_in : GoodIn wsX12_number wsX12_in := goodIn_r _ [7] (by decide +kernel) (by decide +kernel)
set_option maxRecDepth 20000 in
theorem gX12_number_X12_in : GoodIn wsX12_number (va_wsS RX12 61 yX12_in wsX12_in) := goodIn_app (goodIn_of _ (by decide +kernel)) ggX12_number_X12_in
set_option maxRecDepth 20000 in
theorem ggX12_number_X12_bad : GoodIn wsX12_number wsX12_bad := goodIn_r _ [11, 1, 12, 13, 42, 43, 44, 45, 46, 47, 48, 49, 50, 51, 52, 53, 54, 55, 56, 57, 58, 59, 60, 61, 62, 63, 64, 65, 66, 67, 68, 69, 70, 71, 72, 73] (by decide +kernel) (by decide +kernel)
set_option maxRecDepth 20000 in
theorem gX12_number_X12_bad : GoodIn wsX12_number (wsV RX12 122 RX12 yX12_bad wsX12_bad) := goodIn_app (goodIn_of _ (by decide +kernel)) ggX12_number_X12_bad
set_option maxRecDepth 20000 in
theorem ggX12_number_X12_must : GoodIn wsX12_number wsX12_must := goodIn_r _ [17, 1, 8, 9, 10, 6, 11, 12, 13, 18, 19, 20, 21, 22, 23, 3, 24, 25, 26, 27, 28, 29, 30, 31, 32, 33, 34, 35, 36, 37, 38, 39, 40, 2, 41, 4, 5, 7, 42, 43, 44, 45, 46, 47, 48, 49, 50, 51, 52, 53, 54, 55, 56, 57, 58, 59, 60, 61, 62, 63, 64, 65, 66, 67, 68, 69, 70, 71, 72, 73] (by decide +kernel) (by decide +kernel)
set_option maxRecDepth 20000 in
theorem gX12_number_X12_must : GoodIn wsX12_number (wsV RX12 129 RX12 yX12_must wsX12_must) := goodIn_app (goodIn_of _ (by decide +kernel)) ggX12_number_X12_must
theorem dX12_number_0 : decode cX12_number 0 = .ok (.aload_n 0, 1) := by decide +kernel
theorem dX12_number_1 : decode cX12_number 1 = .ok (.getfield 116, 3) := by decide +kernel
theorem dX12_number_4 : decode cX12_number 4 = .ok (.ifCond .le 5, 3) := by decide +kernel
theorem dX12_number_7 : decode cX12_number 7 = .ok (.iconst 0, 1) := by decide +kernel
theorem dX12_number_8 : decode cX12_number 8 = .ok (.ireturn, 1) := by decide +kernel
theorem dX12_number_9 : decode cX12_number 9 = .ok (.aload_n 0, 1) := by decide +kernel
theorem dX12_number_10 : decode cX12_number 10 = .ok (.getfield 93, 3) := by decide +kernel
theorem dX12_number_13 : decode cX12_number 13 = .ok (.istore_n 3, 1) := by decide +kernel
theorem dX12_number_14 : decode cX12_number 14 = .ok (.aload_n 0, 1) := by decide +kernel
theorem dX12_number_15 : decode cX12_number 15 = .ok (.getfield 101, 3) := by decide +kernel
theorem dX12_number_18 : decode cX12_number 18 = .ok (.iconst 3, 1) := by decide +kernel
theorem dX12_number_19 : decode cX12_number 19 = .ok (.if_icmp .ne 20, 3) := by decide +kernel
theorem dX12_number_22 : decode cX12_number 22 = .ok (.iload_n 3, 1) := by decide +kernel
theorem dX12_number_23 : decode cX12_number 23 = .ok (.i2l, 1) := by decide +kernel
theorem dX12_number_24 : decode cX12_number 24 = .ok (.iload_n 1, 1) := by decide +kernel
theorem dX12_number_25 : decode cX12_number 25 = .ok (.i2l, 1) := by decide +kernel
theorem dX12_number_26 : decode cX12_number 26 = .ok (.iload_n 2, 1) := by decide +kernel
theorem dX12_number_27 : decode cX12_number 27 = .ok (.i2l, 1) := by decide +kernel
theorem dX12_number_28 : decode cX12_number 28 = .ok (.invokestatic 61, 3) := by decide +kernel
theorem dX12_number_31 : decode cX12_number 31 = .ok (.ifCond .ne 8, 3) := by decide +kernel
theorem dX12_number_34 : decode cX12_number 34 = .ok (.aload_n 0, 1) := by decide +kernel
theorem dX12_number_35 : decode cX12_number 35 = .ok (.iconst 2, 1) := by decide +kernel
theorem dX12_number_36 : decode cX12_number 36 = .ok (.invokevirtual 122, 3) := by decide +kernel
theorem dX12_number_39 : decode cX12_number 39 = .ok (.aload_n 0, 1) := by decide +kernel
theorem dX12_number_40 : decode cX12_number 40 = .ok (.aload_n 0, 1) := by decide +kernel
theorem dX12_number_41 : decode cX12_number 41 = .ok (.getfield 101, 3) := by decide +kernel
theorem dX12_number_44 : decode cX12_number 44 = .ok (.iconst 3, 1) := by decide +kernel
theorem dX12_number_45 : decode cX12_number 45 = .ok (.if_icmp .ne 7, 3) := by decide +kernel
theorem dX12_number_48 : decode cX12_number 48 = .ok (.iconst 1, 1) := by decide +kernel
theorem dX12_number_49 : decode cX12_number 49 = .ok (.goto 4, 3) := by decide +kernel
theorem dX12_number_52 : decode cX12_number 52 = .ok (.iconst 0, 1) := by decide +kernel
theorem dX12_number_53 : decode cX12_number 53 = .ok (.invokevirtual 129, 3) := by decide +kernel
theorem dX12_number_56 : decode cX12_number 56 = .ok (.iload_n 3, 1) := by decide +kernel
theorem dX12_number_57 : decode cX12_number 57 = .ok (.ireturn, 1) := by decide +kernel
set_option maxRecDepth 20000 in
theorem ggX12_mustWord_X12_word : GoodIn wsX12_mustWord wsX12_word := goodIn_r _ [6, 7, 8, 9, 10, 1, 46, 47, 48, 49, 50, 51, 52, 53, 54, 55, 56, 57, 58, 59, 60, 61, 62, 63, 64, 65, 66, 67, 68, 69, 70, 71, 72, 73, 74, 75, 76, 77] (by decide +kernel) (by decide +kernel)
set_option maxRecDepth 20000 in
theorem gX12_mustWord_X12_word : GoodIn wsX12_mustWord (wsV RX12 133 RX12 yX12_word wsX12_word) := goodIn_app (goodIn_of _ (by decide +kernel)) ggX12_mustWord_X12_word
set_option maxRecDepth 20000 in
theorem ggX12_mustWord_X12_must : GoodIn wsX12_mustWord wsX12_must := goodIn_r _ [14, 1, 15, 16, 17, 5, 18, 7, 19, 20, 21, 22, 23, 24, 25, 9, 8, 26, 27, 28, 29, 30, 10, 31, 32, 33, 34, 35, 36, 37, 38, 39, 40, 41, 42, 43, 44, 45, 46, 47, 48, 49, 50, 51, 52, 53, 54, 55, 56, 57, 58, 59, 60, 61, 62, 63, 64, 65, 66, 67, 68, 69, 70, 71, 72, 73, 74, 75, 76, 77] (by decide +kernel) (by decide +kernel)
set_option maxRecDepth 20000 in
theorem gX12_mustWord_X12_must : GoodIn wsX12_mustWord (wsV RX12 129 RX12 yX12_must wsX12_must) := goodIn_app (goodIn_of _ (by decide +kernel)) ggX12_mustWord_X12_must
theorem dX12_mustWord_0 : decode cX12_mustWord 0 = .ok (.aload_n 0, 1) := by decide +kernel
theorem dX12_mustWord_1 : decode cX12_mustWord 1 = .ok (.getfield 116, 3) := by decide +kernel
theorem dX12_mustWord_4 : decode cX12_mustWord 4 = .ok (.ifCond .ne 21, 3) := by decide +kernel
theorem dX12_mustWord_7 : decode cX12_mustWord 7 = .ok (.aload_n 0, 1) := by decide +kernel
theorem dX12_mustWord_8 : decode cX12_mustWord 8 = .ok (.aload_n 0, 1) := by decide +kernel
theorem dX12_mustWord_9 : decode cX12_mustWord 9 = .ok (.invokevirtual 133, 3) := by decide +kernel
theorem dX12_mustWord_12 : decode cX12_mustWord 12 = .ok (.lload_n 1, 1) := by decide +kernel
theorem dX12_mustWord_13 : decode cX12_mustWord 13 = .ok (.lcmp, 1) := by decide +kernel
theorem dX12_mustWord_14 : decode cX12_mustWord 14 = .ok (.ifCond .ne 7, 3) := by decide +kernel
theorem dX12_mustWord_17 : decode cX12_mustWord 17 = .ok (.iconst 1, 1) := by decide +kernel
theorem dX12_mustWord_18 : decode cX12_mustWord 18 = .ok (.goto 4, 3) := by decide +kernel
theorem dX12_mustWord_21 : decode cX12_mustWord 21 = .ok (.iconst 0, 1) := by decide +kernel
theorem dX12_mustWord_22 : decode cX12_mustWord 22 = .ok (.invokevirtual 129, 3) := by decide +kernel
theorem dX12_mustWord_25 : decode cX12_mustWord 25 = .ok (.return_, 1) := by decide +kernel
set_option maxRecDepth 20000 in
theorem ggX12_mustEnd_X12_must : GoodIn wsX12_mustEnd wsX12_must := goodIn_r _ [7, 1, 8, 9, 10, 6, 11, 12, 13, 14, 15, 16, 17, 18, 19, 2, 20, 21, 22, 23, 24, 25, 26, 27, 28, 29, 30, 31, 32, 33, 34, 35, 36, 37, 38, 39, 40, 41, 42, 43, 44, 45, 46, 47, 48, 49, 50, 51, 52, 53, 54, 55, 56, 57, 58, 59, 60, 61, 62, 63, 64, 65, 66, 67, 68, 69, 70, 71, 72, 73] (by decide +kernel) (by decide +kernel)
set_option maxRecDepth 20000 in
theorem gX12_mustEnd_X12_must : GoodIn wsX12_mustEnd (wsV RX12 129 RX12 yX12_must wsX12_must) := goodIn_app (goodIn_of _ (by decide +kernel)) ggX12_mustEnd_X12_must
theorem dX12_mustEnd_0 : decode cX12_mustEnd 0 = .ok (.aload_n 0, 1) := by decide +kernel
theorem dX12_mustEnd_1 : decode cX12_mustEnd 1 = .ok (.getfield 116, 3) := by decide +kernel
theorem dX12_mustEnd_4 : decode cX12_mustEnd 4 = .ok (.ifCond .ne 20, 3) := by decide +kernel
theorem dX12_mustEnd_7 : decode cX12_mustEnd 7 = .ok (.aload_n 0, 1) := by decide +kernel
theorem dX12_mustEnd_8 : decode cX12_mustEnd 8 = .ok (.aload_n 0, 1) := by decide +kernel
theorem dX12_mustEnd_9 : decode cX12_mustEnd 9 = .ok (.getfield 101, 3) := by decide +kernel
theorem dX12_mustEnd_12 : decode cX12_mustEnd 12 = .ok (.iconst 4, 1) := by decide +kernel
theorem dX12_mustEnd_13 : decode cX12_mustEnd 13 = .ok (.if_icmp .ne 7, 3) := by decide +kernel
theorem dX12_mustEnd_16 : decode cX12_mustEnd 16 = .ok (.iconst 1, 1) := by decide +kernel
theorem dX12_mustEnd_17 : decode cX12_mustEnd 17 = .ok (.goto 4, 3) := by decide +kernel
theorem dX12_mustEnd_20 : decode cX12_mustEnd 20 = .ok (.iconst 0, 1) := by decide +kernel
theorem dX12_mustEnd_21 : decode cX12_mustEnd 21 = .ok (.invokevirtual 129, 3) := by decide +kernel
theorem dX12_mustEnd_24 : decode cX12_mustEnd 24 = .ok (.return_, 1) := by decide +kernel
theorem dX12_whatOf_0 : decode cX12_whatOf 0 = .ok (.lload_n 0, 1) := by decide +kernel
theorem dX12_whatOf_1 : decode cX12_whatOf 1 = .ok (.ldc2_w 137, 3) := by decide +kernel
theorem dX12_whatOf_4 : decode cX12_whatOf 4 = .ok (.lcmp, 1) := by decide +kernel
theorem dX12_whatOf_5 : decode cX12_whatOf 5 = .ok (.ifCond .ne 7, 3) := by decide +kernel
theorem dX12_whatOf_8 : decode cX12_whatOf 8 = .ok (.iconst 0, 1) := by decide +kernel
theorem dX12_whatOf_9 : decode cX12_whatOf 9 = .ok (.goto 41, 3) := by decide +kernel
theorem dX12_whatOf_12 : decode cX12_whatOf 12 = .ok (.lload_n 0, 1) := by decide +kernel
theorem dX12_whatOf_13 : decode cX12_whatOf 13 = .ok (.ldc2_w 139, 3) := by decide +kernel
theorem dX12_whatOf_16 : decode cX12_whatOf 16 = .ok (.lcmp, 1) := by decide +kernel
theorem dX12_whatOf_17 : decode cX12_whatOf 17 = .ok (.ifCond .ne 7, 3) := by decide +kernel
theorem dX12_whatOf_20 : decode cX12_whatOf 20 = .ok (.iconst 1, 1) := by decide +kernel
theorem dX12_whatOf_21 : decode cX12_whatOf 21 = .ok (.goto 29, 3) := by decide +kernel
theorem dX12_whatOf_24 : decode cX12_whatOf 24 = .ok (.lload_n 0, 1) := by decide +kernel
theorem dX12_whatOf_25 : decode cX12_whatOf 25 = .ok (.ldc2_w 141, 3) := by decide +kernel
theorem dX12_whatOf_28 : decode cX12_whatOf 28 = .ok (.lcmp, 1) := by decide +kernel
theorem dX12_whatOf_29 : decode cX12_whatOf 29 = .ok (.ifCond .ne 7, 3) := by decide +kernel
theorem dX12_whatOf_32 : decode cX12_whatOf 32 = .ok (.iconst 2, 1) := by decide +kernel
theorem dX12_whatOf_33 : decode cX12_whatOf 33 = .ok (.goto 17, 3) := by decide +kernel
theorem dX12_whatOf_36 : decode cX12_whatOf 36 = .ok (.lload_n 0, 1) := by decide +kernel
theorem dX12_whatOf_37 : decode cX12_whatOf 37 = .ok (.ldc2_w 143, 3) := by decide +kernel
theorem dX12_whatOf_40 : decode cX12_whatOf 40 = .ok (.lcmp, 1) := by decide +kernel
theorem dX12_whatOf_41 : decode cX12_whatOf 41 = .ok (.ifCond .ne 7, 3) := by decide +kernel
theorem dX12_whatOf_44 : decode cX12_whatOf 44 = .ok (.iconst 3, 1) := by decide +kernel
theorem dX12_whatOf_45 : decode cX12_whatOf 45 = .ok (.goto 5, 3) := by decide +kernel
theorem dX12_whatOf_48 : decode cX12_whatOf 48 = .ok (.ldc 31, 2) := by decide +kernel
theorem dX12_whatOf_50 : decode cX12_whatOf 50 = .ok (.ireturn, 1) := by decide +kernel
set_option maxRecDepth 20000 in
theorem ggX12_begins_X12_bad : GoodIn wsX12_begins wsX12_bad := goodIn_r _ [6, 7, 8, 9, 43, 44, 45, 46, 47, 48, 49, 50, 51, 52, 53, 54, 55, 56, 57, 58, 59, 60, 61, 62, 63, 64, 65, 66, 67, 68, 69, 70, 71, 72, 73, 74] (by decide +kernel) (by decide +kernel)
set_option maxRecDepth 20000 in
theorem gX12_begins_X12_bad : GoodIn wsX12_begins (wsV RX12 122 RX12 yX12_bad wsX12_bad) := goodIn_app (goodIn_of _ (by decide +kernel)) ggX12_begins_X12_bad
set_option maxRecDepth 20000 in
theorem ggX12_begins_X12_must : GoodIn wsX12_begins wsX12_must := goodIn_r _ [13, 7, 2, 3, 4, 5, 6, 8, 9, 14, 15, 16, 17, 18, 19, 20, 21, 22, 23, 24, 25, 26, 27, 28, 29, 30, 31, 32, 33, 34, 35, 36, 37, 38, 39, 40, 41, 42, 43, 44, 45, 46, 47, 48, 49, 50, 51, 52, 53, 54, 55, 56, 57, 58, 59, 60, 61, 62, 63, 64, 65, 66, 67, 68, 69, 70, 71, 72, 73, 74] (by decide +kernel) (by decide +kernel)
set_option maxRecDepth 20000 in
theorem gX12_begins_X12_must : GoodIn wsX12_begins (wsV RX12 129 RX12 yX12_must wsX12_must) := goodIn_app (goodIn_of _ (by decide +kernel)) ggX12_begins_X12_must
theorem dX12_begins_0 : decode cX12_begins 0 = .ok (.aload_n 0, 1) := by decide +kernel
theorem dX12_begins_1 : decode cX12_begins 1 = .ok (.getfield 22, 3) := by decide +kernel
theorem dX12_begins_4 : decode cX12_begins 4 = .ok (.iload_n 1, 1) := by decide +kernel
theorem dX12_begins_5 : decode cX12_begins 5 = .ok (.iaload, 1) := by decide +kernel
theorem dX12_begins_6 : decode cX12_begins 6 = .ok (.iconst 4, 1) := by decide +kernel
theorem dX12_begins_7 : decode cX12_begins 7 = .ok (.if_icmp .ne 8, 3) := by decide +kernel
theorem dX12_begins_10 : decode cX12_begins 10 = .ok (.aload_n 0, 1) := by decide +kernel
theorem dX12_begins_11 : decode cX12_begins 11 = .ok (.iconst 3, 1) := by decide +kernel
theorem dX12_begins_12 : decode cX12_begins 12 = .ok (.invokevirtual 122, 3) := by decide +kernel
theorem dX12_begins_15 : decode cX12_begins 15 = .ok (.aload_n 0, 1) := by decide +kernel
theorem dX12_begins_16 : decode cX12_begins 16 = .ok (.iconst 1, 1) := by decide +kernel
theorem dX12_begins_17 : decode cX12_begins 17 = .ok (.invokevirtual 129, 3) := by decide +kernel
theorem dX12_begins_20 : decode cX12_begins 20 = .ok (.return_, 1) := by decide +kernel
set_option maxRecDepth 20000 in
theorem ggX12_readDisc_X12_begins : GoodIn wsX12_readDisc wsX12_begins := goodIn_r _ [7, 1, 8, 9, 10, 6, 11, 2, 12, 13, 14, 15, 16, 17, 18, 19, 20, 21, 22, 23, 24, 25, 26, 27, 28, 29, 30, 31, 32, 33, 34, 35, 36, 37, 38, 39, 40, 41, 42, 43, 44, 45, 46, 55, 56, 57, 58, 59, 60, 61, 62, 63, 64, 65, 66, 67, 68, 69, 70, 71, 72, 73, 74, 75, 76, 77, 78, 79, 80, 81, 82, 83, 84, 85, 86] (by decide +kernel) (by decide +kernel)
set_option maxRecDepth 20000 in
theorem gX12_readDisc_X12_begins : GoodIn wsX12_readDisc (wsV RX12 145 RX12 yX12_begins wsX12_begins) := goodIn_app (goodIn_of _ (by decide +kernel)) ggX12_readDisc_X12_begins
set_option maxRecDepth 20000 in
theorem ggX12_readDisc_X12_number : GoodIn wsX12_readDisc wsX12_number := goodIn_r _ [50, 2, 42, 24, 44, 45, 6, 46, 8, 9, 10, 11, 12, 13, 14, 15, 16, 17, 18, 19, 20, 21, 22, 23, 25, 26, 27, 28, 29, 30, 31, 32, 33, 34, 35, 36, 37, 38, 39, 40, 41, 43, 55, 56, 57, 58, 59, 60, 61, 62, 63, 64, 65, 66, 67, 68, 69, 70, 71, 72, 73, 74, 75, 76, 77, 78, 79, 80, 81, 82, 83, 84, 85, 86] (by decide +kernel) (by decide +kernel)
set_option maxRecDepth 20000 in
theorem gX12_readDisc_X12_number : GoodIn wsX12_readDisc (wsV RX12 148 RX12 yX12_number wsX12_number) := goodIn_app (goodIn_of _ (by decide +kernel)) ggX12_readDisc_X12_number
set_option maxRecDepth 20000 in
theorem ggX12_readDisc_X12_mustEnd : GoodIn wsX12_readDisc wsX12_mustEnd := goodIn_r _ [54, 2, 24, 14, 15, 16, 6, 17, 8, 9, 10, 11, 12, 13, 18, 19, 20, 21, 22, 23, 25, 26, 27, 28, 29, 30, 31, 32, 33, 34, 35, 36, 37, 38, 39, 40, 41, 42, 43, 44, 45, 46, 55, 56, 57, 58, 59, 60, 61, 62, 63, 64, 65, 66, 67, 68, 69, 70, 71, 72, 73, 74, 75, 76, 77, 78, 79, 80, 81, 82, 83, 84, 85, 86] (by decide +kernel) (by decide +kernel)
set_option maxRecDepth 20000 in
theorem gX12_readDisc_X12_mustEnd : GoodIn wsX12_readDisc (wsV RX12 152 RX12 yX12_mustEnd wsX12_mustEnd) := goodIn_app (goodIn_of _ (by decide +kernel)) ggX12_readDisc_X12_mustEnd
theorem dX12_readDisc_0 : decode cX12_readDisc 0 = .ok (.aload_n 0, 1) := by decide +kernel
theorem dX12_readDisc_1 : decode cX12_readDisc 1 = .ok (.iconst 0, 1) := by decide +kernel
theorem dX12_readDisc_2 : decode cX12_readDisc 2 = .ok (.invokevirtual 145, 3) := by decide +kernel
theorem dX12_readDisc_5 : decode cX12_readDisc 5 = .ok (.iconst 3, 1) := by decide +kernel

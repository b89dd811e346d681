theorem dX11_gaps_18 : decode cX11_gaps 18 = .ok (.iload_n 1, 1) := by decide +kernel
theorem dX11_gaps_19 : decode cX11_gaps 19 = .ok (.iload_n 2, 1) := by decide +kernel
theorem dX11_gaps_20 : decode cX11_gaps 20 = .ok (.aload_n 0, 1) := by decide +kernel
theorem dX11_gaps_21 : decode cX11_gaps 21 = .ok (.getfield 12, 3) := by decide +kernel
theorem dX11_gaps_24 : decode cX11_gaps 24 = .ok (.getfield 193, 3) := by decide +kernel
theorem dX11_gaps_27 : decode cX11_gaps 27 = .ok (.invokevirtual 236, 3) := by decide +kernel
theorem dX11_gaps_30 : decode cX11_gaps 30 = .ok (.invokevirtual 240, 3) := by decide +kernel
theorem dX11_gaps_33 : decode cX11_gaps 33 = .ok (.ireturn, 1) := by decide +kernel
set_option maxRecDepth 20000 in
theorem ggX11_improve_X11_requireTable : GoodIn wsX11_improve wsX11_requireTable := goodIn_ca (goodIn_r _ [9, 10, 11, 2, 12, 13, 14, 15, 16, 17, 184, 185, 186, 187, 188, 189, 190, 191, 192, 193, 194, 198, 199] (by decide +kernel) (by decide +kernel)) (goodIn_sub (fun _ h => List.mem_cons_of_mem _ (List.mem_append_right _ h)) (by decide +kernel))
set_option maxRecDepth 20000 in
theorem gX11_improve_X11_requireTable : GoodIn wsX11_improve (wsV RX11 190 RX11 yX11_requireTable wsX11_requireTable) := goodIn_app (goodIn_of _ (by decide +kernel)) ggX11_improve_X11_requireTable
set_option maxRecDepth 20000 in
theorem ggX11_improve_X8_hardWishes : GoodIn wsX11_improve wsX8_hardWishes := goodIn_r _ [21, 22, 23, 24, 15, 25, 17, 26, 27, 28, 29, 198, 199] (by decide +kernel) (by decide +kernel)
set_option maxRecDepth 20000 in
theorem gX11_improve_X8_hardWishes : GoodIn wsX11_improve (wsV RX11 214 RX8 yX8_hardWishes wsX8_hardWishes) := goodIn_app (goodIn_of _ (by decide +kernel)) ggX11_improve_X8_hardWishes
set_option maxRecDepth 20000 in
theorem ggX11_improve_X7_take : GoodIn wsX11_improve wsX7_take := goodIn_r _ [34, 35, 36, 37, 38, 15, 39, 17, 40, 41, 42, 33, 43, 44, 45, 46, 47, 48, 49, 50, 51, 52, 53, 54, 55, 56, 57, 58, 59, 60, 61, 62, 63, 64, 65, 66, 67, 68, 23, 24, 25, 69, 27, 28, 29, 70, 71, 72, 73, 74, 75, 76, 77, 200, 201, 202, 203, 204, 205, 206, 207, 208, 209, 210, 211, 198, 199] (by decide +kernel) (by decide +kernel)
set_option maxRecDepth 20000 in
theorem gX11_improve_X7_take : GoodIn wsX11_improve (wsV RX11 206 RX7 yX7_take wsX7_take) := goodIn_app (goodIn_of _ (by decide +kernel)) ggX11_improve_X7_take
set_option maxRecDepth 20000 in
theorem ggX11_improve_X6_seekBest : GoodIn wsX11_improve wsX6_seekBest := goodIn_r _ [82, 83, 84, 85, 86, 87, 88, 89, 90, 91, 92, 93, 81, 94, 95, 96, 97, 15, 98, 99, 37, 38, 39, 17, 100, 75, 76, 77, 101, 102, 103, 104, 105, 106, 107, 108, 109, 110, 111, 112, 113, 114, 115, 116, 117, 118, 119, 120, 121, 122, 23, 24, 25, 123, 27, 28, 29, 124, 125, 126, 127, 26, 128, 129, 130, 131, 132, 133, 134, 135, 33, 136, 47, 35, 45, 50, 46, 51, 52, 53, 54, 55, 44, 137, 138, 139, 140, 141, 142, 143, 144, 145, 146, 147, 148, 149, 150, 198, 199, 195, 196, 197, 200, 201, 202, 203, 204, 205, 206, 207, 208, 209, 210, 211] (by decide +kernel) (by decide +kernel)
set_option maxRecDepth 20000 in
theorem gX11_improve_X6_seekBest : GoodIn wsX11_improve (wsV RX11 243 RX6 yX6_seekBest wsX6_seekBest) := goodIn_app (goodIn_of _ (by decide +kernel)) ggX11_improve_X6_seekBest
set_option maxRecDepth 20000 in
theorem ggX11_improve_X11_beginChange : GoodIn wsX11_improve wsX11_beginChange := goodIn_r _ [154, 155, 2, 156, 157, 158, 159, 160, 161, 162, 163, 164, 165, 87, 88, 89, 166, 167, 168, 169, 170, 171, 172, 173, 174, 175, 176, 177, 184, 185, 186, 187, 188, 189, 190, 191, 192, 193, 194, 198, 199, 212, 213, 214, 215, 216, 217, 218, 219, 220, 221, 222] (by decide +kernel) (by decide +kernel)
set_option maxRecDepth 20000 in
theorem gX11_improve_X11_beginChange : GoodIn wsX11_improve (wsV RX11 110 RX11 yX11_beginChange wsX11_beginChange) := goodIn_app (goodIn_of _ (by decide +kernel)) ggX11_improve_X11_beginChange
set_option maxRecDepth 20000 in
theorem ggX11_improve_X8_putTable : GoodIn wsX11_improve wsX8_putTable := goodIn_r _ [181, 17, 182, 183, 87, 88, 89, 198, 199] (by decide +kernel) (by decide +kernel)
set_option maxRecDepth 20000 in
theorem gX11_improve_X8_putTable : GoodIn wsX11_improve (wsV RX11 174 RX8 yX8_putTable wsX8_putTable) := goodIn_app (goodIn_of _ (by decide +kernel)) ggX11_improve_X8_putTable
theorem dX11_improve_0 : decode cX11_improve 0 = .ok (.aload_n 0, 1) := by decide +kernel
theorem dX11_improve_1 : decode cX11_improve 1 = .ok (.invokevirtual 190, 3) := by decide +kernel
theorem dX11_improve_4 : decode cX11_improve 4 = .ok (.aload_n 0, 1) := by decide +kernel
theorem dX11_improve_5 : decode cX11_improve 5 = .ok (.getfield 26, 3) := by decide +kernel
theorem dX11_improve_8 : decode cX11_improve 8 = .ok (.aload_n 0, 1) := by decide +kernel
theorem dX11_improve_9 : decode cX11_improve 9 = .ok (.getfield 12, 3) := by decide +kernel
theorem dX11_improve_12 : decode cX11_improve 12 = .ok (.aload_n 0, 1) := by decide +kernel
theorem dX11_improve_13 : decode cX11_improve 13 = .ok (.getfield 12, 3) := by decide +kernel
theorem dX11_improve_16 : decode cX11_improve 16 = .ok (.invokevirtual 214, 3) := by decide +kernel
theorem dX11_improve_19 : decode cX11_improve 19 = .ok (.invokevirtual 206, 3) := by decide +kernel
theorem dX11_improve_22 : decode cX11_improve 22 = .ok (.aload_n 0, 1) := by decide +kernel
theorem dX11_improve_23 : decode cX11_improve 23 = .ok (.getfield 40, 3) := by decide +kernel
theorem dX11_improve_26 : decode cX11_improve 26 = .ok (.aload_n 0, 1) := by decide +kernel
theorem dX11_improve_27 : decode cX11_improve 27 = .ok (.getfield 12, 3) := by decide +kernel
theorem dX11_improve_30 : decode cX11_improve 30 = .ok (.aload_n 0, 1) := by decide +kernel
theorem dX11_improve_31 : decode cX11_improve 31 = .ok (.getfield 26, 3) := by decide +kernel
theorem dX11_improve_34 : decode cX11_improve 34 = .ok (.invokevirtual 243, 3) := by decide +kernel
theorem dX11_improve_37 : decode cX11_improve 37 = .ok (.istore_n 1, 1) := by decide +kernel
theorem dX11_improve_38 : decode cX11_improve 38 = .ok (.iload_n 1, 1) := by decide +kernel
theorem dX11_improve_39 : decode cX11_improve 39 = .ok (.ifCond .le 21, 3) := by decide +kernel
theorem dX11_improve_42 : decode cX11_improve 42 = .ok (.aload_n 0, 1) := by decide +kernel
theorem dX11_improve_43 : decode cX11_improve 43 = .ok (.invokevirtual 110, 3) := by decide +kernel
theorem dX11_improve_46 : decode cX11_improve 46 = .ok (.aload_n 0, 1) := by decide +kernel
theorem dX11_improve_47 : decode cX11_improve 47 = .ok (.getfield 12, 3) := by decide +kernel
theorem dX11_improve_50 : decode cX11_improve 50 = .ok (.aload_n 0, 1) := by decide +kernel
theorem dX11_improve_51 : decode cX11_improve 51 = .ok (.getfield 40, 3) := by decide +kernel
theorem dX11_improve_54 : decode cX11_improve 54 = .ok (.getfield 247, 3) := by decide +kernel
theorem dX11_improve_57 : decode cX11_improve 57 = .ok (.invokevirtual 174, 3) := by decide +kernel
theorem dX11_improve_60 : decode cX11_improve 60 = .ok (.iload_n 1, 1) := by decide +kernel
theorem dX11_improve_61 : decode cX11_improve 61 = .ok (.ireturn, 1) := by decide +kernel
set_option maxRecDepth 20000 in
theorem ggX11_most_X1_mostOf : GoodIn wsX11_most wsX1_mostOf := goodIn_r _ [7, 8, 9, 10, 11, 12, 13, 14, 6, 15, 16, 17, 18, 19, 20, 21, 22, 23, 24, 25, 37, 38] (by decide +kernel) (by decide +kernel)
set_option maxRecDepth 20000 in
theorem gX11_most_X1_mostOf : GoodIn wsX11_most (wsV RX11 250 RX1 yX1_mostOf wsX1_mostOf) := goodIn_app (goodIn_of _ (by decide +kernel)) ggX11_most_X1_mostOf
theorem dX11_most_0 : decode cX11_most 0 = .ok (.aload_n 0, 1) := by decide +kernel
theorem dX11_most_1 : decode cX11_most 1 = .ok (.getfield 47, 3) := by decide +kernel
theorem dX11_most_4 : decode cX11_most 4 = .ok (.aload_n 0, 1) := by decide +kernel
theorem dX11_most_5 : decode cX11_most 5 = .ok (.getfield 12, 3) := by decide +kernel
theorem dX11_most_8 : decode cX11_most 8 = .ok (.invokevirtual 250, 3) := by decide +kernel
theorem dX11_most_11 : decode cX11_most 11 = .ok (.ireturn, 1) := by decide +kernel
set_option maxRecDepth 20000 in
theorem ggX11_colour_X11_requireLesson : GoodIn wsX11_colour wsX11_requireLesson := goodIn_ca (goodIn_r _ [8, 9, 10, 2, 11, 12, 13, 14, 15, 16, 60, 61, 62, 63, 64, 65, 66, 67, 68, 69, 70, 72, 73] (by decide +kernel) (by decide +kernel)) (goodIn_sub (fun _ h => List.mem_cons_of_mem _ (List.mem_append_right _ h)) (by decide +kernel))
set_option maxRecDepth 20000 in
theorem gX11_colour_X11_requireLesson : GoodIn wsX11_colour (wsV RX11 120 RX11 yX11_requireLesson wsX11_requireLesson) := goodIn_app (goodIn_of _ (by decide +kernel)) ggX11_colour_X11_requireLesson
set_option maxRecDepth 20000 in
theorem ggX11_colour_X1_paint : GoodIn wsX11_colour wsX1_paint := goodIn_r _ [21, 22, 23, 24, 25, 20, 26, 27, 28, 29, 30, 31, 32, 33, 34, 35, 12, 13, 14, 15, 16, 36, 37, 38, 39, 40, 41, 42, 43, 44, 45, 46, 47, 48, 49, 50, 51, 52, 53, 54, 55, 56, 57, 58, 59, 71, 72, 73] (by decide +kernel) (by decide +kernel)
set_option maxRecDepth 20000 in
theorem gX11_colour_X1_paint : GoodIn wsX11_colour (wsV RX11 254 RX1 yX1_paint wsX1_paint) := goodIn_app (goodIn_of _ (by decide +kernel)) ggX11_colour_X1_paint
theorem dX11_colour_0 : decode cX11_colour 0 = .ok (.aload_n 0, 1) := by decide +kernel
theorem dX11_colour_1 : decode cX11_colour 1 = .ok (.iload_n 1, 1) := by decide +kernel
theorem dX11_colour_2 : decode cX11_colour 2 = .ok (.invokevirtual 120, 3) := by decide +kernel
theorem dX11_colour_5 : decode cX11_colour 5 = .ok (.aload_n 0, 1) := by decide +kernel
theorem dX11_colour_6 : decode cX11_colour 6 = .ok (.getfield 47, 3) := by decide +kernel
theorem dX11_colour_9 : decode cX11_colour 9 = .ok (.aload_n 0, 1) := by decide +kernel
theorem dX11_colour_10 : decode cX11_colour 10 = .ok (.getfield 12, 3) := by decide +kernel
theorem dX11_colour_13 : decode cX11_colour 13 = .ok (.invokevirtual 254, 3) := by decide +kernel
theorem dX11_colour_16 : decode cX11_colour 16 = .ok (.aload_n 0, 1) := by decide +kernel
theorem dX11_colour_17 : decode cX11_colour 17 = .ok (.getfield 47, 3) := by decide +kernel
theorem dX11_colour_20 : decode cX11_colour 20 = .ok (.getfield 257, 3) := by decide +kernel
theorem dX11_colour_23 : decode cX11_colour 23 = .ok (.iload_n 1, 1) := by decide +kernel
theorem dX11_colour_24 : decode cX11_colour 24 = .ok (.iaload, 1) := by decide +kernel
theorem dX11_colour_25 : decode cX11_colour 25 = .ok (.ireturn, 1) := by decide +kernel
set_option maxRecDepth 20000 in
theorem ggX11_setIll_X11_requireRange : GoodIn wsX11_setIll wsX11_requireRange := goodIn_ca (goodIn_r _ [6, 7, 8, 9, 5, 10, 11, 12] (by decide +kernel) (by decide +kernel)) (goodIn_sub (fun _ h => List.mem_cons_of_mem _ (List.mem_append_right _ h)) (by decide +kernel))
set_option maxRecDepth 20000 in
theorem gX11_setIll_X11_requireRange : GoodIn wsX11_setIll (wsV RX11 86 RX11 yX11_requireRange wsX11_requireRange) := goodIn_app (goodIn_of _ (by decide +kernel)) ggX11_setIll_X11_requireRange
set_option maxRecDepth 20000 in
theorem ggX11_setIll_X11_beginChange : GoodIn wsX11_setIll wsX11_beginChange := goodIn_r _ [16, 17, 1, 18, 19, 20, 21, 22, 23, 24, 25, 26, 27, 28, 29, 30, 31, 32, 33, 34, 35, 36, 37, 38, 39, 40, 41, 42, 53, 54, 55, 56, 57, 58, 59, 60, 61, 62, 63, 64, 65, 66, 67, 68, 69, 70, 71, 72, 73, 74, 75, 76] (by decide +kernel) (by decide +kernel)
set_option maxRecDepth 20000 in
theorem gX11_setIll_X11_beginChange : GoodIn wsX11_setIll (wsV RX11 110 RX11 yX11_beginChange wsX11_beginChange) := goodIn_app (goodIn_of _ (by decide +kernel)) ggX11_setIll_X11_beginChange
set_option maxRecDepth 20000 in
theorem ggX11_setIll_X8_putIll : GoodIn wsX11_setIll wsX8_putIll := goodIn_r _ [47, 48, 49, 50, 46, 51, 52, 64, 65] (by decide +kernel) (by decide +kernel)
set_option maxRecDepth 20000 in
theorem gX11_setIll_X8_putIll : GoodIn wsX11_setIll (wsV RX11 260 RX8 yX8_putIll wsX8_putIll) := goodIn_app (goodIn_of _ (by decide +kernel)) ggX11_setIll_X8_putIll
theorem dX11_setIll_0 : decode cX11_setIll 0 = .ok (.aload_n 0, 1) := by decide +kernel
theorem dX11_setIll_1 : decode cX11_setIll 1 = .ok (.iload_n 1, 1) := by decide +kernel
theorem dX11_setIll_2 : decode cX11_setIll 2 = .ok (.bipush 6, 2) := by decide +kernel
theorem dX11_setIll_4 : decode cX11_setIll 4 = .ok (.invokevirtual 86, 3) := by decide +kernel
theorem dX11_setIll_7 : decode cX11_setIll 7 = .ok (.aload_n 0, 1) := by decide +kernel
theorem dX11_setIll_8 : decode cX11_setIll 8 = .ok (.iload_n 2, 1) := by decide +kernel
theorem dX11_setIll_9 : decode cX11_setIll 9 = .ok (.iconst 5, 1) := by decide +kernel
theorem dX11_setIll_10 : decode cX11_setIll 10 = .ok (.invokevirtual 86, 3) := by decide +kernel
theorem dX11_setIll_13 : decode cX11_setIll 13 = .ok (.aload_n 0, 1) := by decide +kernel
theorem dX11_setIll_14 : decode cX11_setIll 14 = .ok (.invokevirtual 110, 3) := by decide +kernel
theorem dX11_setIll_17 : decode cX11_setIll 17 = .ok (.aload_n 0, 1) := by decide +kernel
theorem dX11_setIll_18 : decode cX11_setIll 18 = .ok (.getfield 12, 3) := by decide +kernel
theorem dX11_setIll_21 : decode cX11_setIll 21 = .ok (.iload_n 1, 1) := by decide +kernel
theorem dX11_setIll_22 : decode cX11_setIll 22 = .ok (.iload_n 2, 1) := by decide +kernel
theorem dX11_setIll_23 : decode cX11_setIll 23 = .ok (.iload_n 3, 1) := by decide +kernel
theorem dX11_setIll_24 : decode cX11_setIll 24 = .ok (.invokevirtual 260, 3) := by decide +kernel
theorem dX11_setIll_27 : decode cX11_setIll 27 = .ok (.ireturn, 1) := by decide +kernel
set_option maxRecDepth 20000 in
theorem ggX11_ill_X11_requireRange : GoodIn wsX11_ill wsX11_requireRange := goodIn_ca (goodIn_r _ [9, 10, 11, 12, 8, 13, 14, 15] (by decide +kernel) (by decide +kernel)) (goodIn_sub (fun _ h => List.mem_cons_of_mem _ (List.mem_append_left _ (List.mem_append_right _ h))) (by decide +kernel))
set_option maxRecDepth 20000 in
theorem gX11_ill_X11_requireRange : GoodIn wsX11_ill (wsV RX11 86 RX11 yX11_requireRange wsX11_requireRange) := goodIn_app (goodIn_of _ (by decide +kernel)) ggX11_ill_X11_requireRange
set_option maxRecDepth 20000 in
theorem ggX11_ill_X11_requireTable : GoodIn wsX11_ill wsX11_requireTable := goodIn_ca (goodIn_r _ [19, 20, 21, 2, 22, 23, 24, 25, 26, 27, 95, 96, 97, 98, 99, 100, 101, 102, 103, 104, 105, 111, 112] (by decide +kernel) (by decide +kernel)) (goodIn_sub (fun _ h => List.mem_cons_of_mem _ (List.mem_append_right _ h)) (by decide +kernel))
set_option maxRecDepth 20000 in
theorem gX11_ill_X11_requireTable : GoodIn wsX11_ill (wsV RX11 190 RX11 yX11_requireTable wsX11_requireTable) := goodIn_app (goodIn_of _ (by decide +kernel)) ggX11_ill_X11_requireTable
set_option maxRecDepth 20000 in
theorem ggX11_ill_X2_plan : GoodIn wsX11_ill wsX2_plan := goodIn_r _ [32, 33, 34, 35, 36, 37, 38, 39, 40, 31, 41, 42, 43, 44, 45, 25, 46, 47, 48, 49, 50, 27, 51, 52, 53, 54, 55, 56, 57, 58, 59, 60, 61, 62, 63, 64, 65, 66, 67, 68, 69, 70, 71, 72, 73, 74, 75, 76, 77, 78, 79, 80, 81, 82, 83, 84, 85, 86, 87, 106, 107, 108, 109, 110, 111, 112] (by decide +kernel) (by decide +kernel)
set_option maxRecDepth 20000 in
theorem gX11_ill_X2_plan : GoodIn wsX11_ill (wsV RX11 264 RX2 yX2_plan wsX2_plan) := goodIn_app (goodIn_of _ (by decide +kernel)) ggX11_ill_X2_plan
set_option maxRecDepth 20000 in
theorem ggX11_ill_J6_bitCount_0f7a4 : GoodIn wsX11_ill wsJ6_bitCount_0f7a4 := goodIn_r _ [91, 92, 93, 94] (by decide +kernel) (by decide +kernel)
set_option maxRecDepth 20000 in
theorem gX11_ill_J6_bitCount_0f7a4 : GoodIn wsX11_ill (va_wsS RX11 221 yJ6_bitCount_0f7a4 wsJ6_bitCount_0f7a4) := goodIn_app (goodIn_of _ (by decide +kernel)) ggX11_ill_J6_bitCount_0f7a4
theorem dX11_ill_0 : decode cX11_ill 0 = .ok (.aload_n 0, 1) := by decide +kernel
theorem dX11_ill_1 : decode cX11_ill 1 = .ok (.iload_n 1, 1) := by decide +kernel
theorem dX11_ill_2 : decode cX11_ill 2 = .ok (.iconst 5, 1) := by decide +kernel
theorem dX11_ill_3 : decode cX11_ill 3 = .ok (.invokevirtual 86, 3) := by decide +kernel
theorem dX11_ill_6 : decode cX11_ill 6 = .ok (.aload_n 0, 1) := by decide +kernel
theorem dX11_ill_7 : decode cX11_ill 7 = .ok (.invokevirtual 190, 3) := by decide +kernel
theorem dX11_ill_10 : decode cX11_ill 10 = .ok (.iconst 0, 1) := by decide +kernel
theorem dX11_ill_11 : decode cX11_ill 11 = .ok (.istore_n 3, 1) := by decide +kernel
theorem dX11_ill_12 : decode cX11_ill 12 = .ok (.iload_n 1, 1) := by decide +kernel
theorem dX11_ill_13 : decode cX11_ill 13 = .ok (.iconst 4, 1) := by decide +kernel
theorem dX11_ill_14 : decode cX11_ill 14 = .ok (.imul, 1) := by decide +kernel
theorem dX11_ill_15 : decode cX11_ill 15 = .ok (.istore 4, 2) := by decide +kernel
theorem dX11_ill_17 : decode cX11_ill 17 = .ok (.iload 4, 2) := by decide +kernel
theorem dX11_ill_19 : decode cX11_ill 19 = .ok (.iload_n 1, 1) := by decide +kernel
theorem dX11_ill_20 : decode cX11_ill 20 = .ok (.iconst 1, 1) := by decide +kernel
theorem dX11_ill_21 : decode cX11_ill 21 = .ok (.iadd, 1) := by decide +kernel
theorem dX11_ill_22 : decode cX11_ill 22 = .ok (.iconst 4, 1) := by decide +kernel
theorem dX11_ill_23 : decode cX11_ill 23 = .ok (.imul, 1) := by decide +kernel
theorem dX11_ill_24 : decode cX11_ill 24 = .ok (.if_icmp .ge 49, 3) := by decide +kernel
theorem dX11_ill_27 : decode cX11_ill 27 = .ok (.aload_n 0, 1) := by decide +kernel
theorem dX11_ill_28 : decode cX11_ill 28 = .ok (.getfield 54, 3) := by decide +kernel
theorem dX11_ill_31 : decode cX11_ill 31 = .ok (.aload_n 0, 1) := by decide +kernel
theorem dX11_ill_32 : decode cX11_ill 32 = .ok (.getfield 12, 3) := by decide +kernel
theorem dX11_ill_35 : decode cX11_ill 35 = .ok (.iload 4, 2) := by decide +kernel
theorem dX11_ill_37 : decode cX11_ill 37 = .ok (.invokevirtual 264, 3) := by decide +kernel
theorem dX11_ill_40 : decode cX11_ill 40 = .ok (.iload_n 3, 1) := by decide +kernel
theorem dX11_ill_41 : decode cX11_ill 41 = .ok (.iload_n 2, 1) := by decide +kernel
theorem dX11_ill_42 : decode cX11_ill 42 = .ok (.ifCond .eq 13, 3) := by decide +kernel
theorem dX11_ill_45 : decode cX11_ill 45 = .ok (.aload_n 0, 1) := by decide +kernel
theorem dX11_ill_46 : decode cX11_ill 46 = .ok (.getfield 54, 3) := by decide +kernel
theorem dX11_ill_49 : decode cX11_ill 49 = .ok (.getfield 267, 3) := by decide +kernel
theorem dX11_ill_52 : decode cX11_ill 52 = .ok (.goto 10, 3) := by decide +kernel
theorem dX11_ill_55 : decode cX11_ill 55 = .ok (.aload_n 0, 1) := by decide +kernel
theorem dX11_ill_56 : decode cX11_ill 56 = .ok (.getfield 54, 3) := by decide +kernel
theorem dX11_ill_59 : decode cX11_ill 59 = .ok (.getfield 270, 3) := by decide +kernel
theorem dX11_ill_62 : decode cX11_ill 62 = .ok (.invokestatic 221, 3) := by decide +kernel
theorem dX11_ill_65 : decode cX11_ill 65 = .ok (.iadd, 1) := by decide +kernel
theorem dX11_ill_66 : decode cX11_ill 66 = .ok (.istore_n 3, 1) := by decide +kernel
theorem dX11_ill_67 : decode cX11_ill 67 = .ok (.iinc 4 1, 3) := by decide +kernel
theorem dX11_ill_70 : decode cX11_ill 70 = .ok (.goto (-53), 3) := by decide +kernel
theorem dX11_ill_73 : decode cX11_ill 73 = .ok (.iload_n 3, 1) := by decide +kernel
theorem dX11_ill_74 : decode cX11_ill 74 = .ok (.ireturn, 1) := by decide +kernel
set_option maxRecDepth 20000 in
theorem ggX11_substitute_X11_requireLesson : GoodIn wsX11_substitute wsX11_requireLesson := goodIn_ca (goodIn_r _ [8, 9, 10, 2, 11, 12, 13, 14, 15, 16, 94, 95, 96, 97, 98, 99, 100, 101, 102, 103, 104, 110, 111] (by decide +kernel) (by decide +kernel)) (goodIn_sub (fun _ h => List.mem_cons_of_mem _ (List.mem_append_left _ (List.mem_append_left _ (List.mem_append_right _ h)))) (by decide +kernel))
set_option maxRecDepth 20000 in
theorem gX11_substitute_X11_requireLesson : GoodIn wsX11_substitute (wsV RX11 120 RX11 yX11_requireLesson wsX11_requireLesson) := goodIn_app (goodIn_of _ (by decide +kernel)) ggX11_substitute_X11_requireLesson
set_option maxRecDepth 20000 in
theorem ggX11_substitute_X11_requireRange : GoodIn wsX11_substitute wsX11_requireRange := goodIn_ca (goodIn_r _ [20, 21, 22, 23, 7, 24, 25, 26] (by decide +kernel) (by decide +kernel)) (goodIn_sub (fun _ h => List.mem_cons_of_mem _ (List.mem_append_left _ (List.mem_append_right _ h))) (by decide +kernel))
set_option maxRecDepth 20000 in
theorem gX11_substitute_X11_requireRange : GoodIn wsX11_substitute (wsV RX11 86 RX11 yX11_requireRange wsX11_requireRange) := goodIn_app (goodIn_of _ (by decide +kernel)) ggX11_substitute_X11_requireRange
set_option maxRecDepth 20000 in
theorem ggX11_substitute_X11_requireTable : GoodIn wsX11_substitute wsX11_requireTable := goodIn_ca (goodIn_r _ [30, 31, 32, 2, 33, 34, 35, 14, 36, 16, 94, 95, 96, 97, 98, 99, 100, 101, 102, 103, 104, 110, 111] (by decide +kernel) (by decide +kernel)) (goodIn_sub (fun _ h => List.mem_cons_of_mem _ (List.mem_append_right _ h)) (by decide +kernel))
set_option maxRecDepth 20000 in
theorem gX11_substitute_X11_requireTable : GoodIn wsX11_substitute (wsV RX11 190 RX11 yX11_requireTable wsX11_requireTable) := goodIn_app (goodIn_of _ (by decide +kernel)) ggX11_substitute_X11_requireTable
set_option maxRecDepth 20000 in
theorem ggX11_substitute_X2_plan : GoodIn wsX11_substitute wsX2_plan := goodIn_r _ [41, 42, 43, 44, 45, 46, 47, 48, 49, 40, 50, 51, 52, 53, 54, 14, 55, 56, 12, 13, 15, 16, 57, 58, 59, 60, 61, 62, 63, 64, 65, 66, 67, 68, 69, 70, 71, 72, 73, 74, 75, 76, 77, 78, 79, 80, 81, 82, 83, 84, 85, 86, 87, 88, 89, 90, 91, 92, 93, 105, 106, 107, 108, 109, 110, 111] (by decide +kernel) (by decide +kernel)
set_option maxRecDepth 20000 in
theorem gX11_substitute_X2_plan : GoodIn wsX11_substitute (wsV RX11 264 RX2 yX2_plan wsX2_plan) := goodIn_app (goodIn_of _ (by decide +kernel)) ggX11_substitute_X2_plan
theorem dX11_substitute_0 : decode cX11_substitute 0 = .ok (.aload_n 0, 1) := by decide +kernel
theorem dX11_substitute_1 : decode cX11_substitute 1 = .ok (.iload_n 1, 1) := by decide +kernel
theorem dX11_substitute_2 : decode cX11_substitute 2 = .ok (.invokevirtual 120, 3) := by decide +kernel
theorem dX11_substitute_5 : decode cX11_substitute 5 = .ok (.aload_n 0, 1) := by decide +kernel
theorem dX11_substitute_6 : decode cX11_substitute 6 = .ok (.iload_n 2, 1) := by decide +kernel
theorem dX11_substitute_7 : decode cX11_substitute 7 = .ok (.bipush 20, 2) := by decide +kernel
theorem dX11_substitute_9 : decode cX11_substitute 9 = .ok (.invokevirtual 86, 3) := by decide +kernel
theorem dX11_substitute_12 : decode cX11_substitute 12 = .ok (.aload_n 0, 1) := by decide +kernel
theorem dX11_substitute_13 : decode cX11_substitute 13 = .ok (.invokevirtual 190, 3) := by decide +kernel
theorem dX11_substitute_16 : decode cX11_substitute 16 = .ok (.aload_n 0, 1) := by decide +kernel
theorem dX11_substitute_17 : decode cX11_substitute 17 = .ok (.getfield 54, 3) := by decide +kernel
theorem dX11_substitute_20 : decode cX11_substitute 20 = .ok (.aload_n 0, 1) := by decide +kernel
theorem dX11_substitute_21 : decode cX11_substitute 21 = .ok (.getfield 12, 3) := by decide +kernel
theorem dX11_substitute_24 : decode cX11_substitute 24 = .ok (.iload_n 2, 1) := by decide +kernel
theorem dX11_substitute_25 : decode cX11_substitute 25 = .ok (.invokevirtual 264, 3) := by decide +kernel
theorem dX11_substitute_28 : decode cX11_substitute 28 = .ok (.aload_n 0, 1) := by decide +kernel
theorem dX11_substitute_29 : decode cX11_substitute 29 = .ok (.getfield 54, 3) := by decide +kernel
theorem dX11_substitute_32 : decode cX11_substitute 32 = .ok (.getfield 273, 3) := by decide +kernel
theorem dX11_substitute_35 : decode cX11_substitute 35 = .ok (.iload_n 1, 1) := by decide +kernel
theorem dX11_substitute_36 : decode cX11_substitute 36 = .ok (.iaload, 1) := by decide +kernel
theorem dX11_substitute_37 : decode cX11_substitute 37 = .ok (.ireturn, 1) := by decide +kernel
set_option maxRecDepth 20000 in
theorem ggX11_takes_X11_requireRange : GoodIn wsX11_takes wsX11_requireRange := goodIn_ca (goodIn_r _ [8, 9, 10, 11, 7, 12, 13, 14] (by decide +kernel) (by decide +kernel)) (goodIn_sub (fun _ h => List.mem_cons_of_mem _ (List.mem_append_left _ (List.mem_append_right _ h))) (by decide +kernel))
set_option maxRecDepth 20000 in
theorem gX11_takes_X11_requireRange : GoodIn wsX11_takes (wsV RX11 86 RX11 yX11_requireRange wsX11_requireRange) := goodIn_app (goodIn_of _ (by decide +kernel)) ggX11_takes_X11_requireRange
set_option maxRecDepth 20000 in
theorem ggX11_takes_X11_requireTable : GoodIn wsX11_takes wsX11_requireTable := goodIn_ca (goodIn_r _ [18, 19, 20, 2, 21, 22, 23, 24, 25, 26, 87, 88, 89, 90, 91, 92, 93, 94, 95, 96, 97, 103, 104] (by decide +kernel) (by decide +kernel)) (goodIn_sub (fun _ h => List.mem_cons_of_mem _ (List.mem_append_right _ h)) (by decide +kernel))
set_option maxRecDepth 20000 in
theorem gX11_takes_X11_requireTable : GoodIn wsX11_takes (wsV RX11 190 RX11 yX11_requireTable wsX11_requireTable) := goodIn_app (goodIn_of _ (by decide +kernel)) ggX11_takes_X11_requireTable
set_option maxRecDepth 20000 in
theorem ggX11_takes_X2_plan : GoodIn wsX11_takes wsX2_plan := goodIn_r _ [31, 32, 33, 34, 35, 36, 37, 38, 39, 30, 40, 41, 42, 43, 44, 24, 45, 46, 47, 48, 49, 26, 50, 51, 52, 53, 54, 55, 56, 57, 58, 59, 60, 61, 62, 63, 64, 65, 66, 67, 68, 69, 70, 71, 72, 73, 74, 75, 76, 77, 78, 79, 80, 81, 82, 83, 84, 85, 86, 98, 99, 100, 101, 102, 103, 104] (by decide +kernel) (by decide +kernel)
set_option maxRecDepth 20000 in
theorem gX11_takes_X2_plan : GoodIn wsX11_takes (wsV RX11 264 RX2 yX2_plan wsX2_plan) := goodIn_app (goodIn_of _ (by decide +kernel)) ggX11_takes_X2_plan
theorem dX11_takes_0 : decode cX11_takes 0 = .ok (.aload_n 0, 1) := by decide +kernel
theorem dX11_takes_1 : decode cX11_takes 1 = .ok (.iload_n 1, 1) := by decide +kernel
theorem dX11_takes_2 : decode cX11_takes 2 = .ok (.bipush 6, 2) := by decide +kernel
theorem dX11_takes_4 : decode cX11_takes 4 = .ok (.invokevirtual 86, 3) := by decide +kernel
theorem dX11_takes_7 : decode cX11_takes 7 = .ok (.aload_n 0, 1) := by decide +kernel
theorem dX11_takes_8 : decode cX11_takes 8 = .ok (.invokevirtual 190, 3) := by decide +kernel
theorem dX11_takes_11 : decode cX11_takes 11 = .ok (.iconst 0, 1) := by decide +kernel
theorem dX11_takes_12 : decode cX11_takes 12 = .ok (.istore_n 2, 1) := by decide +kernel
theorem dX11_takes_13 : decode cX11_takes 13 = .ok (.iconst 0, 1) := by decide +kernel
theorem dX11_takes_14 : decode cX11_takes 14 = .ok (.istore_n 3, 1) := by decide +kernel
theorem dX11_takes_15 : decode cX11_takes 15 = .ok (.iload_n 3, 1) := by decide +kernel
theorem dX11_takes_16 : decode cX11_takes 16 = .ok (.bipush 20, 2) := by decide +kernel
theorem dX11_takes_18 : decode cX11_takes 18 = .ok (.if_icmp .ge 37, 3) := by decide +kernel
theorem dX11_takes_21 : decode cX11_takes 21 = .ok (.aload_n 0, 1) := by decide +kernel
theorem dX11_takes_22 : decode cX11_takes 22 = .ok (.getfield 54, 3) := by decide +kernel
theorem dX11_takes_25 : decode cX11_takes 25 = .ok (.aload_n 0, 1) := by decide +kernel
theorem dX11_takes_26 : decode cX11_takes 26 = .ok (.getfield 12, 3) := by decide +kernel
theorem dX11_takes_29 : decode cX11_takes 29 = .ok (.iload_n 3, 1) := by decide +kernel
theorem dX11_takes_30 : decode cX11_takes 30 = .ok (.invokevirtual 264, 3) := by decide +kernel
theorem dX11_takes_33 : decode cX11_takes 33 = .ok (.iload_n 2, 1) := by decide +kernel
theorem dX11_takes_34 : decode cX11_takes 34 = .ok (.aload_n 0, 1) := by decide +kernel
theorem dX11_takes_35 : decode cX11_takes 35 = .ok (.getfield 54, 3) := by decide +kernel
theorem dX11_takes_38 : decode cX11_takes 38 = .ok (.getfield 276, 3) := by decide +kernel
theorem dX11_takes_41 : decode cX11_takes 41 = .ok (.iload_n 1, 1) := by decide +kernel
theorem dX11_takes_42 : decode cX11_takes 42 = .ok (.ishr, 1) := by decide +kernel
theorem dX11_takes_43 : decode cX11_takes 43 = .ok (.iconst 1, 1) := by decide +kernel
theorem dX11_takes_44 : decode cX11_takes 44 = .ok (.iand, 1) := by decide +kernel
theorem dX11_takes_45 : decode cX11_takes 45 = .ok (.iconst 1, 1) := by decide +kernel
theorem dX11_takes_46 : decode cX11_takes 46 = .ok (.ixor, 1) := by decide +kernel
theorem dX11_takes_47 : decode cX11_takes 47 = .ok (.iadd, 1) := by decide +kernel
theorem dX11_takes_48 : decode cX11_takes 48 = .ok (.istore_n 2, 1) := by decide +kernel
theorem dX11_takes_49 : decode cX11_takes 49 = .ok (.iinc 3 1, 3) := by decide +kernel
theorem dX11_takes_52 : decode cX11_takes 52 = .ok (.goto (-37), 3) := by decide +kernel
theorem dX11_takes_55 : decode cX11_takes 55 = .ok (.iload_n 2, 1) := by decide +kernel
theorem dX11_takes_56 : decode cX11_takes 56 = .ok (.ireturn, 1) := by decide +kernel
set_option maxRecDepth 20000 in
theorem ggX11_setApart_X11_requireRange : GoodIn wsX11_setApart wsX11_requireRange := goodIn_ca (goodIn_r _ [8, 9, 10, 11, 7, 12, 1, 2] (by decide +kernel) (by decide +kernel)) (goodIn_sub (fun _ h => List.mem_cons_of_mem _ (List.mem_append_right _ h)) (by decide +kernel))
set_option maxRecDepth 20000 in
theorem gX11_setApart_X11_requireRange : GoodIn wsX11_setApart (wsV RX11 86 RX11 yX11_requireRange wsX11_requireRange) := goodIn_app (goodIn_of _ (by decide +kernel)) ggX11_setApart_X11_requireRange
set_option maxRecDepth 20000 in
theorem ggX11_setApart_X11_beginChange : GoodIn wsX11_setApart wsX11_beginChange := goodIn_r _ [16, 17, 3, 18, 19, 20, 21, 22, 23, 24, 25, 26, 27, 28, 29, 30, 31, 32, 33, 34, 35, 36, 37, 38, 39, 40, 41, 42, 53, 54, 55, 56, 57, 58, 59, 60, 61, 62, 63, 64, 65, 66, 67, 68, 69, 70, 71, 72, 73, 74, 75, 76] (by decide +kernel) (by decide +kernel)
set_option maxRecDepth 20000 in
theorem gX11_setApart_X11_beginChange : GoodIn wsX11_setApart (wsV RX11 110 RX11 yX11_beginChange wsX11_beginChange) := goodIn_app (goodIn_of _ (by decide +kernel)) ggX11_setApart_X11_beginChange
set_option maxRecDepth 20000 in
theorem ggX11_setApart_X8_putApart : GoodIn wsX11_setApart wsX8_putApart := goodIn_r _ [47, 48, 49, 50, 46, 51, 52, 64, 65] (by decide +kernel) (by decide +kernel)
set_option maxRecDepth 20000 in
theorem gX11_setApart_X8_putApart : GoodIn wsX11_setApart (wsV RX11 281 RX8 yX8_putApart wsX8_putApart) := goodIn_app (goodIn_of _ (by decide +kernel)) ggX11_setApart_X8_putApart
theorem dX11_setApart_0 : decode cX11_setApart 0 = .ok (.aload_n 0, 1) := by decide +kernel
theorem dX11_setApart_1 : decode cX11_setApart 1 = .ok (.iload_n 1, 1) := by decide +kernel
theorem dX11_setApart_2 : decode cX11_setApart 2 = .ok (.bipush 8, 2) := by decide +kernel
theorem dX11_setApart_4 : decode cX11_setApart 4 = .ok (.invokevirtual 86, 3) := by decide +kernel
theorem dX11_setApart_7 : decode cX11_setApart 7 = .ok (.aload_n 0, 1) := by decide +kernel
theorem dX11_setApart_8 : decode cX11_setApart 8 = .ok (.iload_n 2, 1) := by decide +kernel
theorem dX11_setApart_9 : decode cX11_setApart 9 = .ok (.bipush 8, 2) := by decide +kernel
theorem dX11_setApart_11 : decode cX11_setApart 11 = .ok (.invokevirtual 86, 3) := by decide +kernel
theorem dX11_setApart_14 : decode cX11_setApart 14 = .ok (.iload_n 1, 1) := by decide +kernel
theorem dX11_setApart_15 : decode cX11_setApart 15 = .ok (.iload_n 2, 1) := by decide +kernel
theorem dX11_setApart_16 : decode cX11_setApart 16 = .ok (.if_icmp .ne 14, 3) := by decide +kernel
theorem dX11_setApart_19 : decode cX11_setApart 19 = .ok (.new 94, 3) := by decide +kernel
theorem dX11_setApart_22 : decode cX11_setApart 22 = .ok (.dup, 1) := by decide +kernel
theorem dX11_setApart_23 : decode cX11_setApart 23 = .ok (.ldc_w 279, 3) := by decide +kernel
theorem dX11_setApart_26 : decode cX11_setApart 26 = .ok (.invokespecial 98, 3) := by decide +kernel
theorem dX11_setApart_29 : decode cX11_setApart 29 = .ok (.athrow, 1) := by decide +kernel
theorem dX11_setApart_30 : decode cX11_setApart 30 = .ok (.aload_n 0, 1) := by decide +kernel
theorem dX11_setApart_31 : decode cX11_setApart 31 = .ok (.invokevirtual 110, 3) := by decide +kernel
theorem dX11_setApart_34 : decode cX11_setApart 34 = .ok (.aload_n 0, 1) := by decide +kernel
theorem dX11_setApart_35 : decode cX11_setApart 35 = .ok (.getfield 12, 3) := by decide +kernel
theorem dX11_setApart_38 : decode cX11_setApart 38 = .ok (.iload_n 1, 1) := by decide +kernel
theorem dX11_setApart_39 : decode cX11_setApart 39 = .ok (.iload_n 2, 1) := by decide +kernel
theorem dX11_setApart_40 : decode cX11_setApart 40 = .ok (.iload_n 3, 1) := by decide +kernel
theorem dX11_setApart_41 : decode cX11_setApart 41 = .ok (.invokevirtual 281, 3) := by decide +kernel
theorem dX11_setApart_44 : decode cX11_setApart 44 = .ok (.ireturn, 1) := by decide +kernel
set_option maxRecDepth 20000 in
theorem ggX11_daysNeeded_X3_plan : GoodIn wsX11_daysNeeded wsX3_plan := goodIn_r _ [7, 8, 9, 10, 6, 11, 12, 13, 14, 15, 16, 17, 18, 19, 20, 21, 22, 23, 24, 36, 37, 38] (by decide +kernel) (by decide +kernel)
set_option maxRecDepth 20000 in
theorem gX11_daysNeeded_X3_plan : GoodIn wsX11_daysNeeded (wsV RX11 284 RX3 yX3_plan wsX3_plan) := goodIn_app (goodIn_of _ (by decide +kernel)) ggX11_daysNeeded_X3_plan
theorem dX11_daysNeeded_0 : decode cX11_daysNeeded 0 = .ok (.aload_n 0, 1) := by decide +kernel
theorem dX11_daysNeeded_1 : decode cX11_daysNeeded 1 = .ok (.getfield 61, 3) := by decide +kernel
theorem dX11_daysNeeded_4 : decode cX11_daysNeeded 4 = .ok (.aload_n 0, 1) := by decide +kernel
theorem dX11_daysNeeded_5 : decode cX11_daysNeeded 5 = .ok (.getfield 12, 3) := by decide +kernel
theorem dX11_daysNeeded_8 : decode cX11_daysNeeded 8 = .ok (.invokevirtual 284, 3) := by decide +kernel
theorem dX11_daysNeeded_11 : decode cX11_daysNeeded 11 = .ok (.ireturn, 1) := by decide +kernel
set_option maxRecDepth 20000 in
theorem ggX11_examDay_X11_requireRange : GoodIn wsX11_examDay wsX11_requireRange := goodIn_ca (goodIn_r _ [8, 9, 10, 11, 7, 12, 13, 14] (by decide +kernel) (by decide +kernel)) (goodIn_sub (fun _ h => List.mem_cons_of_mem _ (List.mem_append_right _ h)) (by decide +kernel))
set_option maxRecDepth 20000 in
theorem gX11_examDay_X11_requireRange : GoodIn wsX11_examDay (wsV RX11 86 RX11 yX11_requireRange wsX11_requireRange) := goodIn_app (goodIn_of _ (by decide +kernel)) ggX11_examDay_X11_requireRange
set_option maxRecDepth 20000 in
theorem ggX11_examDay_X3_plan : GoodIn wsX11_examDay wsX3_plan := goodIn_r _ [19, 20, 21, 22, 18, 23, 24, 25, 26, 27, 28, 29, 30, 31, 32, 33, 34, 35, 36, 48, 49, 50] (by decide +kernel) (by decide +kernel)
set_option maxRecDepth 20000 in
theorem gX11_examDay_X3_plan : GoodIn wsX11_examDay (wsV RX11 284 RX3 yX3_plan wsX3_plan) := goodIn_app (goodIn_of _ (by decide +kernel)) ggX11_examDay_X3_plan
theorem dX11_examDay_0 : decode cX11_examDay 0 = .ok (.aload_n 0, 1) := by decide +kernel
theorem dX11_examDay_1 : decode cX11_examDay 1 = .ok (.iload_n 1, 1) := by decide +kernel
theorem dX11_examDay_2 : decode cX11_examDay 2 = .ok (.bipush 8, 2) := by decide +kernel
theorem dX11_examDay_4 : decode cX11_examDay 4 = .ok (.invokevirtual 86, 3) := by decide +kernel
theorem dX11_examDay_7 : decode cX11_examDay 7 = .ok (.aload_n 0, 1) := by decide +kernel
theorem dX11_examDay_8 : decode cX11_examDay 8 = .ok (.getfield 61, 3) := by decide +kernel
theorem dX11_examDay_11 : decode cX11_examDay 11 = .ok (.aload_n 0, 1) := by decide +kernel
theorem dX11_examDay_12 : decode cX11_examDay 12 = .ok (.getfield 12, 3) := by decide +kernel
theorem dX11_examDay_15 : decode cX11_examDay 15 = .ok (.invokevirtual 284, 3) := by decide +kernel
theorem dX11_examDay_18 : decode cX11_examDay 18 = .ok (.pop, 1) := by decide +kernel
theorem dX11_examDay_19 : decode cX11_examDay 19 = .ok (.aload_n 0, 1) := by decide +kernel
theorem dX11_examDay_20 : decode cX11_examDay 20 = .ok (.getfield 61, 3) := by decide +kernel
theorem dX11_examDay_23 : decode cX11_examDay 23 = .ok (.getfield 286, 3) := by decide +kernel
theorem dX11_examDay_26 : decode cX11_examDay 26 = .ok (.iload_n 1, 1) := by decide +kernel
theorem dX11_examDay_27 : decode cX11_examDay 27 = .ok (.iaload, 1) := by decide +kernel
theorem dX11_examDay_28 : decode cX11_examDay 28 = .ok (.ireturn, 1) := by decide +kernel
set_option maxRecDepth 20000 in
theorem ggX11_group_X3_greatestGroup : GoodIn wsX11_group wsX3_greatestGroup := goodIn_r _ [7, 8, 9, 10, 11, 12, 13, 14, 15, 16, 17, 6, 18, 19, 20, 21, 22, 23, 24, 36, 37] (by decide +kernel) (by decide +kernel)
set_option maxRecDepth 20000 in
theorem gX11_group_X3_greatestGroup : GoodIn wsX11_group (wsV RX11 289 RX3 yX3_greatestGroup wsX3_greatestGroup) := goodIn_app (goodIn_of _ (by decide +kernel)) ggX11_group_X3_greatestGroup
theorem dX11_group_0 : decode cX11_group 0 = .ok (.aload_n 0, 1) := by decide +kernel
theorem dX11_group_1 : decode cX11_group 1 = .ok (.getfield 61, 3) := by decide +kernel
theorem dX11_group_4 : decode cX11_group 4 = .ok (.aload_n 0, 1) := by decide +kernel
theorem dX11_group_5 : decode cX11_group 5 = .ok (.getfield 12, 3) := by decide +kernel
theorem dX11_group_8 : decode cX11_group 8 = .ok (.invokevirtual 289, 3) := by decide +kernel
theorem dX11_group_11 : decode cX11_group 11 = .ok (.ireturn, 1) := by decide +kernel
set_option maxRecDepth 20000 in
theorem ggX11_setBells_X11_requireRange : GoodIn wsX11_setBells wsX11_requireRange := goodIn_ca (goodIn_r _ [6, 7, 8, 9, 5, 10, 11, 12] (by decide +kernel) (by decide +kernel)) (goodIn_sub (fun _ h => List.mem_cons_of_mem _ (List.mem_append_right _ h)) (by decide +kernel))
set_option maxRecDepth 20000 in
theorem gX11_setBells_X11_requireRange : GoodIn wsX11_setBells (wsV RX11 86 RX11 yX11_requireRange wsX11_requireRange) := goodIn_app (goodIn_of _ (by decide +kernel)) ggX11_setBells_X11_requireRange
set_option maxRecDepth 20000 in
theorem ggX11_setBells_X11_requireBetween : GoodIn wsX11_setBells wsX11_requireBetween := goodIn_ca (goodIn_r _ [10, 11, 12] (by decide +kernel) (by decide +kernel)) (goodIn_sub (fun _ h => List.mem_cons_of_mem _ (List.mem_append_right _ h)) (by decide +kernel))
set_option maxRecDepth 20000 in
theorem gX11_setBells_X11_requireBetween : GoodIn wsX11_setBells (wsV RX11 292 RX11 yX11_requireBetween wsX11_requireBetween) := goodIn_app (goodIn_of _ (by decide +kernel)) ggX11_setBells_X11_requireBetween
set_option maxRecDepth 20000 in
theorem ggX11_setBells_X0_put : GoodIn wsX11_setBells wsX0_put := goodIn_r _ [17, 18, 19, 20, 36, 37, 38] (by decide +kernel) (by decide +kernel)
set_option maxRecDepth 20000 in
theorem gX11_setBells_X0_put : GoodIn wsX11_setBells (wsV RX11 296 RX0 yX0_put wsX0_put) := goodIn_app (goodIn_of _ (by decide +kernel)) ggX11_setBells_X0_put
set_option maxRecDepth 20000 in
theorem ggX11_setBells_X0_minute : GoodIn wsX11_setBells wsX0_minute := goodIn_r _ [24, 18, 19, 20, 36, 37, 38] (by decide +kernel) (by decide +kernel)
set_option maxRecDepth 20000 in
theorem gX11_setBells_X0_minute : GoodIn wsX11_setBells (wsV RX11 300 RX0 yX0_minute wsX0_minute) := goodIn_app (goodIn_of _ (by decide +kernel)) ggX11_setBells_X0_minute
theorem dX11_setBells_0 : decode cX11_setBells 0 = .ok (.aload_n 0, 1) := by decide +kernel
theorem dX11_setBells_1 : decode cX11_setBells 1 = .ok (.iload_n 1, 1) := by decide +kernel
theorem dX11_setBells_2 : decode cX11_setBells 2 = .ok (.iconst 5, 1) := by decide +kernel
theorem dX11_setBells_3 : decode cX11_setBells 3 = .ok (.invokevirtual 86, 3) := by decide +kernel
theorem dX11_setBells_6 : decode cX11_setBells 6 = .ok (.aload_n 0, 1) := by decide +kernel
theorem dX11_setBells_7 : decode cX11_setBells 7 = .ok (.iload_n 2, 1) := by decide +kernel
theorem dX11_setBells_8 : decode cX11_setBells 8 = .ok (.sipush 420, 3) := by decide +kernel
theorem dX11_setBells_11 : decode cX11_setBells 11 = .ok (.sipush 600, 3) := by decide +kernel
theorem dX11_setBells_14 : decode cX11_setBells 14 = .ok (.invokevirtual 292, 3) := by decide +kernel
theorem dX11_setBells_17 : decode cX11_setBells 17 = .ok (.aload_n 0, 1) := by decide +kernel
theorem dX11_setBells_18 : decode cX11_setBells 18 = .ok (.iload_n 3, 1) := by decide +kernel
theorem dX11_setBells_19 : decode cX11_setBells 19 = .ok (.bipush 30, 2) := by decide +kernel
theorem dX11_setBells_21 : decode cX11_setBells 21 = .ok (.bipush 60, 2) := by decide +kernel
theorem dX11_setBells_23 : decode cX11_setBells 23 = .ok (.invokevirtual 292, 3) := by decide +kernel
theorem dX11_setBells_26 : decode cX11_setBells 26 = .ok (.aload_n 0, 1) := by decide +kernel
theorem dX11_setBells_27 : decode cX11_setBells 27 = .ok (.iload 4, 2) := by decide +kernel
theorem dX11_setBells_29 : decode cX11_setBells 29 = .ok (.iconst 0, 1) := by decide +kernel
theorem dX11_setBells_30 : decode cX11_setBells 30 = .ok (.bipush 30, 2) := by decide +kernel
theorem dX11_setBells_32 : decode cX11_setBells 32 = .ok (.invokevirtual 292, 3) := by decide +kernel
theorem dX11_setBells_35 : decode cX11_setBells 35 = .ok (.aload_n 0, 1) := by decide +kernel
theorem dX11_setBells_36 : decode cX11_setBells 36 = .ok (.getfield 68, 3) := by decide +kernel
theorem dX11_setBells_39 : decode cX11_setBells 39 = .ok (.iload_n 1, 1) := by decide +kernel
theorem dX11_setBells_40 : decode cX11_setBells 40 = .ok (.iload_n 2, 1) := by decide +kernel
theorem dX11_setBells_41 : decode cX11_setBells 41 = .ok (.iload_n 3, 1) := by decide +kernel
theorem dX11_setBells_42 : decode cX11_setBells 42 = .ok (.iload 4, 2) := by decide +kernel
theorem dX11_setBells_44 : decode cX11_setBells 44 = .ok (.invokevirtual 296, 3) := by decide +kernel
theorem dX11_setBells_47 : decode cX11_setBells 47 = .ok (.aload_n 0, 1) := by decide +kernel
theorem dX11_setBells_48 : decode cX11_setBells 48 = .ok (.getfield 68, 3) := by decide +kernel
theorem dX11_setBells_51 : decode cX11_setBells 51 = .ok (.iload_n 1, 1) := by decide +kernel
theorem dX11_setBells_52 : decode cX11_setBells 52 = .ok (.iconst 1, 1) := by decide +kernel
theorem dX11_setBells_53 : decode cX11_setBells 53 = .ok (.iadd, 1) := by decide +kernel
theorem dX11_setBells_54 : decode cX11_setBells 54 = .ok (.iconst 4, 1) := by decide +kernel
theorem dX11_setBells_55 : decode cX11_setBells 55 = .ok (.imul, 1) := by decide +kernel
theorem dX11_setBells_56 : decode cX11_setBells 56 = .ok (.iconst 1, 1) := by decide +kernel
theorem dX11_setBells_57 : decode cX11_setBells 57 = .ok (.isub, 1) := by decide +kernel
theorem dX11_setBells_58 : decode cX11_setBells 58 = .ok (.iconst 1, 1) := by decide +kernel
theorem dX11_setBells_59 : decode cX11_setBells 59 = .ok (.invokevirtual 300, 3) := by decide +kernel
theorem dX11_setBells_62 : decode cX11_setBells 62 = .ok (.ireturn, 1) := by decide +kernel
set_option maxRecDepth 20000 in
theorem ggX11_bell_X11_requireRange : GoodIn wsX11_bell wsX11_requireRange := goodIn_ca (goodIn_r _ [6, 7, 8, 9, 5, 10, 11, 12] (by decide +kernel) (by decide +kernel)) (goodIn_sub (fun _ h => List.mem_cons_of_mem _ (List.mem_append_right _ h)) (by decide +kernel))
set_option maxRecDepth 20000 in
theorem gX11_bell_X11_requireRange : GoodIn wsX11_bell (wsV RX11 86 RX11 yX11_requireRange wsX11_requireRange) := goodIn_app (goodIn_of _ (by decide +kernel)) ggX11_bell_X11_requireRange
set_option maxRecDepth 20000 in
theorem ggX11_bell_X0_minute : GoodIn wsX11_bell wsX0_minute := goodIn_r _ [17, 18, 19, 20, 32, 33, 34] (by decide +kernel) (by decide +kernel)
set_option maxRecDepth 20000 in
theorem gX11_bell_X0_minute : GoodIn wsX11_bell (wsV RX11 300 RX0 yX0_minute wsX0_minute) := goodIn_app (goodIn_of _ (by decide +kernel)) ggX11_bell_X0_minute
theorem dX11_bell_0 : decode cX11_bell 0 = .ok (.aload_n 0, 1) := by decide +kernel
theorem dX11_bell_1 : decode cX11_bell 1 = .ok (.iload_n 1, 1) := by decide +kernel
theorem dX11_bell_2 : decode cX11_bell 2 = .ok (.bipush 20, 2) := by decide +kernel
theorem dX11_bell_4 : decode cX11_bell 4 = .ok (.invokevirtual 86, 3) := by decide +kernel
theorem dX11_bell_7 : decode cX11_bell 7 = .ok (.aload_n 0, 1) := by decide +kernel
theorem dX11_bell_8 : decode cX11_bell 8 = .ok (.getfield 68, 3) := by decide +kernel
theorem dX11_bell_11 : decode cX11_bell 11 = .ok (.iload_n 1, 1) := by decide +kernel
theorem dX11_bell_12 : decode cX11_bell 12 = .ok (.iload_n 2, 1) := by decide +kernel
theorem dX11_bell_13 : decode cX11_bell 13 = .ok (.invokevirtual 300, 3) := by decide +kernel
theorem dX11_bell_16 : decode cX11_bell 16 = .ok (.ireturn, 1) := by decide +kernel
set_option maxRecDepth 20000 in
theorem ggX11_slotAt_X11_requireRange : GoodIn wsX11_slotAt wsX11_requireRange := goodIn_ca (goodIn_r _ [6, 7, 8, 9, 5, 10, 11, 12] (by decide +kernel) (by decide +kernel)) (goodIn_sub (fun _ h => List.mem_cons_of_mem _ (List.mem_append_right _ h)) (by decide +kernel))
set_option maxRecDepth 20000 in
theorem gX11_slotAt_X11_requireRange : GoodIn wsX11_slotAt (wsV RX11 86 RX11 yX11_requireRange wsX11_requireRange) := goodIn_app (goodIn_of _ (by decide +kernel)) ggX11_slotAt_X11_requireRange
set_option maxRecDepth 20000 in
theorem ggX11_slotAt_X0_minute : GoodIn wsX11_slotAt wsX0_minute := goodIn_r _ [17, 18, 19, 20, 32, 33, 34] (by decide +kernel) (by decide +kernel)
set_option maxRecDepth 20000 in
theorem gX11_slotAt_X0_minute : GoodIn wsX11_slotAt (wsV RX11 300 RX0 yX0_minute wsX0_minute) := goodIn_app (goodIn_of _ (by decide +kernel)) ggX11_slotAt_X0_minute
theorem dX11_slotAt_0 : decode cX11_slotAt 0 = .ok (.aload_n 0, 1) := by decide +kernel
theorem dX11_slotAt_1 : decode cX11_slotAt 1 = .ok (.iload_n 1, 1) := by decide +kernel
theorem dX11_slotAt_2 : decode cX11_slotAt 2 = .ok (.iconst 5, 1) := by decide +kernel
theorem dX11_slotAt_3 : decode cX11_slotAt 3 = .ok (.invokevirtual 86, 3) := by decide +kernel
theorem dX11_slotAt_6 : decode cX11_slotAt 6 = .ok (.aload_n 0, 1) := by decide +kernel
theorem dX11_slotAt_7 : decode cX11_slotAt 7 = .ok (.iload_n 2, 1) := by decide +kernel
theorem dX11_slotAt_8 : decode cX11_slotAt 8 = .ok (.sipush 1440, 3) := by decide +kernel
theorem dX11_slotAt_11 : decode cX11_slotAt 11 = .ok (.invokevirtual 86, 3) := by decide +kernel
theorem dX11_slotAt_14 : decode cX11_slotAt 14 = .ok (.iload_n 1, 1) := by decide +kernel
theorem dX11_slotAt_15 : decode cX11_slotAt 15 = .ok (.iconst 4, 1) := by decide +kernel
theorem dX11_slotAt_16 : decode cX11_slotAt 16 = .ok (.imul, 1) := by decide +kernel
theorem dX11_slotAt_17 : decode cX11_slotAt 17 = .ok (.istore_n 3, 1) := by decide +kernel
theorem dX11_slotAt_18 : decode cX11_slotAt 18 = .ok (.iload_n 3, 1) := by decide +kernel
theorem dX11_slotAt_19 : decode cX11_slotAt 19 = .ok (.iload_n 1, 1) := by decide +kernel
theorem dX11_slotAt_20 : decode cX11_slotAt 20 = .ok (.iconst 1, 1) := by decide +kernel
theorem dX11_slotAt_21 : decode cX11_slotAt 21 = .ok (.iadd, 1) := by decide +kernel
theorem dX11_slotAt_22 : decode cX11_slotAt 22 = .ok (.iconst 4, 1) := by decide +kernel
theorem dX11_slotAt_23 : decode cX11_slotAt 23 = .ok (.imul, 1) := by decide +kernel
theorem dX11_slotAt_24 : decode cX11_slotAt 24 = .ok (.if_icmp .ge 37, 3) := by decide +kernel
theorem dX11_slotAt_27 : decode cX11_slotAt 27 = .ok (.aload_n 0, 1) := by decide +kernel
theorem dX11_slotAt_28 : decode cX11_slotAt 28 = .ok (.getfield 68, 3) := by decide +kernel
theorem dX11_slotAt_31 : decode cX11_slotAt 31 = .ok (.iload_n 3, 1) := by decide +kernel
theorem dX11_slotAt_32 : decode cX11_slotAt 32 = .ok (.iconst 0, 1) := by decide +kernel
theorem dX11_slotAt_33 : decode cX11_slotAt 33 = .ok (.invokevirtual 300, 3) := by decide +kernel
theorem dX11_slotAt_36 : decode cX11_slotAt 36 = .ok (.iload_n 2, 1) := by decide +kernel
theorem dX11_slotAt_37 : decode cX11_slotAt 37 = .ok (.if_icmp .gt 18, 3) := by decide +kernel
theorem dX11_slotAt_40 : decode cX11_slotAt 40 = .ok (.iload_n 2, 1) := by decide +kernel
theorem dX11_slotAt_41 : decode cX11_slotAt 41 = .ok (.aload_n 0, 1) := by decide +kernel
theorem dX11_slotAt_42 : decode cX11_slotAt 42 = .ok (.getfield 68, 3) := by decide +kernel
theorem dX11_slotAt_45 : decode cX11_slotAt 45 = .ok (.iload_n 3, 1) := by decide +kernel
theorem dX11_slotAt_46 : decode cX11_slotAt 46 = .ok (.iconst 1, 1) := by decide +kernel
theorem dX11_slotAt_47 : decode cX11_slotAt 47 = .ok (.invokevirtual 300, 3) := by decide +kernel
theorem dX11_slotAt_50 : decode cX11_slotAt 50 = .ok (.if_icmp .ge 5, 3) := by decide +kernel
theorem dX11_slotAt_53 : decode cX11_slotAt 53 = .ok (.iload_n 3, 1) := by decide +kernel
theorem dX11_slotAt_54 : decode cX11_slotAt 54 = .ok (.ireturn, 1) := by decide +kernel
theorem dX11_slotAt_55 : decode cX11_slotAt 55 = .ok (.iinc 3 1, 3) := by decide +kernel
theorem dX11_slotAt_58 : decode cX11_slotAt 58 = .ok (.goto (-40), 3) := by decide +kernel
theorem dX11_slotAt_61 : decode cX11_slotAt 61 = .ok (.iconst (-1), 1) := by decide +kernel
theorem dX11_slotAt_62 : decode cX11_slotAt 62 = .ok (.ireturn, 1) := by decide +kernel
set_option maxRecDepth 20000 in
theorem ggX11_setYear_X11_requireDate : GoodIn wsX11_setYear wsX11_requireDate := goodIn_ca (goodIn_r _ [8, 1, 2, 3, 9, 10, 11, 12, 13, 14, 15, 16, 17, 18, 19, 20, 21, 22, 23, 45, 46, 47, 48, 49, 50, 51, 52, 53, 54, 55] (by decide +kernel) (by decide +kernel)) (goodIn_sub (fun _ h => List.mem_cons_of_mem _ (List.mem_append_right _ h)) (by decide +kernel))
set_option maxRecDepth 20000 in
theorem gX11_setYear_X11_requireDate : GoodIn wsX11_setYear (wsV RX11 304 RX11 yX11_requireDate wsX11_requireDate) := goodIn_app (goodIn_of _ (by decide +kernel)) ggX11_setYear_X11_requireDate
set_option maxRecDepth 20000 in
theorem ggX11_setYear_X10_weekday : GoodIn wsX11_setYear wsX10_weekday := goodIn_r _ [27, 28, 29, 30, 31] (by decide +kernel) (by decide +kernel)
set_option maxRecDepth 20000 in
theorem gX11_setYear_X10_weekday : GoodIn wsX11_setYear (wsV RX11 307 RX10 yX10_weekday wsX10_weekday) := goodIn_app (goodIn_of _ (by decide +kernel)) ggX11_setYear_X10_weekday
set_option maxRecDepth 20000 in
theorem ggX11_setYear_X10_beginAt : GoodIn wsX11_setYear wsX10_beginAt := goodIn_r _ [35, 36, 37, 38, 39, 40, 41, 12, 42, 23, 22, 43, 44, 56, 57, 58] (by decide +kernel) (by decide +kernel)
set_option maxRecDepth 20000 in
theorem gX11_setYear_X10_beginAt : GoodIn wsX11_setYear (wsV RX11 312 RX10 yX10_beginAt wsX10_beginAt) := goodIn_app (goodIn_of _ (by decide +kernel)) ggX11_setYear_X10_beginAt
theorem dX11_setYear_0 : decode cX11_setYear 0 = .ok (.aload_n 0, 1) := by decide +kernel
theorem dX11_setYear_1 : decode cX11_setYear 1 = .ok (.iload_n 1, 1) := by decide +kernel
theorem dX11_setYear_2 : decode cX11_setYear 2 = .ok (.invokevirtual 304, 3) := by decide +kernel
theorem dX11_setYear_5 : decode cX11_setYear 5 = .ok (.istore_n 2, 1) := by decide +kernel
theorem dX11_setYear_6 : decode cX11_setYear 6 = .ok (.aload_n 0, 1) := by decide +kernel
theorem dX11_setYear_7 : decode cX11_setYear 7 = .ok (.getfield 75, 3) := by decide +kernel
theorem dX11_setYear_10 : decode cX11_setYear 10 = .ok (.iload_n 2, 1) := by decide +kernel
theorem dX11_setYear_11 : decode cX11_setYear 11 = .ok (.invokevirtual 307, 3) := by decide +kernel
theorem dX11_setYear_14 : decode cX11_setYear 14 = .ok (.ifCond .eq 14, 3) := by decide +kernel
theorem dX11_setYear_17 : decode cX11_setYear 17 = .ok (.new 94, 3) := by decide +kernel
theorem dX11_setYear_20 : decode cX11_setYear 20 = .ok (.dup, 1) := by decide +kernel
theorem dX11_setYear_21 : decode cX11_setYear 21 = .ok (.ldc_w 310, 3) := by decide +kernel
theorem dX11_setYear_24 : decode cX11_setYear 24 = .ok (.invokespecial 98, 3) := by decide +kernel
theorem dX11_setYear_27 : decode cX11_setYear 27 = .ok (.athrow, 1) := by decide +kernel
theorem dX11_setYear_28 : decode cX11_setYear 28 = .ok (.aload_n 0, 1) := by decide +kernel
theorem dX11_setYear_29 : decode cX11_setYear 29 = .ok (.getfield 75, 3) := by decide +kernel
theorem dX11_setYear_32 : decode cX11_setYear 32 = .ok (.iload_n 2, 1) := by decide +kernel
theorem dX11_setYear_33 : decode cX11_setYear 33 = .ok (.invokevirtual 312, 3) := by decide +kernel
theorem dX11_setYear_36 : decode cX11_setYear 36 = .ok (.ireturn, 1) := by decide +kernel
set_option maxRecDepth 20000 in
theorem ggX11_holiday_X11_requireDate : GoodIn wsX11_holiday wsX11_requireDate := goodIn_ca (goodIn_r _ [11, 1, 2, 5, 12, 13, 14, 15, 16, 17, 18, 19, 20, 21, 22, 23, 24, 25, 26, 38, 39, 40, 41, 42, 43, 44, 45, 46, 47, 48] (by decide +kernel) (by decide +kernel)) (goodIn_sub (fun _ h => List.mem_cons_of_mem _ (List.mem_append_left _ (List.mem_append_right _ h))) (by decide +kernel))
set_option maxRecDepth 20000 in
theorem gX11_holiday_X11_requireDate : GoodIn wsX11_holiday (wsV RX11 304 RX11 yX11_requireDate wsX11_requireDate) := goodIn_app (goodIn_of _ (by decide +kernel)) ggX11_holiday_X11_requireDate
set_option maxRecDepth 20000 in
theorem ggX11_holiday_X10_addHoliday : GoodIn wsX11_holiday wsX10_addHoliday := goodIn_r _ [30, 31, 32, 33, 34, 35, 36, 37, 49, 50, 51] (by decide +kernel) (by decide +kernel)
set_option maxRecDepth 20000 in
theorem gX11_holiday_X10_addHoliday : GoodIn wsX11_holiday (wsV RX11 322 RX10 yX10_addHoliday wsX10_addHoliday) := goodIn_app (goodIn_of _ (by decide +kernel)) ggX11_holiday_X10_addHoliday
theorem dX11_holiday_0 : decode cX11_holiday 0 = .ok (.aload_n 0, 1) := by decide +kernel
theorem dX11_holiday_1 : decode cX11_holiday 1 = .ok (.iload_n 1, 1) := by decide +kernel
theorem dX11_holiday_2 : decode cX11_holiday 2 = .ok (.invokevirtual 304, 3) := by decide +kernel
theorem dX11_holiday_5 : decode cX11_holiday 5 = .ok (.istore_n 3, 1) := by decide +kernel
theorem dX11_holiday_6 : decode cX11_holiday 6 = .ok (.aload_n 0, 1) := by decide +kernel
theorem dX11_holiday_7 : decode cX11_holiday 7 = .ok (.iload_n 2, 1) := by decide +kernel
theorem dX11_holiday_8 : decode cX11_holiday 8 = .ok (.invokevirtual 304, 3) := by decide +kernel
theorem dX11_holiday_11 : decode cX11_holiday 11 = .ok (.istore 4, 2) := by decide +kernel
theorem dX11_holiday_13 : decode cX11_holiday 13 = .ok (.iload 4, 2) := by decide +kernel
theorem dX11_holiday_15 : decode cX11_holiday 15 = .ok (.iload_n 3, 1) := by decide +kernel
theorem dX11_holiday_16 : decode cX11_holiday 16 = .ok (.if_icmp .ge 14, 3) := by decide +kernel
theorem dX11_holiday_19 : decode cX11_holiday 19 = .ok (.new 94, 3) := by decide +kernel
theorem dX11_holiday_22 : decode cX11_holiday 22 = .ok (.dup, 1) := by decide +kernel
theorem dX11_holiday_23 : decode cX11_holiday 23 = .ok (.ldc_w 315, 3) := by decide +kernel
theorem dX11_holiday_26 : decode cX11_holiday 26 = .ok (.invokespecial 98, 3) := by decide +kernel
theorem dX11_holiday_29 : decode cX11_holiday 29 = .ok (.athrow, 1) := by decide +kernel
theorem dX11_holiday_30 : decode cX11_holiday 30 = .ok (.aload_n 0, 1) := by decide +kernel
theorem dX11_holiday_31 : decode cX11_holiday 31 = .ok (.getfield 75, 3) := by decide +kernel
theorem dX11_holiday_34 : decode cX11_holiday 34 = .ok (.getfield 317, 3) := by decide +kernel
theorem dX11_holiday_37 : decode cX11_holiday 37 = .ok (.bipush 10, 2) := by decide +kernel
theorem dX11_holiday_39 : decode cX11_holiday 39 = .ok (.if_icmp .lt 14, 3) := by decide +kernel
theorem dX11_holiday_42 : decode cX11_holiday 42 = .ok (.new 105, 3) := by decide +kernel
theorem dX11_holiday_45 : decode cX11_holiday 45 = .ok (.dup, 1) := by decide +kernel
theorem dX11_holiday_46 : decode cX11_holiday 46 = .ok (.ldc_w 320, 3) := by decide +kernel
theorem dX11_holiday_49 : decode cX11_holiday 49 = .ok (.invokespecial 109, 3) := by decide +kernel
theorem dX11_holiday_52 : decode cX11_holiday 52 = .ok (.athrow, 1) := by decide +kernel
theorem dX11_holiday_53 : decode cX11_holiday 53 = .ok (.aload_n 0, 1) := by decide +kernel
theorem dX11_holiday_54 : decode cX11_holiday 54 = .ok (.getfield 75, 3) := by decide +kernel
theorem dX11_holiday_57 : decode cX11_holiday 57 = .ok (.iload_n 3, 1) := by decide +kernel
theorem dX11_holiday_58 : decode cX11_holiday 58 = .ok (.iload 4, 2) := by decide +kernel
theorem dX11_holiday_60 : decode cX11_holiday 60 = .ok (.invokevirtual 322, 3) := by decide +kernel
theorem dX11_holiday_63 : decode cX11_holiday 63 = .ok (.ireturn, 1) := by decide +kernel
set_option maxRecDepth 20000 in
theorem ggX11_schoolDays_X10_daysBetween : GoodIn wsX11_schoolDays wsX10_daysBetween := goodIn_r _ [6, 7, 8, 9, 5, 10, 11, 23, 24, 25] (by decide +kernel) (by decide +kernel)
set_option maxRecDepth 20000 in
theorem gX11_schoolDays_X10_daysBetween : GoodIn wsX11_schoolDays (wsV RX11 325 RX10 yX10_daysBetween wsX10_daysBetween) := goodIn_app (goodIn_of _ (by decide +kernel)) ggX11_schoolDays_X10_daysBetween
theorem dX11_schoolDays_0 : decode cX11_schoolDays 0 = .ok (.aload_n 0, 1) := by decide +kernel
theorem dX11_schoolDays_1 : decode cX11_schoolDays 1 = .ok (.getfield 75, 3) := by decide +kernel
theorem dX11_schoolDays_4 : decode cX11_schoolDays 4 = .ok (.iconst 0, 1) := by decide +kernel
theorem dX11_schoolDays_5 : decode cX11_schoolDays 5 = .ok (.sipush 280, 3) := by decide +kernel
theorem dX11_schoolDays_8 : decode cX11_schoolDays 8 = .ok (.invokevirtual 325, 3) := by decide +kernel
theorem dX11_schoolDays_11 : decode cX11_schoolDays 11 = .ok (.ireturn, 1) := by decide +kernel
set_option maxRecDepth 20000 in
theorem ggX11_dateOf_X10_isSchoolDay : GoodIn wsX11_dateOf wsX10_isSchoolDay := goodIn_r _ [9, 10, 30, 31, 32] (by decide +kernel) (by decide +kernel)
set_option maxRecDepth 20000 in
theorem gX11_dateOf_X10_isSchoolDay : GoodIn wsX11_dateOf (wsV RX11 328 RX10 yX10_isSchoolDay wsX10_isSchoolDay) := goodIn_app (goodIn_of _ (by decide +kernel)) ggX11_dateOf_X10_isSchoolDay
set_option maxRecDepth 20000 in
theorem ggX11_dateOf_X10_dateAt : GoodIn wsX11_dateOf wsX10_dateAt := goodIn_r _ [14, 15, 16, 17, 18] (by decide +kernel) (by decide +kernel)
set_option maxRecDepth 20000 in
theorem gX11_dateOf_X10_dateAt : GoodIn wsX11_dateOf (wsV RX11 335 RX10 yX10_dateAt wsX10_dateAt) := goodIn_app (goodIn_of _ (by decide +kernel)) ggX11_dateOf_X10_dateAt
theorem dX11_dateOf_0 : decode cX11_dateOf 0 = .ok (.iload_n 1, 1) := by decide +kernel
theorem dX11_dateOf_1 : decode cX11_dateOf 1 = .ok (.istore_n 2, 1) := by decide +kernel
theorem dX11_dateOf_2 : decode cX11_dateOf 2 = .ok (.iconst 0, 1) := by decide +kernel
theorem dX11_dateOf_3 : decode cX11_dateOf 3 = .ok (.istore_n 3, 1) := by decide +kernel
theorem dX11_dateOf_4 : decode cX11_dateOf 4 = .ok (.iload_n 3, 1) := by decide +kernel
theorem dX11_dateOf_5 : decode cX11_dateOf 5 = .ok (.sipush 280, 3) := by decide +kernel
theorem dX11_dateOf_8 : decode cX11_dateOf 8 = .ok (.if_icmp .ge 48, 3) := by decide +kernel
theorem dX11_dateOf_11 : decode cX11_dateOf 11 = .ok (.iload_n 2, 1) := by decide +kernel
theorem dX11_dateOf_12 : decode cX11_dateOf 12 = .ok (.ifCond .lt 44, 3) := by decide +kernel
theorem dX11_dateOf_15 : decode cX11_dateOf 15 = .ok (.aload_n 0, 1) := by decide +kernel
theorem dX11_dateOf_16 : decode cX11_dateOf 16 = .ok (.getfield 75, 3) := by decide +kernel
theorem dX11_dateOf_19 : decode cX11_dateOf 19 = .ok (.iload_n 3, 1) := by decide +kernel
theorem dX11_dateOf_20 : decode cX11_dateOf 20 = .ok (.invokevirtual 328, 3) := by decide +kernel
theorem dX11_dateOf_23 : decode cX11_dateOf 23 = .ok (.ifCond .eq 27, 3) := by decide +kernel
theorem dX11_dateOf_26 : decode cX11_dateOf 26 = .ok (.iload_n 2, 1) := by decide +kernel
theorem dX11_dateOf_27 : decode cX11_dateOf 27 = .ok (.ifCond .ne 20, 3) := by decide +kernel
theorem dX11_dateOf_30 : decode cX11_dateOf 30 = .ok (.aload_n 0, 1) := by decide +kernel
theorem dX11_dateOf_31 : decode cX11_dateOf 31 = .ok (.getfield 75, 3) := by decide +kernel
theorem dX11_dateOf_34 : decode cX11_dateOf 34 = .ok (.aload_n 0, 1) := by decide +kernel
theorem dX11_dateOf_35 : decode cX11_dateOf 35 = .ok (.getfield 75, 3) := by decide +kernel
theorem dX11_dateOf_38 : decode cX11_dateOf 38 = .ok (.getfield 332, 3) := by decide +kernel
theorem dX11_dateOf_41 : decode cX11_dateOf 41 = .ok (.iload_n 3, 1) := by decide +kernel
theorem dX11_dateOf_42 : decode cX11_dateOf 42 = .ok (.iadd, 1) := by decide +kernel
theorem dX11_dateOf_43 : decode cX11_dateOf 43 = .ok (.invokevirtual 335, 3) := by decide +kernel
theorem dX11_dateOf_46 : decode cX11_dateOf 46 = .ok (.ireturn, 1) := by decide +kernel
theorem dX11_dateOf_47 : decode cX11_dateOf 47 = .ok (.iinc 2 (-1), 3) := by decide +kernel
theorem dX11_dateOf_50 : decode cX11_dateOf 50 = .ok (.iinc 3 1, 3) := by decide +kernel
theorem dX11_dateOf_53 : decode cX11_dateOf 53 = .ok (.goto (-49), 3) := by decide +kernel
theorem dX11_dateOf_56 : decode cX11_dateOf 56 = .ok (.new 182, 3) := by decide +kernel
theorem dX11_dateOf_59 : decode cX11_dateOf 59 = .ok (.dup, 1) := by decide +kernel
theorem dX11_dateOf_60 : decode cX11_dateOf 60 = .ok (.ldc_w 338, 3) := by decide +kernel
theorem dX11_dateOf_63 : decode cX11_dateOf 63 = .ok (.invokespecial 186, 3) := by decide +kernel
theorem dX11_dateOf_66 : decode cX11_dateOf 66 = .ok (.athrow, 1) := by decide +kernel
set_option maxRecDepth 20000 in
theorem ggX11_numberOf_X11_requireDate : GoodIn wsX11_numberOf wsX11_requireDate := goodIn_ca (goodIn_r _ [7, 8, 9, 1, 10, 11, 12, 13, 14, 15, 16, 17, 18, 19, 20, 21, 22, 23, 24, 35, 36, 37, 38, 39, 40, 41, 42, 43, 44, 45] (by decide +kernel) (by decide +kernel)) (goodIn_sub (fun _ h => List.mem_cons_of_mem _ (List.mem_append_right _ h)) (by decide +kernel))
set_option maxRecDepth 20000 in
theorem gX11_numberOf_X11_requireDate : GoodIn wsX11_numberOf (wsV RX11 304 RX11 yX11_requireDate wsX11_requireDate) := goodIn_app (goodIn_of _ (by decide +kernel)) ggX11_numberOf_X11_requireDate
set_option maxRecDepth 20000 in
theorem ggX11_numberOf_X10_isSchoolDay : GoodIn wsX11_numberOf wsX10_isSchoolDay := goodIn_r _ [28, 29, 46, 47, 48] (by decide +kernel) (by decide +kernel)
set_option maxRecDepth 20000 in
theorem gX11_numberOf_X10_isSchoolDay : GoodIn wsX11_numberOf (wsV RX11 328 RX10 yX10_isSchoolDay wsX10_isSchoolDay) := goodIn_app (goodIn_of _ (by decide +kernel)) ggX11_numberOf_X10_isSchoolDay
set_option maxRecDepth 20000 in
theorem ggX11_numberOf_X10_daysBetween : GoodIn wsX11_numberOf wsX10_daysBetween := goodIn_r _ [33, 34, 26, 27, 13, 28, 29, 46, 47, 48] (by decide +kernel) (by decide +kernel)
set_option maxRecDepth 20000 in
theorem gX11_numberOf_X10_daysBetween : GoodIn wsX11_numberOf (wsV RX11 325 RX10 yX10_daysBetween wsX10_daysBetween) := goodIn_app (goodIn_of _ (by decide +kernel)) ggX11_numberOf_X10_daysBetween
theorem dX11_numberOf_0 : decode cX11_numberOf 0 = .ok (.aload_n 0, 1) := by decide +kernel
theorem dX11_numberOf_1 : decode cX11_numberOf 1 = .ok (.iload_n 1, 1) := by decide +kernel
theorem dX11_numberOf_2 : decode cX11_numberOf 2 = .ok (.invokevirtual 304, 3) := by decide +kernel
theorem dX11_numberOf_5 : decode cX11_numberOf 5 = .ok (.aload_n 0, 1) := by decide +kernel
theorem dX11_numberOf_6 : decode cX11_numberOf 6 = .ok (.getfield 75, 3) := by decide +kernel
theorem dX11_numberOf_9 : decode cX11_numberOf 9 = .ok (.getfield 332, 3) := by decide +kernel
theorem dX11_numberOf_12 : decode cX11_numberOf 12 = .ok (.isub, 1) := by decide +kernel
theorem dX11_numberOf_13 : decode cX11_numberOf 13 = .ok (.istore_n 2, 1) := by decide +kernel
theorem dX11_numberOf_14 : decode cX11_numberOf 14 = .ok (.aload_n 0, 1) := by decide +kernel
theorem dX11_numberOf_15 : decode cX11_numberOf 15 = .ok (.getfield 75, 3) := by decide +kernel
theorem dX11_numberOf_18 : decode cX11_numberOf 18 = .ok (.iload_n 2, 1) := by decide +kernel
theorem dX11_numberOf_19 : decode cX11_numberOf 19 = .ok (.invokevirtual 328, 3) := by decide +kernel
theorem dX11_numberOf_22 : decode cX11_numberOf 22 = .ok (.ifCond .eq 15, 3) := by decide +kernel
theorem dX11_numberOf_25 : decode cX11_numberOf 25 = .ok (.aload_n 0, 1) := by decide +kernel
theorem dX11_numberOf_26 : decode cX11_numberOf 26 = .ok (.getfield 75, 3) := by decide +kernel
theorem dX11_numberOf_29 : decode cX11_numberOf 29 = .ok (.iconst 0, 1) := by decide +kernel
theorem dX11_numberOf_30 : decode cX11_numberOf 30 = .ok (.iload_n 2, 1) := by decide +kernel
theorem dX11_numberOf_31 : decode cX11_numberOf 31 = .ok (.invokevirtual 325, 3) := by decide +kernel
theorem dX11_numberOf_34 : decode cX11_numberOf 34 = .ok (.goto 4, 3) := by decide +kernel
theorem dX11_numberOf_37 : decode cX11_numberOf 37 = .ok (.iconst (-1), 1) := by decide +kernel
theorem dX11_numberOf_38 : decode cX11_numberOf 38 = .ok (.ireturn, 1) := by decide +kernel
set_option maxRecDepth 20000 in
theorem ggX11_nextDay_X11_requireDate : GoodIn wsX11_nextDay wsX11_requireDate := goodIn_ca (goodIn_r _ [11, 12, 13, 1, 14, 15, 16, 17, 18, 19, 20, 21, 22, 23, 24, 25, 26, 27, 28, 40, 41, 42, 43, 44, 45, 46, 47, 48, 49, 50] (by decide +kernel) (by decide +kernel)) (goodIn_sub (fun _ h => List.mem_cons_of_mem _ (List.mem_append_right _ h)) (by decide +kernel))
set_option maxRecDepth 20000 in
theorem gX11_nextDay_X11_requireDate : GoodIn wsX11_nextDay (wsV RX11 304 RX11 yX11_requireDate wsX11_requireDate) := goodIn_app (goodIn_of _ (by decide +kernel)) ggX11_nextDay_X11_requireDate
set_option maxRecDepth 20000 in
theorem ggX11_nextDay_X10_isSchoolDay : GoodIn wsX11_nextDay wsX10_isSchoolDay := goodIn_r _ [32, 33, 51, 52, 53] (by decide +kernel) (by decide +kernel)
set_option maxRecDepth 20000 in
theorem gX11_nextDay_X10_isSchoolDay : GoodIn wsX11_nextDay (wsV RX11 328 RX10 yX10_isSchoolDay wsX10_isSchoolDay) := goodIn_app (goodIn_of _ (by decide +kernel)) ggX11_nextDay_X10_isSchoolDay
set_option maxRecDepth 20000 in
theorem ggX11_nextDay_X10_dateAt : GoodIn wsX11_nextDay wsX10_dateAt := goodIn_r _ [37, 28, 27, 38, 39] (by decide +kernel) (by decide +kernel)
set_option maxRecDepth 20000 in
theorem gX11_nextDay_X10_dateAt : GoodIn wsX11_nextDay (wsV RX11 335 RX10 yX10_dateAt wsX10_dateAt) := goodIn_app (goodIn_of _ (by decide +kernel)) ggX11_nextDay_X10_dateAt
theorem dX11_nextDay_0 : decode cX11_nextDay 0 = .ok (.aload_n 0, 1) := by decide +kernel
theorem dX11_nextDay_1 : decode cX11_nextDay 1 = .ok (.iload_n 1, 1) := by decide +kernel
theorem dX11_nextDay_2 : decode cX11_nextDay 2 = .ok (.invokevirtual 304, 3) := by decide +kernel
theorem dX11_nextDay_5 : decode cX11_nextDay 5 = .ok (.aload_n 0, 1) := by decide +kernel
theorem dX11_nextDay_6 : decode cX11_nextDay 6 = .ok (.getfield 75, 3) := by decide +kernel
theorem dX11_nextDay_9 : decode cX11_nextDay 9 = .ok (.getfield 332, 3) := by decide +kernel
theorem dX11_nextDay_12 : decode cX11_nextDay 12 = .ok (.isub, 1) := by decide +kernel
theorem dX11_nextDay_13 : decode cX11_nextDay 13 = .ok (.iconst 1, 1) := by decide +kernel
theorem dX11_nextDay_14 : decode cX11_nextDay 14 = .ok (.iadd, 1) := by decide +kernel
theorem dX11_nextDay_15 : decode cX11_nextDay 15 = .ok (.istore_n 2, 1) := by decide +kernel
theorem dX11_nextDay_16 : decode cX11_nextDay 16 = .ok (.iload_n 2, 1) := by decide +kernel
theorem dX11_nextDay_17 : decode cX11_nextDay 17 = .ok (.iconst 0, 1) := by decide +kernel
theorem dX11_nextDay_18 : decode cX11_nextDay 18 = .ok (.invokestatic 340, 3) := by decide +kernel
theorem dX11_nextDay_21 : decode cX11_nextDay 21 = .ok (.istore_n 3, 1) := by decide +kernel
theorem dX11_nextDay_22 : decode cX11_nextDay 22 = .ok (.iload_n 3, 1) := by decide +kernel
theorem dX11_nextDay_23 : decode cX11_nextDay 23 = .ok (.sipush 280, 3) := by decide +kernel
theorem dX11_nextDay_26 : decode cX11_nextDay 26 = .ok (.if_icmp .ge 37, 3) := by decide +kernel
theorem dX11_nextDay_29 : decode cX11_nextDay 29 = .ok (.aload_n 0, 1) := by decide +kernel
theorem dX11_nextDay_30 : decode cX11_nextDay 30 = .ok (.getfield 75, 3) := by decide +kernel
theorem dX11_nextDay_33 : decode cX11_nextDay 33 = .ok (.iload_n 3, 1) := by decide +kernel
theorem dX11_nextDay_34 : decode cX11_nextDay 34 = .ok (.invokevirtual 328, 3) := by decide +kernel
theorem dX11_nextDay_37 : decode cX11_nextDay 37 = .ok (.ifCond .eq 20, 3) := by decide +kernel
theorem dX11_nextDay_40 : decode cX11_nextDay 40 = .ok (.aload_n 0, 1) := by decide +kernel
theorem dX11_nextDay_41 : decode cX11_nextDay 41 = .ok (.getfield 75, 3) := by decide +kernel
theorem dX11_nextDay_44 : decode cX11_nextDay 44 = .ok (.aload_n 0, 1) := by decide +kernel
theorem dX11_nextDay_45 : decode cX11_nextDay 45 = .ok (.getfield 75, 3) := by decide +kernel
theorem dX11_nextDay_48 : decode cX11_nextDay 48 = .ok (.getfield 332, 3) := by decide +kernel
theorem dX11_nextDay_51 : decode cX11_nextDay 51 = .ok (.iload_n 3, 1) := by decide +kernel
theorem dX11_nextDay_52 : decode cX11_nextDay 52 = .ok (.iadd, 1) := by decide +kernel
theorem dX11_nextDay_53 : decode cX11_nextDay 53 = .ok (.invokevirtual 335, 3) := by decide +kernel
theorem dX11_nextDay_56 : decode cX11_nextDay 56 = .ok (.ireturn, 1) := by decide +kernel
theorem dX11_nextDay_57 : decode cX11_nextDay 57 = .ok (.iinc 3 1, 3) := by decide +kernel
theorem dX11_nextDay_60 : decode cX11_nextDay 60 = .ok (.goto (-38), 3) := by decide +kernel
theorem dX11_nextDay_63 : decode cX11_nextDay 63 = .ok (.iconst (-1), 1) := by decide +kernel
theorem dX11_nextDay_64 : decode cX11_nextDay 64 = .ok (.ireturn, 1) := by decide +kernel
set_option maxRecDepth 20000 in
theorem ggX11_weekOf_X11_requireDate : GoodIn wsX11_weekOf wsX11_requireDate := goodIn_ca (goodIn_r _ [7, 8, 9, 1, 10, 11, 12, 13, 14, 15, 16, 17, 18, 19, 20, 21, 22, 23, 24, 51, 52, 53, 54, 55, 56, 57, 58, 59, 60, 61] (by decide +kernel) (by decide +kernel)) (goodIn_sub (fun _ h => List.mem_cons_of_mem _ (List.mem_append_right _ h)) (by decide +kernel))
set_option maxRecDepth 20000 in
theorem gX11_weekOf_X11_requireDate : GoodIn wsX11_weekOf (wsV RX11 304 RX11 yX11_requireDate wsX11_requireDate) := goodIn_app (goodIn_of _ (by decide +kernel)) ggX11_weekOf_X11_requireDate
set_option maxRecDepth 20000 in
theorem ggX11_weekOf_X11_requireRange : GoodIn wsX11_weekOf wsX11_requireRange := goodIn_ca (goodIn_r _ [28, 29, 30, 31, 6, 32, 8, 9] (by decide +kernel) (by decide +kernel)) (goodIn_sub (fun _ h => List.mem_cons_of_mem _ (List.mem_append_right _ h)) (by decide +kernel))
set_option maxRecDepth 20000 in
theorem gX11_weekOf_X11_requireRange : GoodIn wsX11_weekOf (wsV RX11 86 RX11 yX11_requireRange wsX11_requireRange) := goodIn_app (goodIn_of _ (by decide +kernel)) ggX11_weekOf_X11_requireRange
set_option maxRecDepth 20000 in
theorem ggX11_weekOf_X10_letterOf : GoodIn wsX11_weekOf wsX10_letterOf := goodIn_r _ [36, 37, 38, 39, 13, 40, 41, 42, 43, 44, 45, 46, 47, 48, 49, 62, 63, 64] (by decide +kernel) (by decide +kernel)
set_option maxRecDepth 20000 in
theorem gX11_weekOf_X10_letterOf : GoodIn wsX11_weekOf (wsV RX11 345 RX10 yX10_letterOf wsX10_letterOf) := goodIn_app (goodIn_of _ (by decide +kernel)) ggX11_weekOf_X10_letterOf
set_option maxRecDepth 20000 in
theorem ggX11_weekOf_X10_daysBetween : GoodIn wsX11_weekOf wsX10_daysBetween := goodIn_r _ [44, 45, 46, 47, 13, 48, 49, 62, 63, 64] (by decide +kernel) (by decide +kernel)
set_option maxRecDepth 20000 in
theorem gX11_weekOf_X10_daysBetween : GoodIn wsX11_weekOf (wsV RX11 325 RX10 yX10_daysBetween wsX10_daysBetween) := goodIn_app (goodIn_of _ (by decide +kernel)) ggX11_weekOf_X10_daysBetween
theorem dX11_weekOf_0 : decode cX11_weekOf 0 = .ok (.aload_n 0, 1) := by decide +kernel
theorem dX11_weekOf_1 : decode cX11_weekOf 1 = .ok (.iload_n 1, 1) := by decide +kernel
theorem dX11_weekOf_2 : decode cX11_weekOf 2 = .ok (.invokevirtual 304, 3) := by decide +kernel
theorem dX11_weekOf_5 : decode cX11_weekOf 5 = .ok (.aload_n 0, 1) := by decide +kernel
theorem dX11_weekOf_6 : decode cX11_weekOf 6 = .ok (.getfield 75, 3) := by decide +kernel
theorem dX11_weekOf_9 : decode cX11_weekOf 9 = .ok (.getfield 332, 3) := by decide +kernel
theorem dX11_weekOf_12 : decode cX11_weekOf 12 = .ok (.isub, 1) := by decide +kernel
theorem dX11_weekOf_13 : decode cX11_weekOf 13 = .ok (.istore_n 3, 1) := by decide +kernel
theorem dX11_weekOf_14 : decode cX11_weekOf 14 = .ok (.aload_n 0, 1) := by decide +kernel
theorem dX11_weekOf_15 : decode cX11_weekOf 15 = .ok (.iload_n 2, 1) := by decide +kernel
theorem dX11_weekOf_16 : decode cX11_weekOf 16 = .ok (.iconst 3, 1) := by decide +kernel
theorem dX11_weekOf_17 : decode cX11_weekOf 17 = .ok (.invokevirtual 86, 3) := by decide +kernel
theorem dX11_weekOf_20 : decode cX11_weekOf 20 = .ok (.iload_n 3, 1) := by decide +kernel
theorem dX11_weekOf_21 : decode cX11_weekOf 21 = .ok (.ifCond .lt 10, 3) := by decide +kernel
theorem dX11_weekOf_24 : decode cX11_weekOf 24 = .ok (.iload_n 3, 1) := by decide +kernel
theorem dX11_weekOf_25 : decode cX11_weekOf 25 = .ok (.sipush 280, 3) := by decide +kernel
theorem dX11_weekOf_28 : decode cX11_weekOf 28 = .ok (.if_icmp .lt 5, 3) := by decide +kernel
theorem dX11_weekOf_31 : decode cX11_weekOf 31 = .ok (.iconst (-1), 1) := by decide +kernel
theorem dX11_weekOf_32 : decode cX11_weekOf 32 = .ok (.ireturn, 1) := by decide +kernel
theorem dX11_weekOf_33 : decode cX11_weekOf 33 = .ok (.iload_n 3, 1) := by decide +kernel
theorem dX11_weekOf_34 : decode cX11_weekOf 34 = .ok (.bipush 7, 2) := by decide +kernel
theorem dX11_weekOf_36 : decode cX11_weekOf 36 = .ok (.idiv, 1) := by decide +kernel
theorem dX11_weekOf_37 : decode cX11_weekOf 37 = .ok (.istore 4, 2) := by decide +kernel
theorem dX11_weekOf_39 : decode cX11_weekOf 39 = .ok (.iload_n 2, 1) := by decide +kernel
theorem dX11_weekOf_40 : decode cX11_weekOf 40 = .ok (.ifCond .ne 6, 3) := by decide +kernel
theorem dX11_weekOf_43 : decode cX11_weekOf 43 = .ok (.iload 4, 2) := by decide +kernel
theorem dX11_weekOf_45 : decode cX11_weekOf 45 = .ok (.ireturn, 1) := by decide +kernel
theorem dX11_weekOf_46 : decode cX11_weekOf 46 = .ok (.iload_n 2, 1) := by decide +kernel
theorem dX11_weekOf_47 : decode cX11_weekOf 47 = .ok (.iconst 1, 1) := by decide +kernel
theorem dX11_weekOf_48 : decode cX11_weekOf 48 = .ok (.if_icmp .ne 15, 3) := by decide +kernel
theorem dX11_weekOf_51 : decode cX11_weekOf 51 = .ok (.aload_n 0, 1) := by decide +kernel
theorem dX11_weekOf_52 : decode cX11_weekOf 52 = .ok (.getfield 75, 3) := by decide +kernel
theorem dX11_weekOf_55 : decode cX11_weekOf 55 = .ok (.iload 4, 2) := by decide +kernel
theorem dX11_weekOf_57 : decode cX11_weekOf 57 = .ok (.invokevirtual 345, 3) := by decide +kernel
theorem dX11_weekOf_60 : decode cX11_weekOf 60 = .ok (.goto 23, 3) := by decide +kernel
theorem dX11_weekOf_63 : decode cX11_weekOf 63 = .ok (.aload_n 0, 1) := by decide +kernel
theorem dX11_weekOf_64 : decode cX11_weekOf 64 = .ok (.getfield 75, 3) := by decide +kernel
theorem dX11_weekOf_67 : decode cX11_weekOf 67 = .ok (.iload 4, 2) := by decide +kernel
theorem dX11_weekOf_69 : decode cX11_weekOf 69 = .ok (.bipush 7, 2) := by decide +kernel
theorem dX11_weekOf_71 : decode cX11_weekOf 71 = .ok (.imul, 1) := by decide +kernel
theorem dX11_weekOf_72 : decode cX11_weekOf 72 = .ok (.iload 4, 2) := by decide +kernel
theorem dX11_weekOf_74 : decode cX11_weekOf 74 = .ok (.bipush 7, 2) := by decide +kernel
theorem dX11_weekOf_76 : decode cX11_weekOf 76 = .ok (.imul, 1) := by decide +kernel
theorem dX11_weekOf_77 : decode cX11_weekOf 77 = .ok (.bipush 7, 2) := by decide +kernel
theorem dX11_weekOf_79 : decode cX11_weekOf 79 = .ok (.iadd, 1) := by decide +kernel
theorem dX11_weekOf_80 : decode cX11_weekOf 80 = .ok (.invokevirtual 325, 3) := by decide +kernel
theorem dX11_weekOf_83 : decode cX11_weekOf 83 = .ok (.ireturn, 1) := by decide +kernel
set_option maxRecDepth 20000 in
theorem ggX11_dayOfWeek_X11_requireDate : GoodIn wsX11_dayOfWeek wsX11_requireDate := goodIn_ca (goodIn_r _ [6, 7, 8, 1, 9, 10, 11, 12, 13, 14, 15, 16, 17, 18, 19, 20, 21, 22, 23, 32, 33, 34, 35, 36, 37, 38, 39, 40, 41, 42] (by decide +kernel) (by decide +kernel)) (goodIn_sub (fun _ h => List.mem_cons_of_mem _ (List.mem_append_right _ h)) (by decide +kernel))
set_option maxRecDepth 20000 in
theorem gX11_dayOfWeek_X11_requireDate : GoodIn wsX11_dayOfWeek (wsV RX11 304 RX11 yX11_requireDate wsX11_requireDate) := goodIn_app (goodIn_of _ (by decide +kernel)) ggX11_dayOfWeek_X11_requireDate
set_option maxRecDepth 20000 in
theorem ggX11_dayOfWeek_X10_weekday : GoodIn wsX11_dayOfWeek wsX10_weekday := goodIn_r _ [27, 28, 29, 30, 31] (by decide +kernel) (by decide +kernel)
set_option maxRecDepth 20000 in
theorem gX11_dayOfWeek_X10_weekday : GoodIn wsX11_dayOfWeek (wsV RX11 307 RX10 yX10_weekday wsX10_weekday) := goodIn_app (goodIn_of _ (by decide +kernel)) ggX11_dayOfWeek_X10_weekday
theorem dX11_dayOfWeek_0 : decode cX11_dayOfWeek 0 = .ok (.aload_n 0, 1) := by decide +kernel
theorem dX11_dayOfWeek_1 : decode cX11_dayOfWeek 1 = .ok (.getfield 75, 3) := by decide +kernel
theorem dX11_dayOfWeek_4 : decode cX11_dayOfWeek 4 = .ok (.aload_n 0, 1) := by decide +kernel
theorem dX11_dayOfWeek_5 : decode cX11_dayOfWeek 5 = .ok (.iload_n 1, 1) := by decide +kernel
theorem dX11_dayOfWeek_6 : decode cX11_dayOfWeek 6 = .ok (.invokevirtual 304, 3) := by decide +kernel
theorem dX11_dayOfWeek_9 : decode cX11_dayOfWeek 9 = .ok (.invokevirtual 307, 3) := by decide +kernel
theorem dX11_dayOfWeek_12 : decode cX11_dayOfWeek 12 = .ok (.ireturn, 1) := by decide +kernel
set_option maxRecDepth 20000 in
theorem ggX11_later_X11_requireDate : GoodIn wsX11_later wsX11_requireDate := goodIn_ca (goodIn_r _ [6, 7, 8, 1, 9, 10, 11, 12, 13, 14, 15, 16, 17, 18, 19, 20, 21, 22, 23, 34, 35, 36, 37, 38, 39, 40, 41, 42, 43, 44] (by decide +kernel) (by decide +kernel)) (goodIn_sub (fun _ h => List.mem_cons_of_mem _ (List.mem_append_right _ h)) (by decide +kernel))
set_option maxRecDepth 20000 in
theorem gX11_later_X11_requireDate : GoodIn wsX11_later (wsV RX11 304 RX11 yX11_requireDate wsX11_requireDate) := goodIn_app (goodIn_of _ (by decide +kernel)) ggX11_later_X11_requireDate
set_option maxRecDepth 20000 in
theorem ggX11_later_X11_requireBetween : GoodIn wsX11_later wsX11_requireBetween := goodIn_ca (goodIn_r _ [27, 7, 8] (by decide +kernel) (by decide +kernel)) (goodIn_sub (fun _ h => List.mem_cons_of_mem _ (List.mem_append_right _ h)) (by decide +kernel))
set_option maxRecDepth 20000 in
theorem gX11_later_X11_requireBetween : GoodIn wsX11_later (wsV RX11 292 RX11 yX11_requireBetween wsX11_requireBetween) := goodIn_app (goodIn_of _ (by decide +kernel)) ggX11_later_X11_requireBetween
set_option maxRecDepth 20000 in
theorem ggX11_later_X10_dateAt : GoodIn wsX11_later wsX10_dateAt := goodIn_r _ [31, 23, 22, 32, 33] (by decide +kernel) (by decide +kernel)
set_option maxRecDepth 20000 in
theorem gX11_later_X10_dateAt : GoodIn wsX11_later (wsV RX11 335 RX10 yX10_dateAt wsX10_dateAt) := goodIn_app (goodIn_of _ (by decide +kernel)) ggX11_later_X10_dateAt
theorem dX11_later_0 : decode cX11_later 0 = .ok (.aload_n 0, 1) := by decide +kernel
theorem dX11_later_1 : decode cX11_later 1 = .ok (.iload_n 1, 1) := by decide +kernel
theorem dX11_later_2 : decode cX11_later 2 = .ok (.invokevirtual 304, 3) := by decide +kernel
theorem dX11_later_5 : decode cX11_later 5 = .ok (.istore_n 3, 1) := by decide +kernel
theorem dX11_later_6 : decode cX11_later 6 = .ok (.aload_n 0, 1) := by decide +kernel
theorem dX11_later_7 : decode cX11_later 7 = .ok (.iload_n 2, 1) := by decide +kernel
theorem dX11_later_8 : decode cX11_later 8 = .ok (.sipush (-1000), 3) := by decide +kernel
theorem dX11_later_11 : decode cX11_later 11 = .ok (.sipush 1000, 3) := by decide +kernel
theorem dX11_later_14 : decode cX11_later 14 = .ok (.invokevirtual 292, 3) := by decide +kernel
theorem dX11_later_17 : decode cX11_later 17 = .ok (.aload_n 0, 1) := by decide +kernel
theorem dX11_later_18 : decode cX11_later 18 = .ok (.getfield 75, 3) := by decide +kernel
theorem dX11_later_21 : decode cX11_later 21 = .ok (.iload_n 3, 1) := by decide +kernel
theorem dX11_later_22 : decode cX11_later 22 = .ok (.iload_n 2, 1) := by decide +kernel
theorem dX11_later_23 : decode cX11_later 23 = .ok (.iadd, 1) := by decide +kernel
theorem dX11_later_24 : decode cX11_later 24 = .ok (.invokevirtual 335, 3) := by decide +kernel
theorem dX11_later_27 : decode cX11_later 27 = .ok (.ireturn, 1) := by decide +kernel
set_option maxRecDepth 20000 in
theorem ggX11_append_X9_signsIn : GoodIn wsX11_append wsX9_signsIn := goodIn_r _ [9] (by decide +kernel) (by decide +kernel)
set_option maxRecDepth 20000 in
theorem gX11_append_X9_signsIn : GoodIn wsX11_append (wsV RX11 351 RX9 yX9_signsIn wsX9_signsIn) := goodIn_app (goodIn_of _ (by decide +kernel)) ggX11_append_X9_signsIn
set_option maxRecDepth 20000 in
theorem ggX11_append_X9_add : GoodIn wsX11_append wsX9_add := goodIn_r _ [13, 14, 15, 27, 28, 29, 30, 31, 32, 33, 34] (by decide +kernel) (by decide +kernel)
set_option maxRecDepth 20000 in
theorem gX11_append_X9_add : GoodIn wsX11_append (wsV RX11 359 RX9 yX9_add wsX9_add) := goodIn_app (goodIn_of _ (by decide +kernel)) ggX11_append_X9_add
theorem dX11_append_0 : decode cX11_append 0 = .ok (.aload_n 0, 1) := by decide +kernel
theorem dX11_append_1 : decode cX11_append 1 = .ok (.getfield 82, 3) := by decide +kernel
theorem dX11_append_4 : decode cX11_append 4 = .ok (.iload_n 1, 1) := by decide +kernel
theorem dX11_append_5 : decode cX11_append 5 = .ok (.invokevirtual 351, 3) := by decide +kernel
theorem dX11_append_8 : decode cX11_append 8 = .ok (.aload_n 0, 1) := by decide +kernel
theorem dX11_append_9 : decode cX11_append 9 = .ok (.getfield 82, 3) := by decide +kernel
theorem dX11_append_12 : decode cX11_append 12 = .ok (.iload_n 2, 1) := by decide +kernel
theorem dX11_append_13 : decode cX11_append 13 = .ok (.invokevirtual 351, 3) := by decide +kernel
theorem dX11_append_16 : decode cX11_append 16 = .ok (.iadd, 1) := by decide +kernel
theorem dX11_append_17 : decode cX11_append 17 = .ok (.aload_n 0, 1) := by decide +kernel
theorem dX11_append_18 : decode cX11_append 18 = .ok (.getfield 82, 3) := by decide +kernel
theorem dX11_append_21 : decode cX11_append 21 = .ok (.iload_n 3, 1) := by decide +kernel
theorem dX11_append_22 : decode cX11_append 22 = .ok (.invokevirtual 351, 3) := by decide +kernel
theorem dX11_append_25 : decode cX11_append 25 = .ok (.iadd, 1) := by decide +kernel
theorem dX11_append_26 : decode cX11_append 26 = .ok (.aload_n 0, 1) := by decide +kernel
theorem dX11_append_27 : decode cX11_append 27 = .ok (.getfield 82, 3) := by decide +kernel
theorem dX11_append_30 : decode cX11_append 30 = .ok (.iload 4, 2) := by decide +kernel
theorem dX11_append_32 : decode cX11_append 32 = .ok (.invokevirtual 351, 3) := by decide +kernel
theorem dX11_append_35 : decode cX11_append 35 = .ok (.iadd, 1) := by decide +kernel
theorem dX11_append_36 : decode cX11_append 36 = .ok (.aload_n 0, 1) := by decide +kernel
theorem dX11_append_37 : decode cX11_append 37 = .ok (.getfield 82, 3) := by decide +kernel
theorem dX11_append_40 : decode cX11_append 40 = .ok (.iload 5, 2) := by decide +kernel
theorem dX11_append_42 : decode cX11_append 42 = .ok (.invokevirtual 351, 3) := by decide +kernel
theorem dX11_append_45 : decode cX11_append 45 = .ok (.iadd, 1) := by decide +kernel
theorem dX11_append_46 : decode cX11_append 46 = .ok (.istore 6, 2) := by decide +kernel
theorem dX11_append_48 : decode cX11_append 48 = .ok (.aload_n 0, 1) := by decide +kernel
theorem dX11_append_49 : decode cX11_append 49 = .ok (.getfield 82, 3) := by decide +kernel
theorem dX11_append_52 : decode cX11_append 52 = .ok (.getfield 354, 3) := by decide +kernel
theorem dX11_append_55 : decode cX11_append 55 = .ok (.iload 6, 2) := by decide +kernel
theorem dX11_append_57 : decode cX11_append 57 = .ok (.iadd, 1) := by decide +kernel
theorem dX11_append_58 : decode cX11_append 58 = .ok (.bipush 100, 2) := by decide +kernel
theorem dX11_append_60 : decode cX11_append 60 = .ok (.if_icmp .le 14, 3) := by decide +kernel
theorem dX11_append_63 : decode cX11_append 63 = .ok (.new 105, 3) := by decide +kernel
theorem dX11_append_66 : decode cX11_append 66 = .ok (.dup, 1) := by decide +kernel
theorem dX11_append_67 : decode cX11_append 67 = .ok (.ldc_w 357, 3) := by decide +kernel
theorem dX11_append_70 : decode cX11_append 70 = .ok (.invokespecial 109, 3) := by decide +kernel
theorem dX11_append_73 : decode cX11_append 73 = .ok (.athrow, 1) := by decide +kernel
theorem dX11_append_74 : decode cX11_append 74 = .ok (.aload_n 0, 1) := by decide +kernel
theorem dX11_append_75 : decode cX11_append 75 = .ok (.getfield 82, 3) := by decide +kernel
theorem dX11_append_78 : decode cX11_append 78 = .ok (.iload_n 1, 1) := by decide +kernel
theorem dX11_append_79 : decode cX11_append 79 = .ok (.invokevirtual 359, 3) := by decide +kernel
theorem dX11_append_82 : decode cX11_append 82 = .ok (.aload_n 0, 1) := by decide +kernel
theorem dX11_append_83 : decode cX11_append 83 = .ok (.getfield 82, 3) := by decide +kernel
theorem dX11_append_86 : decode cX11_append 86 = .ok (.iload_n 2, 1) := by decide +kernel
theorem dX11_append_87 : decode cX11_append 87 = .ok (.invokevirtual 359, 3) := by decide +kernel
theorem dX11_append_90 : decode cX11_append 90 = .ok (.aload_n 0, 1) := by decide +kernel
theorem dX11_append_91 : decode cX11_append 91 = .ok (.getfield 82, 3) := by decide +kernel
theorem dX11_append_94 : decode cX11_append 94 = .ok (.iload_n 3, 1) := by decide +kernel
theorem dX11_append_95 : decode cX11_append 95 = .ok (.invokevirtual 359, 3) := by decide +kernel
theorem dX11_append_98 : decode cX11_append 98 = .ok (.aload_n 0, 1) := by decide +kernel
theorem dX11_append_99 : decode cX11_append 99 = .ok (.getfield 82, 3) := by decide +kernel
theorem dX11_append_102 : decode cX11_append 102 = .ok (.iload 4, 2) := by decide +kernel
theorem dX11_append_104 : decode cX11_append 104 = .ok (.invokevirtual 359, 3) := by decide +kernel
theorem dX11_append_107 : decode cX11_append 107 = .ok (.aload_n 0, 1) := by decide +kernel
theorem dX11_append_108 : decode cX11_append 108 = .ok (.getfield 82, 3) := by decide +kernel
theorem dX11_append_111 : decode cX11_append 111 = .ok (.iload 5, 2) := by decide +kernel
theorem dX11_append_113 : decode cX11_append 113 = .ok (.invokevirtual 359, 3) := by decide +kernel
theorem dX11_append_116 : decode cX11_append 116 = .ok (.aload_n 0, 1) := by decide +kernel
theorem dX11_append_117 : decode cX11_append 117 = .ok (.getfield 82, 3) := by decide +kernel
theorem dX11_append_120 : decode cX11_append 120 = .ok (.getfield 354, 3) := by decide +kernel
theorem dX11_append_123 : decode cX11_append 123 = .ok (.ireturn, 1) := by decide +kernel
set_option maxRecDepth 20000 in
theorem ggX11_read_X9_parse : GoodIn wsX11_read wsX9_parse := goodIn_r _ [15, 16, 17, 18, 19, 20, 21, 22, 14, 23, 24, 25, 26, 27, 28, 29, 30, 31, 32, 33, 34, 35, 36, 37, 38, 39, 40, 41, 42, 43, 44, 45, 46, 47, 48, 49, 50, 51, 52, 53, 54, 55, 56, 57, 58, 59, 60, 61, 62, 63, 64, 65, 66, 67, 68, 69, 70, 71, 72, 73, 74, 75, 76, 77, 78, 79, 80, 81, 82, 83, 84, 85, 86, 87, 88, 89, 90, 91, 92, 246, 247, 248, 249, 250, 251, 252, 253, 254, 255] (by decide +kernel) (by decide +kernel)
set_option maxRecDepth 20000 in
theorem gX11_read_X9_parse : GoodIn wsX11_read (wsV RX11 365 RX9 yX9_parse wsX9_parse) := goodIn_app (goodIn_of _ (by decide +kernel)) ggX11_read_X9_parse
set_option maxRecDepth 20000 in
theorem ggX11_read_X9_empty : GoodIn wsX11_read wsX9_empty := goodIn_r _ [96, 18, 246, 247, 248, 249, 250, 251, 252, 253] (by decide +kernel) (by decide +kernel)
set_option maxRecDepth 20000 in
theorem gX11_read_X9_empty : GoodIn wsX11_read (wsV RX11 362 RX9 yX9_empty wsX9_empty) := goodIn_app (goodIn_of _ (by decide +kernel)) ggX11_read_X9_empty
set_option maxRecDepth 20000 in
theorem ggX11_read_X8_hardWishes : GoodIn wsX11_read wsX8_hardWishes := goodIn_r _ [100, 101, 102, 103, 32, 104, 34, 105, 106, 107, 108, 254, 255] (by decide +kernel) (by decide +kernel)
set_option maxRecDepth 20000 in
theorem gX11_read_X8_hardWishes : GoodIn wsX11_read (wsV RX11 214 RX8 yX8_hardWishes wsX8_hardWishes) := goodIn_app (goodIn_of _ (by decide +kernel)) ggX11_read_X8_hardWishes
set_option maxRecDepth 20000 in
theorem ggX11_read_X7_take : GoodIn wsX11_read wsX7_take := goodIn_r _ [113, 114, 115, 30, 31, 32, 33, 34, 116, 117, 118, 112, 119, 120, 121, 122, 123, 124, 125, 126, 127, 128, 129, 130, 131, 132, 90, 91, 92, 133, 134, 135, 136, 137, 138, 139, 140, 141, 102, 103, 104, 142, 106, 107, 108, 143, 144, 145, 146, 147, 148, 149, 150, 256, 257, 258, 259, 260, 261, 262, 263, 264, 265, 266, 267, 254, 255] (by decide +kernel) (by decide +kernel)
set_option maxRecDepth 20000 in
theorem gX11_read_X7_take : GoodIn wsX11_read (wsV RX11 206 RX7 yX7_take wsX7_take) := goodIn_app (goodIn_of _ (by decide +kernel)) ggX11_read_X7_take
set_option maxRecDepth 20000 in
theorem ggX11_read_X7_isRight : GoodIn wsX11_read wsX7_isRight := goodIn_r _ [154, 114, 155, 156, 157, 112, 158, 123, 121, 126, 122, 127, 128, 129, 130, 131, 120, 256, 257, 258, 259, 260, 261, 262, 263, 264, 265, 266, 267] (by decide +kernel) (by decide +kernel)
set_option maxRecDepth 20000 in
theorem gX11_read_X7_isRight : GoodIn wsX11_read (wsV RX11 373 RX7 yX7_isRight wsX7_isRight) := goodIn_app (goodIn_of _ (by decide +kernel)) ggX11_read_X7_isRight
set_option maxRecDepth 20000 in
theorem ggX11_read_X11_beginChange : GoodIn wsX11_read wsX11_beginChange := goodIn_r _ [163, 164, 6, 165, 166, 167, 168, 169, 170, 171, 172, 173, 174, 175, 176, 177, 178, 179, 180, 181, 182, 183, 184, 185, 186, 187, 188, 189, 235, 236, 237, 238, 239, 240, 241, 242, 243, 244, 245, 254, 255, 268, 269, 270, 271, 272, 273, 274, 275, 276, 277, 278] (by decide +kernel) (by decide +kernel)
set_option maxRecDepth 20000 in
theorem gX11_read_X11_beginChange : GoodIn wsX11_read (wsV RX11 110 RX11 yX11_beginChange wsX11_beginChange) := goodIn_app (goodIn_of _ (by decide +kernel)) ggX11_read_X11_beginChange
set_option maxRecDepth 20000 in
theorem ggX11_read_X8_putTable : GoodIn wsX11_read wsX8_putTable := goodIn_r _ [193, 34, 194, 195, 175, 176, 177, 254, 255] (by decide +kernel) (by decide +kernel)
set_option maxRecDepth 20000 in
theorem gX11_read_X8_putTable : GoodIn wsX11_read (wsV RX11 174 RX8 yX8_putTable wsX8_putTable) := goodIn_app (goodIn_of _ (by decide +kernel)) ggX11_read_X8_putTable
set_option maxRecDepth 20000 in
theorem ggX11_read_X6_costOf : GoodIn wsX11_read wsX6_costOf := goodIn_r _ [200, 201, 202, 203, 32, 204, 205, 30, 31, 33, 34, 206, 148, 149, 150, 207, 208, 209, 210, 211, 212, 213, 199, 214, 215, 216, 217, 218, 219, 220, 221, 222, 223, 224, 225, 226, 227, 228, 102, 103, 104, 229, 106, 107, 108, 230, 231, 232, 233, 105, 234, 254, 255] (by decide +kernel) (by decide +kernel)
set_option maxRecDepth 20000 in
theorem gX11_read_X6_costOf : GoodIn wsX11_read (wsV RX11 228 RX6 yX6_costOf wsX6_costOf) := goodIn_app (goodIn_of _ (by decide +kernel)) ggX11_read_X6_costOf
theorem dX11_read_0 : decode cX11_read 0 = .ok (.aload_n 0, 1) := by decide +kernel
theorem dX11_read_1 : decode cX11_read 1 = .ok (.getfield 82, 3) := by decide +kernel
theorem dX11_read_4 : decode cX11_read 4 = .ok (.aload_n 0, 1) := by decide +kernel
theorem dX11_read_5 : decode cX11_read 5 = .ok (.getfield 12, 3) := by decide +kernel
theorem dX11_read_8 : decode cX11_read 8 = .ok (.invokevirtual 365, 3) := by decide +kernel
theorem dX11_read_11 : decode cX11_read 11 = .ok (.istore_n 1, 1) := by decide +kernel
theorem dX11_read_12 : decode cX11_read 12 = .ok (.aload_n 0, 1) := by decide +kernel
theorem dX11_read_13 : decode cX11_read 13 = .ok (.getfield 82, 3) := by decide +kernel
theorem dX11_read_16 : decode cX11_read 16 = .ok (.invokevirtual 362, 3) := by decide +kernel
theorem dX11_read_19 : decode cX11_read 19 = .ok (.pop, 1) := by decide +kernel
theorem dX11_read_20 : decode cX11_read 20 = .ok (.iload_n 1, 1) := by decide +kernel
theorem dX11_read_21 : decode cX11_read 21 = .ok (.ifCond .ne 14, 3) := by decide +kernel
theorem dX11_read_24 : decode cX11_read 24 = .ok (.new 94, 3) := by decide +kernel
theorem dX11_read_27 : decode cX11_read 27 = .ok (.dup, 1) := by decide +kernel
theorem dX11_read_28 : decode cX11_read 28 = .ok (.ldc_w 368, 3) := by decide +kernel
theorem dX11_read_31 : decode cX11_read 31 = .ok (.invokespecial 98, 3) := by decide +kernel
theorem dX11_read_34 : decode cX11_read 34 = .ok (.athrow, 1) := by decide +kernel
theorem dX11_read_35 : decode cX11_read 35 = .ok (.aload_n 0, 1) := by decide +kernel
theorem dX11_read_36 : decode cX11_read 36 = .ok (.getfield 26, 3) := by decide +kernel
theorem dX11_read_39 : decode cX11_read 39 = .ok (.aload_n 0, 1) := by decide +kernel
theorem dX11_read_40 : decode cX11_read 40 = .ok (.getfield 12, 3) := by decide +kernel
theorem dX11_read_43 : decode cX11_read 43 = .ok (.aload_n 0, 1) := by decide +kernel
theorem dX11_read_44 : decode cX11_read 44 = .ok (.getfield 12, 3) := by decide +kernel
theorem dX11_read_47 : decode cX11_read 47 = .ok (.invokevirtual 214, 3) := by decide +kernel
theorem dX11_read_50 : decode cX11_read 50 = .ok (.invokevirtual 206, 3) := by decide +kernel
theorem dX11_read_53 : decode cX11_read 53 = .ok (.aload_n 0, 1) := by decide +kernel
theorem dX11_read_54 : decode cX11_read 54 = .ok (.getfield 26, 3) := by decide +kernel
theorem dX11_read_57 : decode cX11_read 57 = .ok (.aload_n 0, 1) := by decide +kernel
theorem dX11_read_58 : decode cX11_read 58 = .ok (.getfield 82, 3) := by decide +kernel
theorem dX11_read_61 : decode cX11_read 61 = .ok (.getfield 370, 3) := by decide +kernel
theorem dX11_read_64 : decode cX11_read 64 = .ok (.invokevirtual 373, 3) := by decide +kernel
theorem dX11_read_67 : decode cX11_read 67 = .ok (.ifCond .ne 14, 3) := by decide +kernel
theorem dX11_read_70 : decode cX11_read 70 = .ok (.new 105, 3) := by decide +kernel
theorem dX11_read_73 : decode cX11_read 73 = .ok (.dup, 1) := by decide +kernel
theorem dX11_read_74 : decode cX11_read 74 = .ok (.ldc_w 377, 3) := by decide +kernel
theorem dX11_read_77 : decode cX11_read 77 = .ok (.invokespecial 109, 3) := by decide +kernel
theorem dX11_read_80 : decode cX11_read 80 = .ok (.athrow, 1) := by decide +kernel
theorem dX11_read_81 : decode cX11_read 81 = .ok (.aload_n 0, 1) := by decide +kernel
theorem dX11_read_82 : decode cX11_read 82 = .ok (.invokevirtual 110, 3) := by decide +kernel
theorem dX11_read_85 : decode cX11_read 85 = .ok (.aload_n 0, 1) := by decide +kernel
theorem dX11_read_86 : decode cX11_read 86 = .ok (.getfield 12, 3) := by decide +kernel
theorem dX11_read_89 : decode cX11_read 89 = .ok (.aload_n 0, 1) := by decide +kernel
theorem dX11_read_90 : decode cX11_read 90 = .ok (.getfield 82, 3) := by decide +kernel
theorem dX11_read_93 : decode cX11_read 93 = .ok (.getfield 370, 3) := by decide +kernel
theorem dX11_read_96 : decode cX11_read 96 = .ok (.invokevirtual 174, 3) := by decide +kernel
theorem dX11_read_99 : decode cX11_read 99 = .ok (.aload_n 0, 1) := by decide +kernel
theorem dX11_read_100 : decode cX11_read 100 = .ok (.getfield 40, 3) := by decide +kernel
theorem dX11_read_103 : decode cX11_read 103 = .ok (.aload_n 0, 1) := by decide +kernel
theorem dX11_read_104 : decode cX11_read 104 = .ok (.getfield 12, 3) := by decide +kernel
theorem dX11_read_107 : decode cX11_read 107 = .ok (.aload_n 0, 1) := by decide +kernel
theorem dX11_read_108 : decode cX11_read 108 = .ok (.getfield 12, 3) := by decide +kernel
theorem dX11_read_111 : decode cX11_read 111 = .ok (.getfield 193, 3) := by decide +kernel
theorem dX11_read_114 : decode cX11_read 114 = .ok (.invokevirtual 228, 3) := by decide +kernel
theorem dX11_read_117 : decode cX11_read 117 = .ok (.ireturn, 1) := by decide +kernel
theorem dX11_errorPosition_0 : decode cX11_errorPosition 0 = .ok (.aload_n 0, 1) := by decide +kernel
theorem dX11_errorPosition_1 : decode cX11_errorPosition 1 = .ok (.getfield 82, 3) := by decide +kernel
theorem dX11_errorPosition_4 : decode cX11_errorPosition 4 = .ok (.getfield 379, 3) := by decide +kernel
theorem dX11_errorPosition_7 : decode cX11_errorPosition 7 = .ok (.ireturn, 1) := by decide +kernel
set_option maxRecDepth 20000 in
theorem ggX11_write_X11_requireTable : GoodIn wsX11_write wsX11_requireTable := goodIn_ca (goodIn_r _ [7, 8, 9, 2, 10, 11, 12, 13, 14, 15, 73, 74, 75, 76, 77, 78, 79, 80, 81, 82, 83, 84, 85] (by decide +kernel) (by decide +kernel)) (goodIn_sub (fun _ h => List.mem_cons_of_mem _ (List.mem_append_right _ h)) (by decide +kernel))
set_option maxRecDepth 20000 in
theorem gX11_write_X11_requireTable : GoodIn wsX11_write (wsV RX11 190 RX11 yX11_requireTable wsX11_requireTable) := goodIn_app (goodIn_of _ (by decide +kernel)) ggX11_write_X11_requireTable
set_option maxRecDepth 20000 in
theorem ggX11_write_X9_print : GoodIn wsX11_write wsX9_print := goodIn_r _ [20, 21, 22, 23, 24, 25, 26, 13, 27, 15, 28, 29, 30, 19, 31, 32, 33, 34, 35, 36, 37, 38, 39, 40, 41, 42, 43, 44, 45, 46, 47, 48, 49, 50, 51, 52, 53, 54, 55, 56, 57, 58, 59, 60, 61, 62, 63, 64, 65, 66, 67, 68, 69, 70, 71, 72, 86, 87, 88, 89, 90, 91, 92, 93, 84, 85] (by decide +kernel) (by decide +kernel)
set_option maxRecDepth 20000 in
theorem gX11_write_X9_print : GoodIn wsX11_write (wsV RX11 382 RX9 yX9_print wsX9_print) := goodIn_app (goodIn_of _ (by decide +kernel)) ggX11_write_X9_print
theorem dX11_write_0 : decode cX11_write 0 = .ok (.aload_n 0, 1) := by decide +kernel
theorem dX11_write_1 : decode cX11_write 1 = .ok (.invokevirtual 190, 3) := by decide +kernel
theorem dX11_write_4 : decode cX11_write 4 = .ok (.aload_n 0, 1) := by decide +kernel
theorem dX11_write_5 : decode cX11_write 5 = .ok (.getfield 82, 3) := by decide +kernel
theorem dX11_write_8 : decode cX11_write 8 = .ok (.aload_n 0, 1) := by decide +kernel
theorem dX11_write_9 : decode cX11_write 9 = .ok (.getfield 12, 3) := by decide +kernel
theorem dX11_write_12 : decode cX11_write 12 = .ok (.invokevirtual 382, 3) := by decide +kernel
theorem dX11_write_15 : decode cX11_write 15 = .ok (.ireturn, 1) := by decide +kernel
theorem dX11_writtenAt_0 : decode cX11_writtenAt 0 = .ok (.iload_n 1, 1) := by decide +kernel
theorem dX11_writtenAt_1 : decode cX11_writtenAt 1 = .ok (.ifCond .lt 14, 3) := by decide +kernel
theorem dX11_writtenAt_4 : decode cX11_writtenAt 4 = .ok (.iload_n 1, 1) := by decide +kernel
theorem dX11_writtenAt_5 : decode cX11_writtenAt 5 = .ok (.aload_n 0, 1) := by decide +kernel
theorem dX11_writtenAt_6 : decode cX11_writtenAt 6 = .ok (.getfield 82, 3) := by decide +kernel
theorem dX11_writtenAt_9 : decode cX11_writtenAt 9 = .ok (.getfield 385, 3) := by decide +kernel
theorem dX11_writtenAt_12 : decode cX11_writtenAt 12 = .ok (.if_icmp .lt 14, 3) := by decide +kernel
theorem dX11_writtenAt_15 : decode cX11_writtenAt 15 = .ok (.new 182, 3) := by decide +kernel
theorem dX11_writtenAt_18 : decode cX11_writtenAt 18 = .ok (.dup, 1) := by decide +kernel
theorem dX11_writtenAt_19 : decode cX11_writtenAt 19 = .ok (.ldc_w 388, 3) := by decide +kernel
theorem dX11_writtenAt_22 : decode cX11_writtenAt 22 = .ok (.invokespecial 186, 3) := by decide +kernel
theorem dX11_writtenAt_25 : decode cX11_writtenAt 25 = .ok (.athrow, 1) := by decide +kernel
theorem dX11_writtenAt_26 : decode cX11_writtenAt 26 = .ok (.aload_n 0, 1) := by decide +kernel
theorem dX11_writtenAt_27 : decode cX11_writtenAt 27 = .ok (.getfield 82, 3) := by decide +kernel
theorem dX11_writtenAt_30 : decode cX11_writtenAt 30 = .ok (.getfield 390, 3) := by decide +kernel
theorem dX11_writtenAt_33 : decode cX11_writtenAt 33 = .ok (.iload_n 1, 1) := by decide +kernel
theorem dX11_writtenAt_34 : decode cX11_writtenAt 34 = .ok (.caload, 1) := by decide +kernel
theorem dX11_writtenAt_35 : decode cX11_writtenAt 35 = .ok (.ireturn, 1) := by decide +kernel
set_option maxRecDepth 20000 in
theorem ggX11_undo_X4_forget : GoodIn wsX11_undo wsX4_forget := goodIn_r _ [9, 10, 39, 40, 41, 42, 43, 44, 45, 46] (by decide +kernel) (by decide +kernel)
set_option maxRecDepth 20000 in
theorem gX11_undo_X4_forget : GoodIn wsX11_undo (wsV RX11 397 RX4 yX4_forget wsX4_forget) := goodIn_app (goodIn_of _ (by decide +kernel)) ggX11_undo_X4_forget
set_option maxRecDepth 20000 in
theorem ggX11_undo_X5_back : GoodIn wsX11_undo wsX5_back := goodIn_r _ [15, 16, 17, 18, 19, 20, 21, 22, 23, 24, 36, 37, 38, 47, 48] (by decide +kernel) (by decide +kernel)
set_option maxRecDepth 20000 in
theorem gX11_undo_X5_back : GoodIn wsX11_undo (wsV RX11 400 RX5 yX5_back wsX5_back) := goodIn_app (goodIn_of _ (by decide +kernel)) ggX11_undo_X5_back
theorem dX11_undo_0 : decode cX11_undo 0 = .ok (.aload_n 0, 1) := by decide +kernel
theorem dX11_undo_1 : decode cX11_undo 1 = .ok (.getfield 19, 3) := by decide +kernel
theorem dX11_undo_4 : decode cX11_undo 4 = .ok (.getfield 394, 3) := by decide +kernel
theorem dX11_undo_7 : decode cX11_undo 7 = .ok (.ifCond .ne 5, 3) := by decide +kernel
theorem dX11_undo_10 : decode cX11_undo 10 = .ok (.iconst (-1), 1) := by decide +kernel
theorem dX11_undo_11 : decode cX11_undo 11 = .ok (.ireturn, 1) := by decide +kernel
theorem dX11_undo_12 : decode cX11_undo 12 = .ok (.aload_n 0, 1) := by decide +kernel
theorem dX11_undo_13 : decode cX11_undo 13 = .ok (.getfield 33, 3) := by decide +kernel
theorem dX11_undo_16 : decode cX11_undo 16 = .ok (.invokevirtual 397, 3) := by decide +kernel
theorem dX11_undo_19 : decode cX11_undo 19 = .ok (.aload_n 0, 1) := by decide +kernel
theorem dX11_undo_20 : decode cX11_undo 20 = .ok (.getfield 19, 3) := by decide +kernel
theorem dX11_undo_23 : decode cX11_undo 23 = .ok (.aload_n 0, 1) := by decide +kernel
theorem dX11_undo_24 : decode cX11_undo 24 = .ok (.getfield 12, 3) := by decide +kernel
theorem dX11_undo_27 : decode cX11_undo 27 = .ok (.invokevirtual 400, 3) := by decide +kernel
theorem dX11_undo_30 : decode cX11_undo 30 = .ok (.ireturn, 1) := by decide +kernel
set_option maxRecDepth 20000 in
theorem ggX11_checksum_X8_hasTable : GoodIn wsX11_checksum wsX8_hasTable := goodIn_r _ [7, 8, 24, 25] (by decide +kernel) (by decide +kernel)
set_option maxRecDepth 20000 in
theorem gX11_checksum_X8_hasTable : GoodIn wsX11_checksum (wsV RX11 403 RX8 yX8_hasTable wsX8_hasTable) := goodIn_app (goodIn_of _ (by decide +kernel)) ggX11_checksum_X8_hasTable
set_option maxRecDepth 20000 in
theorem ggX11_checksum_X8_lessonTotal : GoodIn wsX11_checksum wsX8_lessonTotal := goodIn_r _ [12, 8, 24, 25] (by decide +kernel) (by decide +kernel)
set_option maxRecDepth 20000 in
theorem gX11_checksum_X8_lessonTotal : GoodIn wsX11_checksum (wsV RX11 101 RX8 yX8_lessonTotal wsX8_lessonTotal) := goodIn_app (goodIn_of _ (by decide +kernel)) ggX11_checksum_X8_lessonTotal
theorem dX11_checksum_0 : decode cX11_checksum 0 = .ok (.aload_n 0, 1) := by decide +kernel
theorem dX11_checksum_1 : decode cX11_checksum 1 = .ok (.getfield 12, 3) := by decide +kernel
theorem dX11_checksum_4 : decode cX11_checksum 4 = .ok (.invokevirtual 403, 3) := by decide +kernel
theorem dX11_checksum_7 : decode cX11_checksum 7 = .ok (.ifCond .ne 5, 3) := by decide +kernel
theorem dX11_checksum_10 : decode cX11_checksum 10 = .ok (.iconst 0, 1) := by decide +kernel
theorem dX11_checksum_11 : decode cX11_checksum 11 = .ok (.ireturn, 1) := by decide +kernel
theorem dX11_checksum_12 : decode cX11_checksum 12 = .ok (.bipush 17, 2) := by decide +kernel
theorem dX11_checksum_14 : decode cX11_checksum 14 = .ok (.istore_n 1, 1) := by decide +kernel
theorem dX11_checksum_15 : decode cX11_checksum 15 = .ok (.iconst 0, 1) := by decide +kernel
theorem dX11_checksum_16 : decode cX11_checksum 16 = .ok (.istore_n 2, 1) := by decide +kernel
theorem dX11_checksum_17 : decode cX11_checksum 17 = .ok (.iload_n 2, 1) := by decide +kernel
theorem dX11_checksum_18 : decode cX11_checksum 18 = .ok (.aload_n 0, 1) := by decide +kernel
theorem dX11_checksum_19 : decode cX11_checksum 19 = .ok (.getfield 12, 3) := by decide +kernel
theorem dX11_checksum_22 : decode cX11_checksum 22 = .ok (.invokevirtual 101, 3) := by decide +kernel
theorem dX11_checksum_25 : decode cX11_checksum 25 = .ok (.if_icmp .ge 24, 3) := by decide +kernel
theorem dX11_checksum_28 : decode cX11_checksum 28 = .ok (.bipush 31, 2) := by decide +kernel
theorem dX11_checksum_30 : decode cX11_checksum 30 = .ok (.iload_n 1, 1) := by decide +kernel
theorem dX11_checksum_31 : decode cX11_checksum 31 = .ok (.imul, 1) := by decide +kernel
theorem dX11_checksum_32 : decode cX11_checksum 32 = .ok (.aload_n 0, 1) := by decide +kernel
theorem dX11_checksum_33 : decode cX11_checksum 33 = .ok (.getfield 12, 3) := by decide +kernel
theorem dX11_checksum_36 : decode cX11_checksum 36 = .ok (.getfield 193, 3) := by decide +kernel
theorem dX11_checksum_39 : decode cX11_checksum 39 = .ok (.iload_n 2, 1) := by decide +kernel
theorem dX11_checksum_40 : decode cX11_checksum 40 = .ok (.iaload, 1) := by decide +kernel
theorem dX11_checksum_41 : decode cX11_checksum 41 = .ok (.iadd, 1) := by decide +kernel
theorem dX11_checksum_42 : decode cX11_checksum 42 = .ok (.istore_n 1, 1) := by decide +kernel
theorem dX11_checksum_43 : decode cX11_checksum 43 = .ok (.iinc 2 1, 3) := by decide +kernel
theorem dX11_checksum_46 : decode cX11_checksum 46 = .ok (.goto (-29), 3) := by decide +kernel
theorem dX11_checksum_49 : decode cX11_checksum 49 = .ok (.iload_n 1, 1) := by decide +kernel
theorem dX11_checksum_50 : decode cX11_checksum 50 = .ok (.ireturn, 1) := by decide +kernel
set_option maxRecDepth 20000 in
theorem ggX11_errors_X1_sharedPairs : GoodIn wsX11_errors wsX1_sharedPairs := goodIn_r _ [13, 14, 15, 16, 17, 12, 18, 19, 20, 21, 22, 23, 24, 25, 26, 27, 28, 29, 30, 31, 32, 33, 34, 35, 36, 37, 38, 39, 40, 41, 42, 43, 44, 45, 46, 47, 48, 49, 50, 51, 52, 53, 54, 55, 56, 57, 58, 59, 60, 305, 303, 304] (by decide +kernel) (by decide +kernel)
set_option maxRecDepth 20000 in
theorem gX11_errors_X1_sharedPairs : GoodIn wsX11_errors (wsV RX11 408 RX1 yX1_sharedPairs wsX1_sharedPairs) := goodIn_app (goodIn_of _ (by decide +kernel)) ggX11_errors_X1_sharedPairs
set_option maxRecDepth 20000 in
theorem ggX11_errors_X3_faults : GoodIn wsX11_errors wsX3_faults := goodIn_r _ [65, 66, 67, 68, 69, 64, 70, 71, 72, 73, 74, 24, 25, 26, 75, 76, 77, 78, 79, 80, 34, 81, 36, 82, 83, 84, 85, 86, 87, 88, 89, 90, 91, 92, 93, 94, 95, 96, 306, 303, 304] (by decide +kernel) (by decide +kernel)
set_option maxRecDepth 20000 in
theorem gX11_errors_X3_faults : GoodIn wsX11_errors (wsV RX11 411 RX3 yX3_faults wsX3_faults) := goodIn_app (goodIn_of _ (by decide +kernel)) ggX11_errors_X3_faults
set_option maxRecDepth 20000 in
theorem ggX11_errors_X8_hasTable : GoodIn wsX11_errors wsX8_hasTable := goodIn_r _ [100, 36, 303, 304] (by decide +kernel) (by decide +kernel)
set_option maxRecDepth 20000 in
theorem gX11_errors_X8_hasTable : GoodIn wsX11_errors (wsV RX11 403 RX8 yX8_hasTable wsX8_hasTable) := goodIn_app (goodIn_of _ (by decide +kernel)) ggX11_errors_X8_hasTable
set_option maxRecDepth 20000 in
theorem ggX11_errors_X8_hardWishes : GoodIn wsX11_errors wsX8_hardWishes := goodIn_r _ [104, 105, 106, 107, 34, 108, 36, 109, 110, 111, 112, 303, 304] (by decide +kernel) (by decide +kernel)
set_option maxRecDepth 20000 in
theorem gX11_errors_X8_hardWishes : GoodIn wsX11_errors (wsV RX11 214 RX8 yX8_hardWishes wsX8_hardWishes) := goodIn_app (goodIn_of _ (by decide +kernel)) ggX11_errors_X8_hardWishes
set_option maxRecDepth 20000 in
theorem ggX11_errors_X7_take : GoodIn wsX11_errors wsX7_take := goodIn_r _ [117, 118, 119, 32, 33, 34, 35, 36, 120, 121, 122, 116, 123, 124, 125, 126, 127, 128, 129, 130, 131, 132, 133, 134, 135, 136, 46, 47, 48, 137, 138, 139, 140, 141, 142, 143, 144, 145, 106, 107, 108, 146, 110, 111, 112, 147, 148, 149, 150, 151, 38, 39, 40, 307, 308, 309, 310, 311, 312, 313, 314, 315, 316, 317, 318, 303, 304] (by decide +kernel) (by decide +kernel)
set_option maxRecDepth 20000 in
theorem gX11_errors_X7_take : GoodIn wsX11_errors (wsV RX11 206 RX7 yX7_take wsX7_take) := goodIn_app (goodIn_of _ (by decide +kernel)) ggX11_errors_X7_take
set_option maxRecDepth 20000 in
theorem ggX11_errors_X4_seekFirst : GoodIn wsX11_errors wsX4_seekFirst := goodIn_r _ [156, 157, 158, 159, 160, 161, 102, 103, 34, 104, 105, 106, 107, 108, 36, 109, 110, 111, 112, 162, 114, 115, 116, 117, 118, 119, 32, 33, 35, 120, 121, 122, 123, 124, 125, 126, 127, 128, 129, 130, 131, 132, 133, 134, 135, 136, 46, 47, 48, 137, 138, 139, 140, 141, 142, 143, 144, 145, 146, 147, 148, 149, 150, 151, 38, 39, 40, 163, 164, 165, 155, 166, 167, 168, 169, 170, 171, 172, 173, 174, 175, 176, 177, 178, 179, 180, 181, 182, 183, 184, 185, 186, 187, 188, 189, 190, 191, 192, 193, 194, 195, 196, 197, 198, 199, 200, 201, 202, 203, 204, 205, 206, 207, 208, 209, 210, 211, 212, 87, 88, 89, 90, 91, 92, 213, 214, 215, 216, 217, 218, 219, 220, 221, 295, 296, 297, 298, 299, 300, 301, 302, 307, 308, 309, 310, 311, 312, 313, 314, 315, 316, 317, 318, 303, 304] (by decide +kernel) (by decide +kernel)
set_option maxRecDepth 20000 in
theorem gX11_errors_X4_seekFirst : GoodIn wsX11_errors (wsV RX11 162 RX4 yX4_seekFirst wsX4_seekFirst) := goodIn_app (goodIn_of _ (by decide +kernel)) ggX11_errors_X4_seekFirst
set_option maxRecDepth 20000 in
theorem ggX11_errors_X8_tableIsAheadOf : GoodIn wsX11_errors wsX8_tableIsAheadOf := goodIn_r _ [225, 226, 227, 32, 33, 34, 35, 36, 303, 304] (by decide +kernel) (by decide +kernel)
set_option maxRecDepth 20000 in
theorem gX11_errors_X8_tableIsAheadOf : GoodIn wsX11_errors (wsV RX11 414 RX8 yX8_tableIsAheadOf wsX8_tableIsAheadOf) := goodIn_app (goodIn_of _ (by decide +kernel)) ggX11_errors_X8_tableIsAheadOf
set_option maxRecDepth 20000 in
theorem ggX11_errors_X7_isRight : GoodIn wsX11_errors wsX7_isRight := goodIn_r _ [231, 118, 232, 209, 210, 116, 211, 127, 125, 130, 126, 131, 132, 133, 134, 135, 124, 307, 308, 309, 310, 311, 312, 313, 314, 315, 316, 317, 318] (by decide +kernel) (by decide +kernel)
set_option maxRecDepth 20000 in
theorem gX11_errors_X7_isRight : GoodIn wsX11_errors (wsV RX11 373 RX7 yX7_isRight wsX7_isRight) := goodIn_app (goodIn_of _ (by decide +kernel)) ggX11_errors_X7_isRight
set_option maxRecDepth 20000 in
theorem ggX11_errors_X2_faults : GoodIn wsX11_errors wsX2_faults := goodIn_r _ [237, 238, 239, 240, 241, 242, 243, 236, 244, 245, 246, 247, 248, 249, 250, 251, 252, 253, 254, 34, 255, 227, 32, 33, 35, 36, 256, 38, 39, 40, 257, 258, 259, 260, 261, 262, 263, 264, 265, 266, 267, 46, 47, 48, 268, 269, 270, 271, 272, 273, 274, 275, 276, 277, 278, 279, 24, 25, 26, 280, 281, 282, 283, 319, 320, 321, 322, 323, 303, 304] (by decide +kernel) (by decide +kernel)
set_option maxRecDepth 20000 in
theorem gX11_errors_X2_faults : GoodIn wsX11_errors (wsV RX11 417 RX2 yX2_faults wsX2_faults) := goodIn_app (goodIn_of _ (by decide +kernel)) ggX11_errors_X2_faults
theorem dX11_errors_0 : decode cX11_errors 0 = .ok (.aload_n 0, 1) := by decide +kernel
theorem dX11_errors_1 : decode cX11_errors 1 = .ok (.getfield 47, 3) := by decide +kernel
theorem dX11_errors_4 : decode cX11_errors 4 = .ok (.aload_n 0, 1) := by decide +kernel
theorem dX11_errors_5 : decode cX11_errors 5 = .ok (.getfield 12, 3) := by decide +kernel
theorem dX11_errors_8 : decode cX11_errors 8 = .ok (.invokevirtual 408, 3) := by decide +kernel
theorem dX11_errors_11 : decode cX11_errors 11 = .ok (.aload_n 0, 1) := by decide +kernel
theorem dX11_errors_12 : decode cX11_errors 12 = .ok (.getfield 61, 3) := by decide +kernel
theorem dX11_errors_15 : decode cX11_errors 15 = .ok (.aload_n 0, 1) := by decide +kernel
theorem dX11_errors_16 : decode cX11_errors 16 = .ok (.getfield 12, 3) := by decide +kernel
theorem dX11_errors_19 : decode cX11_errors 19 = .ok (.invokevirtual 411, 3) := by decide +kernel
theorem dX11_errors_22 : decode cX11_errors 22 = .ok (.iadd, 1) := by decide +kernel
theorem dX11_errors_23 : decode cX11_errors 23 = .ok (.istore_n 1, 1) := by decide +kernel
theorem dX11_errors_24 : decode cX11_errors 24 = .ok (.aload_n 0, 1) := by decide +kernel
theorem dX11_errors_25 : decode cX11_errors 25 = .ok (.getfield 12, 3) := by decide +kernel
theorem dX11_errors_28 : decode cX11_errors 28 = .ok (.invokevirtual 403, 3) := by decide +kernel
theorem dX11_errors_31 : decode cX11_errors 31 = .ok (.ifCond .eq 101, 3) := by decide +kernel
theorem dX11_errors_34 : decode cX11_errors 34 = .ok (.aload_n 0, 1) := by decide +kernel
theorem dX11_errors_35 : decode cX11_errors 35 = .ok (.getfield 26, 3) := by decide +kernel
theorem dX11_errors_38 : decode cX11_errors 38 = .ok (.aload_n 0, 1) := by decide +kernel
theorem dX11_errors_39 : decode cX11_errors 39 = .ok (.getfield 12, 3) := by decide +kernel
theorem dX11_errors_42 : decode cX11_errors 42 = .ok (.aload_n 0, 1) := by decide +kernel
theorem dX11_errors_43 : decode cX11_errors 43 = .ok (.getfield 12, 3) := by decide +kernel
theorem dX11_errors_46 : decode cX11_errors 46 = .ok (.invokevirtual 214, 3) := by decide +kernel
theorem dX11_errors_49 : decode cX11_errors 49 = .ok (.invokevirtual 206, 3) := by decide +kernel
theorem dX11_errors_52 : decode cX11_errors 52 = .ok (.aload_n 0, 1) := by decide +kernel
theorem dX11_errors_53 : decode cX11_errors 53 = .ok (.getfield 33, 3) := by decide +kernel
theorem dX11_errors_56 : decode cX11_errors 56 = .ok (.aload_n 0, 1) := by decide +kernel
theorem dX11_errors_57 : decode cX11_errors 57 = .ok (.getfield 12, 3) := by decide +kernel
theorem dX11_errors_60 : decode cX11_errors 60 = .ok (.invokevirtual 162, 3) := by decide +kernel
theorem dX11_errors_63 : decode cX11_errors 63 = .ok (.ifCond .eq 24, 3) := by decide +kernel
theorem dX11_errors_66 : decode cX11_errors 66 = .ok (.aload_n 0, 1) := by decide +kernel
theorem dX11_errors_67 : decode cX11_errors 67 = .ok (.getfield 12, 3) := by decide +kernel
theorem dX11_errors_70 : decode cX11_errors 70 = .ok (.aload_n 0, 1) := by decide +kernel
theorem dX11_errors_71 : decode cX11_errors 71 = .ok (.getfield 33, 3) := by decide +kernel
theorem dX11_errors_74 : decode cX11_errors 74 = .ok (.getfield 170, 3) := by decide +kernel
theorem dX11_errors_77 : decode cX11_errors 77 = .ok (.invokevirtual 414, 3) := by decide +kernel
theorem dX11_errors_80 : decode cX11_errors 80 = .ok (.ifCond .ne 7, 3) := by decide +kernel
theorem dX11_errors_83 : decode cX11_errors 83 = .ok (.iconst 1, 1) := by decide +kernel
theorem dX11_errors_84 : decode cX11_errors 84 = .ok (.goto 4, 3) := by decide +kernel
theorem dX11_errors_87 : decode cX11_errors 87 = .ok (.iconst 0, 1) := by decide +kernel
theorem dX11_errors_88 : decode cX11_errors 88 = .ok (.istore_n 2, 1) := by decide +kernel
theorem dX11_errors_89 : decode cX11_errors 89 = .ok (.iload_n 1, 1) := by decide +kernel
theorem dX11_errors_90 : decode cX11_errors 90 = .ok (.aload_n 0, 1) := by decide +kernel
theorem dX11_errors_91 : decode cX11_errors 91 = .ok (.getfield 26, 3) := by decide +kernel
theorem dX11_errors_94 : decode cX11_errors 94 = .ok (.aload_n 0, 1) := by decide +kernel
theorem dX11_errors_95 : decode cX11_errors 95 = .ok (.getfield 12, 3) := by decide +kernel
theorem dX11_errors_98 : decode cX11_errors 98 = .ok (.getfield 193, 3) := by decide +kernel
theorem dX11_errors_101 : decode cX11_errors 101 = .ok (.invokevirtual 373, 3) := by decide +kernel
theorem dX11_errors_104 : decode cX11_errors 104 = .ok (.ifCond .eq 11, 3) := by decide +kernel
theorem dX11_errors_107 : decode cX11_errors 107 = .ok (.iload_n 2, 1) := by decide +kernel
theorem dX11_errors_108 : decode cX11_errors 108 = .ok (.ifCond .eq 7, 3) := by decide +kernel
theorem dX11_errors_111 : decode cX11_errors 111 = .ok (.iconst 0, 1) := by decide +kernel
theorem dX11_errors_112 : decode cX11_errors 112 = .ok (.goto 4, 3) := by decide +kernel
theorem dX11_errors_115 : decode cX11_errors 115 = .ok (.iconst 1, 1) := by decide +kernel
theorem dX11_errors_116 : decode cX11_errors 116 = .ok (.iadd, 1) := by decide +kernel
theorem dX11_errors_117 : decode cX11_errors 117 = .ok (.istore_n 1, 1) := by decide +kernel
theorem dX11_errors_118 : decode cX11_errors 118 = .ok (.iload_n 1, 1) := by decide +kernel
theorem dX11_errors_119 : decode cX11_errors 119 = .ok (.aload_n 0, 1) := by decide +kernel
theorem dX11_errors_120 : decode cX11_errors 120 = .ok (.getfield 54, 3) := by decide +kernel
theorem dX11_errors_123 : decode cX11_errors 123 = .ok (.aload_n 0, 1) := by decide +kernel
theorem dX11_errors_124 : decode cX11_errors 124 = .ok (.getfield 12, 3) := by decide +kernel
theorem dX11_errors_127 : decode cX11_errors 127 = .ok (.invokevirtual 417, 3) := by decide +kernel
theorem dX11_errors_130 : decode cX11_errors 130 = .ok (.iadd, 1) := by decide +kernel
theorem dX11_errors_131 : decode cX11_errors 131 = .ok (.istore_n 1, 1) := by decide +kernel
theorem dX11_errors_132 : decode cX11_errors 132 = .ok (.iload_n 1, 1) := by decide +kernel
theorem dX11_errors_133 : decode cX11_errors 133 = .ok (.ireturn, 1) := by decide +kernel
set_option maxRecDepth 20000 in
theorem ggX11_beginChange_X5_keep : GoodIn wsX11_beginChange wsX5_keep := goodIn_r _ [8, 9, 10, 11, 12, 13, 14, 15, 16, 17, 18, 19, 20, 21, 39, 40, 41, 42, 43] (by decide +kernel) (by decide +kernel)
set_option maxRecDepth 20000 in
theorem gX11_beginChange_X5_keep : GoodIn wsX11_beginChange (wsV RX11 418 RX5 yX5_keep wsX5_keep) := goodIn_app (goodIn_of _ (by decide +kernel)) ggX11_beginChange_X5_keep
set_option maxRecDepth 20000 in
theorem ggX11_beginChange_X4_forget : GoodIn wsX11_beginChange wsX4_forget := goodIn_r _ [26, 27, 44, 45, 46, 47, 48, 49, 50, 51] (by decide +kernel) (by decide +kernel)
set_option maxRecDepth 20000 in
theorem gX11_beginChange_X4_forget : GoodIn wsX11_beginChange (wsV RX11 397 RX4 yX4_forget wsX4_forget) := goodIn_app (goodIn_of _ (by decide +kernel)) ggX11_beginChange_X4_forget
theorem dX11_beginChange_0 : decode cX11_beginChange 0 = .ok (.aload_n 0, 1) := by decide +kernel
theorem dX11_beginChange_1 : decode cX11_beginChange 1 = .ok (.getfield 19, 3) := by decide +kernel
theorem dX11_beginChange_4 : decode cX11_beginChange 4 = .ok (.aload_n 0, 1) := by decide +kernel
theorem dX11_beginChange_5 : decode cX11_beginChange 5 = .ok (.getfield 12, 3) := by decide +kernel
theorem dX11_beginChange_8 : decode cX11_beginChange 8 = .ok (.invokevirtual 418, 3) := by decide +kernel
theorem dX11_beginChange_11 : decode cX11_beginChange 11 = .ok (.aload_n 0, 1) := by decide +kernel
theorem dX11_beginChange_12 : decode cX11_beginChange 12 = .ok (.getfield 33, 3) := by decide +kernel
theorem dX11_beginChange_15 : decode cX11_beginChange 15 = .ok (.invokevirtual 397, 3) := by decide +kernel
theorem dX11_beginChange_18 : decode cX11_beginChange 18 = .ok (.return_, 1) := by decide +kernel
set_option maxRecDepth 20000 in
theorem ggX11_requireRange_X11_requireBetween : GoodIn wsX11_requireRange wsX11_requireBetween := goodIn_ca (goodIn_r _ [5, 6, 7] (by decide +kernel) (by decide +kernel)) (goodIn_sub (fun _ h => List.mem_cons_of_mem _ (List.mem_append_right _ h)) (by decide +kernel))
set_option maxRecDepth 20000 in
theorem gX11_requireRange_X11_requireBetween : GoodIn wsX11_requireRange (wsV RX11 292 RX11 yX11_requireBetween wsX11_requireBetween) := goodIn_app (goodIn_of _ (by decide +kernel)) ggX11_requireRange_X11_requireBetween
theorem dX11_requireRange_0 : decode cX11_requireRange 0 = .ok (.aload_n 0, 1) := by decide +kernel
theorem dX11_requireRange_1 : decode cX11_requireRange 1 = .ok (.iload_n 1, 1) := by decide +kernel
theorem dX11_requireRange_2 : decode cX11_requireRange 2 = .ok (.iconst 0, 1) := by decide +kernel
theorem dX11_requireRange_3 : decode cX11_requireRange 3 = .ok (.iload_n 2, 1) := by decide +kernel
theorem dX11_requireRange_4 : decode cX11_requireRange 4 = .ok (.iconst 1, 1) := by decide +kernel
theorem dX11_requireRange_5 : decode cX11_requireRange 5 = .ok (.isub, 1) := by decide +kernel
theorem dX11_requireRange_6 : decode cX11_requireRange 6 = .ok (.invokevirtual 292, 3) := by decide +kernel
theorem dX11_requireRange_9 : decode cX11_requireRange 9 = .ok (.return_, 1) := by decide +kernel
theorem dX11_requireBetween_0 : decode cX11_requireBetween 0 = .ok (.iload_n 1, 1) := by decide +kernel
theorem dX11_requireBetween_1 : decode cX11_requireBetween 1 = .ok (.iload_n 2, 1) := by decide +kernel
theorem dX11_requireBetween_2 : decode cX11_requireBetween 2 = .ok (.if_icmp .lt 8, 3) := by decide +kernel
theorem dX11_requireBetween_5 : decode cX11_requireBetween 5 = .ok (.iload_n 1, 1) := by decide +kernel
theorem dX11_requireBetween_6 : decode cX11_requireBetween 6 = .ok (.iload_n 3, 1) := by decide +kernel
theorem dX11_requireBetween_7 : decode cX11_requireBetween 7 = .ok (.if_icmp .le 14, 3) := by decide +kernel
theorem dX11_requireBetween_10 : decode cX11_requireBetween 10 = .ok (.new 94, 3) := by decide +kernel
theorem dX11_requireBetween_13 : decode cX11_requireBetween 13 = .ok (.dup, 1) := by decide +kernel
theorem dX11_requireBetween_14 : decode cX11_requireBetween 14 = .ok (.ldc_w 421, 3) := by decide +kernel
theorem dX11_requireBetween_17 : decode cX11_requireBetween 17 = .ok (.invokespecial 98, 3) := by decide +kernel
theorem dX11_requireBetween_20 : decode cX11_requireBetween 20 = .ok (.athrow, 1) := by decide +kernel
theorem dX11_requireBetween_21 : decode cX11_requireBetween 21 = .ok (.return_, 1) := by decide +kernel
set_option maxRecDepth 20000 in
theorem ggX11_requirePerson_X11_requireRange : GoodIn wsX11_requirePerson wsX11_requireRange := goodIn_ca (goodIn_r _ [5, 6, 7, 8, 4, 9, 10, 11] (by decide +kernel) (by decide +kernel)) (goodIn_sub (fun _ h => List.mem_cons_of_mem _ (List.mem_append_right _ h)) (by decide +kernel))
set_option maxRecDepth 20000 in
theorem gX11_requirePerson_X11_requireRange : GoodIn wsX11_requirePerson (wsV RX11 86 RX11 yX11_requireRange wsX11_requireRange) := goodIn_app (goodIn_of _ (by decide +kernel)) ggX11_requirePerson_X11_requireRange
theorem dX11_requirePerson_0 : decode cX11_requirePerson 0 = .ok (.aload_n 0, 1) := by decide +kernel
theorem dX11_requirePerson_1 : decode cX11_requirePerson 1 = .ok (.iload_n 2, 1) := by decide +kernel
theorem dX11_requirePerson_2 : decode cX11_requirePerson 2 = .ok (.iload_n 1, 1) := by decide +kernel
theorem dX11_requirePerson_3 : decode cX11_requirePerson 3 = .ok (.ifCond .eq 8, 3) := by decide +kernel
theorem dX11_requirePerson_6 : decode cX11_requirePerson 6 = .ok (.bipush 6, 2) := by decide +kernel
theorem dX11_requirePerson_8 : decode cX11_requirePerson 8 = .ok (.goto 4, 3) := by decide +kernel
theorem dX11_requirePerson_11 : decode cX11_requirePerson 11 = .ok (.iconst 4, 1) := by decide +kernel
theorem dX11_requirePerson_12 : decode cX11_requirePerson 12 = .ok (.invokevirtual 86, 3) := by decide +kernel
theorem dX11_requirePerson_15 : decode cX11_requirePerson 15 = .ok (.return_, 1) := by decide +kernel
set_option maxRecDepth 20000 in
theorem ggX11_requireLesson_X8_lessonTotal : GoodIn wsX11_requireLesson wsX8_lessonTotal := goodIn_r _ [8, 9, 21, 22] (by decide +kernel) (by decide +kernel)
set_option maxRecDepth 20000 in
theorem gX11_requireLesson_X8_lessonTotal : GoodIn wsX11_requireLesson (wsV RX11 101 RX8 yX8_lessonTotal wsX8_lessonTotal) := goodIn_app (goodIn_of _ (by decide +kernel)) ggX11_requireLesson_X8_lessonTotal
theorem dX11_requireLesson_0 : decode cX11_requireLesson 0 = .ok (.iload_n 1, 1) := by decide +kernel
theorem dX11_requireLesson_1 : decode cX11_requireLesson 1 = .ok (.ifCond .lt 14, 3) := by decide +kernel
theorem dX11_requireLesson_4 : decode cX11_requireLesson 4 = .ok (.iload_n 1, 1) := by decide +kernel
theorem dX11_requireLesson_5 : decode cX11_requireLesson 5 = .ok (.aload_n 0, 1) := by decide +kernel
theorem dX11_requireLesson_6 : decode cX11_requireLesson 6 = .ok (.getfield 12, 3) := by decide +kernel
theorem dX11_requireLesson_9 : decode cX11_requireLesson 9 = .ok (.invokevirtual 101, 3) := by decide +kernel
theorem dX11_requireLesson_12 : decode cX11_requireLesson 12 = .ok (.if_icmp .lt 14, 3) := by decide +kernel
theorem dX11_requireLesson_15 : decode cX11_requireLesson 15 = .ok (.new 182, 3) := by decide +kernel
theorem dX11_requireLesson_18 : decode cX11_requireLesson 18 = .ok (.dup, 1) := by decide +kernel
theorem dX11_requireLesson_19 : decode cX11_requireLesson 19 = .ok (.ldc_w 423, 3) := by decide +kernel
theorem dX11_requireLesson_22 : decode cX11_requireLesson 22 = .ok (.invokespecial 186, 3) := by decide +kernel
theorem dX11_requireLesson_25 : decode cX11_requireLesson 25 = .ok (.athrow, 1) := by decide +kernel
theorem dX11_requireLesson_26 : decode cX11_requireLesson 26 = .ok (.return_, 1) := by decide +kernel
set_option maxRecDepth 20000 in
theorem ggX11_requireWish_X8_wishTotal : GoodIn wsX11_requireWish wsX8_wishTotal := goodIn_r _ [8, 9, 21, 22] (by decide +kernel) (by decide +kernel)
set_option maxRecDepth 20000 in
theorem gX11_requireWish_X8_wishTotal : GoodIn wsX11_requireWish (wsV RX11 144 RX8 yX8_wishTotal wsX8_wishTotal) := goodIn_app (goodIn_of _ (by decide +kernel)) ggX11_requireWish_X8_wishTotal
theorem dX11_requireWish_0 : decode cX11_requireWish 0 = .ok (.iload_n 1, 1) := by decide +kernel
theorem dX11_requireWish_1 : decode cX11_requireWish 1 = .ok (.ifCond .lt 14, 3) := by decide +kernel
theorem dX11_requireWish_4 : decode cX11_requireWish 4 = .ok (.iload_n 1, 1) := by decide +kernel
theorem dX11_requireWish_5 : decode cX11_requireWish 5 = .ok (.aload_n 0, 1) := by decide +kernel
theorem dX11_requireWish_6 : decode cX11_requireWish 6 = .ok (.getfield 12, 3) := by decide +kernel
theorem dX11_requireWish_9 : decode cX11_requireWish 9 = .ok (.invokevirtual 144, 3) := by decide +kernel
theorem dX11_requireWish_12 : decode cX11_requireWish 12 = .ok (.if_icmp .lt 14, 3) := by decide +kernel
theorem dX11_requireWish_15 : decode cX11_requireWish 15 = .ok (.new 182, 3) := by decide +kernel
theorem dX11_requireWish_18 : decode cX11_requireWish 18 = .ok (.dup, 1) := by decide +kernel
theorem dX11_requireWish_19 : decode cX11_requireWish 19 = .ok (.ldc_w 425, 3) := by decide +kernel
theorem dX11_requireWish_22 : decode cX11_requireWish 22 = .ok (.invokespecial 186, 3) := by decide +kernel
theorem dX11_requireWish_25 : decode cX11_requireWish 25 = .ok (.athrow, 1) := by decide +kernel
theorem dX11_requireWish_26 : decode cX11_requireWish 26 = .ok (.return_, 1) := by decide +kernel
set_option maxRecDepth 20000 in
theorem ggX11_requireTable_X8_hasTable : GoodIn wsX11_requireTable wsX8_hasTable := goodIn_r _ [8, 9, 21, 22] (by decide +kernel) (by decide +kernel)
set_option maxRecDepth 20000 in
theorem gX11_requireTable_X8_hasTable : GoodIn wsX11_requireTable (wsV RX11 403 RX8 yX8_hasTable wsX8_hasTable) := goodIn_app (goodIn_of _ (by decide +kernel)) ggX11_requireTable_X8_hasTable
theorem dX11_requireTable_0 : decode cX11_requireTable 0 = .ok (.aload_n 0, 1) := by decide +kernel
theorem dX11_requireTable_1 : decode cX11_requireTable 1 = .ok (.getfield 12, 3) := by decide +kernel
theorem dX11_requireTable_4 : decode cX11_requireTable 4 = .ok (.invokevirtual 403, 3) := by decide +kernel
theorem dX11_requireTable_7 : decode cX11_requireTable 7 = .ok (.ifCond .ne 14, 3) := by decide +kernel
theorem dX11_requireTable_10 : decode cX11_requireTable 10 = .ok (.new 105, 3) := by decide +kernel
theorem dX11_requireTable_13 : decode cX11_requireTable 13 = .ok (.dup, 1) := by decide +kernel
theorem dX11_requireTable_14 : decode cX11_requireTable 14 = .ok (.ldc_w 427, 3) := by decide +kernel
theorem dX11_requireTable_17 : decode cX11_requireTable 17 = .ok (.invokespecial 109, 3) := by decide +kernel
theorem dX11_requireTable_20 : decode cX11_requireTable 20 = .ok (.athrow, 1) := by decide +kernel
theorem dX11_requireTable_21 : decode cX11_requireTable 21 = .ok (.return_, 1) := by decide +kernel
set_option maxRecDepth 20000 in
theorem ggX11_requireDate_X10_isDate : GoodIn wsX11_requireDate wsX10_isDate := goodIn_r _ [8, 9, 10, 11, 7, 12] (by decide +kernel) (by decide +kernel)
set_option maxRecDepth 20000 in
theorem gX11_requireDate_X10_isDate : GoodIn wsX11_requireDate (wsV RX11 429 RX10 yX10_isDate wsX10_isDate) := goodIn_app (goodIn_of _ (by decide +kernel)) ggX11_requireDate_X10_isDate
set_option maxRecDepth 20000 in
theorem ggX11_requireDate_X10_serialOf : GoodIn wsX11_requireDate wsX10_serialOf := goodIn_r _ [16, 17, 18] (by decide +kernel) (by decide +kernel)
set_option maxRecDepth 20000 in
theorem gX11_requireDate_X10_serialOf : GoodIn wsX11_requireDate (wsV RX11 434 RX10 yX10_serialOf wsX10_serialOf) := goodIn_app (goodIn_of _ (by decide +kernel)) ggX11_requireDate_X10_serialOf
theorem dX11_requireDate_0 : decode cX11_requireDate 0 = .ok (.aload_n 0, 1) := by decide +kernel
theorem dX11_requireDate_1 : decode cX11_requireDate 1 = .ok (.getfield 75, 3) := by decide +kernel
theorem dX11_requireDate_4 : decode cX11_requireDate 4 = .ok (.iload_n 1, 1) := by decide +kernel
theorem dX11_requireDate_5 : decode cX11_requireDate 5 = .ok (.invokevirtual 429, 3) := by decide +kernel
theorem dX11_requireDate_8 : decode cX11_requireDate 8 = .ok (.ifCond .ne 14, 3) := by decide +kernel
theorem dX11_requireDate_11 : decode cX11_requireDate 11 = .ok (.new 94, 3) := by decide +kernel
theorem dX11_requireDate_14 : decode cX11_requireDate 14 = .ok (.dup, 1) := by decide +kernel
theorem dX11_requireDate_15 : decode cX11_requireDate 15 = .ok (.ldc_w 432, 3) := by decide +kernel
theorem dX11_requireDate_18 : decode cX11_requireDate 18 = .ok (.invokespecial 98, 3) := by decide +kernel
theorem dX11_requireDate_21 : decode cX11_requireDate 21 = .ok (.athrow, 1) := by decide +kernel
theorem dX11_requireDate_22 : decode cX11_requireDate 22 = .ok (.aload_n 0, 1) := by decide +kernel
theorem dX11_requireDate_23 : decode cX11_requireDate 23 = .ok (.getfield 75, 3) := by decide +kernel
theorem dX11_requireDate_26 : decode cX11_requireDate 26 = .ok (.iload_n 1, 1) := by decide +kernel
theorem dX11_requireDate_27 : decode cX11_requireDate 27 = .ok (.invokevirtual 434, 3) := by decide +kernel
theorem dX11_requireDate_30 : decode cX11_requireDate 30 = .ok (.ireturn, 1) := by decide +kernel
theorem dJ6_bitCount_0f7a4_0 : decode cJ6_bitCount_0f7a4 0 = .ok (.iload_n 0, 1) := by decide +kernel
theorem dJ6_bitCount_0f7a4_1 : decode cJ6_bitCount_0f7a4 1 = .ok (.iload_n 0, 1) := by decide +kernel
theorem dJ6_bitCount_0f7a4_2 : decode cJ6_bitCount_0f7a4 2 = .ok (.iconst 1, 1) := by decide +kernel
theorem dJ6_bitCount_0f7a4_3 : decode cJ6_bitCount_0f7a4 3 = .ok (.iushr, 1) := by decide +kernel
theorem dJ6_bitCount_0f7a4_4 : decode cJ6_bitCount_0f7a4 4 = .ok (.ldc_w 265, 3) := by decide +kernel
theorem dJ6_bitCount_0f7a4_7 : decode cJ6_bitCount_0f7a4 7 = .ok (.iand, 1) := by decide +kernel
theorem dJ6_bitCount_0f7a4_8 : decode cJ6_bitCount_0f7a4 8 = .ok (.isub, 1) := by decide +kernel
theorem dJ6_bitCount_0f7a4_9 : decode cJ6_bitCount_0f7a4 9 = .ok (.istore_n 0, 1) := by decide +kernel
theorem dJ6_bitCount_0f7a4_10 : decode cJ6_bitCount_0f7a4 10 = .ok (.iload_n 0, 1) := by decide +kernel
theorem dJ6_bitCount_0f7a4_11 : decode cJ6_bitCount_0f7a4 11 = .ok (.ldc_w 266, 3) := by decide +kernel
theorem dJ6_bitCount_0f7a4_14 : decode cJ6_bitCount_0f7a4 14 = .ok (.iand, 1) := by decide +kernel
theorem dJ6_bitCount_0f7a4_15 : decode cJ6_bitCount_0f7a4 15 = .ok (.iload_n 0, 1) := by decide +kernel
theorem dJ6_bitCount_0f7a4_16 : decode cJ6_bitCount_0f7a4 16 = .ok (.iconst 2, 1) := by decide +kernel
theorem dJ6_bitCount_0f7a4_17 : decode cJ6_bitCount_0f7a4 17 = .ok (.iushr, 1) := by decide +kernel
theorem dJ6_bitCount_0f7a4_18 : decode cJ6_bitCount_0f7a4 18 = .ok (.ldc_w 266, 3) := by decide +kernel
theorem dJ6_bitCount_0f7a4_21 : decode cJ6_bitCount_0f7a4 21 = .ok (.iand, 1) := by decide +kernel
theorem dJ6_bitCount_0f7a4_22 : decode cJ6_bitCount_0f7a4 22 = .ok (.iadd, 1) := by decide +kernel
theorem dJ6_bitCount_0f7a4_23 : decode cJ6_bitCount_0f7a4 23 = .ok (.istore_n 0, 1) := by decide +kernel
theorem dJ6_bitCount_0f7a4_24 : decode cJ6_bitCount_0f7a4 24 = .ok (.iload_n 0, 1) := by decide +kernel
theorem dJ6_bitCount_0f7a4_25 : decode cJ6_bitCount_0f7a4 25 = .ok (.iload_n 0, 1) := by decide +kernel
theorem dJ6_bitCount_0f7a4_26 : decode cJ6_bitCount_0f7a4 26 = .ok (.iconst 4, 1) := by decide +kernel
theorem dJ6_bitCount_0f7a4_27 : decode cJ6_bitCount_0f7a4 27 = .ok (.iushr, 1) := by decide +kernel
theorem dJ6_bitCount_0f7a4_28 : decode cJ6_bitCount_0f7a4 28 = .ok (.iadd, 1) := by decide +kernel
theorem dJ6_bitCount_0f7a4_29 : decode cJ6_bitCount_0f7a4 29 = .ok (.ldc_w 267, 3) := by decide +kernel
theorem dJ6_bitCount_0f7a4_32 : decode cJ6_bitCount_0f7a4 32 = .ok (.iand, 1) := by decide +kernel
theorem dJ6_bitCount_0f7a4_33 : decode cJ6_bitCount_0f7a4 33 = .ok (.istore_n 0, 1) := by decide +kernel
theorem dJ6_bitCount_0f7a4_34 : decode cJ6_bitCount_0f7a4 34 = .ok (.iload_n 0, 1) := by decide +kernel
theorem dJ6_bitCount_0f7a4_35 : decode cJ6_bitCount_0f7a4 35 = .ok (.iload_n 0, 1) := by decide +kernel
theorem dJ6_bitCount_0f7a4_36 : decode cJ6_bitCount_0f7a4 36 = .ok (.bipush 8, 2) := by decide +kernel
theorem dJ6_bitCount_0f7a4_38 : decode cJ6_bitCount_0f7a4 38 = .ok (.iushr, 1) := by decide +kernel
theorem dJ6_bitCount_0f7a4_39 : decode cJ6_bitCount_0f7a4 39 = .ok (.iadd, 1) := by decide +kernel
theorem dJ6_bitCount_0f7a4_40 : decode cJ6_bitCount_0f7a4 40 = .ok (.istore_n 0, 1) := by decide +kernel
theorem dJ6_bitCount_0f7a4_41 : decode cJ6_bitCount_0f7a4 41 = .ok (.iload_n 0, 1) := by decide +kernel
theorem dJ6_bitCount_0f7a4_42 : decode cJ6_bitCount_0f7a4 42 = .ok (.iload_n 0, 1) := by decide +kernel
theorem dJ6_bitCount_0f7a4_43 : decode cJ6_bitCount_0f7a4 43 = .ok (.bipush 16, 2) := by decide +kernel
theorem dJ6_bitCount_0f7a4_45 : decode cJ6_bitCount_0f7a4 45 = .ok (.iushr, 1) := by decide +kernel
theorem dJ6_bitCount_0f7a4_46 : decode cJ6_bitCount_0f7a4 46 = .ok (.iadd, 1) := by decide +kernel
theorem dJ6_bitCount_0f7a4_47 : decode cJ6_bitCount_0f7a4 47 = .ok (.istore_n 0, 1) := by decide +kernel
theorem dJ6_bitCount_0f7a4_48 : decode cJ6_bitCount_0f7a4 48 = .ok (.iload_n 0, 1) := by decide +kernel
theorem dJ6_bitCount_0f7a4_49 : decode cJ6_bitCount_0f7a4 49 = .ok (.bipush 63, 2) := by decide +kernel
theorem dJ6_bitCount_0f7a4_51 : decode cJ6_bitCount_0f7a4 51 = .ok (.iand, 1) := by decide +kernel
theorem dJ6_bitCount_0f7a4_52 : decode cJ6_bitCount_0f7a4 52 = .ok (.ireturn, 1) := by decide +kernel
theorem dJ9_floorMod_7cf53_0 : decode cJ9_floorMod_7cf53 0 = .ok (.iload_n 0, 1) := by decide +kernel
theorem dJ9_floorMod_7cf53_1 : decode cJ9_floorMod_7cf53 1 = .ok (.iload_n 1, 1) := by decide +kernel
theorem dJ9_floorMod_7cf53_2 : decode cJ9_floorMod_7cf53 2 = .ok (.irem, 1) := by decide +kernel
theorem dJ9_floorMod_7cf53_3 : decode cJ9_floorMod_7cf53 3 = .ok (.istore_n 2, 1) := by decide +kernel
theorem dJ9_floorMod_7cf53_4 : decode cJ9_floorMod_7cf53 4 = .ok (.iload_n 0, 1) := by decide +kernel
theorem dJ9_floorMod_7cf53_5 : decode cJ9_floorMod_7cf53 5 = .ok (.iload_n 1, 1) := by decide +kernel
theorem dJ9_floorMod_7cf53_6 : decode cJ9_floorMod_7cf53 6 = .ok (.ixor, 1) := by decide +kernel
theorem dJ9_floorMod_7cf53_7 : decode cJ9_floorMod_7cf53 7 = .ok (.ifCond .ge 11, 3) := by decide +kernel
theorem dJ9_floorMod_7cf53_10 : decode cJ9_floorMod_7cf53 10 = .ok (.iload_n 2, 1) := by decide +kernel
theorem dJ9_floorMod_7cf53_11 : decode cJ9_floorMod_7cf53 11 = .ok (.ifCond .eq 7, 3) := by decide +kernel
theorem dJ9_floorMod_7cf53_14 : decode cJ9_floorMod_7cf53 14 = .ok (.iload_n 2, 1) := by decide +kernel
theorem dJ9_floorMod_7cf53_15 : decode cJ9_floorMod_7cf53 15 = .ok (.iload_n 1, 1) := by decide +kernel
theorem dJ9_floorMod_7cf53_16 : decode cJ9_floorMod_7cf53 16 = .ok (.iadd, 1) := by decide +kernel
theorem dJ9_floorMod_7cf53_17 : decode cJ9_floorMod_7cf53 17 = .ok (.ireturn, 1) := by decide +kernel
theorem dJ9_floorMod_7cf53_18 : decode cJ9_floorMod_7cf53 18 = .ok (.iload_n 2, 1) := by decide +kernel
theorem dJ9_floorMod_7cf53_19 : decode cJ9_floorMod_7cf53 19 = .ok (.ireturn, 1) := by decide +kernel
theorem dJ9_max_7cf53_0 : decode cJ9_max_7cf53 0 = .ok (.iload_n 0, 1) := by decide +kernel
theorem dJ9_max_7cf53_1 : decode cJ9_max_7cf53 1 = .ok (.iload_n 1, 1) := by decide +kernel
theorem dJ9_max_7cf53_2 : decode cJ9_max_7cf53 2 = .ok (.if_icmp .lt 7, 3) := by decide +kernel
theorem dJ9_max_7cf53_5 : decode cJ9_max_7cf53 5 = .ok (.iload_n 0, 1) := by decide +kernel
theorem dJ9_max_7cf53_6 : decode cJ9_max_7cf53 6 = .ok (.goto 4, 3) := by decide +kernel
theorem dJ9_max_7cf53_9 : decode cJ9_max_7cf53 9 = .ok (.iload_n 1, 1) := by decide +kernel
theorem dJ9_max_7cf53_10 : decode cJ9_max_7cf53 10 = .ok (.ireturn, 1) := by decide +kernel
theorem dJ9_min_7cf53_0 : decode cJ9_min_7cf53 0 = .ok (.iload_n 0, 1) := by decide +kernel
theorem dJ9_min_7cf53_1 : decode cJ9_min_7cf53 1 = .ok (.iload_n 1, 1) := by decide +kernel
theorem dJ9_min_7cf53_2 : decode cJ9_min_7cf53 2 = .ok (.if_icmp .gt 7, 3) := by decide +kernel
theorem dJ9_min_7cf53_5 : decode cJ9_min_7cf53 5 = .ok (.iload_n 0, 1) := by decide +kernel
theorem dJ9_min_7cf53_6 : decode cJ9_min_7cf53 6 = .ok (.goto 4, 3) := by decide +kernel
theorem dJ9_min_7cf53_9 : decode cJ9_min_7cf53 9 = .ok (.iload_n 1, 1) := by decide +kernel
theorem dJ9_min_7cf53_10 : decode cJ9_min_7cf53 10 = .ok (.ireturn, 1) := by decide +kernel
set_option maxRecDepth 20000 in
theorem ggJ0_charAt_5068e_J0_isLatin1_aae02 : GoodIn wsJ0_charAt_5068e wsJ0_isLatin1_aae02 := goodIn_r _ [6, 7, 8] (by decide +kernel) (by decide +kernel)
set_option maxRecDepth 20000 in
theorem gJ0_charAt_5068e_J0_isLatin1_aae02 : GoodIn wsJ0_charAt_5068e (wsV RJ0 492 RJ0 yJ0_isLatin1_aae02 wsJ0_isLatin1_aae02) := goodIn_app (goodIn_of _ (by decide +kernel)) ggJ0_charAt_5068e_J0_isLatin1_aae02
set_option maxRecDepth 20000 in
theorem ggJ0_charAt_5068e_J1_charAt_3b067 : GoodIn wsJ0_charAt_5068e wsJ1_charAt_3b067 := goodIn_r _ [12, 13, 14, 5, 15, 16, 17, 18, 19, 20] (by decide +kernel) (by decide +kernel)
set_option maxRecDepth 20000 in
theorem gJ0_charAt_5068e_J1_charAt_3b067 : GoodIn wsJ0_charAt_5068e (va_wsS RJ0 495 yJ1_charAt_3b067 wsJ1_charAt_3b067) := goodIn_app (goodIn_of _ (by decide +kernel)) ggJ0_charAt_5068e_J1_charAt_3b067
set_option maxRecDepth 20000 in
theorem ggJ0_charAt_5068e_J2_charAt_3b067 : GoodIn wsJ0_charAt_5068e wsJ2_charAt_3b067 := goodIn_r _ [24, 25, 26, 23, 27, 28, 29, 30, 31, 14, 5, 15, 16, 17, 18, 19, 20, 32, 33, 34, 35, 36, 37] (by decide +kernel) (by decide +kernel)
set_option maxRecDepth 20000 in
theorem gJ0_charAt_5068e_J2_charAt_3b067 : GoodIn wsJ0_charAt_5068e (va_wsS RJ0 498 yJ2_charAt_3b067 wsJ2_charAt_3b067) := goodIn_app (goodIn_of _ (by decide +kernel)) ggJ0_charAt_5068e_J2_charAt_3b067
theorem dJ0_charAt_5068e_0 : decode cJ0_charAt_5068e 0 = .ok (.aload_n 0, 1) := by decide +kernel
theorem dJ0_charAt_5068e_1 : decode cJ0_charAt_5068e 1 = .ok (.invokevirtual 492, 3) := by decide +kernel
theorem dJ0_charAt_5068e_4 : decode cJ0_charAt_5068e 4 = .ok (.ifCond .eq 12, 3) := by decide +kernel
theorem dJ0_charAt_5068e_7 : decode cJ0_charAt_5068e 7 = .ok (.aload_n 0, 1) := by decide +kernel
theorem dJ0_charAt_5068e_8 : decode cJ0_charAt_5068e 8 = .ok (.getfield 9, 3) := by decide +kernel
theorem dJ0_charAt_5068e_11 : decode cJ0_charAt_5068e 11 = .ok (.iload_n 1, 1) := by decide +kernel
theorem dJ0_charAt_5068e_12 : decode cJ0_charAt_5068e 12 = .ok (.invokestatic 495, 3) := by decide +kernel
theorem dJ0_charAt_5068e_15 : decode cJ0_charAt_5068e 15 = .ok (.ireturn, 1) := by decide +kernel
theorem dJ0_charAt_5068e_16 : decode cJ0_charAt_5068e 16 = .ok (.aload_n 0, 1) := by decide +kernel
theorem dJ0_charAt_5068e_17 : decode cJ0_charAt_5068e 17 = .ok (.getfield 9, 3) := by decide +kernel
theorem dJ0_charAt_5068e_20 : decode cJ0_charAt_5068e 20 = .ok (.iload_n 1, 1) := by decide +kernel
theorem dJ0_charAt_5068e_21 : decode cJ0_charAt_5068e 21 = .ok (.invokestatic 498, 3) := by decide +kernel
theorem dJ0_charAt_5068e_24 : decode cJ0_charAt_5068e 24 = .ok (.ireturn, 1) := by decide +kernel
theorem dJ0_isLatin1_aae02_0 : decode cJ0_isLatin1_aae02 0 = .ok (.getstatic 38, 3) := by decide +kernel
theorem dJ0_isLatin1_aae02_3 : decode cJ0_isLatin1_aae02 3 = .ok (.ifCond .eq 14, 3) := by decide +kernel
theorem dJ0_isLatin1_aae02_6 : decode cJ0_isLatin1_aae02 6 = .ok (.aload_n 0, 1) := by decide +kernel
theorem dJ0_isLatin1_aae02_7 : decode cJ0_isLatin1_aae02 7 = .ok (.getfield 15, 3) := by decide +kernel
theorem dJ0_isLatin1_aae02_10 : decode cJ0_isLatin1_aae02 10 = .ok (.ifCond .ne 7, 3) := by decide +kernel
theorem dJ0_isLatin1_aae02_13 : decode cJ0_isLatin1_aae02 13 = .ok (.iconst 1, 1) := by decide +kernel
theorem dJ0_isLatin1_aae02_14 : decode cJ0_isLatin1_aae02 14 = .ok (.goto 4, 3) := by decide +kernel
theorem dJ0_isLatin1_aae02_17 : decode cJ0_isLatin1_aae02 17 = .ok (.iconst 0, 1) := by decide +kernel
theorem dJ0_isLatin1_aae02_18 : decode cJ0_isLatin1_aae02 18 = .ok (.ireturn, 1) := by decide +kernel
set_option maxRecDepth 20000 in
theorem ggJ0_checkIndex_df160_J3_checkIndex_8e157 : GoodIn wsJ0_checkIndex_df160 wsJ3_checkIndex_8e157 := goodIn_r _ [5] (by decide +kernel) (by decide +kernel)
set_option maxRecDepth 20000 in
theorem gJ0_checkIndex_df160_J3_checkIndex_8e157 : GoodIn wsJ0_checkIndex_df160 (va_wsS RJ0 1059 yJ3_checkIndex_8e157 wsJ3_checkIndex_8e157) := goodIn_app (goodIn_of _ (by decide +kernel)) ggJ0_checkIndex_df160_J3_checkIndex_8e157
theorem dJ0_checkIndex_df160_0 : decode cJ0_checkIndex_df160 0 = .ok (.iload_n 0, 1) := by decide +kernel
theorem dJ0_checkIndex_df160_1 : decode cJ0_checkIndex_df160 1 = .ok (.iload_n 1, 1) := by decide +kernel
theorem dJ0_checkIndex_df160_2 : decode cJ0_checkIndex_df160 2 = .ok (.getstatic 1053, 3) := by decide +kernel
theorem dJ0_checkIndex_df160_5 : decode cJ0_checkIndex_df160 5 = .ok (.invokestatic 1059, 3) := by decide +kernel
theorem dJ0_checkIndex_df160_8 : decode cJ0_checkIndex_df160 8 = .ok (.pop, 1) := by decide +kernel
theorem dJ0_checkIndex_df160_9 : decode cJ0_checkIndex_df160 9 = .ok (.return_, 1) := by decide +kernel
set_option maxRecDepth 20000 in
theorem ggJ1_charAt_3b067_J0_checkIndex_df160 : GoodIn wsJ1_charAt_3b067 wsJ0_checkIndex_df160 := goodIn_r _ [4, 5, 6, 7, 8, 9] (by decide +kernel) (by decide +kernel)
set_option maxRecDepth 20000 in
theorem gJ1_charAt_3b067_J0_checkIndex_df160 : GoodIn wsJ1_charAt_3b067 (va_wsS RJ1 9 yJ0_checkIndex_df160 wsJ0_checkIndex_df160) := goodIn_app (goodIn_of _ (by decide +kernel)) ggJ1_charAt_3b067_J0_checkIndex_df160
theorem dJ1_charAt_3b067_0 : decode cJ1_charAt_3b067 0 = .ok (.iload_n 1, 1) := by decide +kernel
theorem dJ1_charAt_3b067_1 : decode cJ1_charAt_3b067 1 = .ok (.aload_n 0, 1) := by decide +kernel
theorem dJ1_charAt_3b067_2 : decode cJ1_charAt_3b067 2 = .ok (.arraylength, 1) := by decide +kernel
theorem dJ1_charAt_3b067_3 : decode cJ1_charAt_3b067 3 = .ok (.invokestatic 9, 3) := by decide +kernel
theorem dJ1_charAt_3b067_6 : decode cJ1_charAt_3b067 6 = .ok (.aload_n 0, 1) := by decide +kernel
theorem dJ1_charAt_3b067_7 : decode cJ1_charAt_3b067 7 = .ok (.iload_n 1, 1) := by decide +kernel
theorem dJ1_charAt_3b067_8 : decode cJ1_charAt_3b067 8 = .ok (.baload, 1) := by decide +kernel
theorem dJ1_charAt_3b067_9 : decode cJ1_charAt_3b067 9 = .ok (.sipush 255, 3) := by decide +kernel
theorem dJ1_charAt_3b067_12 : decode cJ1_charAt_3b067 12 = .ok (.iand, 1) := by decide +kernel
theorem dJ1_charAt_3b067_13 : decode cJ1_charAt_3b067 13 = .ok (.i2c, 1) := by decide +kernel
theorem dJ1_charAt_3b067_14 : decode cJ1_charAt_3b067 14 = .ok (.ireturn, 1) := by decide +kernel
set_option maxRecDepth 20000 in
theorem ggJ2_getChar_3b067_J2_length_9d52b : GoodIn wsJ2_getChar_3b067 wsJ2_length_9d52b := goodIn_r _ [7] (by decide +kernel) (by decide +kernel)
set_option maxRecDepth 20000 in
theorem gJ2_getChar_3b067_J2_length_9d52b : GoodIn wsJ2_getChar_3b067 (va_wsS RJ2 48 yJ2_length_9d52b wsJ2_length_9d52b) := goodIn_app (goodIn_of _ (by decide +kernel)) ggJ2_getChar_3b067_J2_length_9d52b
theorem dJ2_getChar_3b067_0 : decode cJ2_getChar_3b067 0 = .ok (.getstatic 44, 3) := by decide +kernel
theorem dJ2_getChar_3b067_3 : decode cJ2_getChar_3b067 3 = .ok (.ifCond .ne 25, 3) := by decide +kernel
theorem dJ2_getChar_3b067_6 : decode cJ2_getChar_3b067 6 = .ok (.iload_n 1, 1) := by decide +kernel
theorem dJ2_getChar_3b067_7 : decode cJ2_getChar_3b067 7 = .ok (.ifCond .lt 11, 3) := by decide +kernel
theorem dJ2_getChar_3b067_10 : decode cJ2_getChar_3b067 10 = .ok (.iload_n 1, 1) := by decide +kernel
theorem dJ2_getChar_3b067_11 : decode cJ2_getChar_3b067 11 = .ok (.aload_n 0, 1) := by decide +kernel
theorem dJ2_getChar_3b067_12 : decode cJ2_getChar_3b067 12 = .ok (.invokestatic 48, 3) := by decide +kernel
theorem dJ2_getChar_3b067_15 : decode cJ2_getChar_3b067 15 = .ok (.if_icmp .lt 13, 3) := by decide +kernel
theorem dJ2_getChar_3b067_18 : decode cJ2_getChar_3b067 18 = .ok (.new 52, 3) := by decide +kernel
theorem dJ2_getChar_3b067_21 : decode cJ2_getChar_3b067 21 = .ok (.dup, 1) := by decide +kernel
theorem dJ2_getChar_3b067_22 : decode cJ2_getChar_3b067 22 = .ok (.ldc 54, 2) := by decide +kernel
theorem dJ2_getChar_3b067_24 : decode cJ2_getChar_3b067 24 = .ok (.invokespecial 56, 3) := by decide +kernel
theorem dJ2_getChar_3b067_27 : decode cJ2_getChar_3b067 27 = .ok (.athrow, 1) := by decide +kernel
theorem dJ2_getChar_3b067_28 : decode cJ2_getChar_3b067 28 = .ok (.iload_n 1, 1) := by decide +kernel
theorem dJ2_getChar_3b067_29 : decode cJ2_getChar_3b067 29 = .ok (.iconst 1, 1) := by decide +kernel
theorem dJ2_getChar_3b067_30 : decode cJ2_getChar_3b067 30 = .ok (.ishl, 1) := by decide +kernel
theorem dJ2_getChar_3b067_31 : decode cJ2_getChar_3b067 31 = .ok (.istore_n 1, 1) := by decide +kernel
theorem dJ2_getChar_3b067_32 : decode cJ2_getChar_3b067 32 = .ok (.aload_n 0, 1) := by decide +kernel
theorem dJ2_getChar_3b067_33 : decode cJ2_getChar_3b067 33 = .ok (.iload_n 1, 1) := by decide +kernel
theorem dJ2_getChar_3b067_34 : decode cJ2_getChar_3b067 34 = .ok (.iinc 1 1, 3) := by decide +kernel
theorem dJ2_getChar_3b067_37 : decode cJ2_getChar_3b067 37 = .ok (.baload, 1) := by decide +kernel
theorem dJ2_getChar_3b067_38 : decode cJ2_getChar_3b067 38 = .ok (.sipush 255, 3) := by decide +kernel
theorem dJ2_getChar_3b067_41 : decode cJ2_getChar_3b067 41 = .ok (.iand, 1) := by decide +kernel
theorem dJ2_getChar_3b067_42 : decode cJ2_getChar_3b067 42 = .ok (.getstatic 59, 3) := by decide +kernel
theorem dJ2_getChar_3b067_45 : decode cJ2_getChar_3b067 45 = .ok (.ishl, 1) := by decide +kernel
theorem dJ2_getChar_3b067_46 : decode cJ2_getChar_3b067 46 = .ok (.aload_n 0, 1) := by decide +kernel
theorem dJ2_getChar_3b067_47 : decode cJ2_getChar_3b067 47 = .ok (.iload_n 1, 1) := by decide +kernel
theorem dJ2_getChar_3b067_48 : decode cJ2_getChar_3b067 48 = .ok (.baload, 1) := by decide +kernel
theorem dJ2_getChar_3b067_49 : decode cJ2_getChar_3b067 49 = .ok (.sipush 255, 3) := by decide +kernel
theorem dJ2_getChar_3b067_52 : decode cJ2_getChar_3b067 52 = .ok (.iand, 1) := by decide +kernel
theorem dJ2_getChar_3b067_53 : decode cJ2_getChar_3b067 53 = .ok (.getstatic 63, 3) := by decide +kernel
theorem dJ2_getChar_3b067_56 : decode cJ2_getChar_3b067 56 = .ok (.ishl, 1) := by decide +kernel
theorem dJ2_getChar_3b067_57 : decode cJ2_getChar_3b067 57 = .ok (.ior, 1) := by decide +kernel
theorem dJ2_getChar_3b067_58 : decode cJ2_getChar_3b067 58 = .ok (.i2c, 1) := by decide +kernel
theorem dJ2_getChar_3b067_59 : decode cJ2_getChar_3b067 59 = .ok (.ireturn, 1) := by decide +kernel
theorem dJ2_length_9d52b_0 : decode cJ2_length_9d52b 0 = .ok (.aload_n 0, 1) := by decide +kernel
theorem dJ2_length_9d52b_1 : decode cJ2_length_9d52b 1 = .ok (.arraylength, 1) := by decide +kernel
theorem dJ2_length_9d52b_2 : decode cJ2_length_9d52b 2 = .ok (.iconst 1, 1) := by decide +kernel
theorem dJ2_length_9d52b_3 : decode cJ2_length_9d52b 3 = .ok (.ishr, 1) := by decide +kernel
theorem dJ2_length_9d52b_4 : decode cJ2_length_9d52b 4 = .ok (.ireturn, 1) := by decide +kernel
set_option maxRecDepth 20000 in
theorem ggJ2_charAt_3b067_J2_checkIndex_2214a : GoodIn wsJ2_charAt_3b067 wsJ2_checkIndex_2214a := goodIn_r _ [4, 5, 6, 3, 7, 8, 9, 10, 11, 12, 13, 14, 15, 16] (by decide +kernel) (by decide +kernel)
set_option maxRecDepth 20000 in
theorem gJ2_charAt_3b067_J2_checkIndex_2214a : GoodIn wsJ2_charAt_3b067 (va_wsS RJ2 67 yJ2_checkIndex_2214a wsJ2_checkIndex_2214a) := goodIn_app (goodIn_of _ (by decide +kernel)) ggJ2_charAt_3b067_J2_checkIndex_2214a
set_option maxRecDepth 20000 in
theorem ggJ2_charAt_3b067_J2_getChar_3b067 : GoodIn wsJ2_charAt_3b067 wsJ2_getChar_3b067 := goodIn_r _ [19, 20, 21, 22, 5, 6, 3, 7] (by decide +kernel) (by decide +kernel)
set_option maxRecDepth 20000 in
theorem gJ2_charAt_3b067_J2_getChar_3b067 : GoodIn wsJ2_charAt_3b067 (va_wsS RJ2 71 yJ2_getChar_3b067 wsJ2_getChar_3b067) := goodIn_app (goodIn_of _ (by decide +kernel)) ggJ2_charAt_3b067_J2_getChar_3b067
theorem dJ2_charAt_3b067_0 : decode cJ2_charAt_3b067 0 = .ok (.iload_n 1, 1) := by decide +kernel
theorem dJ2_charAt_3b067_1 : decode cJ2_charAt_3b067 1 = .ok (.aload_n 0, 1) := by decide +kernel
theorem dJ2_charAt_3b067_2 : decode cJ2_charAt_3b067 2 = .ok (.invokestatic 67, 3) := by decide +kernel
theorem dJ2_charAt_3b067_5 : decode cJ2_charAt_3b067 5 = .ok (.aload_n 0, 1) := by decide +kernel
theorem dJ2_charAt_3b067_6 : decode cJ2_charAt_3b067 6 = .ok (.iload_n 1, 1) := by decide +kernel
theorem dJ2_charAt_3b067_7 : decode cJ2_charAt_3b067 7 = .ok (.invokestatic 71, 3) := by decide +kernel
theorem dJ2_charAt_3b067_10 : decode cJ2_charAt_3b067 10 = .ok (.ireturn, 1) := by decide +kernel
set_option maxRecDepth 20000 in
theorem ggJ2_checkIndex_2214a_J2_length_9d52b : GoodIn wsJ2_checkIndex_2214a wsJ2_length_9d52b := goodIn_r _ [4] (by decide +kernel) (by decide +kernel)
set_option maxRecDepth 20000 in
theorem gJ2_checkIndex_2214a_J2_length_9d52b : GoodIn wsJ2_checkIndex_2214a (va_wsS RJ2 48 yJ2_length_9d52b wsJ2_length_9d52b) := goodIn_app (goodIn_of _ (by decide +kernel)) ggJ2_checkIndex_2214a_J2_length_9d52b
set_option maxRecDepth 20000 in
theorem ggJ2_checkIndex_2214a_J0_checkIndex_df160 : GoodIn wsJ2_checkIndex_2214a wsJ0_checkIndex_df160 := goodIn_r _ [8, 9, 10, 11, 12, 13] (by decide +kernel) (by decide +kernel)
set_option maxRecDepth 20000 in
theorem gJ2_checkIndex_2214a_J0_checkIndex_df160 : GoodIn wsJ2_checkIndex_2214a (va_wsS RJ2 414 yJ0_checkIndex_df160 wsJ0_checkIndex_df160) := goodIn_app (goodIn_of _ (by decide +kernel)) ggJ2_checkIndex_2214a_J0_checkIndex_df160
theorem dJ2_checkIndex_2214a_0 : decode cJ2_checkIndex_2214a 0 = .ok (.iload_n 0, 1) := by decide +kernel
theorem dJ2_checkIndex_2214a_1 : decode cJ2_checkIndex_2214a 1 = .ok (.aload_n 1, 1) := by decide +kernel
theorem dJ2_checkIndex_2214a_2 : decode cJ2_checkIndex_2214a 2 = .ok (.invokestatic 48, 3) := by decide +kernel
theorem dJ2_checkIndex_2214a_5 : decode cJ2_checkIndex_2214a 5 = .ok (.invokestatic 414, 3) := by decide +kernel
theorem dJ2_checkIndex_2214a_8 : decode cJ2_checkIndex_2214a 8 = .ok (.return_, 1) := by decide +kernel
theorem dJ3_checkIndex_8e157_0 : decode cJ3_checkIndex_8e157 0 = .ok (.iload_n 0, 1) := by decide +kernel
theorem dJ3_checkIndex_8e157_1 : decode cJ3_checkIndex_8e157 1 = .ok (.ifCond .lt 8, 3) := by decide +kernel
theorem dJ3_checkIndex_8e157_4 : decode cJ3_checkIndex_8e157 4 = .ok (.iload_n 0, 1) := by decide +kernel
theorem dJ3_checkIndex_8e157_5 : decode cJ3_checkIndex_8e157 5 = .ok (.iload_n 1, 1) := by decide +kernel
theorem dJ3_checkIndex_8e157_6 : decode cJ3_checkIndex_8e157 6 = .ok (.if_icmp .lt 10, 3) := by decide +kernel
theorem dJ3_checkIndex_8e157_9 : decode cJ3_checkIndex_8e157 9 = .ok (.aload_n 2, 1) := by decide +kernel
theorem dJ3_checkIndex_8e157_10 : decode cJ3_checkIndex_8e157 10 = .ok (.iload_n 0, 1) := by decide +kernel
theorem dJ3_checkIndex_8e157_11 : decode cJ3_checkIndex_8e157 11 = .ok (.iload_n 1, 1) := by decide +kernel
theorem dJ3_checkIndex_8e157_12 : decode cJ3_checkIndex_8e157 12 = .ok (.invokestatic 95, 3) := by decide +kernel
theorem dJ3_checkIndex_8e157_15 : decode cJ3_checkIndex_8e157 15 = .ok (.athrow, 1) := by decide +kernel
theorem dJ3_checkIndex_8e157_16 : decode cJ3_checkIndex_8e157 16 = .ok (.iload_n 0, 1) := by decide +kernel
theorem dJ3_checkIndex_8e157_17 : decode cJ3_checkIndex_8e157 17 = .ok (.ireturn, 1) := by decide +kernel

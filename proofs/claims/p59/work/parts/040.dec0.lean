theorem dX0_init_0 : decode cX0_init 0 = .ok (.aload_n 0, 1) := by decide +kernel
theorem dX0_init_1 : decode cX0_init 1 = .ok (.invokespecial 3, 3) := by decide +kernel
theorem dX0_init_4 : decode cX0_init 4 = .ok (.aload_n 0, 1) := by decide +kernel
theorem dX0_init_5 : decode cX0_init 5 = .ok (.iconst 5, 1) := by decide +kernel
theorem dX0_init_6 : decode cX0_init 6 = .ok (.newarray .int, 2) := by decide +kernel
theorem dX0_init_8 : decode cX0_init 8 = .ok (.putfield 9, 3) := by decide +kernel
theorem dX0_init_11 : decode cX0_init 11 = .ok (.aload_n 0, 1) := by decide +kernel
theorem dX0_init_12 : decode cX0_init 12 = .ok (.iconst 5, 1) := by decide +kernel
theorem dX0_init_13 : decode cX0_init 13 = .ok (.newarray .int, 2) := by decide +kernel
theorem dX0_init_15 : decode cX0_init 15 = .ok (.putfield 15, 3) := by decide +kernel
theorem dX0_init_18 : decode cX0_init 18 = .ok (.aload_n 0, 1) := by decide +kernel
theorem dX0_init_19 : decode cX0_init 19 = .ok (.iconst 5, 1) := by decide +kernel
theorem dX0_init_20 : decode cX0_init 20 = .ok (.newarray .int, 2) := by decide +kernel
theorem dX0_init_22 : decode cX0_init 22 = .ok (.putfield 18, 3) := by decide +kernel
theorem dX0_init_25 : decode cX0_init 25 = .ok (.iconst 0, 1) := by decide +kernel
theorem dX0_init_26 : decode cX0_init 26 = .ok (.istore_n 1, 1) := by decide +kernel
theorem dX0_init_27 : decode cX0_init 27 = .ok (.iload_n 1, 1) := by decide +kernel
theorem dX0_init_28 : decode cX0_init 28 = .ok (.iconst 5, 1) := by decide +kernel
theorem dX0_init_29 : decode cX0_init 29 = .ok (.if_icmp .ge 34, 3) := by decide +kernel
theorem dX0_init_32 : decode cX0_init 32 = .ok (.aload_n 0, 1) := by decide +kernel
theorem dX0_init_33 : decode cX0_init 33 = .ok (.getfield 9, 3) := by decide +kernel
theorem dX0_init_36 : decode cX0_init 36 = .ok (.iload_n 1, 1) := by decide +kernel
theorem dX0_init_37 : decode cX0_init 37 = .ok (.sipush 480, 3) := by decide +kernel
theorem dX0_init_40 : decode cX0_init 40 = .ok (.iastore, 1) := by decide +kernel
theorem dX0_init_41 : decode cX0_init 41 = .ok (.aload_n 0, 1) := by decide +kernel
theorem dX0_init_42 : decode cX0_init 42 = .ok (.getfield 15, 3) := by decide +kernel
theorem dX0_init_45 : decode cX0_init 45 = .ok (.iload_n 1, 1) := by decide +kernel
theorem dX0_init_46 : decode cX0_init 46 = .ok (.bipush 45, 2) := by decide +kernel
theorem dX0_init_48 : decode cX0_init 48 = .ok (.iastore, 1) := by decide +kernel
theorem dX0_init_49 : decode cX0_init 49 = .ok (.aload_n 0, 1) := by decide +kernel
theorem dX0_init_50 : decode cX0_init 50 = .ok (.getfield 18, 3) := by decide +kernel
theorem dX0_init_53 : decode cX0_init 53 = .ok (.iload_n 1, 1) := by decide +kernel
theorem dX0_init_54 : decode cX0_init 54 = .ok (.bipush 10, 2) := by decide +kernel
theorem dX0_init_56 : decode cX0_init 56 = .ok (.iastore, 1) := by decide +kernel
theorem dX0_init_57 : decode cX0_init 57 = .ok (.iinc 1 1, 3) := by decide +kernel
theorem dX0_init_60 : decode cX0_init 60 = .ok (.goto (-33), 3) := by decide +kernel
theorem dX0_init_63 : decode cX0_init 63 = .ok (.return_, 1) := by decide +kernel
theorem dX0_put_0 : decode cX0_put 0 = .ok (.aload_n 0, 1) := by decide +kernel
theorem dX0_put_1 : decode cX0_put 1 = .ok (.getfield 9, 3) := by decide +kernel
theorem dX0_put_4 : decode cX0_put 4 = .ok (.iload_n 1, 1) := by decide +kernel
theorem dX0_put_5 : decode cX0_put 5 = .ok (.iload_n 2, 1) := by decide +kernel
theorem dX0_put_6 : decode cX0_put 6 = .ok (.iastore, 1) := by decide +kernel
theorem dX0_put_7 : decode cX0_put 7 = .ok (.aload_n 0, 1) := by decide +kernel
theorem dX0_put_8 : decode cX0_put 8 = .ok (.getfield 15, 3) := by decide +kernel
theorem dX0_put_11 : decode cX0_put 11 = .ok (.iload_n 1, 1) := by decide +kernel
theorem dX0_put_12 : decode cX0_put 12 = .ok (.iload_n 3, 1) := by decide +kernel
theorem dX0_put_13 : decode cX0_put 13 = .ok (.iastore, 1) := by decide +kernel
theorem dX0_put_14 : decode cX0_put 14 = .ok (.aload_n 0, 1) := by decide +kernel
theorem dX0_put_15 : decode cX0_put 15 = .ok (.getfield 18, 3) := by decide +kernel
theorem dX0_put_18 : decode cX0_put 18 = .ok (.iload_n 1, 1) := by decide +kernel
theorem dX0_put_19 : decode cX0_put 19 = .ok (.iload 4, 2) := by decide +kernel
theorem dX0_put_21 : decode cX0_put 21 = .ok (.iastore, 1) := by decide +kernel
theorem dX0_put_22 : decode cX0_put 22 = .ok (.return_, 1) := by decide +kernel
theorem dX0_minute_0 : decode cX0_minute 0 = .ok (.iload_n 1, 1) := by decide +kernel
theorem dX0_minute_1 : decode cX0_minute 1 = .ok (.iconst 4, 1) := by decide +kernel
theorem dX0_minute_2 : decode cX0_minute 2 = .ok (.idiv, 1) := by decide +kernel
theorem dX0_minute_3 : decode cX0_minute 3 = .ok (.istore_n 3, 1) := by decide +kernel
theorem dX0_minute_4 : decode cX0_minute 4 = .ok (.aload_n 0, 1) := by decide +kernel
theorem dX0_minute_5 : decode cX0_minute 5 = .ok (.getfield 9, 3) := by decide +kernel
theorem dX0_minute_8 : decode cX0_minute 8 = .ok (.iload_n 3, 1) := by decide +kernel
theorem dX0_minute_9 : decode cX0_minute 9 = .ok (.iaload, 1) := by decide +kernel
theorem dX0_minute_10 : decode cX0_minute 10 = .ok (.iload_n 1, 1) := by decide +kernel
theorem dX0_minute_11 : decode cX0_minute 11 = .ok (.iconst 4, 1) := by decide +kernel
theorem dX0_minute_12 : decode cX0_minute 12 = .ok (.irem, 1) := by decide +kernel
theorem dX0_minute_13 : decode cX0_minute 13 = .ok (.aload_n 0, 1) := by decide +kernel
theorem dX0_minute_14 : decode cX0_minute 14 = .ok (.getfield 15, 3) := by decide +kernel
theorem dX0_minute_17 : decode cX0_minute 17 = .ok (.iload_n 3, 1) := by decide +kernel
theorem dX0_minute_18 : decode cX0_minute 18 = .ok (.iaload, 1) := by decide +kernel
theorem dX0_minute_19 : decode cX0_minute 19 = .ok (.aload_n 0, 1) := by decide +kernel
theorem dX0_minute_20 : decode cX0_minute 20 = .ok (.getfield 18, 3) := by decide +kernel
theorem dX0_minute_23 : decode cX0_minute 23 = .ok (.iload_n 3, 1) := by decide +kernel
theorem dX0_minute_24 : decode cX0_minute 24 = .ok (.iaload, 1) := by decide +kernel
theorem dX0_minute_25 : decode cX0_minute 25 = .ok (.iadd, 1) := by decide +kernel
theorem dX0_minute_26 : decode cX0_minute 26 = .ok (.imul, 1) := by decide +kernel
theorem dX0_minute_27 : decode cX0_minute 27 = .ok (.iadd, 1) := by decide +kernel
theorem dX0_minute_28 : decode cX0_minute 28 = .ok (.istore 4, 2) := by decide +kernel
theorem dX0_minute_30 : decode cX0_minute 30 = .ok (.iload_n 2, 1) := by decide +kernel
theorem dX0_minute_31 : decode cX0_minute 31 = .ok (.ifCond .eq 15, 3) := by decide +kernel
theorem dX0_minute_34 : decode cX0_minute 34 = .ok (.iload 4, 2) := by decide +kernel
theorem dX0_minute_36 : decode cX0_minute 36 = .ok (.aload_n 0, 1) := by decide +kernel
theorem dX0_minute_37 : decode cX0_minute 37 = .ok (.getfield 15, 3) := by decide +kernel
theorem dX0_minute_40 : decode cX0_minute 40 = .ok (.iload_n 3, 1) := by decide +kernel
theorem dX0_minute_41 : decode cX0_minute 41 = .ok (.iaload, 1) := by decide +kernel
theorem dX0_minute_42 : decode cX0_minute 42 = .ok (.iadd, 1) := by decide +kernel
theorem dX0_minute_43 : decode cX0_minute 43 = .ok (.goto 5, 3) := by decide +kernel
theorem dX0_minute_46 : decode cX0_minute 46 = .ok (.iload 4, 2) := by decide +kernel
theorem dX0_minute_48 : decode cX0_minute 48 = .ok (.ireturn, 1) := by decide +kernel
theorem dX1_init_0 : decode cX1_init 0 = .ok (.aload_n 0, 1) := by decide +kernel
theorem dX1_init_1 : decode cX1_init 1 = .ok (.invokespecial 3, 3) := by decide +kernel
theorem dX1_init_4 : decode cX1_init 4 = .ok (.aload_n 0, 1) := by decide +kernel
theorem dX1_init_5 : decode cX1_init 5 = .ok (.bipush 9, 2) := by decide +kernel
theorem dX1_init_7 : decode cX1_init 7 = .ok (.newarray .int, 2) := by decide +kernel
theorem dX1_init_9 : decode cX1_init 9 = .ok (.putfield 9, 3) := by decide +kernel
theorem dX1_init_12 : decode cX1_init 12 = .ok (.return_, 1) := by decide +kernel
set_option maxRecDepth 20000 in
theorem ggX1_mostOf_X1_totalOf : GoodIn wsX1_mostOf wsX1_totalOf := goodIn_r _ [9, 10, 11, 12, 13, 14, 15, 16, 17, 18, 19, 20, 21] (by decide +kernel) (by decide +kernel)
set_option maxRecDepth 20000 in
theorem gX1_mostOf_X1_totalOf : GoodIn wsX1_mostOf (wsV RX1 15 RX1 yX1_totalOf wsX1_totalOf) := goodIn_app (goodIn_of _ (by decide +kernel)) ggX1_mostOf_X1_totalOf
theorem dX1_mostOf_0 : decode cX1_mostOf 0 = .ok (.iconst 0, 1) := by decide +kernel
theorem dX1_mostOf_1 : decode cX1_mostOf 1 = .ok (.istore_n 2, 1) := by decide +kernel
theorem dX1_mostOf_2 : decode cX1_mostOf 2 = .ok (.iconst 0, 1) := by decide +kernel
theorem dX1_mostOf_3 : decode cX1_mostOf 3 = .ok (.istore_n 3, 1) := by decide +kernel
theorem dX1_mostOf_4 : decode cX1_mostOf 4 = .ok (.iload_n 3, 1) := by decide +kernel
theorem dX1_mostOf_5 : decode cX1_mostOf 5 = .ok (.iconst 4, 1) := by decide +kernel
theorem dX1_mostOf_6 : decode cX1_mostOf 6 = .ok (.if_icmp .ge 21, 3) := by decide +kernel
theorem dX1_mostOf_9 : decode cX1_mostOf 9 = .ok (.iload_n 2, 1) := by decide +kernel
theorem dX1_mostOf_10 : decode cX1_mostOf 10 = .ok (.aload_n 0, 1) := by decide +kernel
theorem dX1_mostOf_11 : decode cX1_mostOf 11 = .ok (.aload_n 1, 1) := by decide +kernel
theorem dX1_mostOf_12 : decode cX1_mostOf 12 = .ok (.iconst 0, 1) := by decide +kernel
theorem dX1_mostOf_13 : decode cX1_mostOf 13 = .ok (.iload_n 3, 1) := by decide +kernel
theorem dX1_mostOf_14 : decode cX1_mostOf 14 = .ok (.invokevirtual 15, 3) := by decide +kernel
theorem dX1_mostOf_17 : decode cX1_mostOf 17 = .ok (.invokestatic 19, 3) := by decide +kernel
theorem dX1_mostOf_20 : decode cX1_mostOf 20 = .ok (.istore_n 2, 1) := by decide +kernel
theorem dX1_mostOf_21 : decode cX1_mostOf 21 = .ok (.iinc 3 1, 3) := by decide +kernel
theorem dX1_mostOf_24 : decode cX1_mostOf 24 = .ok (.goto (-20), 3) := by decide +kernel
theorem dX1_mostOf_27 : decode cX1_mostOf 27 = .ok (.iconst 0, 1) := by decide +kernel
theorem dX1_mostOf_28 : decode cX1_mostOf 28 = .ok (.istore_n 3, 1) := by decide +kernel
theorem dX1_mostOf_29 : decode cX1_mostOf 29 = .ok (.iload_n 3, 1) := by decide +kernel
theorem dX1_mostOf_30 : decode cX1_mostOf 30 = .ok (.bipush 6, 2) := by decide +kernel
theorem dX1_mostOf_32 : decode cX1_mostOf 32 = .ok (.if_icmp .ge 21, 3) := by decide +kernel
theorem dX1_mostOf_35 : decode cX1_mostOf 35 = .ok (.iload_n 2, 1) := by decide +kernel
theorem dX1_mostOf_36 : decode cX1_mostOf 36 = .ok (.aload_n 0, 1) := by decide +kernel
theorem dX1_mostOf_37 : decode cX1_mostOf 37 = .ok (.aload_n 1, 1) := by decide +kernel
theorem dX1_mostOf_38 : decode cX1_mostOf 38 = .ok (.iconst 1, 1) := by decide +kernel
theorem dX1_mostOf_39 : decode cX1_mostOf 39 = .ok (.iload_n 3, 1) := by decide +kernel
theorem dX1_mostOf_40 : decode cX1_mostOf 40 = .ok (.invokevirtual 15, 3) := by decide +kernel
theorem dX1_mostOf_43 : decode cX1_mostOf 43 = .ok (.invokestatic 19, 3) := by decide +kernel
theorem dX1_mostOf_46 : decode cX1_mostOf 46 = .ok (.istore_n 2, 1) := by decide +kernel
theorem dX1_mostOf_47 : decode cX1_mostOf 47 = .ok (.iinc 3 1, 3) := by decide +kernel
theorem dX1_mostOf_50 : decode cX1_mostOf 50 = .ok (.goto (-21), 3) := by decide +kernel
theorem dX1_mostOf_53 : decode cX1_mostOf 53 = .ok (.iload_n 2, 1) := by decide +kernel
theorem dX1_mostOf_54 : decode cX1_mostOf 54 = .ok (.ireturn, 1) := by decide +kernel
set_option maxRecDepth 20000 in
theorem ggX1_totalOf_X8_lessonTotal : GoodIn wsX1_totalOf wsX8_lessonTotal := goodIn_r _ [5, 6, 11, 12] (by decide +kernel) (by decide +kernel)
set_option maxRecDepth 20000 in
theorem gX1_totalOf_X8_lessonTotal : GoodIn wsX1_totalOf (wsV RX1 25 RX8 yX8_lessonTotal wsX8_lessonTotal) := goodIn_app (goodIn_of _ (by decide +kernel)) ggX1_totalOf_X8_lessonTotal
set_option maxRecDepth 20000 in
theorem ggX1_totalOf_X8_isOf : GoodIn wsX1_totalOf wsX8_isOf := goodIn_r _ [10, 6, 11, 12] (by decide +kernel) (by decide +kernel)
set_option maxRecDepth 20000 in
theorem gX1_totalOf_X8_isOf : GoodIn wsX1_totalOf (wsV RX1 31 RX8 yX8_isOf wsX8_isOf) := goodIn_app (goodIn_of _ (by decide +kernel)) ggX1_totalOf_X8_isOf
theorem dX1_totalOf_0 : decode cX1_totalOf 0 = .ok (.iconst 0, 1) := by decide +kernel
theorem dX1_totalOf_1 : decode cX1_totalOf 1 = .ok (.istore 4, 2) := by decide +kernel
theorem dX1_totalOf_3 : decode cX1_totalOf 3 = .ok (.iconst 0, 1) := by decide +kernel
theorem dX1_totalOf_4 : decode cX1_totalOf 4 = .ok (.istore 5, 2) := by decide +kernel
theorem dX1_totalOf_6 : decode cX1_totalOf 6 = .ok (.iload 5, 2) := by decide +kernel
theorem dX1_totalOf_8 : decode cX1_totalOf 8 = .ok (.aload_n 1, 1) := by decide +kernel
theorem dX1_totalOf_9 : decode cX1_totalOf 9 = .ok (.invokevirtual 25, 3) := by decide +kernel
theorem dX1_totalOf_12 : decode cX1_totalOf 12 = .ok (.if_icmp .ge 30, 3) := by decide +kernel
theorem dX1_totalOf_15 : decode cX1_totalOf 15 = .ok (.iload 4, 2) := by decide +kernel
theorem dX1_totalOf_17 : decode cX1_totalOf 17 = .ok (.aload_n 1, 1) := by decide +kernel
theorem dX1_totalOf_18 : decode cX1_totalOf 18 = .ok (.iload 5, 2) := by decide +kernel
theorem dX1_totalOf_20 : decode cX1_totalOf 20 = .ok (.iload_n 2, 1) := by decide +kernel
theorem dX1_totalOf_21 : decode cX1_totalOf 21 = .ok (.iload_n 3, 1) := by decide +kernel
theorem dX1_totalOf_22 : decode cX1_totalOf 22 = .ok (.invokevirtual 31, 3) := by decide +kernel
theorem dX1_totalOf_25 : decode cX1_totalOf 25 = .ok (.ifCond .eq 7, 3) := by decide +kernel
theorem dX1_totalOf_28 : decode cX1_totalOf 28 = .ok (.iconst 1, 1) := by decide +kernel
theorem dX1_totalOf_29 : decode cX1_totalOf 29 = .ok (.goto 4, 3) := by decide +kernel
theorem dX1_totalOf_32 : decode cX1_totalOf 32 = .ok (.iconst 0, 1) := by decide +kernel
theorem dX1_totalOf_33 : decode cX1_totalOf 33 = .ok (.iadd, 1) := by decide +kernel
theorem dX1_totalOf_34 : decode cX1_totalOf 34 = .ok (.istore 4, 2) := by decide +kernel
theorem dX1_totalOf_36 : decode cX1_totalOf 36 = .ok (.iinc 5 1, 3) := by decide +kernel
theorem dX1_totalOf_39 : decode cX1_totalOf 39 = .ok (.goto (-33), 3) := by decide +kernel
theorem dX1_totalOf_42 : decode cX1_totalOf 42 = .ok (.iload 4, 2) := by decide +kernel
theorem dX1_totalOf_44 : decode cX1_totalOf 44 = .ok (.ireturn, 1) := by decide +kernel
set_option maxRecDepth 20000 in
theorem ggX1_paint_X1_mostOf : GoodIn wsX1_paint wsX1_mostOf := goodIn_r _ [6, 7, 8, 9, 10, 11, 12, 13, 5, 14, 15, 16, 17, 18, 19, 20, 21, 22, 23, 24, 46, 47] (by decide +kernel) (by decide +kernel)
set_option maxRecDepth 20000 in
theorem gX1_paint_X1_mostOf : GoodIn wsX1_paint (wsV RX1 35 RX1 yX1_mostOf wsX1_mostOf) := goodIn_app (goodIn_of _ (by decide +kernel)) ggX1_paint_X1_mostOf
set_option maxRecDepth 20000 in
theorem ggX1_paint_X8_lessonTotal : GoodIn wsX1_paint wsX8_lessonTotal := goodIn_r _ [19, 20, 46, 47] (by decide +kernel) (by decide +kernel)
set_option maxRecDepth 20000 in
theorem gX1_paint_X8_lessonTotal : GoodIn wsX1_paint (wsV RX1 25 RX8 yX8_lessonTotal wsX8_lessonTotal) := goodIn_app (goodIn_of _ (by decide +kernel)) ggX1_paint_X8_lessonTotal
set_option maxRecDepth 20000 in
theorem ggX1_paint_X1_used : GoodIn wsX1_paint wsX1_used := goodIn_r _ [28, 1, 29, 30, 31, 18, 32, 20, 21, 22, 23, 24, 45, 46, 47] (by decide +kernel) (by decide +kernel)
set_option maxRecDepth 20000 in
theorem gX1_paint_X1_used : GoodIn wsX1_paint (wsV RX1 39 RX1 yX1_used wsX1_used) := goodIn_app (goodIn_of _ (by decide +kernel)) ggX1_paint_X1_used
set_option maxRecDepth 20000 in
theorem ggX1_paint_X1_leastBeside : GoodIn wsX1_paint wsX1_leastBeside := goodIn_r _ [36] (by decide +kernel) (by decide +kernel)
set_option maxRecDepth 20000 in
theorem gX1_paint_X1_leastBeside : GoodIn wsX1_paint (wsV RX1 42 RX1 yX1_leastBeside wsX1_leastBeside) := goodIn_app (goodIn_of _ (by decide +kernel)) ggX1_paint_X1_leastBeside
set_option maxRecDepth 20000 in
theorem ggX1_paint_X1_turn : GoodIn wsX1_paint wsX1_turn := goodIn_r _ [40, 1, 29, 30, 31, 18, 32, 20, 41, 42, 43, 5, 44, 21, 22, 23, 24, 45, 46, 47] (by decide +kernel) (by decide +kernel)
set_option maxRecDepth 20000 in
theorem gX1_paint_X1_turn : GoodIn wsX1_paint (wsV RX1 46 RX1 yX1_turn wsX1_turn) := goodIn_app (goodIn_of _ (by decide +kernel)) ggX1_paint_X1_turn
theorem dX1_paint_0 : decode cX1_paint 0 = .ok (.aload_n 0, 1) := by decide +kernel
theorem dX1_paint_1 : decode cX1_paint 1 = .ok (.aload_n 1, 1) := by decide +kernel
theorem dX1_paint_2 : decode cX1_paint 2 = .ok (.invokevirtual 35, 3) := by decide +kernel
theorem dX1_paint_5 : decode cX1_paint 5 = .ok (.istore_n 2, 1) := by decide +kernel
theorem dX1_paint_6 : decode cX1_paint 6 = .ok (.iconst 0, 1) := by decide +kernel
theorem dX1_paint_7 : decode cX1_paint 7 = .ok (.istore_n 3, 1) := by decide +kernel
theorem dX1_paint_8 : decode cX1_paint 8 = .ok (.iload_n 3, 1) := by decide +kernel
theorem dX1_paint_9 : decode cX1_paint 9 = .ok (.aload_n 1, 1) := by decide +kernel
theorem dX1_paint_10 : decode cX1_paint 10 = .ok (.invokevirtual 25, 3) := by decide +kernel
theorem dX1_paint_13 : decode cX1_paint 13 = .ok (.if_icmp .ge 85, 3) := by decide +kernel
theorem dX1_paint_16 : decode cX1_paint 16 = .ok (.aload_n 0, 1) := by decide +kernel
theorem dX1_paint_17 : decode cX1_paint 17 = .ok (.aload_n 1, 1) := by decide +kernel
theorem dX1_paint_18 : decode cX1_paint 18 = .ok (.iconst 0, 1) := by decide +kernel
theorem dX1_paint_19 : decode cX1_paint 19 = .ok (.iload_n 3, 1) := by decide +kernel
theorem dX1_paint_20 : decode cX1_paint 20 = .ok (.invokevirtual 39, 3) := by decide +kernel
theorem dX1_paint_23 : decode cX1_paint 23 = .ok (.istore 4, 2) := by decide +kernel
theorem dX1_paint_25 : decode cX1_paint 25 = .ok (.aload_n 0, 1) := by decide +kernel
theorem dX1_paint_26 : decode cX1_paint 26 = .ok (.aload_n 1, 1) := by decide +kernel
theorem dX1_paint_27 : decode cX1_paint 27 = .ok (.iconst 1, 1) := by decide +kernel
theorem dX1_paint_28 : decode cX1_paint 28 = .ok (.iload_n 3, 1) := by decide +kernel
theorem dX1_paint_29 : decode cX1_paint 29 = .ok (.invokevirtual 39, 3) := by decide +kernel
theorem dX1_paint_32 : decode cX1_paint 32 = .ok (.istore 5, 2) := by decide +kernel
theorem dX1_paint_34 : decode cX1_paint 34 = .ok (.aload_n 0, 1) := by decide +kernel
theorem dX1_paint_35 : decode cX1_paint 35 = .ok (.iload 4, 2) := by decide +kernel
theorem dX1_paint_37 : decode cX1_paint 37 = .ok (.iload 5, 2) := by decide +kernel
theorem dX1_paint_39 : decode cX1_paint 39 = .ok (.ior, 1) := by decide +kernel
theorem dX1_paint_40 : decode cX1_paint 40 = .ok (.invokevirtual 42, 3) := by decide +kernel
theorem dX1_paint_43 : decode cX1_paint 43 = .ok (.istore 6, 2) := by decide +kernel
theorem dX1_paint_45 : decode cX1_paint 45 = .ok (.iload 6, 2) := by decide +kernel
theorem dX1_paint_47 : decode cX1_paint 47 = .ok (.iload_n 2, 1) := by decide +kernel
theorem dX1_paint_48 : decode cX1_paint 48 = .ok (.if_icmp .ge 14, 3) := by decide +kernel
theorem dX1_paint_51 : decode cX1_paint 51 = .ok (.aload_n 0, 1) := by decide +kernel
theorem dX1_paint_52 : decode cX1_paint 52 = .ok (.getfield 9, 3) := by decide +kernel
theorem dX1_paint_55 : decode cX1_paint 55 = .ok (.iload_n 3, 1) := by decide +kernel
theorem dX1_paint_56 : decode cX1_paint 56 = .ok (.iload 6, 2) := by decide +kernel
theorem dX1_paint_58 : decode cX1_paint 58 = .ok (.iastore, 1) := by decide +kernel
theorem dX1_paint_59 : decode cX1_paint 59 = .ok (.goto 33, 3) := by decide +kernel
theorem dX1_paint_62 : decode cX1_paint 62 = .ok (.aload_n 0, 1) := by decide +kernel
theorem dX1_paint_63 : decode cX1_paint 63 = .ok (.iload 4, 2) := by decide +kernel
theorem dX1_paint_65 : decode cX1_paint 65 = .ok (.invokevirtual 42, 3) := by decide +kernel
theorem dX1_paint_68 : decode cX1_paint 68 = .ok (.istore 7, 2) := by decide +kernel
theorem dX1_paint_70 : decode cX1_paint 70 = .ok (.aload_n 0, 1) := by decide +kernel
theorem dX1_paint_71 : decode cX1_paint 71 = .ok (.aload_n 1, 1) := by decide +kernel
theorem dX1_paint_72 : decode cX1_paint 72 = .ok (.iload_n 3, 1) := by decide +kernel
theorem dX1_paint_73 : decode cX1_paint 73 = .ok (.iload 7, 2) := by decide +kernel
theorem dX1_paint_75 : decode cX1_paint 75 = .ok (.aload_n 0, 1) := by decide +kernel
theorem dX1_paint_76 : decode cX1_paint 76 = .ok (.iload 5, 2) := by decide +kernel
theorem dX1_paint_78 : decode cX1_paint 78 = .ok (.invokevirtual 42, 3) := by decide +kernel
theorem dX1_paint_81 : decode cX1_paint 81 = .ok (.invokevirtual 46, 3) := by decide +kernel
theorem dX1_paint_84 : decode cX1_paint 84 = .ok (.aload_n 0, 1) := by decide +kernel
theorem dX1_paint_85 : decode cX1_paint 85 = .ok (.getfield 9, 3) := by decide +kernel
theorem dX1_paint_88 : decode cX1_paint 88 = .ok (.iload_n 3, 1) := by decide +kernel
theorem dX1_paint_89 : decode cX1_paint 89 = .ok (.iload 7, 2) := by decide +kernel
theorem dX1_paint_91 : decode cX1_paint 91 = .ok (.iastore, 1) := by decide +kernel
theorem dX1_paint_92 : decode cX1_paint 92 = .ok (.iinc 3 1, 3) := by decide +kernel
theorem dX1_paint_95 : decode cX1_paint 95 = .ok (.goto (-87), 3) := by decide +kernel
theorem dX1_paint_98 : decode cX1_paint 98 = .ok (.return_, 1) := by decide +kernel
set_option maxRecDepth 20000 in
theorem ggX1_used_X8_ofLesson : GoodIn wsX1_used wsX8_ofLesson := goodIn_r _ [6, 7, 13, 14] (by decide +kernel) (by decide +kernel)
set_option maxRecDepth 20000 in
theorem gX1_used_X8_ofLesson : GoodIn wsX1_used (wsV RX1 50 RX8 yX8_ofLesson wsX8_ofLesson) := goodIn_app (goodIn_of _ (by decide +kernel)) ggX1_used_X8_ofLesson
set_option maxRecDepth 20000 in
theorem ggX1_used_X8_isOf : GoodIn wsX1_used wsX8_isOf := goodIn_r _ [11, 7, 13, 14] (by decide +kernel) (by decide +kernel)
set_option maxRecDepth 20000 in
theorem gX1_used_X8_isOf : GoodIn wsX1_used (wsV RX1 31 RX8 yX8_isOf wsX8_isOf) := goodIn_app (goodIn_of _ (by decide +kernel)) ggX1_used_X8_isOf
theorem dX1_used_0 : decode cX1_used 0 = .ok (.aload_n 1, 1) := by decide +kernel
theorem dX1_used_1 : decode cX1_used 1 = .ok (.iload_n 3, 1) := by decide +kernel
theorem dX1_used_2 : decode cX1_used 2 = .ok (.iload_n 2, 1) := by decide +kernel
theorem dX1_used_3 : decode cX1_used 3 = .ok (.ifCond .eq 7, 3) := by decide +kernel
theorem dX1_used_6 : decode cX1_used 6 = .ok (.iconst 1, 1) := by decide +kernel
theorem dX1_used_7 : decode cX1_used 7 = .ok (.goto 4, 3) := by decide +kernel
theorem dX1_used_10 : decode cX1_used 10 = .ok (.iconst 0, 1) := by decide +kernel
theorem dX1_used_11 : decode cX1_used 11 = .ok (.invokevirtual 50, 3) := by decide +kernel
theorem dX1_used_14 : decode cX1_used 14 = .ok (.istore 4, 2) := by decide +kernel
theorem dX1_used_16 : decode cX1_used 16 = .ok (.iconst 0, 1) := by decide +kernel
theorem dX1_used_17 : decode cX1_used 17 = .ok (.istore 5, 2) := by decide +kernel
theorem dX1_used_19 : decode cX1_used 19 = .ok (.iconst 0, 1) := by decide +kernel
theorem dX1_used_20 : decode cX1_used 20 = .ok (.istore 6, 2) := by decide +kernel
theorem dX1_used_22 : decode cX1_used 22 = .ok (.iload 6, 2) := by decide +kernel
theorem dX1_used_24 : decode cX1_used 24 = .ok (.iload_n 3, 1) := by decide +kernel
theorem dX1_used_25 : decode cX1_used 25 = .ok (.if_icmp .ge 35, 3) := by decide +kernel
theorem dX1_used_28 : decode cX1_used 28 = .ok (.aload_n 1, 1) := by decide +kernel
theorem dX1_used_29 : decode cX1_used 29 = .ok (.iload 6, 2) := by decide +kernel
theorem dX1_used_31 : decode cX1_used 31 = .ok (.iload_n 2, 1) := by decide +kernel
theorem dX1_used_32 : decode cX1_used 32 = .ok (.iload 4, 2) := by decide +kernel
theorem dX1_used_34 : decode cX1_used 34 = .ok (.invokevirtual 31, 3) := by decide +kernel
theorem dX1_used_37 : decode cX1_used 37 = .ok (.ifCond .eq 17, 3) := by decide +kernel
theorem dX1_used_40 : decode cX1_used 40 = .ok (.iload 5, 2) := by decide +kernel
theorem dX1_used_42 : decode cX1_used 42 = .ok (.iconst 1, 1) := by decide +kernel
theorem dX1_used_43 : decode cX1_used 43 = .ok (.aload_n 0, 1) := by decide +kernel
theorem dX1_used_44 : decode cX1_used 44 = .ok (.getfield 9, 3) := by decide +kernel
theorem dX1_used_47 : decode cX1_used 47 = .ok (.iload 6, 2) := by decide +kernel
theorem dX1_used_49 : decode cX1_used 49 = .ok (.iaload, 1) := by decide +kernel
theorem dX1_used_50 : decode cX1_used 50 = .ok (.ishl, 1) := by decide +kernel
theorem dX1_used_51 : decode cX1_used 51 = .ok (.ior, 1) := by decide +kernel
theorem dX1_used_52 : decode cX1_used 52 = .ok (.istore 5, 2) := by decide +kernel
theorem dX1_used_54 : decode cX1_used 54 = .ok (.iinc 6 1, 3) := by decide +kernel
theorem dX1_used_57 : decode cX1_used 57 = .ok (.goto (-35), 3) := by decide +kernel
theorem dX1_used_60 : decode cX1_used 60 = .ok (.iload 5, 2) := by decide +kernel
theorem dX1_used_62 : decode cX1_used 62 = .ok (.ireturn, 1) := by decide +kernel
theorem dX1_leastBeside_0 : decode cX1_leastBeside 0 = .ok (.iconst 0, 1) := by decide +kernel
theorem dX1_leastBeside_1 : decode cX1_leastBeside 1 = .ok (.istore_n 2, 1) := by decide +kernel
theorem dX1_leastBeside_2 : decode cX1_leastBeside 2 = .ok (.iload_n 2, 1) := by decide +kernel
theorem dX1_leastBeside_3 : decode cX1_leastBeside 3 = .ok (.bipush 9, 2) := by decide +kernel
theorem dX1_leastBeside_5 : decode cX1_leastBeside 5 = .ok (.if_icmp .ge 17, 3) := by decide +kernel
theorem dX1_leastBeside_8 : decode cX1_leastBeside 8 = .ok (.iload_n 1, 1) := by decide +kernel
theorem dX1_leastBeside_9 : decode cX1_leastBeside 9 = .ok (.iload_n 2, 1) := by decide +kernel
theorem dX1_leastBeside_10 : decode cX1_leastBeside 10 = .ok (.ishr, 1) := by decide +kernel
theorem dX1_leastBeside_11 : decode cX1_leastBeside 11 = .ok (.iconst 1, 1) := by decide +kernel
theorem dX1_leastBeside_12 : decode cX1_leastBeside 12 = .ok (.iand, 1) := by decide +kernel
theorem dX1_leastBeside_13 : decode cX1_leastBeside 13 = .ok (.ifCond .eq 9, 3) := by decide +kernel
theorem dX1_leastBeside_16 : decode cX1_leastBeside 16 = .ok (.iinc 2 1, 3) := by decide +kernel
theorem dX1_leastBeside_19 : decode cX1_leastBeside 19 = .ok (.goto (-17), 3) := by decide +kernel
theorem dX1_leastBeside_22 : decode cX1_leastBeside 22 = .ok (.iload_n 2, 1) := by decide +kernel
theorem dX1_leastBeside_23 : decode cX1_leastBeside 23 = .ok (.ireturn, 1) := by decide +kernel
set_option maxRecDepth 20000 in
theorem ggX1_turn_X8_ofLesson : GoodIn wsX1_turn wsX8_ofLesson := goodIn_r _ [6, 7, 18, 19] (by decide +kernel) (by decide +kernel)
set_option maxRecDepth 20000 in
theorem gX1_turn_X8_ofLesson : GoodIn wsX1_turn (wsV RX1 50 RX8 yX8_ofLesson wsX8_ofLesson) := goodIn_app (goodIn_of _ (by decide +kernel)) ggX1_turn_X8_ofLesson
set_option maxRecDepth 20000 in
theorem ggX1_turn_X1_withColour : GoodIn wsX1_turn wsX1_withColour := goodIn_r _ [12, 1, 13, 14, 15, 5, 16, 7, 17, 18, 19] (by decide +kernel) (by decide +kernel)
set_option maxRecDepth 20000 in
theorem gX1_turn_X1_withColour : GoodIn wsX1_turn (wsV RX1 53 RX1 yX1_withColour wsX1_withColour) := goodIn_app (goodIn_of _ (by decide +kernel)) ggX1_turn_X1_withColour
theorem dX1_turn_0 : decode cX1_turn 0 = .ok (.iconst 0, 1) := by decide +kernel
theorem dX1_turn_1 : decode cX1_turn 1 = .ok (.istore 5, 2) := by decide +kernel
theorem dX1_turn_3 : decode cX1_turn 3 = .ok (.aload_n 0, 1) := by decide +kernel
theorem dX1_turn_4 : decode cX1_turn 4 = .ok (.aload_n 1, 1) := by decide +kernel
theorem dX1_turn_5 : decode cX1_turn 5 = .ok (.iconst 1, 1) := by decide +kernel
theorem dX1_turn_6 : decode cX1_turn 6 = .ok (.aload_n 1, 1) := by decide +kernel
theorem dX1_turn_7 : decode cX1_turn 7 = .ok (.iload_n 2, 1) := by decide +kernel
theorem dX1_turn_8 : decode cX1_turn 8 = .ok (.iconst 1, 1) := by decide +kernel
theorem dX1_turn_9 : decode cX1_turn 9 = .ok (.invokevirtual 50, 3) := by decide +kernel
theorem dX1_turn_12 : decode cX1_turn 12 = .ok (.iload_n 3, 1) := by decide +kernel
theorem dX1_turn_13 : decode cX1_turn 13 = .ok (.iload_n 2, 1) := by decide +kernel
theorem dX1_turn_14 : decode cX1_turn 14 = .ok (.invokevirtual 53, 3) := by decide +kernel
theorem dX1_turn_17 : decode cX1_turn 17 = .ok (.istore 6, 2) := by decide +kernel
theorem dX1_turn_19 : decode cX1_turn 19 = .ok (.iconst 1, 1) := by decide +kernel
theorem dX1_turn_20 : decode cX1_turn 20 = .ok (.istore 7, 2) := by decide +kernel
theorem dX1_turn_22 : decode cX1_turn 22 = .ok (.iload 7, 2) := by decide +kernel
theorem dX1_turn_24 : decode cX1_turn 24 = .ok (.bipush 9, 2) := by decide +kernel
theorem dX1_turn_26 : decode cX1_turn 26 = .ok (.if_icmp .gt 79, 3) := by decide +kernel
theorem dX1_turn_29 : decode cX1_turn 29 = .ok (.iload 6, 2) := by decide +kernel
theorem dX1_turn_31 : decode cX1_turn 31 = .ok (.iconst (-1), 1) := by decide +kernel
theorem dX1_turn_32 : decode cX1_turn 32 = .ok (.if_icmp .eq 73, 3) := by decide +kernel
theorem dX1_turn_35 : decode cX1_turn 35 = .ok (.iload 7, 2) := by decide +kernel
theorem dX1_turn_37 : decode cX1_turn 37 = .ok (.iconst 2, 1) := by decide +kernel
theorem dX1_turn_38 : decode cX1_turn 38 = .ok (.irem, 1) := by decide +kernel
theorem dX1_turn_39 : decode cX1_turn 39 = .ok (.ifCond .ne 7, 3) := by decide +kernel
theorem dX1_turn_42 : decode cX1_turn 42 = .ok (.iconst 1, 1) := by decide +kernel
theorem dX1_turn_43 : decode cX1_turn 43 = .ok (.goto 4, 3) := by decide +kernel
theorem dX1_turn_46 : decode cX1_turn 46 = .ok (.iconst 0, 1) := by decide +kernel
theorem dX1_turn_47 : decode cX1_turn 47 = .ok (.istore 8, 2) := by decide +kernel
theorem dX1_turn_49 : decode cX1_turn 49 = .ok (.aload_n 1, 1) := by decide +kernel
theorem dX1_turn_50 : decode cX1_turn 50 = .ok (.iload 6, 2) := by decide +kernel
theorem dX1_turn_52 : decode cX1_turn 52 = .ok (.iload 8, 2) := by decide +kernel
theorem dX1_turn_54 : decode cX1_turn 54 = .ok (.ifCond .eq 7, 3) := by decide +kernel
theorem dX1_turn_57 : decode cX1_turn 57 = .ok (.iconst 1, 1) := by decide +kernel
theorem dX1_turn_58 : decode cX1_turn 58 = .ok (.goto 4, 3) := by decide +kernel
theorem dX1_turn_61 : decode cX1_turn 61 = .ok (.iconst 0, 1) := by decide +kernel
theorem dX1_turn_62 : decode cX1_turn 62 = .ok (.invokevirtual 50, 3) := by decide +kernel
theorem dX1_turn_65 : decode cX1_turn 65 = .ok (.istore 9, 2) := by decide +kernel
theorem dX1_turn_67 : decode cX1_turn 67 = .ok (.iload 5, 2) := by decide +kernel
theorem dX1_turn_69 : decode cX1_turn 69 = .ok (.iconst 1, 1) := by decide +kernel
theorem dX1_turn_70 : decode cX1_turn 70 = .ok (.iload 6, 2) := by decide +kernel
theorem dX1_turn_72 : decode cX1_turn 72 = .ok (.ishl, 1) := by decide +kernel
theorem dX1_turn_73 : decode cX1_turn 73 = .ok (.ior, 1) := by decide +kernel
theorem dX1_turn_74 : decode cX1_turn 74 = .ok (.istore 5, 2) := by decide +kernel
theorem dX1_turn_76 : decode cX1_turn 76 = .ok (.aload_n 0, 1) := by decide +kernel
theorem dX1_turn_77 : decode cX1_turn 77 = .ok (.aload_n 1, 1) := by decide +kernel
theorem dX1_turn_78 : decode cX1_turn 78 = .ok (.iload 8, 2) := by decide +kernel
theorem dX1_turn_80 : decode cX1_turn 80 = .ok (.iload 9, 2) := by decide +kernel
theorem dX1_turn_82 : decode cX1_turn 82 = .ok (.iload 8, 2) := by decide +kernel
theorem dX1_turn_84 : decode cX1_turn 84 = .ok (.ifCond .eq 7, 3) := by decide +kernel
theorem dX1_turn_87 : decode cX1_turn 87 = .ok (.iload_n 3, 1) := by decide +kernel
theorem dX1_turn_88 : decode cX1_turn 88 = .ok (.goto 5, 3) := by decide +kernel
theorem dX1_turn_91 : decode cX1_turn 91 = .ok (.iload 4, 2) := by decide +kernel
theorem dX1_turn_93 : decode cX1_turn 93 = .ok (.iload_n 2, 1) := by decide +kernel
theorem dX1_turn_94 : decode cX1_turn 94 = .ok (.invokevirtual 53, 3) := by decide +kernel
theorem dX1_turn_97 : decode cX1_turn 97 = .ok (.istore 6, 2) := by decide +kernel
theorem dX1_turn_99 : decode cX1_turn 99 = .ok (.iinc 7 1, 3) := by decide +kernel
theorem dX1_turn_102 : decode cX1_turn 102 = .ok (.goto (-80), 3) := by decide +kernel
theorem dX1_turn_105 : decode cX1_turn 105 = .ok (.iconst 0, 1) := by decide +kernel
theorem dX1_turn_106 : decode cX1_turn 106 = .ok (.istore 7, 2) := by decide +kernel
theorem dX1_turn_108 : decode cX1_turn 108 = .ok (.iload 7, 2) := by decide +kernel
theorem dX1_turn_110 : decode cX1_turn 110 = .ok (.iload_n 2, 1) := by decide +kernel
theorem dX1_turn_111 : decode cX1_turn 111 = .ok (.if_icmp .ge 38, 3) := by decide +kernel
theorem dX1_turn_114 : decode cX1_turn 114 = .ok (.iload 5, 2) := by decide +kernel
theorem dX1_turn_116 : decode cX1_turn 116 = .ok (.iload 7, 2) := by decide +kernel
theorem dX1_turn_118 : decode cX1_turn 118 = .ok (.ishr, 1) := by decide +kernel
theorem dX1_turn_119 : decode cX1_turn 119 = .ok (.iconst 1, 1) := by decide +kernel
theorem dX1_turn_120 : decode cX1_turn 120 = .ok (.iand, 1) := by decide +kernel
theorem dX1_turn_121 : decode cX1_turn 121 = .ok (.ifCond .eq 22, 3) := by decide +kernel
theorem dX1_turn_124 : decode cX1_turn 124 = .ok (.aload_n 0, 1) := by decide +kernel
theorem dX1_turn_125 : decode cX1_turn 125 = .ok (.getfield 9, 3) := by decide +kernel
theorem dX1_turn_128 : decode cX1_turn 128 = .ok (.iload 7, 2) := by decide +kernel
theorem dX1_turn_130 : decode cX1_turn 130 = .ok (.iload_n 3, 1) := by decide +kernel
theorem dX1_turn_131 : decode cX1_turn 131 = .ok (.iload 4, 2) := by decide +kernel
theorem dX1_turn_133 : decode cX1_turn 133 = .ok (.iadd, 1) := by decide +kernel
theorem dX1_turn_134 : decode cX1_turn 134 = .ok (.aload_n 0, 1) := by decide +kernel
theorem dX1_turn_135 : decode cX1_turn 135 = .ok (.getfield 9, 3) := by decide +kernel
theorem dX1_turn_138 : decode cX1_turn 138 = .ok (.iload 7, 2) := by decide +kernel
theorem dX1_turn_140 : decode cX1_turn 140 = .ok (.iaload, 1) := by decide +kernel
theorem dX1_turn_141 : decode cX1_turn 141 = .ok (.isub, 1) := by decide +kernel
theorem dX1_turn_142 : decode cX1_turn 142 = .ok (.iastore, 1) := by decide +kernel
theorem dX1_turn_143 : decode cX1_turn 143 = .ok (.iinc 7 1, 3) := by decide +kernel
theorem dX1_turn_146 : decode cX1_turn 146 = .ok (.goto (-38), 3) := by decide +kernel
theorem dX1_turn_149 : decode cX1_turn 149 = .ok (.return_, 1) := by decide +kernel
set_option maxRecDepth 20000 in
theorem ggX1_withColour_X8_isOf : GoodIn wsX1_withColour wsX8_isOf := goodIn_r _ [6, 7, 9, 10] (by decide +kernel) (by decide +kernel)
set_option maxRecDepth 20000 in
theorem gX1_withColour_X8_isOf : GoodIn wsX1_withColour (wsV RX1 31 RX8 yX8_isOf wsX8_isOf) := goodIn_app (goodIn_of _ (by decide +kernel)) ggX1_withColour_X8_isOf
theorem dX1_withColour_0 : decode cX1_withColour 0 = .ok (.iconst 0, 1) := by decide +kernel
theorem dX1_withColour_1 : decode cX1_withColour 1 = .ok (.istore 6, 2) := by decide +kernel
theorem dX1_withColour_3 : decode cX1_withColour 3 = .ok (.iload 6, 2) := by decide +kernel
theorem dX1_withColour_5 : decode cX1_withColour 5 = .ok (.iload 5, 2) := by decide +kernel
theorem dX1_withColour_7 : decode cX1_withColour 7 = .ok (.if_icmp .ge 35, 3) := by decide +kernel
theorem dX1_withColour_10 : decode cX1_withColour 10 = .ok (.aload_n 0, 1) := by decide +kernel
theorem dX1_withColour_11 : decode cX1_withColour 11 = .ok (.getfield 9, 3) := by decide +kernel
theorem dX1_withColour_14 : decode cX1_withColour 14 = .ok (.iload 6, 2) := by decide +kernel
theorem dX1_withColour_16 : decode cX1_withColour 16 = .ok (.iaload, 1) := by decide +kernel
theorem dX1_withColour_17 : decode cX1_withColour 17 = .ok (.iload 4, 2) := by decide +kernel
theorem dX1_withColour_19 : decode cX1_withColour 19 = .ok (.if_icmp .ne 17, 3) := by decide +kernel
theorem dX1_withColour_22 : decode cX1_withColour 22 = .ok (.aload_n 1, 1) := by decide +kernel
theorem dX1_withColour_23 : decode cX1_withColour 23 = .ok (.iload 6, 2) := by decide +kernel
theorem dX1_withColour_25 : decode cX1_withColour 25 = .ok (.iload_n 2, 1) := by decide +kernel
theorem dX1_withColour_26 : decode cX1_withColour 26 = .ok (.iload_n 3, 1) := by decide +kernel
theorem dX1_withColour_27 : decode cX1_withColour 27 = .ok (.invokevirtual 31, 3) := by decide +kernel
theorem dX1_withColour_30 : decode cX1_withColour 30 = .ok (.ifCond .eq 6, 3) := by decide +kernel
theorem dX1_withColour_33 : decode cX1_withColour 33 = .ok (.iload 6, 2) := by decide +kernel
theorem dX1_withColour_35 : decode cX1_withColour 35 = .ok (.ireturn, 1) := by decide +kernel
theorem dX1_withColour_36 : decode cX1_withColour 36 = .ok (.iinc 6 1, 3) := by decide +kernel
theorem dX1_withColour_39 : decode cX1_withColour 39 = .ok (.goto (-36), 3) := by decide +kernel
theorem dX1_withColour_42 : decode cX1_withColour 42 = .ok (.iconst (-1), 1) := by decide +kernel
theorem dX1_withColour_43 : decode cX1_withColour 43 = .ok (.ireturn, 1) := by decide +kernel
set_option maxRecDepth 20000 in
theorem ggX1_sharedPairs_X1_paint : GoodIn wsX1_sharedPairs wsX1_paint := goodIn_r _ [6, 1, 7, 8, 9, 5, 10, 11, 12, 13, 14, 15, 16, 17, 18, 19, 20, 21, 22, 23, 24, 25, 26, 27, 28, 29, 30, 31, 32, 33, 34, 35, 36, 37, 38, 39, 40, 41, 42, 43, 44, 45, 46, 47, 48, 49, 50, 51] (by decide +kernel) (by decide +kernel)
set_option maxRecDepth 20000 in
theorem gX1_sharedPairs_X1_paint : GoodIn wsX1_sharedPairs (wsV RX1 57 RX1 yX1_paint wsX1_paint) := goodIn_app (goodIn_of _ (by decide +kernel)) ggX1_sharedPairs_X1_paint
set_option maxRecDepth 20000 in
theorem ggX1_sharedPairs_X8_lessonTotal : GoodIn wsX1_sharedPairs wsX8_lessonTotal := goodIn_r _ [23, 24, 50, 51] (by decide +kernel) (by decide +kernel)
set_option maxRecDepth 20000 in
theorem gX1_sharedPairs_X8_lessonTotal : GoodIn wsX1_sharedPairs (wsV RX1 25 RX8 yX8_lessonTotal wsX8_lessonTotal) := goodIn_app (goodIn_of _ (by decide +kernel)) ggX1_sharedPairs_X8_lessonTotal
set_option maxRecDepth 20000 in
theorem ggX1_sharedPairs_X8_ofLesson : GoodIn wsX1_sharedPairs wsX8_ofLesson := goodIn_r _ [36, 24, 50, 51] (by decide +kernel) (by decide +kernel)
set_option maxRecDepth 20000 in
theorem gX1_sharedPairs_X8_ofLesson : GoodIn wsX1_sharedPairs (wsV RX1 50 RX8 yX8_ofLesson wsX8_ofLesson) := goodIn_app (goodIn_of _ (by decide +kernel)) ggX1_sharedPairs_X8_ofLesson
set_option maxRecDepth 20000 in
theorem ggX1_sharedPairs_X8_isOf : GoodIn wsX1_sharedPairs wsX8_isOf := goodIn_r _ [28, 24, 50, 51] (by decide +kernel) (by decide +kernel)
set_option maxRecDepth 20000 in
theorem gX1_sharedPairs_X8_isOf : GoodIn wsX1_sharedPairs (wsV RX1 31 RX8 yX8_isOf wsX8_isOf) := goodIn_app (goodIn_of _ (by decide +kernel)) ggX1_sharedPairs_X8_isOf
theorem dX1_sharedPairs_0 : decode cX1_sharedPairs 0 = .ok (.aload_n 0, 1) := by decide +kernel
theorem dX1_sharedPairs_1 : decode cX1_sharedPairs 1 = .ok (.aload_n 1, 1) := by decide +kernel
theorem dX1_sharedPairs_2 : decode cX1_sharedPairs 2 = .ok (.invokevirtual 57, 3) := by decide +kernel
theorem dX1_sharedPairs_5 : decode cX1_sharedPairs 5 = .ok (.iconst 0, 1) := by decide +kernel
theorem dX1_sharedPairs_6 : decode cX1_sharedPairs 6 = .ok (.istore_n 2, 1) := by decide +kernel
theorem dX1_sharedPairs_7 : decode cX1_sharedPairs 7 = .ok (.iconst 0, 1) := by decide +kernel
theorem dX1_sharedPairs_8 : decode cX1_sharedPairs 8 = .ok (.istore_n 3, 1) := by decide +kernel
theorem dX1_sharedPairs_9 : decode cX1_sharedPairs 9 = .ok (.iload_n 3, 1) := by decide +kernel
theorem dX1_sharedPairs_10 : decode cX1_sharedPairs 10 = .ok (.aload_n 1, 1) := by decide +kernel
theorem dX1_sharedPairs_11 : decode cX1_sharedPairs 11 = .ok (.invokevirtual 25, 3) := by decide +kernel
theorem dX1_sharedPairs_14 : decode cX1_sharedPairs 14 = .ok (.if_icmp .ge 92, 3) := by decide +kernel
theorem dX1_sharedPairs_17 : decode cX1_sharedPairs 17 = .ok (.iconst 0, 1) := by decide +kernel
theorem dX1_sharedPairs_18 : decode cX1_sharedPairs 18 = .ok (.istore 4, 2) := by decide +kernel
theorem dX1_sharedPairs_20 : decode cX1_sharedPairs 20 = .ok (.iload 4, 2) := by decide +kernel
theorem dX1_sharedPairs_22 : decode cX1_sharedPairs 22 = .ok (.iload_n 3, 1) := by decide +kernel
theorem dX1_sharedPairs_23 : decode cX1_sharedPairs 23 = .ok (.if_icmp .ge 77, 3) := by decide +kernel
theorem dX1_sharedPairs_26 : decode cX1_sharedPairs 26 = .ok (.aload_n 1, 1) := by decide +kernel
theorem dX1_sharedPairs_27 : decode cX1_sharedPairs 27 = .ok (.iload 4, 2) := by decide +kernel
theorem dX1_sharedPairs_29 : decode cX1_sharedPairs 29 = .ok (.iconst 0, 1) := by decide +kernel
theorem dX1_sharedPairs_30 : decode cX1_sharedPairs 30 = .ok (.aload_n 1, 1) := by decide +kernel
theorem dX1_sharedPairs_31 : decode cX1_sharedPairs 31 = .ok (.iload_n 3, 1) := by decide +kernel
theorem dX1_sharedPairs_32 : decode cX1_sharedPairs 32 = .ok (.iconst 0, 1) := by decide +kernel
theorem dX1_sharedPairs_33 : decode cX1_sharedPairs 33 = .ok (.invokevirtual 50, 3) := by decide +kernel
theorem dX1_sharedPairs_36 : decode cX1_sharedPairs 36 = .ok (.invokevirtual 31, 3) := by decide +kernel
theorem dX1_sharedPairs_39 : decode cX1_sharedPairs 39 = .ok (.ifCond .ne 19, 3) := by decide +kernel
theorem dX1_sharedPairs_42 : decode cX1_sharedPairs 42 = .ok (.aload_n 1, 1) := by decide +kernel
theorem dX1_sharedPairs_43 : decode cX1_sharedPairs 43 = .ok (.iload 4, 2) := by decide +kernel
theorem dX1_sharedPairs_45 : decode cX1_sharedPairs 45 = .ok (.iconst 1, 1) := by decide +kernel
theorem dX1_sharedPairs_46 : decode cX1_sharedPairs 46 = .ok (.aload_n 1, 1) := by decide +kernel
theorem dX1_sharedPairs_47 : decode cX1_sharedPairs 47 = .ok (.iload_n 3, 1) := by decide +kernel
theorem dX1_sharedPairs_48 : decode cX1_sharedPairs 48 = .ok (.iconst 1, 1) := by decide +kernel
theorem dX1_sharedPairs_49 : decode cX1_sharedPairs 49 = .ok (.invokevirtual 50, 3) := by decide +kernel
theorem dX1_sharedPairs_52 : decode cX1_sharedPairs 52 = .ok (.invokevirtual 31, 3) := by decide +kernel
theorem dX1_sharedPairs_55 : decode cX1_sharedPairs 55 = .ok (.ifCond .eq 7, 3) := by decide +kernel
theorem dX1_sharedPairs_58 : decode cX1_sharedPairs 58 = .ok (.iconst 1, 1) := by decide +kernel
theorem dX1_sharedPairs_59 : decode cX1_sharedPairs 59 = .ok (.goto 4, 3) := by decide +kernel
theorem dX1_sharedPairs_62 : decode cX1_sharedPairs 62 = .ok (.iconst 0, 1) := by decide +kernel
theorem dX1_sharedPairs_63 : decode cX1_sharedPairs 63 = .ok (.istore 5, 2) := by decide +kernel
theorem dX1_sharedPairs_65 : decode cX1_sharedPairs 65 = .ok (.iload_n 2, 1) := by decide +kernel
theorem dX1_sharedPairs_66 : decode cX1_sharedPairs 66 = .ok (.iload 5, 2) := by decide +kernel
theorem dX1_sharedPairs_68 : decode cX1_sharedPairs 68 = .ok (.ifCond .eq 23, 3) := by decide +kernel
theorem dX1_sharedPairs_71 : decode cX1_sharedPairs 71 = .ok (.aload_n 0, 1) := by decide +kernel
theorem dX1_sharedPairs_72 : decode cX1_sharedPairs 72 = .ok (.getfield 9, 3) := by decide +kernel
theorem dX1_sharedPairs_75 : decode cX1_sharedPairs 75 = .ok (.iload 4, 2) := by decide +kernel
theorem dX1_sharedPairs_77 : decode cX1_sharedPairs 77 = .ok (.iaload, 1) := by decide +kernel
theorem dX1_sharedPairs_78 : decode cX1_sharedPairs 78 = .ok (.aload_n 0, 1) := by decide +kernel
theorem dX1_sharedPairs_79 : decode cX1_sharedPairs 79 = .ok (.getfield 9, 3) := by decide +kernel
theorem dX1_sharedPairs_82 : decode cX1_sharedPairs 82 = .ok (.iload_n 3, 1) := by decide +kernel
theorem dX1_sharedPairs_83 : decode cX1_sharedPairs 83 = .ok (.iaload, 1) := by decide +kernel
theorem dX1_sharedPairs_84 : decode cX1_sharedPairs 84 = .ok (.if_icmp .ne 7, 3) := by decide +kernel
theorem dX1_sharedPairs_87 : decode cX1_sharedPairs 87 = .ok (.iconst 1, 1) := by decide +kernel
theorem dX1_sharedPairs_88 : decode cX1_sharedPairs 88 = .ok (.goto 4, 3) := by decide +kernel
theorem dX1_sharedPairs_91 : decode cX1_sharedPairs 91 = .ok (.iconst 0, 1) := by decide +kernel
theorem dX1_sharedPairs_92 : decode cX1_sharedPairs 92 = .ok (.iadd, 1) := by decide +kernel
theorem dX1_sharedPairs_93 : decode cX1_sharedPairs 93 = .ok (.istore_n 2, 1) := by decide +kernel
theorem dX1_sharedPairs_94 : decode cX1_sharedPairs 94 = .ok (.iinc 4 1, 3) := by decide +kernel
theorem dX1_sharedPairs_97 : decode cX1_sharedPairs 97 = .ok (.goto (-77), 3) := by decide +kernel
theorem dX1_sharedPairs_100 : decode cX1_sharedPairs 100 = .ok (.iinc 3 1, 3) := by decide +kernel
theorem dX1_sharedPairs_103 : decode cX1_sharedPairs 103 = .ok (.goto (-94), 3) := by decide +kernel
theorem dX1_sharedPairs_106 : decode cX1_sharedPairs 106 = .ok (.iload_n 2, 1) := by decide +kernel
theorem dX1_sharedPairs_107 : decode cX1_sharedPairs 107 = .ok (.ireturn, 1) := by decide +kernel
theorem dX2_init_0 : decode cX2_init 0 = .ok (.aload_n 0, 1) := by decide +kernel
theorem dX2_init_1 : decode cX2_init 1 = .ok (.invokespecial 3, 3) := by decide +kernel
theorem dX2_init_4 : decode cX2_init 4 = .ok (.aload_n 0, 1) := by decide +kernel
theorem dX2_init_5 : decode cX2_init 5 = .ok (.bipush 9, 2) := by decide +kernel
theorem dX2_init_7 : decode cX2_init 7 = .ok (.newarray .int, 2) := by decide +kernel
theorem dX2_init_9 : decode cX2_init 9 = .ok (.putfield 9, 3) := by decide +kernel
theorem dX2_init_12 : decode cX2_init 12 = .ok (.aload_n 0, 1) := by decide +kernel
theorem dX2_init_13 : decode cX2_init 13 = .ok (.bipush 9, 2) := by decide +kernel
theorem dX2_init_15 : decode cX2_init 15 = .ok (.newarray .int, 2) := by decide +kernel
theorem dX2_init_17 : decode cX2_init 17 = .ok (.putfield 15, 3) := by decide +kernel
theorem dX2_init_20 : decode cX2_init 20 = .ok (.return_, 1) := by decide +kernel
set_option maxRecDepth 20000 in
theorem ggX2_plan_X2_collect : GoodIn wsX2_plan wsX2_collect := goodIn_r _ [10, 4, 11, 3, 12, 13, 14, 15, 16, 17, 18, 19, 20, 21, 22, 23, 24, 25, 26, 27, 28, 29, 30, 31, 32, 33, 34, 35, 36, 37, 38, 39, 40, 41, 42, 9, 43, 44, 45, 46, 47, 59, 60, 61, 62, 63, 64, 65] (by decide +kernel) (by decide +kernel)
set_option maxRecDepth 20000 in
theorem gX2_plan_X2_collect : GoodIn wsX2_plan (wsV RX2 18 RX2 yX2_collect wsX2_collect) := goodIn_app (goodIn_of _ (by decide +kernel)) ggX2_plan_X2_collect
set_option maxRecDepth 20000 in
theorem ggX2_plan_X2_mostTaken : GoodIn wsX2_plan wsX2_mostTaken := goodIn_r _ [50, 51, 52, 53, 54, 48, 49, 9] (by decide +kernel) (by decide +kernel)
set_option maxRecDepth 20000 in
theorem gX2_plan_X2_mostTaken : GoodIn wsX2_plan (va_wsS RX2 32 yX2_mostTaken wsX2_mostTaken) := goodIn_app (goodIn_of _ (by decide +kernel)) ggX2_plan_X2_mostTaken
set_option maxRecDepth 20000 in
theorem ggX2_plan_X2_leastTaker : GoodIn wsX2_plan wsX2_leastTaker := goodIn_r _ [58, 2, 3, 4, 48, 49, 9, 50, 51, 52, 53, 54, 59, 60, 61, 62, 63] (by decide +kernel) (by decide +kernel)
set_option maxRecDepth 20000 in
theorem gX2_plan_X2_leastTaker : GoodIn wsX2_plan (wsV RX2 36 RX2 yX2_leastTaker wsX2_leastTaker) := goodIn_app (goodIn_of _ (by decide +kernel)) ggX2_plan_X2_leastTaker
theorem dX2_plan_0 : decode cX2_plan 0 = .ok (.aload_n 0, 1) := by decide +kernel
theorem dX2_plan_1 : decode cX2_plan 1 = .ok (.aload_n 1, 1) := by decide +kernel
theorem dX2_plan_2 : decode cX2_plan 2 = .ok (.iload_n 2, 1) := by decide +kernel
theorem dX2_plan_3 : decode cX2_plan 3 = .ok (.invokevirtual 18, 3) := by decide +kernel
theorem dX2_plan_6 : decode cX2_plan 6 = .ok (.aload_n 0, 1) := by decide +kernel
theorem dX2_plan_7 : decode cX2_plan 7 = .ok (.iconst 0, 1) := by decide +kernel
theorem dX2_plan_8 : decode cX2_plan 8 = .ok (.putfield 22, 3) := by decide +kernel
theorem dX2_plan_11 : decode cX2_plan 11 = .ok (.aload_n 0, 1) := by decide +kernel
theorem dX2_plan_12 : decode cX2_plan 12 = .ok (.bipush 63, 2) := by decide +kernel
theorem dX2_plan_14 : decode cX2_plan 14 = .ok (.putfield 26, 3) := by decide +kernel
theorem dX2_plan_17 : decode cX2_plan 17 = .ok (.aload_n 0, 1) := by decide +kernel
theorem dX2_plan_18 : decode cX2_plan 18 = .ok (.getfield 15, 3) := by decide +kernel
theorem dX2_plan_21 : decode cX2_plan 21 = .ok (.aload_n 0, 1) := by decide +kernel
theorem dX2_plan_22 : decode cX2_plan 22 = .ok (.getfield 29, 3) := by decide +kernel
theorem dX2_plan_25 : decode cX2_plan 25 = .ok (.aload_n 0, 1) := by decide +kernel
theorem dX2_plan_26 : decode cX2_plan 26 = .ok (.getfield 26, 3) := by decide +kernel
theorem dX2_plan_29 : decode cX2_plan 29 = .ok (.iconst 0, 1) := by decide +kernel
theorem dX2_plan_30 : decode cX2_plan 30 = .ok (.invokestatic 32, 3) := by decide +kernel
theorem dX2_plan_33 : decode cX2_plan 33 = .ok (.istore_n 3, 1) := by decide +kernel
theorem dX2_plan_34 : decode cX2_plan 34 = .ok (.iconst 0, 1) := by decide +kernel
theorem dX2_plan_35 : decode cX2_plan 35 = .ok (.istore 4, 2) := by decide +kernel
theorem dX2_plan_37 : decode cX2_plan 37 = .ok (.iload 4, 2) := by decide +kernel
theorem dX2_plan_39 : decode cX2_plan 39 = .ok (.bipush 9, 2) := by decide +kernel
theorem dX2_plan_41 : decode cX2_plan 41 = .ok (.if_icmp .ge 93, 3) := by decide +kernel
theorem dX2_plan_44 : decode cX2_plan 44 = .ok (.aload_n 0, 1) := by decide +kernel
theorem dX2_plan_45 : decode cX2_plan 45 = .ok (.getfield 9, 3) := by decide +kernel
theorem dX2_plan_48 : decode cX2_plan 48 = .ok (.iload 4, 2) := by decide +kernel
theorem dX2_plan_50 : decode cX2_plan 50 = .ok (.iconst (-1), 1) := by decide +kernel
theorem dX2_plan_51 : decode cX2_plan 51 = .ok (.iastore, 1) := by decide +kernel
theorem dX2_plan_52 : decode cX2_plan 52 = .ok (.aload_n 0, 1) := by decide +kernel
theorem dX2_plan_53 : decode cX2_plan 53 = .ok (.getfield 29, 3) := by decide +kernel
theorem dX2_plan_56 : decode cX2_plan 56 = .ok (.iload 4, 2) := by decide +kernel
theorem dX2_plan_58 : decode cX2_plan 58 = .ok (.ishr, 1) := by decide +kernel
theorem dX2_plan_59 : decode cX2_plan 59 = .ok (.iconst 1, 1) := by decide +kernel
theorem dX2_plan_60 : decode cX2_plan 60 = .ok (.iand, 1) := by decide +kernel
theorem dX2_plan_61 : decode cX2_plan 61 = .ok (.ifCond .eq 67, 3) := by decide +kernel
theorem dX2_plan_64 : decode cX2_plan 64 = .ok (.aload_n 0, 1) := by decide +kernel
theorem dX2_plan_65 : decode cX2_plan 65 = .ok (.getfield 9, 3) := by decide +kernel
theorem dX2_plan_68 : decode cX2_plan 68 = .ok (.iload 4, 2) := by decide +kernel
theorem dX2_plan_70 : decode cX2_plan 70 = .ok (.aload_n 0, 1) := by decide +kernel
theorem dX2_plan_71 : decode cX2_plan 71 = .ok (.iload 4, 2) := by decide +kernel
theorem dX2_plan_73 : decode cX2_plan 73 = .ok (.iload_n 3, 1) := by decide +kernel
theorem dX2_plan_74 : decode cX2_plan 74 = .ok (.invokevirtual 36, 3) := by decide +kernel
theorem dX2_plan_77 : decode cX2_plan 77 = .ok (.iastore, 1) := by decide +kernel
theorem dX2_plan_78 : decode cX2_plan 78 = .ok (.aload_n 0, 1) := by decide +kernel
theorem dX2_plan_79 : decode cX2_plan 79 = .ok (.getfield 9, 3) := by decide +kernel
theorem dX2_plan_82 : decode cX2_plan 82 = .ok (.iload 4, 2) := by decide +kernel
theorem dX2_plan_84 : decode cX2_plan 84 = .ok (.iaload, 1) := by decide +kernel
theorem dX2_plan_85 : decode cX2_plan 85 = .ok (.iconst (-1), 1) := by decide +kernel
theorem dX2_plan_86 : decode cX2_plan 86 = .ok (.if_icmp .ne 19, 3) := by decide +kernel
theorem dX2_plan_89 : decode cX2_plan 89 = .ok (.aload_n 0, 1) := by decide +kernel
theorem dX2_plan_90 : decode cX2_plan 90 = .ok (.dup, 1) := by decide +kernel
theorem dX2_plan_91 : decode cX2_plan 91 = .ok (.getfield 22, 3) := by decide +kernel
theorem dX2_plan_94 : decode cX2_plan 94 = .ok (.iconst 1, 1) := by decide +kernel
theorem dX2_plan_95 : decode cX2_plan 95 = .ok (.iload 4, 2) := by decide +kernel
theorem dX2_plan_97 : decode cX2_plan 97 = .ok (.ishl, 1) := by decide +kernel
theorem dX2_plan_98 : decode cX2_plan 98 = .ok (.ior, 1) := by decide +kernel
theorem dX2_plan_99 : decode cX2_plan 99 = .ok (.putfield 22, 3) := by decide +kernel
theorem dX2_plan_102 : decode cX2_plan 102 = .ok (.goto 26, 3) := by decide +kernel
theorem dX2_plan_105 : decode cX2_plan 105 = .ok (.aload_n 0, 1) := by decide +kernel
theorem dX2_plan_106 : decode cX2_plan 106 = .ok (.dup, 1) := by decide +kernel
theorem dX2_plan_107 : decode cX2_plan 107 = .ok (.getfield 26, 3) := by decide +kernel
theorem dX2_plan_110 : decode cX2_plan 110 = .ok (.iconst 1, 1) := by decide +kernel
theorem dX2_plan_111 : decode cX2_plan 111 = .ok (.aload_n 0, 1) := by decide +kernel
theorem dX2_plan_112 : decode cX2_plan 112 = .ok (.getfield 9, 3) := by decide +kernel
theorem dX2_plan_115 : decode cX2_plan 115 = .ok (.iload 4, 2) := by decide +kernel
theorem dX2_plan_117 : decode cX2_plan 117 = .ok (.iaload, 1) := by decide +kernel
theorem dX2_plan_118 : decode cX2_plan 118 = .ok (.ishl, 1) := by decide +kernel
theorem dX2_plan_119 : decode cX2_plan 119 = .ok (.iconst (-1), 1) := by decide +kernel
theorem dX2_plan_120 : decode cX2_plan 120 = .ok (.ixor, 1) := by decide +kernel
theorem dX2_plan_121 : decode cX2_plan 121 = .ok (.iand, 1) := by decide +kernel
theorem dX2_plan_122 : decode cX2_plan 122 = .ok (.putfield 26, 3) := by decide +kernel
theorem dX2_plan_125 : decode cX2_plan 125 = .ok (.iinc 3 (-1), 3) := by decide +kernel
theorem dX2_plan_128 : decode cX2_plan 128 = .ok (.iinc 4 1, 3) := by decide +kernel
theorem dX2_plan_131 : decode cX2_plan 131 = .ok (.goto (-94), 3) := by decide +kernel
theorem dX2_plan_134 : decode cX2_plan 134 = .ok (.return_, 1) := by decide +kernel
set_option maxRecDepth 20000 in
theorem ggX2_collect_X8_slotsOfPerson : GoodIn wsX2_collect wsX8_slotsOfPerson := goodIn_r _ [8, 9, 10, 11, 7, 12, 13, 14, 15, 16, 17, 18, 19, 20, 21, 46, 47] (by decide +kernel) (by decide +kernel)
set_option maxRecDepth 20000 in
theorem gX2_collect_X8_slotsOfPerson : GoodIn wsX2_collect (wsV RX2 45 RX8 yX8_slotsOfPerson wsX8_slotsOfPerson) := goodIn_app (goodIn_of _ (by decide +kernel)) ggX2_collect_X8_slotsOfPerson
set_option maxRecDepth 20000 in
theorem ggX2_collect_X8_isIll : GoodIn wsX2_collect wsX8_isIll := goodIn_r _ [25, 13, 46, 47] (by decide +kernel) (by decide +kernel)
set_option maxRecDepth 20000 in
theorem gX2_collect_X8_isIll : GoodIn wsX2_collect (wsV RX2 49 RX8 yX8_isIll wsX8_isIll) := goodIn_app (goodIn_of _ (by decide +kernel)) ggX2_collect_X8_isIll
set_option maxRecDepth 20000 in
theorem ggX2_collect_X8_lessonTotal : GoodIn wsX2_collect wsX8_lessonTotal := goodIn_r _ [12, 13, 46, 47] (by decide +kernel) (by decide +kernel)
set_option maxRecDepth 20000 in
theorem gX2_collect_X8_lessonTotal : GoodIn wsX2_collect (wsV RX2 53 RX8 yX8_lessonTotal wsX8_lessonTotal) := goodIn_app (goodIn_of _ (by decide +kernel)) ggX2_collect_X8_lessonTotal
set_option maxRecDepth 20000 in
theorem ggX2_collect_X8_slotsTaken : GoodIn wsX2_collect wsX8_slotsTaken := goodIn_r _ [21, 13, 46, 47] (by decide +kernel) (by decide +kernel)
set_option maxRecDepth 20000 in
theorem gX2_collect_X8_slotsTaken : GoodIn wsX2_collect (wsV RX2 57 RX8 yX8_slotsTaken wsX8_slotsTaken) := goodIn_app (goodIn_of _ (by decide +kernel)) ggX2_collect_X8_slotsTaken
set_option maxRecDepth 20000 in
theorem ggX2_collect_X8_ofLesson : GoodIn wsX2_collect wsX8_ofLesson := goodIn_r _ [31, 13, 46, 47] (by decide +kernel) (by decide +kernel)
set_option maxRecDepth 20000 in
theorem gX2_collect_X8_ofLesson : GoodIn wsX2_collect (wsV RX2 61 RX8 yX8_ofLesson wsX8_ofLesson) := goodIn_app (goodIn_of _ (by decide +kernel)) ggX2_collect_X8_ofLesson
set_option maxRecDepth 20000 in
theorem ggX2_collect_X2_teachersOf : GoodIn wsX2_collect wsX2_teachersOf := goodIn_r _ [36, 37, 38, 39, 7, 40, 13, 46, 47] (by decide +kernel) (by decide +kernel)
set_option maxRecDepth 20000 in
theorem gX2_collect_X2_teachersOf : GoodIn wsX2_collect (wsV RX2 64 RX2 yX2_teachersOf wsX2_teachersOf) := goodIn_app (goodIn_of _ (by decide +kernel)) ggX2_collect_X2_teachersOf
theorem dX2_collect_0 : decode cX2_collect 0 = .ok (.aload_n 0, 1) := by decide +kernel
theorem dX2_collect_1 : decode cX2_collect 1 = .ok (.iconst 0, 1) := by decide +kernel
theorem dX2_collect_2 : decode cX2_collect 2 = .ok (.putfield 29, 3) := by decide +kernel
theorem dX2_collect_5 : decode cX2_collect 5 = .ok (.iconst 0, 1) := by decide +kernel
theorem dX2_collect_6 : decode cX2_collect 6 = .ok (.istore_n 3, 1) := by decide +kernel
theorem dX2_collect_7 : decode cX2_collect 7 = .ok (.iconst 0, 1) := by decide +kernel
theorem dX2_collect_8 : decode cX2_collect 8 = .ok (.istore 4, 2) := by decide +kernel
theorem dX2_collect_10 : decode cX2_collect 10 = .ok (.iload 4, 2) := by decide +kernel
theorem dX2_collect_12 : decode cX2_collect 12 = .ok (.bipush 6, 2) := by decide +kernel
theorem dX2_collect_14 : decode cX2_collect 14 = .ok (.if_icmp .ge 58, 3) := by decide +kernel
theorem dX2_collect_17 : decode cX2_collect 17 = .ok (.aload_n 1, 1) := by decide +kernel
theorem dX2_collect_18 : decode cX2_collect 18 = .ok (.iconst 1, 1) := by decide +kernel
theorem dX2_collect_19 : decode cX2_collect 19 = .ok (.iload 4, 2) := by decide +kernel
theorem dX2_collect_21 : decode cX2_collect 21 = .ok (.aload_n 1, 1) := by decide +kernel
theorem dX2_collect_22 : decode cX2_collect 22 = .ok (.getfield 40, 3) := by decide +kernel
theorem dX2_collect_25 : decode cX2_collect 25 = .ok (.invokevirtual 45, 3) := by decide +kernel
theorem dX2_collect_28 : decode cX2_collect 28 = .ok (.iload_n 2, 1) := by decide +kernel
theorem dX2_collect_29 : decode cX2_collect 29 = .ok (.ishr, 1) := by decide +kernel
theorem dX2_collect_30 : decode cX2_collect 30 = .ok (.iconst 1, 1) := by decide +kernel
theorem dX2_collect_31 : decode cX2_collect 31 = .ok (.iand, 1) := by decide +kernel
theorem dX2_collect_32 : decode cX2_collect 32 = .ok (.ifCond .eq 7, 3) := by decide +kernel
theorem dX2_collect_35 : decode cX2_collect 35 = .ok (.iconst 1, 1) := by decide +kernel
theorem dX2_collect_36 : decode cX2_collect 36 = .ok (.goto 4, 3) := by decide +kernel
theorem dX2_collect_39 : decode cX2_collect 39 = .ok (.iconst 0, 1) := by decide +kernel
theorem dX2_collect_40 : decode cX2_collect 40 = .ok (.istore 5, 2) := by decide +kernel
theorem dX2_collect_42 : decode cX2_collect 42 = .ok (.iload 5, 2) := by decide +kernel
theorem dX2_collect_44 : decode cX2_collect 44 = .ok (.ifCond .ne 22, 3) := by decide +kernel
theorem dX2_collect_47 : decode cX2_collect 47 = .ok (.aload_n 1, 1) := by decide +kernel
theorem dX2_collect_48 : decode cX2_collect 48 = .ok (.iload 4, 2) := by decide +kernel
theorem dX2_collect_50 : decode cX2_collect 50 = .ok (.iload_n 2, 1) := by decide +kernel
theorem dX2_collect_51 : decode cX2_collect 51 = .ok (.iconst 4, 1) := by decide +kernel
theorem dX2_collect_52 : decode cX2_collect 52 = .ok (.idiv, 1) := by decide +kernel
theorem dX2_collect_53 : decode cX2_collect 53 = .ok (.invokevirtual 49, 3) := by decide +kernel
theorem dX2_collect_56 : decode cX2_collect 56 = .ok (.ifCond .ne 10, 3) := by decide +kernel
theorem dX2_collect_59 : decode cX2_collect 59 = .ok (.iload_n 3, 1) := by decide +kernel
theorem dX2_collect_60 : decode cX2_collect 60 = .ok (.iconst 1, 1) := by decide +kernel
theorem dX2_collect_61 : decode cX2_collect 61 = .ok (.iload 4, 2) := by decide +kernel
theorem dX2_collect_63 : decode cX2_collect 63 = .ok (.ishl, 1) := by decide +kernel
theorem dX2_collect_64 : decode cX2_collect 64 = .ok (.ior, 1) := by decide +kernel
theorem dX2_collect_65 : decode cX2_collect 65 = .ok (.istore_n 3, 1) := by decide +kernel
theorem dX2_collect_66 : decode cX2_collect 66 = .ok (.iinc 4 1, 3) := by decide +kernel
theorem dX2_collect_69 : decode cX2_collect 69 = .ok (.goto (-59), 3) := by decide +kernel
theorem dX2_collect_72 : decode cX2_collect 72 = .ok (.iconst 0, 1) := by decide +kernel
theorem dX2_collect_73 : decode cX2_collect 73 = .ok (.istore 4, 2) := by decide +kernel
theorem dX2_collect_75 : decode cX2_collect 75 = .ok (.iload 4, 2) := by decide +kernel
theorem dX2_collect_77 : decode cX2_collect 77 = .ok (.aload_n 1, 1) := by decide +kernel
theorem dX2_collect_78 : decode cX2_collect 78 = .ok (.invokevirtual 53, 3) := by decide +kernel
theorem dX2_collect_81 : decode cX2_collect 81 = .ok (.if_icmp .ge 89, 3) := by decide +kernel
theorem dX2_collect_84 : decode cX2_collect 84 = .ok (.aload_n 1, 1) := by decide +kernel
theorem dX2_collect_85 : decode cX2_collect 85 = .ok (.iload 4, 2) := by decide +kernel
theorem dX2_collect_87 : decode cX2_collect 87 = .ok (.aload_n 1, 1) := by decide +kernel
theorem dX2_collect_88 : decode cX2_collect 88 = .ok (.getfield 40, 3) := by decide +kernel
theorem dX2_collect_91 : decode cX2_collect 91 = .ok (.invokevirtual 57, 3) := by decide +kernel
theorem dX2_collect_94 : decode cX2_collect 94 = .ok (.iload_n 2, 1) := by decide +kernel
theorem dX2_collect_95 : decode cX2_collect 95 = .ok (.ishr, 1) := by decide +kernel
theorem dX2_collect_96 : decode cX2_collect 96 = .ok (.iconst 1, 1) := by decide +kernel
theorem dX2_collect_97 : decode cX2_collect 97 = .ok (.iand, 1) := by decide +kernel
theorem dX2_collect_98 : decode cX2_collect 98 = .ok (.ifCond .eq 7, 3) := by decide +kernel
theorem dX2_collect_101 : decode cX2_collect 101 = .ok (.iconst 1, 1) := by decide +kernel
theorem dX2_collect_102 : decode cX2_collect 102 = .ok (.goto 4, 3) := by decide +kernel
theorem dX2_collect_105 : decode cX2_collect 105 = .ok (.iconst 0, 1) := by decide +kernel
theorem dX2_collect_106 : decode cX2_collect 106 = .ok (.istore 5, 2) := by decide +kernel
theorem dX2_collect_108 : decode cX2_collect 108 = .ok (.iload 5, 2) := by decide +kernel
theorem dX2_collect_110 : decode cX2_collect 110 = .ok (.ifCond .eq 54, 3) := by decide +kernel
theorem dX2_collect_113 : decode cX2_collect 113 = .ok (.aload_n 1, 1) := by decide +kernel
theorem dX2_collect_114 : decode cX2_collect 114 = .ok (.aload_n 1, 1) := by decide +kernel
theorem dX2_collect_115 : decode cX2_collect 115 = .ok (.iload 4, 2) := by decide +kernel
theorem dX2_collect_117 : decode cX2_collect 117 = .ok (.iconst 1, 1) := by decide +kernel
theorem dX2_collect_118 : decode cX2_collect 118 = .ok (.invokevirtual 61, 3) := by decide +kernel
theorem dX2_collect_121 : decode cX2_collect 121 = .ok (.iload_n 2, 1) := by decide +kernel
theorem dX2_collect_122 : decode cX2_collect 122 = .ok (.iconst 4, 1) := by decide +kernel
theorem dX2_collect_123 : decode cX2_collect 123 = .ok (.idiv, 1) := by decide +kernel
theorem dX2_collect_124 : decode cX2_collect 124 = .ok (.invokevirtual 49, 3) := by decide +kernel
theorem dX2_collect_127 : decode cX2_collect 127 = .ok (.ifCond .eq 37, 3) := by decide +kernel
theorem dX2_collect_130 : decode cX2_collect 130 = .ok (.aload_n 0, 1) := by decide +kernel
theorem dX2_collect_131 : decode cX2_collect 131 = .ok (.dup, 1) := by decide +kernel
theorem dX2_collect_132 : decode cX2_collect 132 = .ok (.getfield 29, 3) := by decide +kernel
theorem dX2_collect_135 : decode cX2_collect 135 = .ok (.iconst 1, 1) := by decide +kernel
theorem dX2_collect_136 : decode cX2_collect 136 = .ok (.iload 4, 2) := by decide +kernel
theorem dX2_collect_138 : decode cX2_collect 138 = .ok (.ishl, 1) := by decide +kernel
theorem dX2_collect_139 : decode cX2_collect 139 = .ok (.ior, 1) := by decide +kernel
theorem dX2_collect_140 : decode cX2_collect 140 = .ok (.putfield 29, 3) := by decide +kernel
theorem dX2_collect_143 : decode cX2_collect 143 = .ok (.aload_n 0, 1) := by decide +kernel
theorem dX2_collect_144 : decode cX2_collect 144 = .ok (.getfield 15, 3) := by decide +kernel
theorem dX2_collect_147 : decode cX2_collect 147 = .ok (.iload 4, 2) := by decide +kernel
theorem dX2_collect_149 : decode cX2_collect 149 = .ok (.iload_n 3, 1) := by decide +kernel
theorem dX2_collect_150 : decode cX2_collect 150 = .ok (.aload_n 0, 1) := by decide +kernel
theorem dX2_collect_151 : decode cX2_collect 151 = .ok (.aload_n 1, 1) := by decide +kernel
theorem dX2_collect_152 : decode cX2_collect 152 = .ok (.aload_n 1, 1) := by decide +kernel
theorem dX2_collect_153 : decode cX2_collect 153 = .ok (.iload 4, 2) := by decide +kernel
theorem dX2_collect_155 : decode cX2_collect 155 = .ok (.iconst 2, 1) := by decide +kernel
theorem dX2_collect_156 : decode cX2_collect 156 = .ok (.invokevirtual 61, 3) := by decide +kernel
theorem dX2_collect_159 : decode cX2_collect 159 = .ok (.invokevirtual 64, 3) := by decide +kernel
theorem dX2_collect_162 : decode cX2_collect 162 = .ok (.iand, 1) := by decide +kernel
theorem dX2_collect_163 : decode cX2_collect 163 = .ok (.iastore, 1) := by decide +kernel
theorem dX2_collect_164 : decode cX2_collect 164 = .ok (.iinc 4 1, 3) := by decide +kernel
theorem dX2_collect_167 : decode cX2_collect 167 = .ok (.goto (-92), 3) := by decide +kernel
theorem dX2_collect_170 : decode cX2_collect 170 = .ok (.return_, 1) := by decide +kernel
set_option maxRecDepth 20000 in
theorem ggX2_teachersOf_X8_subjectsOf : GoodIn wsX2_teachersOf wsX8_subjectsOf := goodIn_r _ [5, 6, 7, 8] (by decide +kernel) (by decide +kernel)
set_option maxRecDepth 20000 in
theorem gX2_teachersOf_X8_subjectsOf : GoodIn wsX2_teachersOf (wsV RX2 68 RX8 yX8_subjectsOf wsX8_subjectsOf) := goodIn_app (goodIn_of _ (by decide +kernel)) ggX2_teachersOf_X8_subjectsOf
theorem dX2_teachersOf_0 : decode cX2_teachersOf 0 = .ok (.iconst 0, 1) := by decide +kernel
theorem dX2_teachersOf_1 : decode cX2_teachersOf 1 = .ok (.istore_n 3, 1) := by decide +kernel
theorem dX2_teachersOf_2 : decode cX2_teachersOf 2 = .ok (.iconst 0, 1) := by decide +kernel
theorem dX2_teachersOf_3 : decode cX2_teachersOf 3 = .ok (.istore 4, 2) := by decide +kernel
theorem dX2_teachersOf_5 : decode cX2_teachersOf 5 = .ok (.iload 4, 2) := by decide +kernel
theorem dX2_teachersOf_7 : decode cX2_teachersOf 7 = .ok (.bipush 6, 2) := by decide +kernel
theorem dX2_teachersOf_9 : decode cX2_teachersOf 9 = .ok (.if_icmp .ge 25, 3) := by decide +kernel
theorem dX2_teachersOf_12 : decode cX2_teachersOf 12 = .ok (.iload_n 3, 1) := by decide +kernel
theorem dX2_teachersOf_13 : decode cX2_teachersOf 13 = .ok (.aload_n 1, 1) := by decide +kernel
theorem dX2_teachersOf_14 : decode cX2_teachersOf 14 = .ok (.iload 4, 2) := by decide +kernel
theorem dX2_teachersOf_16 : decode cX2_teachersOf 16 = .ok (.invokevirtual 68, 3) := by decide +kernel
theorem dX2_teachersOf_19 : decode cX2_teachersOf 19 = .ok (.iload_n 2, 1) := by decide +kernel
theorem dX2_teachersOf_20 : decode cX2_teachersOf 20 = .ok (.ishr, 1) := by decide +kernel
theorem dX2_teachersOf_21 : decode cX2_teachersOf 21 = .ok (.iconst 1, 1) := by decide +kernel
theorem dX2_teachersOf_22 : decode cX2_teachersOf 22 = .ok (.iand, 1) := by decide +kernel
theorem dX2_teachersOf_23 : decode cX2_teachersOf 23 = .ok (.iload 4, 2) := by decide +kernel
theorem dX2_teachersOf_25 : decode cX2_teachersOf 25 = .ok (.ishl, 1) := by decide +kernel
theorem dX2_teachersOf_26 : decode cX2_teachersOf 26 = .ok (.ior, 1) := by decide +kernel
theorem dX2_teachersOf_27 : decode cX2_teachersOf 27 = .ok (.istore_n 3, 1) := by decide +kernel
theorem dX2_teachersOf_28 : decode cX2_teachersOf 28 = .ok (.iinc 4 1, 3) := by decide +kernel
theorem dX2_teachersOf_31 : decode cX2_teachersOf 31 = .ok (.goto (-26), 3) := by decide +kernel
theorem dX2_teachersOf_34 : decode cX2_teachersOf 34 = .ok (.iload_n 3, 1) := by decide +kernel
theorem dX2_teachersOf_35 : decode cX2_teachersOf 35 = .ok (.ireturn, 1) := by decide +kernel
set_option maxRecDepth 20000 in
theorem ggX2_leastTaker_X2_mostTaken : GoodIn wsX2_leastTaker wsX2_mostTaken := goodIn_r _ [7, 8, 9, 10, 11, 4, 5, 6] (by decide +kernel) (by decide +kernel)
set_option maxRecDepth 20000 in
theorem gX2_leastTaker_X2_mostTaken : GoodIn wsX2_leastTaker (va_wsS RX2 32 yX2_mostTaken wsX2_mostTaken) := goodIn_app (goodIn_of _ (by decide +kernel)) ggX2_leastTaker_X2_mostTaken
theorem dX2_leastTaker_0 : decode cX2_leastTaker 0 = .ok (.iconst 0, 1) := by decide +kernel
theorem dX2_leastTaker_1 : decode cX2_leastTaker 1 = .ok (.istore_n 3, 1) := by decide +kernel
theorem dX2_leastTaker_2 : decode cX2_leastTaker 2 = .ok (.iload_n 3, 1) := by decide +kernel
theorem dX2_leastTaker_3 : decode cX2_leastTaker 3 = .ok (.bipush 6, 2) := by decide +kernel
theorem dX2_leastTaker_5 : decode cX2_leastTaker 5 = .ok (.if_icmp .ge 76, 3) := by decide +kernel
theorem dX2_leastTaker_8 : decode cX2_leastTaker 8 = .ok (.aload_n 0, 1) := by decide +kernel
theorem dX2_leastTaker_9 : decode cX2_leastTaker 9 = .ok (.getfield 26, 3) := by decide +kernel
theorem dX2_leastTaker_12 : decode cX2_leastTaker 12 = .ok (.iconst 1, 1) := by decide +kernel
theorem dX2_leastTaker_13 : decode cX2_leastTaker 13 = .ok (.iload_n 3, 1) := by decide +kernel
theorem dX2_leastTaker_14 : decode cX2_leastTaker 14 = .ok (.ishl, 1) := by decide +kernel
theorem dX2_leastTaker_15 : decode cX2_leastTaker 15 = .ok (.iconst (-1), 1) := by decide +kernel
theorem dX2_leastTaker_16 : decode cX2_leastTaker 16 = .ok (.ixor, 1) := by decide +kernel
theorem dX2_leastTaker_17 : decode cX2_leastTaker 17 = .ok (.iand, 1) := by decide +kernel
theorem dX2_leastTaker_18 : decode cX2_leastTaker 18 = .ok (.istore 4, 2) := by decide +kernel
theorem dX2_leastTaker_20 : decode cX2_leastTaker 20 = .ok (.aload_n 0, 1) := by decide +kernel
theorem dX2_leastTaker_21 : decode cX2_leastTaker 21 = .ok (.getfield 15, 3) := by decide +kernel
theorem dX2_leastTaker_24 : decode cX2_leastTaker 24 = .ok (.iload_n 1, 1) := by decide +kernel
theorem dX2_leastTaker_25 : decode cX2_leastTaker 25 = .ok (.iaload, 1) := by decide +kernel
theorem dX2_leastTaker_26 : decode cX2_leastTaker 26 = .ok (.aload_n 0, 1) := by decide +kernel
theorem dX2_leastTaker_27 : decode cX2_leastTaker 27 = .ok (.getfield 26, 3) := by decide +kernel
theorem dX2_leastTaker_30 : decode cX2_leastTaker 30 = .ok (.iand, 1) := by decide +kernel
theorem dX2_leastTaker_31 : decode cX2_leastTaker 31 = .ok (.iload 4, 2) := by decide +kernel
theorem dX2_leastTaker_33 : decode cX2_leastTaker 33 = .ok (.iconst (-1), 1) := by decide +kernel
theorem dX2_leastTaker_34 : decode cX2_leastTaker 34 = .ok (.ixor, 1) := by decide +kernel
theorem dX2_leastTaker_35 : decode cX2_leastTaker 35 = .ok (.iand, 1) := by decide +kernel
theorem dX2_leastTaker_36 : decode cX2_leastTaker 36 = .ok (.ifCond .eq 7, 3) := by decide +kernel
theorem dX2_leastTaker_39 : decode cX2_leastTaker 39 = .ok (.iconst 1, 1) := by decide +kernel
theorem dX2_leastTaker_40 : decode cX2_leastTaker 40 = .ok (.goto 4, 3) := by decide +kernel
theorem dX2_leastTaker_43 : decode cX2_leastTaker 43 = .ok (.iconst 0, 1) := by decide +kernel
theorem dX2_leastTaker_44 : decode cX2_leastTaker 44 = .ok (.istore 5, 2) := by decide +kernel
theorem dX2_leastTaker_46 : decode cX2_leastTaker 46 = .ok (.iload 5, 2) := by decide +kernel
theorem dX2_leastTaker_48 : decode cX2_leastTaker 48 = .ok (.ifCond .eq 27, 3) := by decide +kernel
theorem dX2_leastTaker_51 : decode cX2_leastTaker 51 = .ok (.iconst 1, 1) := by decide +kernel
theorem dX2_leastTaker_52 : decode cX2_leastTaker 52 = .ok (.aload_n 0, 1) := by decide +kernel
theorem dX2_leastTaker_53 : decode cX2_leastTaker 53 = .ok (.getfield 15, 3) := by decide +kernel
theorem dX2_leastTaker_56 : decode cX2_leastTaker 56 = .ok (.aload_n 0, 1) := by decide +kernel
theorem dX2_leastTaker_57 : decode cX2_leastTaker 57 = .ok (.getfield 29, 3) := by decide +kernel
theorem dX2_leastTaker_60 : decode cX2_leastTaker 60 = .ok (.iload 4, 2) := by decide +kernel
theorem dX2_leastTaker_62 : decode cX2_leastTaker 62 = .ok (.iload_n 1, 1) := by decide +kernel
theorem dX2_leastTaker_63 : decode cX2_leastTaker 63 = .ok (.iconst 1, 1) := by decide +kernel
theorem dX2_leastTaker_64 : decode cX2_leastTaker 64 = .ok (.iadd, 1) := by decide +kernel
theorem dX2_leastTaker_65 : decode cX2_leastTaker 65 = .ok (.invokestatic 32, 3) := by decide +kernel
theorem dX2_leastTaker_68 : decode cX2_leastTaker 68 = .ok (.iadd, 1) := by decide +kernel
theorem dX2_leastTaker_69 : decode cX2_leastTaker 69 = .ok (.iload_n 2, 1) := by decide +kernel
theorem dX2_leastTaker_70 : decode cX2_leastTaker 70 = .ok (.if_icmp .lt 5, 3) := by decide +kernel
theorem dX2_leastTaker_73 : decode cX2_leastTaker 73 = .ok (.iload_n 3, 1) := by decide +kernel
theorem dX2_leastTaker_74 : decode cX2_leastTaker 74 = .ok (.ireturn, 1) := by decide +kernel
theorem dX2_leastTaker_75 : decode cX2_leastTaker 75 = .ok (.iinc 3 1, 3) := by decide +kernel
theorem dX2_leastTaker_78 : decode cX2_leastTaker 78 = .ok (.goto (-76), 3) := by decide +kernel
theorem dX2_leastTaker_81 : decode cX2_leastTaker 81 = .ok (.iconst (-1), 1) := by decide +kernel
theorem dX2_leastTaker_82 : decode cX2_leastTaker 82 = .ok (.ireturn, 1) := by decide +kernel
set_option maxRecDepth 20000 in
theorem ggX2_mostTaken_X2_mostTaken : GoodIn wsX2_mostTaken wsX2_mostTaken := goodIn_r _ [0, 1, 2, 3, 4, 5, 6, 7] (by decide +kernel) (by decide +kernel)
set_option maxRecDepth 20000 in
theorem gX2_mostTaken_X2_mostTaken : GoodIn wsX2_mostTaken (va_wsS RX2 32 yX2_mostTaken wsX2_mostTaken) := goodIn_app (goodIn_of _ (by decide +kernel)) ggX2_mostTaken_X2_mostTaken
theorem dX2_mostTaken_0 : decode cX2_mostTaken 0 = .ok (.iload_n 3, 1) := by decide +kernel
theorem dX2_mostTaken_1 : decode cX2_mostTaken 1 = .ok (.istore 4, 2) := by decide +kernel
theorem dX2_mostTaken_3 : decode cX2_mostTaken 3 = .ok (.iload 4, 2) := by decide +kernel
theorem dX2_mostTaken_5 : decode cX2_mostTaken 5 = .ok (.bipush 9, 2) := by decide +kernel
theorem dX2_mostTaken_7 : decode cX2_mostTaken 7 = .ok (.if_icmp .ge 18, 3) := by decide +kernel
theorem dX2_mostTaken_10 : decode cX2_mostTaken 10 = .ok (.iload_n 1, 1) := by decide +kernel
theorem dX2_mostTaken_11 : decode cX2_mostTaken 11 = .ok (.iload 4, 2) := by decide +kernel
theorem dX2_mostTaken_13 : decode cX2_mostTaken 13 = .ok (.ishr, 1) := by decide +kernel
theorem dX2_mostTaken_14 : decode cX2_mostTaken 14 = .ok (.iconst 1, 1) := by decide +kernel
theorem dX2_mostTaken_15 : decode cX2_mostTaken 15 = .ok (.iand, 1) := by decide +kernel
theorem dX2_mostTaken_16 : decode cX2_mostTaken 16 = .ok (.ifCond .ne 9, 3) := by decide +kernel
theorem dX2_mostTaken_19 : decode cX2_mostTaken 19 = .ok (.iinc 4 1, 3) := by decide +kernel
theorem dX2_mostTaken_22 : decode cX2_mostTaken 22 = .ok (.goto (-19), 3) := by decide +kernel
theorem dX2_mostTaken_25 : decode cX2_mostTaken 25 = .ok (.iload 4, 2) := by decide +kernel
theorem dX2_mostTaken_27 : decode cX2_mostTaken 27 = .ok (.bipush 9, 2) := by decide +kernel
theorem dX2_mostTaken_29 : decode cX2_mostTaken 29 = .ok (.if_icmp .lt 5, 3) := by decide +kernel
theorem dX2_mostTaken_32 : decode cX2_mostTaken 32 = .ok (.iconst 0, 1) := by decide +kernel
theorem dX2_mostTaken_33 : decode cX2_mostTaken 33 = .ok (.ireturn, 1) := by decide +kernel
theorem dX2_mostTaken_34 : decode cX2_mostTaken 34 = .ok (.aload_n 0, 1) := by decide +kernel
theorem dX2_mostTaken_35 : decode cX2_mostTaken 35 = .ok (.iload_n 1, 1) := by decide +kernel
theorem dX2_mostTaken_36 : decode cX2_mostTaken 36 = .ok (.iload_n 2, 1) := by decide +kernel
theorem dX2_mostTaken_37 : decode cX2_mostTaken 37 = .ok (.iload 4, 2) := by decide +kernel
theorem dX2_mostTaken_39 : decode cX2_mostTaken 39 = .ok (.iconst 1, 1) := by decide +kernel
theorem dX2_mostTaken_40 : decode cX2_mostTaken 40 = .ok (.iadd, 1) := by decide +kernel
theorem dX2_mostTaken_41 : decode cX2_mostTaken 41 = .ok (.invokestatic 32, 3) := by decide +kernel
theorem dX2_mostTaken_44 : decode cX2_mostTaken 44 = .ok (.istore 5, 2) := by decide +kernel
theorem dX2_mostTaken_46 : decode cX2_mostTaken 46 = .ok (.iconst 0, 1) := by decide +kernel
theorem dX2_mostTaken_47 : decode cX2_mostTaken 47 = .ok (.istore 6, 2) := by decide +kernel
theorem dX2_mostTaken_49 : decode cX2_mostTaken 49 = .ok (.iload 6, 2) := by decide +kernel
theorem dX2_mostTaken_51 : decode cX2_mostTaken 51 = .ok (.bipush 6, 2) := by decide +kernel
theorem dX2_mostTaken_53 : decode cX2_mostTaken 53 = .ok (.if_icmp .ge 51, 3) := by decide +kernel
theorem dX2_mostTaken_56 : decode cX2_mostTaken 56 = .ok (.iconst 1, 1) := by decide +kernel
theorem dX2_mostTaken_57 : decode cX2_mostTaken 57 = .ok (.iload 6, 2) := by decide +kernel
theorem dX2_mostTaken_59 : decode cX2_mostTaken 59 = .ok (.ishl, 1) := by decide +kernel
theorem dX2_mostTaken_60 : decode cX2_mostTaken 60 = .ok (.istore 7, 2) := by decide +kernel
theorem dX2_mostTaken_62 : decode cX2_mostTaken 62 = .ok (.aload_n 0, 1) := by decide +kernel
theorem dX2_mostTaken_63 : decode cX2_mostTaken 63 = .ok (.iload 4, 2) := by decide +kernel
theorem dX2_mostTaken_65 : decode cX2_mostTaken 65 = .ok (.iaload, 1) := by decide +kernel
theorem dX2_mostTaken_66 : decode cX2_mostTaken 66 = .ok (.iload_n 2, 1) := by decide +kernel
theorem dX2_mostTaken_67 : decode cX2_mostTaken 67 = .ok (.iand, 1) := by decide +kernel
theorem dX2_mostTaken_68 : decode cX2_mostTaken 68 = .ok (.iload 7, 2) := by decide +kernel
theorem dX2_mostTaken_70 : decode cX2_mostTaken 70 = .ok (.iand, 1) := by decide +kernel
theorem dX2_mostTaken_71 : decode cX2_mostTaken 71 = .ok (.ifCond .eq 27, 3) := by decide +kernel
theorem dX2_mostTaken_74 : decode cX2_mostTaken 74 = .ok (.iload 5, 2) := by decide +kernel
theorem dX2_mostTaken_76 : decode cX2_mostTaken 76 = .ok (.iconst 1, 1) := by decide +kernel
theorem dX2_mostTaken_77 : decode cX2_mostTaken 77 = .ok (.aload_n 0, 1) := by decide +kernel
theorem dX2_mostTaken_78 : decode cX2_mostTaken 78 = .ok (.iload_n 1, 1) := by decide +kernel
theorem dX2_mostTaken_79 : decode cX2_mostTaken 79 = .ok (.iload_n 2, 1) := by decide +kernel
theorem dX2_mostTaken_80 : decode cX2_mostTaken 80 = .ok (.iload 7, 2) := by decide +kernel
theorem dX2_mostTaken_82 : decode cX2_mostTaken 82 = .ok (.iconst (-1), 1) := by decide +kernel
theorem dX2_mostTaken_83 : decode cX2_mostTaken 83 = .ok (.ixor, 1) := by decide +kernel
theorem dX2_mostTaken_84 : decode cX2_mostTaken 84 = .ok (.iand, 1) := by decide +kernel
theorem dX2_mostTaken_85 : decode cX2_mostTaken 85 = .ok (.iload 4, 2) := by decide +kernel
theorem dX2_mostTaken_87 : decode cX2_mostTaken 87 = .ok (.iconst 1, 1) := by decide +kernel
theorem dX2_mostTaken_88 : decode cX2_mostTaken 88 = .ok (.iadd, 1) := by decide +kernel
theorem dX2_mostTaken_89 : decode cX2_mostTaken 89 = .ok (.invokestatic 32, 3) := by decide +kernel
theorem dX2_mostTaken_92 : decode cX2_mostTaken 92 = .ok (.iadd, 1) := by decide +kernel
theorem dX2_mostTaken_93 : decode cX2_mostTaken 93 = .ok (.invokestatic 72, 3) := by decide +kernel
theorem dX2_mostTaken_96 : decode cX2_mostTaken 96 = .ok (.istore 5, 2) := by decide +kernel
theorem dX2_mostTaken_98 : decode cX2_mostTaken 98 = .ok (.iinc 6 1, 3) := by decide +kernel
theorem dX2_mostTaken_101 : decode cX2_mostTaken 101 = .ok (.goto (-52), 3) := by decide +kernel
theorem dX2_mostTaken_104 : decode cX2_mostTaken 104 = .ok (.iload 5, 2) := by decide +kernel
theorem dX2_mostTaken_106 : decode cX2_mostTaken 106 = .ok (.ireturn, 1) := by decide +kernel
set_option maxRecDepth 20000 in
theorem ggX2_faults_X2_plan : GoodIn wsX2_faults wsX2_plan := goodIn_r _ [8, 1, 3, 2, 9, 10, 11, 12, 13, 7, 14, 15, 16, 17, 18, 19, 20, 21, 22, 23, 24, 25, 26, 27, 28, 29, 30, 31, 32, 33, 34, 35, 36, 37, 38, 39, 40, 41, 42, 43, 44, 45, 46, 47, 48, 49, 50, 51, 52, 53, 54, 55, 56, 57, 58, 59, 60, 61, 62, 63, 64, 65, 66, 67, 68, 69] (by decide +kernel) (by decide +kernel)
set_option maxRecDepth 20000 in
theorem gX2_faults_X2_plan : GoodIn wsX2_faults (wsV RX2 77 RX2 yX2_plan wsX2_plan) := goodIn_app (goodIn_of _ (by decide +kernel)) ggX2_faults_X2_plan
set_option maxRecDepth 20000 in
theorem ggX2_faults_X8_lessonTotal : GoodIn wsX2_faults wsX8_lessonTotal := goodIn_r _ [24, 25, 68, 69] (by decide +kernel) (by decide +kernel)
set_option maxRecDepth 20000 in
theorem gX2_faults_X8_lessonTotal : GoodIn wsX2_faults (wsV RX2 53 RX8 yX8_lessonTotal wsX8_lessonTotal) := goodIn_app (goodIn_of _ (by decide +kernel)) ggX2_faults_X8_lessonTotal
theorem dX2_faults_0 : decode cX2_faults 0 = .ok (.iconst 0, 1) := by decide +kernel
theorem dX2_faults_1 : decode cX2_faults 1 = .ok (.istore_n 2, 1) := by decide +kernel
theorem dX2_faults_2 : decode cX2_faults 2 = .ok (.iload_n 2, 1) := by decide +kernel
theorem dX2_faults_3 : decode cX2_faults 3 = .ok (.bipush 20, 2) := by decide +kernel
theorem dX2_faults_5 : decode cX2_faults 5 = .ok (.if_icmp .ge 58, 3) := by decide +kernel
theorem dX2_faults_8 : decode cX2_faults 8 = .ok (.aload_n 0, 1) := by decide +kernel
theorem dX2_faults_9 : decode cX2_faults 9 = .ok (.aload_n 1, 1) := by decide +kernel
theorem dX2_faults_10 : decode cX2_faults 10 = .ok (.iload_n 2, 1) := by decide +kernel
theorem dX2_faults_11 : decode cX2_faults 11 = .ok (.invokevirtual 77, 3) := by decide +kernel
theorem dX2_faults_14 : decode cX2_faults 14 = .ok (.iconst 0, 1) := by decide +kernel
theorem dX2_faults_15 : decode cX2_faults 15 = .ok (.istore_n 3, 1) := by decide +kernel
theorem dX2_faults_16 : decode cX2_faults 16 = .ok (.iload_n 3, 1) := by decide +kernel
theorem dX2_faults_17 : decode cX2_faults 17 = .ok (.aload_n 1, 1) := by decide +kernel
theorem dX2_faults_18 : decode cX2_faults 18 = .ok (.invokevirtual 53, 3) := by decide +kernel
theorem dX2_faults_21 : decode cX2_faults 21 = .ok (.if_icmp .ge 36, 3) := by decide +kernel
theorem dX2_faults_24 : decode cX2_faults 24 = .ok (.aload_n 0, 1) := by decide +kernel
theorem dX2_faults_25 : decode cX2_faults 25 = .ok (.getfield 22, 3) := by decide +kernel
theorem dX2_faults_28 : decode cX2_faults 28 = .ok (.iload_n 3, 1) := by decide +kernel
theorem dX2_faults_29 : decode cX2_faults 29 = .ok (.ishr, 1) := by decide +kernel
theorem dX2_faults_30 : decode cX2_faults 30 = .ok (.iconst 1, 1) := by decide +kernel
theorem dX2_faults_31 : decode cX2_faults 31 = .ok (.iand, 1) := by decide +kernel
theorem dX2_faults_32 : decode cX2_faults 32 = .ok (.ifCond .eq 19, 3) := by decide +kernel
theorem dX2_faults_35 : decode cX2_faults 35 = .ok (.aload_n 0, 1) := by decide +kernel
theorem dX2_faults_36 : decode cX2_faults 36 = .ok (.getfield 15, 3) := by decide +kernel
theorem dX2_faults_39 : decode cX2_faults 39 = .ok (.iload_n 3, 1) := by decide +kernel
theorem dX2_faults_40 : decode cX2_faults 40 = .ok (.iaload, 1) := by decide +kernel
theorem dX2_faults_41 : decode cX2_faults 41 = .ok (.aload_n 0, 1) := by decide +kernel
theorem dX2_faults_42 : decode cX2_faults 42 = .ok (.getfield 26, 3) := by decide +kernel
theorem dX2_faults_45 : decode cX2_faults 45 = .ok (.iand, 1) := by decide +kernel
theorem dX2_faults_46 : decode cX2_faults 46 = .ok (.ifCond .eq 5, 3) := by decide +kernel
theorem dX2_faults_49 : decode cX2_faults 49 = .ok (.iconst 1, 1) := by decide +kernel
theorem dX2_faults_50 : decode cX2_faults 50 = .ok (.ireturn, 1) := by decide +kernel
theorem dX2_faults_51 : decode cX2_faults 51 = .ok (.iinc 3 1, 3) := by decide +kernel
theorem dX2_faults_54 : decode cX2_faults 54 = .ok (.goto (-38), 3) := by decide +kernel
theorem dX2_faults_57 : decode cX2_faults 57 = .ok (.iinc 2 1, 3) := by decide +kernel
theorem dX2_faults_60 : decode cX2_faults 60 = .ok (.goto (-58), 3) := by decide +kernel
theorem dX2_faults_63 : decode cX2_faults 63 = .ok (.iconst 0, 1) := by decide +kernel
theorem dX2_faults_64 : decode cX2_faults 64 = .ok (.ireturn, 1) := by decide +kernel
theorem dX3_init_0 : decode cX3_init 0 = .ok (.aload_n 0, 1) := by decide +kernel
theorem dX3_init_1 : decode cX3_init 1 = .ok (.invokespecial 3, 3) := by decide +kernel
theorem dX3_init_4 : decode cX3_init 4 = .ok (.aload_n 0, 1) := by decide +kernel
theorem dX3_init_5 : decode cX3_init 5 = .ok (.bipush 8, 2) := by decide +kernel
theorem dX3_init_7 : decode cX3_init 7 = .ok (.newarray .int, 2) := by decide +kernel
theorem dX3_init_9 : decode cX3_init 9 = .ok (.putfield 9, 3) := by decide +kernel
theorem dX3_init_12 : decode cX3_init 12 = .ok (.return_, 1) := by decide +kernel
set_option maxRecDepth 20000 in
theorem ggX3_plan_X3_canHold : GoodIn wsX3_plan wsX3_canHold := goodIn_r _ [5, 6, 7, 8, 9, 10, 11, 4, 12, 13, 14, 15, 16, 17, 18, 2, 3, 20, 21] (by decide +kernel) (by decide +kernel)
set_option maxRecDepth 20000 in
theorem gX3_plan_X3_canHold : GoodIn wsX3_plan (va_wsS RX3 15 yX3_canHold wsX3_canHold) := goodIn_app (goodIn_of _ (by decide +kernel)) ggX3_plan_X3_canHold
theorem dX3_plan_0 : decode cX3_plan 0 = .ok (.iconst 1, 1) := by decide +kernel
theorem dX3_plan_1 : decode cX3_plan 1 = .ok (.istore_n 2, 1) := by decide +kernel
theorem dX3_plan_2 : decode cX3_plan 2 = .ok (.aload_n 1, 1) := by decide +kernel
theorem dX3_plan_3 : decode cX3_plan 3 = .ok (.aload_n 0, 1) := by decide +kernel
theorem dX3_plan_4 : decode cX3_plan 4 = .ok (.getfield 9, 3) := by decide +kernel
theorem dX3_plan_7 : decode cX3_plan 7 = .ok (.iconst 0, 1) := by decide +kernel
theorem dX3_plan_8 : decode cX3_plan 8 = .ok (.iconst 0, 1) := by decide +kernel
theorem dX3_plan_9 : decode cX3_plan 9 = .ok (.iload_n 2, 1) := by decide +kernel
theorem dX3_plan_10 : decode cX3_plan 10 = .ok (.invokestatic 15, 3) := by decide +kernel
theorem dX3_plan_13 : decode cX3_plan 13 = .ok (.ifCond .ne 15, 3) := by decide +kernel
theorem dX3_plan_16 : decode cX3_plan 16 = .ok (.iload_n 2, 1) := by decide +kernel
theorem dX3_plan_17 : decode cX3_plan 17 = .ok (.bipush 8, 2) := by decide +kernel
theorem dX3_plan_19 : decode cX3_plan 19 = .ok (.if_icmp .ge 9, 3) := by decide +kernel
theorem dX3_plan_22 : decode cX3_plan 22 = .ok (.iinc 2 1, 3) := by decide +kernel
theorem dX3_plan_25 : decode cX3_plan 25 = .ok (.goto (-23), 3) := by decide +kernel
theorem dX3_plan_28 : decode cX3_plan 28 = .ok (.iload_n 2, 1) := by decide +kernel
theorem dX3_plan_29 : decode cX3_plan 29 = .ok (.ireturn, 1) := by decide +kernel
set_option maxRecDepth 20000 in
theorem ggX3_canHold_X3_isFree : GoodIn wsX3_canHold wsX3_isFree := goodIn_r _ [8, 9, 10, 11, 12, 13, 14, 17, 18] (by decide +kernel) (by decide +kernel)
set_option maxRecDepth 20000 in
theorem gX3_canHold_X3_isFree : GoodIn wsX3_canHold (va_wsS RX3 19 yX3_isFree wsX3_isFree) := goodIn_app (goodIn_of _ (by decide +kernel)) ggX3_canHold_X3_isFree
set_option maxRecDepth 20000 in
theorem ggX3_canHold_X3_canHold : GoodIn wsX3_canHold wsX3_canHold := goodIn_r _ [0, 1, 2, 3, 4, 5, 6, 7, 8, 9, 10, 11, 12, 13, 14, 15, 16, 17, 18] (by decide +kernel) (by decide +kernel)
set_option maxRecDepth 20000 in
theorem gX3_canHold_X3_canHold : GoodIn wsX3_canHold (va_wsS RX3 15 yX3_canHold wsX3_canHold) := goodIn_app (goodIn_of _ (by decide +kernel)) ggX3_canHold_X3_canHold
theorem dX3_canHold_0 : decode cX3_canHold 0 = .ok (.iload_n 2, 1) := by decide +kernel
theorem dX3_canHold_1 : decode cX3_canHold 1 = .ok (.bipush 8, 2) := by decide +kernel
theorem dX3_canHold_3 : decode cX3_canHold 3 = .ok (.if_icmp .lt 5, 3) := by decide +kernel
theorem dX3_canHold_6 : decode cX3_canHold 6 = .ok (.iconst 1, 1) := by decide +kernel
theorem dX3_canHold_7 : decode cX3_canHold 7 = .ok (.ireturn, 1) := by decide +kernel
theorem dX3_canHold_8 : decode cX3_canHold 8 = .ok (.iconst 0, 1) := by decide +kernel
theorem dX3_canHold_9 : decode cX3_canHold 9 = .ok (.istore 5, 2) := by decide +kernel
theorem dX3_canHold_11 : decode cX3_canHold 11 = .ok (.iload 5, 2) := by decide +kernel
theorem dX3_canHold_13 : decode cX3_canHold 13 = .ok (.iload 4, 2) := by decide +kernel
theorem dX3_canHold_15 : decode cX3_canHold 15 = .ok (.if_icmp .ge 54, 3) := by decide +kernel
theorem dX3_canHold_18 : decode cX3_canHold 18 = .ok (.iload 5, 2) := by decide +kernel
theorem dX3_canHold_20 : decode cX3_canHold 20 = .ok (.iload_n 3, 1) := by decide +kernel
theorem dX3_canHold_21 : decode cX3_canHold 21 = .ok (.if_icmp .gt 48, 3) := by decide +kernel
theorem dX3_canHold_24 : decode cX3_canHold 24 = .ok (.aload_n 0, 1) := by decide +kernel
theorem dX3_canHold_25 : decode cX3_canHold 25 = .ok (.aload_n 1, 1) := by decide +kernel
theorem dX3_canHold_26 : decode cX3_canHold 26 = .ok (.iload_n 2, 1) := by decide +kernel
theorem dX3_canHold_27 : decode cX3_canHold 27 = .ok (.iload 5, 2) := by decide +kernel
theorem dX3_canHold_29 : decode cX3_canHold 29 = .ok (.invokestatic 19, 3) := by decide +kernel
theorem dX3_canHold_32 : decode cX3_canHold 32 = .ok (.ifCond .eq 31, 3) := by decide +kernel
theorem dX3_canHold_35 : decode cX3_canHold 35 = .ok (.aload_n 1, 1) := by decide +kernel
theorem dX3_canHold_36 : decode cX3_canHold 36 = .ok (.iload_n 2, 1) := by decide +kernel
theorem dX3_canHold_37 : decode cX3_canHold 37 = .ok (.iload 5, 2) := by decide +kernel
theorem dX3_canHold_39 : decode cX3_canHold 39 = .ok (.iastore, 1) := by decide +kernel
theorem dX3_canHold_40 : decode cX3_canHold 40 = .ok (.aload_n 0, 1) := by decide +kernel
theorem dX3_canHold_41 : decode cX3_canHold 41 = .ok (.aload_n 1, 1) := by decide +kernel
theorem dX3_canHold_42 : decode cX3_canHold 42 = .ok (.iload_n 2, 1) := by decide +kernel
theorem dX3_canHold_43 : decode cX3_canHold 43 = .ok (.iconst 1, 1) := by decide +kernel
theorem dX3_canHold_44 : decode cX3_canHold 44 = .ok (.iadd, 1) := by decide +kernel
theorem dX3_canHold_45 : decode cX3_canHold 45 = .ok (.iload_n 3, 1) := by decide +kernel
theorem dX3_canHold_46 : decode cX3_canHold 46 = .ok (.iload 5, 2) := by decide +kernel
theorem dX3_canHold_48 : decode cX3_canHold 48 = .ok (.iconst 1, 1) := by decide +kernel
theorem dX3_canHold_49 : decode cX3_canHold 49 = .ok (.iadd, 1) := by decide +kernel
theorem dX3_canHold_50 : decode cX3_canHold 50 = .ok (.invokestatic 23, 3) := by decide +kernel
theorem dX3_canHold_53 : decode cX3_canHold 53 = .ok (.iload 4, 2) := by decide +kernel
theorem dX3_canHold_55 : decode cX3_canHold 55 = .ok (.invokestatic 15, 3) := by decide +kernel
theorem dX3_canHold_58 : decode cX3_canHold 58 = .ok (.ifCond .eq 5, 3) := by decide +kernel
theorem dX3_canHold_61 : decode cX3_canHold 61 = .ok (.iconst 1, 1) := by decide +kernel
theorem dX3_canHold_62 : decode cX3_canHold 62 = .ok (.ireturn, 1) := by decide +kernel
theorem dX3_canHold_63 : decode cX3_canHold 63 = .ok (.iinc 5 1, 3) := by decide +kernel
theorem dX3_canHold_66 : decode cX3_canHold 66 = .ok (.goto (-55), 3) := by decide +kernel
theorem dX3_canHold_69 : decode cX3_canHold 69 = .ok (.iconst 0, 1) := by decide +kernel
theorem dX3_canHold_70 : decode cX3_canHold 70 = .ok (.ireturn, 1) := by decide +kernel
set_option maxRecDepth 20000 in
theorem ggX3_isFree_X8_apartFrom : GoodIn wsX3_isFree wsX8_apartFrom := goodIn_r _ [5, 6, 7, 8] (by decide +kernel) (by decide +kernel)
set_option maxRecDepth 20000 in
theorem gX3_isFree_X8_apartFrom : GoodIn wsX3_isFree (wsV RX3 29 RX8 yX8_apartFrom wsX8_apartFrom) := goodIn_app (goodIn_of _ (by decide +kernel)) ggX3_isFree_X8_apartFrom
theorem dX3_isFree_0 : decode cX3_isFree 0 = .ok (.iconst 0, 1) := by decide +kernel
theorem dX3_isFree_1 : decode cX3_isFree 1 = .ok (.istore 4, 2) := by decide +kernel
theorem dX3_isFree_3 : decode cX3_isFree 3 = .ok (.iload 4, 2) := by decide +kernel
theorem dX3_isFree_5 : decode cX3_isFree 5 = .ok (.iload_n 2, 1) := by decide +kernel
theorem dX3_isFree_6 : decode cX3_isFree 6 = .ok (.if_icmp .ge 32, 3) := by decide +kernel
theorem dX3_isFree_9 : decode cX3_isFree 9 = .ok (.aload_n 1, 1) := by decide +kernel
theorem dX3_isFree_10 : decode cX3_isFree 10 = .ok (.iload 4, 2) := by decide +kernel
theorem dX3_isFree_12 : decode cX3_isFree 12 = .ok (.iaload, 1) := by decide +kernel
theorem dX3_isFree_13 : decode cX3_isFree 13 = .ok (.iload_n 3, 1) := by decide +kernel
theorem dX3_isFree_14 : decode cX3_isFree 14 = .ok (.if_icmp .ne 18, 3) := by decide +kernel
theorem dX3_isFree_17 : decode cX3_isFree 17 = .ok (.aload_n 0, 1) := by decide +kernel
theorem dX3_isFree_18 : decode cX3_isFree 18 = .ok (.iload_n 2, 1) := by decide +kernel
theorem dX3_isFree_19 : decode cX3_isFree 19 = .ok (.invokevirtual 29, 3) := by decide +kernel
theorem dX3_isFree_22 : decode cX3_isFree 22 = .ok (.iload 4, 2) := by decide +kernel
theorem dX3_isFree_24 : decode cX3_isFree 24 = .ok (.ishr, 1) := by decide +kernel
theorem dX3_isFree_25 : decode cX3_isFree 25 = .ok (.iconst 1, 1) := by decide +kernel
theorem dX3_isFree_26 : decode cX3_isFree 26 = .ok (.iand, 1) := by decide +kernel
theorem dX3_isFree_27 : decode cX3_isFree 27 = .ok (.ifCond .eq 5, 3) := by decide +kernel
theorem dX3_isFree_30 : decode cX3_isFree 30 = .ok (.iconst 0, 1) := by decide +kernel
theorem dX3_isFree_31 : decode cX3_isFree 31 = .ok (.ireturn, 1) := by decide +kernel
theorem dX3_isFree_32 : decode cX3_isFree 32 = .ok (.iinc 4 1, 3) := by decide +kernel
theorem dX3_isFree_35 : decode cX3_isFree 35 = .ok (.goto (-32), 3) := by decide +kernel
theorem dX3_isFree_38 : decode cX3_isFree 38 = .ok (.iconst 1, 1) := by decide +kernel
theorem dX3_isFree_39 : decode cX3_isFree 39 = .ok (.ireturn, 1) := by decide +kernel
set_option maxRecDepth 20000 in
theorem ggX3_greatestGroup_J6_bitCount_0f7a4 : GoodIn wsX3_greatestGroup wsJ6_bitCount_0f7a4 := goodIn_r _ [4, 5, 6, 7] (by decide +kernel) (by decide +kernel)
set_option maxRecDepth 20000 in
theorem gX3_greatestGroup_J6_bitCount_0f7a4 : GoodIn wsX3_greatestGroup (va_wsS RX3 35 yJ6_bitCount_0f7a4 wsJ6_bitCount_0f7a4) := goodIn_app (goodIn_of _ (by decide +kernel)) ggX3_greatestGroup_J6_bitCount_0f7a4
set_option maxRecDepth 20000 in
theorem ggX3_greatestGroup_X3_isGroup : GoodIn wsX3_greatestGroup wsX3_isGroup := goodIn_r _ [12, 13, 14, 15, 16, 17, 18, 19, 20] (by decide +kernel) (by decide +kernel)
set_option maxRecDepth 20000 in
theorem gX3_greatestGroup_X3_isGroup : GoodIn wsX3_greatestGroup (wsV RX3 40 RX3 yX3_isGroup wsX3_isGroup) := goodIn_app (goodIn_of _ (by decide +kernel)) ggX3_greatestGroup_X3_isGroup
theorem dX3_greatestGroup_0 : decode cX3_greatestGroup 0 = .ok (.iconst 0, 1) := by decide +kernel
theorem dX3_greatestGroup_1 : decode cX3_greatestGroup 1 = .ok (.istore_n 2, 1) := by decide +kernel
theorem dX3_greatestGroup_2 : decode cX3_greatestGroup 2 = .ok (.iconst 1, 1) := by decide +kernel
theorem dX3_greatestGroup_3 : decode cX3_greatestGroup 3 = .ok (.istore_n 3, 1) := by decide +kernel
theorem dX3_greatestGroup_4 : decode cX3_greatestGroup 4 = .ok (.iload_n 3, 1) := by decide +kernel
theorem dX3_greatestGroup_5 : decode cX3_greatestGroup 5 = .ok (.sipush 256, 3) := by decide +kernel
theorem dX3_greatestGroup_8 : decode cX3_greatestGroup 8 = .ok (.if_icmp .ge 31, 3) := by decide +kernel
theorem dX3_greatestGroup_11 : decode cX3_greatestGroup 11 = .ok (.iload_n 3, 1) := by decide +kernel
theorem dX3_greatestGroup_12 : decode cX3_greatestGroup 12 = .ok (.invokestatic 35, 3) := by decide +kernel
theorem dX3_greatestGroup_15 : decode cX3_greatestGroup 15 = .ok (.iload_n 2, 1) := by decide +kernel
theorem dX3_greatestGroup_16 : decode cX3_greatestGroup 16 = .ok (.invokestatic 35, 3) := by decide +kernel
theorem dX3_greatestGroup_19 : decode cX3_greatestGroup 19 = .ok (.if_icmp .le 14, 3) := by decide +kernel
theorem dX3_greatestGroup_22 : decode cX3_greatestGroup 22 = .ok (.aload_n 0, 1) := by decide +kernel
theorem dX3_greatestGroup_23 : decode cX3_greatestGroup 23 = .ok (.aload_n 1, 1) := by decide +kernel
theorem dX3_greatestGroup_24 : decode cX3_greatestGroup 24 = .ok (.iload_n 3, 1) := by decide +kernel
theorem dX3_greatestGroup_25 : decode cX3_greatestGroup 25 = .ok (.invokevirtual 40, 3) := by decide +kernel
theorem dX3_greatestGroup_28 : decode cX3_greatestGroup 28 = .ok (.ifCond .eq 5, 3) := by decide +kernel
theorem dX3_greatestGroup_31 : decode cX3_greatestGroup 31 = .ok (.iload_n 3, 1) := by decide +kernel
theorem dX3_greatestGroup_32 : decode cX3_greatestGroup 32 = .ok (.istore_n 2, 1) := by decide +kernel
theorem dX3_greatestGroup_33 : decode cX3_greatestGroup 33 = .ok (.iinc 3 1, 3) := by decide +kernel
theorem dX3_greatestGroup_36 : decode cX3_greatestGroup 36 = .ok (.goto (-32), 3) := by decide +kernel
theorem dX3_greatestGroup_39 : decode cX3_greatestGroup 39 = .ok (.iload_n 2, 1) := by decide +kernel
theorem dX3_greatestGroup_40 : decode cX3_greatestGroup 40 = .ok (.ireturn, 1) := by decide +kernel
set_option maxRecDepth 20000 in
theorem ggX3_isGroup_X8_apartFrom : GoodIn wsX3_isGroup wsX8_apartFrom := goodIn_r _ [5, 6, 7, 8] (by decide +kernel) (by decide +kernel)
set_option maxRecDepth 20000 in
theorem gX3_isGroup_X8_apartFrom : GoodIn wsX3_isGroup (wsV RX3 29 RX8 yX8_apartFrom wsX8_apartFrom) := goodIn_app (goodIn_of _ (by decide +kernel)) ggX3_isGroup_X8_apartFrom
theorem dX3_isGroup_0 : decode cX3_isGroup 0 = .ok (.iconst 0, 1) := by decide +kernel
theorem dX3_isGroup_1 : decode cX3_isGroup 1 = .ok (.istore_n 3, 1) := by decide +kernel
theorem dX3_isGroup_2 : decode cX3_isGroup 2 = .ok (.iload_n 3, 1) := by decide +kernel
theorem dX3_isGroup_3 : decode cX3_isGroup 3 = .ok (.bipush 8, 2) := by decide +kernel
theorem dX3_isGroup_5 : decode cX3_isGroup 5 = .ok (.if_icmp .ge 39, 3) := by decide +kernel
theorem dX3_isGroup_8 : decode cX3_isGroup 8 = .ok (.iload_n 2, 1) := by decide +kernel
theorem dX3_isGroup_9 : decode cX3_isGroup 9 = .ok (.iconst 1, 1) := by decide +kernel
theorem dX3_isGroup_10 : decode cX3_isGroup 10 = .ok (.iload_n 3, 1) := by decide +kernel
theorem dX3_isGroup_11 : decode cX3_isGroup 11 = .ok (.ishl, 1) := by decide +kernel
theorem dX3_isGroup_12 : decode cX3_isGroup 12 = .ok (.iconst (-1), 1) := by decide +kernel
theorem dX3_isGroup_13 : decode cX3_isGroup 13 = .ok (.ixor, 1) := by decide +kernel
theorem dX3_isGroup_14 : decode cX3_isGroup 14 = .ok (.iand, 1) := by decide +kernel
theorem dX3_isGroup_15 : decode cX3_isGroup 15 = .ok (.istore 4, 2) := by decide +kernel
theorem dX3_isGroup_17 : decode cX3_isGroup 17 = .ok (.iload 4, 2) := by decide +kernel
theorem dX3_isGroup_19 : decode cX3_isGroup 19 = .ok (.iload_n 2, 1) := by decide +kernel
theorem dX3_isGroup_20 : decode cX3_isGroup 20 = .ok (.if_icmp .eq 18, 3) := by decide +kernel
theorem dX3_isGroup_23 : decode cX3_isGroup 23 = .ok (.iload 4, 2) := by decide +kernel
theorem dX3_isGroup_25 : decode cX3_isGroup 25 = .ok (.aload_n 1, 1) := by decide +kernel
theorem dX3_isGroup_26 : decode cX3_isGroup 26 = .ok (.iload_n 3, 1) := by decide +kernel
theorem dX3_isGroup_27 : decode cX3_isGroup 27 = .ok (.invokevirtual 29, 3) := by decide +kernel
theorem dX3_isGroup_30 : decode cX3_isGroup 30 = .ok (.iconst (-1), 1) := by decide +kernel
theorem dX3_isGroup_31 : decode cX3_isGroup 31 = .ok (.ixor, 1) := by decide +kernel
theorem dX3_isGroup_32 : decode cX3_isGroup 32 = .ok (.iand, 1) := by decide +kernel
theorem dX3_isGroup_33 : decode cX3_isGroup 33 = .ok (.ifCond .eq 5, 3) := by decide +kernel
theorem dX3_isGroup_36 : decode cX3_isGroup 36 = .ok (.iconst 0, 1) := by decide +kernel
theorem dX3_isGroup_37 : decode cX3_isGroup 37 = .ok (.ireturn, 1) := by decide +kernel
theorem dX3_isGroup_38 : decode cX3_isGroup 38 = .ok (.iinc 3 1, 3) := by decide +kernel
theorem dX3_isGroup_41 : decode cX3_isGroup 41 = .ok (.goto (-39), 3) := by decide +kernel
theorem dX3_isGroup_44 : decode cX3_isGroup 44 = .ok (.iconst 1, 1) := by decide +kernel
theorem dX3_isGroup_45 : decode cX3_isGroup 45 = .ok (.ireturn, 1) := by decide +kernel
set_option maxRecDepth 20000 in
theorem ggX3_faults_X3_plan : GoodIn wsX3_faults wsX3_plan := goodIn_r _ [6, 1, 7, 8, 5, 9, 10, 11, 12, 13, 14, 15, 16, 17, 18, 19, 20, 21, 22, 38, 39, 40] (by decide +kernel) (by decide +kernel)
set_option maxRecDepth 20000 in
theorem gX3_faults_X3_plan : GoodIn wsX3_faults (wsV RX3 44 RX3 yX3_plan wsX3_plan) := goodIn_app (goodIn_of _ (by decide +kernel)) ggX3_faults_X3_plan
set_option maxRecDepth 20000 in
theorem ggX3_faults_X3_greatestGroup : GoodIn wsX3_faults wsX3_greatestGroup := goodIn_r _ [26, 27, 28, 29, 30, 31, 32, 33, 34, 35, 36, 5, 37, 17, 18, 19, 20, 21, 22, 39, 40] (by decide +kernel) (by decide +kernel)
set_option maxRecDepth 20000 in
theorem gX3_faults_X3_greatestGroup : GoodIn wsX3_faults (wsV RX3 48 RX3 yX3_greatestGroup wsX3_greatestGroup) := goodIn_app (goodIn_of _ (by decide +kernel)) ggX3_faults_X3_greatestGroup
set_option maxRecDepth 20000 in
theorem ggX3_faults_J6_bitCount_0f7a4 : GoodIn wsX3_faults wsJ6_bitCount_0f7a4 := goodIn_r _ [30, 31, 32, 33] (by decide +kernel) (by decide +kernel)
set_option maxRecDepth 20000 in
theorem gX3_faults_J6_bitCount_0f7a4 : GoodIn wsX3_faults (va_wsS RX3 35 yJ6_bitCount_0f7a4 wsJ6_bitCount_0f7a4) := goodIn_app (goodIn_of _ (by decide +kernel)) ggX3_faults_J6_bitCount_0f7a4
set_option maxRecDepth 20000 in
theorem ggX3_faults_X3_isFree : GoodIn wsX3_faults wsX3_isFree := goodIn_r _ [16, 17, 18, 19, 20, 21, 22, 39, 40] (by decide +kernel) (by decide +kernel)
set_option maxRecDepth 20000 in
theorem gX3_faults_X3_isFree : GoodIn wsX3_faults (va_wsS RX3 19 yX3_isFree wsX3_isFree) := goodIn_app (goodIn_of _ (by decide +kernel)) ggX3_faults_X3_isFree
theorem dX3_faults_0 : decode cX3_faults 0 = .ok (.aload_n 0, 1) := by decide +kernel
theorem dX3_faults_1 : decode cX3_faults 1 = .ok (.aload_n 1, 1) := by decide +kernel
theorem dX3_faults_2 : decode cX3_faults 2 = .ok (.invokevirtual 44, 3) := by decide +kernel
theorem dX3_faults_5 : decode cX3_faults 5 = .ok (.istore_n 2, 1) := by decide +kernel
theorem dX3_faults_6 : decode cX3_faults 6 = .ok (.aload_n 0, 1) := by decide +kernel
theorem dX3_faults_7 : decode cX3_faults 7 = .ok (.aload_n 1, 1) := by decide +kernel
theorem dX3_faults_8 : decode cX3_faults 8 = .ok (.invokevirtual 48, 3) := by decide +kernel
theorem dX3_faults_11 : decode cX3_faults 11 = .ok (.invokestatic 35, 3) := by decide +kernel
theorem dX3_faults_14 : decode cX3_faults 14 = .ok (.iload_n 2, 1) := by decide +kernel
theorem dX3_faults_15 : decode cX3_faults 15 = .ok (.if_icmp .le 7, 3) := by decide +kernel
theorem dX3_faults_18 : decode cX3_faults 18 = .ok (.iconst 1, 1) := by decide +kernel
theorem dX3_faults_19 : decode cX3_faults 19 = .ok (.goto 4, 3) := by decide +kernel
theorem dX3_faults_22 : decode cX3_faults 22 = .ok (.iconst 0, 1) := by decide +kernel
theorem dX3_faults_23 : decode cX3_faults 23 = .ok (.istore_n 3, 1) := by decide +kernel
theorem dX3_faults_24 : decode cX3_faults 24 = .ok (.iconst 0, 1) := by decide +kernel
theorem dX3_faults_25 : decode cX3_faults 25 = .ok (.istore 4, 2) := by decide +kernel
theorem dX3_faults_27 : decode cX3_faults 27 = .ok (.iload 4, 2) := by decide +kernel
theorem dX3_faults_29 : decode cX3_faults 29 = .ok (.bipush 8, 2) := by decide +kernel
theorem dX3_faults_31 : decode cX3_faults 31 = .ok (.if_icmp .ge 37, 3) := by decide +kernel
theorem dX3_faults_34 : decode cX3_faults 34 = .ok (.iload_n 3, 1) := by decide +kernel
theorem dX3_faults_35 : decode cX3_faults 35 = .ok (.aload_n 1, 1) := by decide +kernel
theorem dX3_faults_36 : decode cX3_faults 36 = .ok (.aload_n 0, 1) := by decide +kernel
theorem dX3_faults_37 : decode cX3_faults 37 = .ok (.getfield 9, 3) := by decide +kernel
theorem dX3_faults_40 : decode cX3_faults 40 = .ok (.iload 4, 2) := by decide +kernel
theorem dX3_faults_42 : decode cX3_faults 42 = .ok (.aload_n 0, 1) := by decide +kernel
theorem dX3_faults_43 : decode cX3_faults 43 = .ok (.getfield 9, 3) := by decide +kernel
theorem dX3_faults_46 : decode cX3_faults 46 = .ok (.iload 4, 2) := by decide +kernel
theorem dX3_faults_48 : decode cX3_faults 48 = .ok (.iaload, 1) := by decide +kernel
theorem dX3_faults_49 : decode cX3_faults 49 = .ok (.invokestatic 19, 3) := by decide +kernel
theorem dX3_faults_52 : decode cX3_faults 52 = .ok (.ifCond .ne 7, 3) := by decide +kernel
theorem dX3_faults_55 : decode cX3_faults 55 = .ok (.iconst 1, 1) := by decide +kernel
theorem dX3_faults_56 : decode cX3_faults 56 = .ok (.goto 4, 3) := by decide +kernel
theorem dX3_faults_59 : decode cX3_faults 59 = .ok (.iconst 0, 1) := by decide +kernel
theorem dX3_faults_60 : decode cX3_faults 60 = .ok (.ior, 1) := by decide +kernel
theorem dX3_faults_61 : decode cX3_faults 61 = .ok (.istore_n 3, 1) := by decide +kernel
theorem dX3_faults_62 : decode cX3_faults 62 = .ok (.iinc 4 1, 3) := by decide +kernel
theorem dX3_faults_65 : decode cX3_faults 65 = .ok (.goto (-38), 3) := by decide +kernel
theorem dX3_faults_68 : decode cX3_faults 68 = .ok (.iload_n 3, 1) := by decide +kernel
theorem dX3_faults_69 : decode cX3_faults 69 = .ok (.ifCond .eq 7, 3) := by decide +kernel
theorem dX3_faults_72 : decode cX3_faults 72 = .ok (.iconst 1, 1) := by decide +kernel
theorem dX3_faults_73 : decode cX3_faults 73 = .ok (.goto 4, 3) := by decide +kernel
theorem dX3_faults_76 : decode cX3_faults 76 = .ok (.iconst 0, 1) := by decide +kernel
theorem dX3_faults_77 : decode cX3_faults 77 = .ok (.ireturn, 1) := by decide +kernel
set_option maxRecDepth 20000 in
theorem ggX4_init_X7_init : GoodIn wsX4_init wsX7_init := goodIn_r _ [16, 17, 2, 3, 8, 18, 19, 20, 21, 22, 23, 24, 25, 26, 27, 28, 29, 30, 31, 32, 33, 34, 35, 36, 37, 38, 39, 40] (by decide +kernel) (by decide +kernel)
set_option maxRecDepth 20000 in
theorem gX4_init_X7_init_n11 : GoodIn wsX4_init (wsX7_init) := ggX4_init_X7_init
theorem dX4_init_0 : decode cX4_init 0 = .ok (.aload_n 0, 1) := by decide +kernel
theorem dX4_init_1 : decode cX4_init 1 = .ok (.invokespecial 3, 3) := by decide +kernel
theorem dX4_init_4 : decode cX4_init 4 = .ok (.aload_n 0, 1) := by decide +kernel
theorem dX4_init_5 : decode cX4_init 5 = .ok (.new 9, 3) := by decide +kernel
theorem dX4_init_8 : decode cX4_init 8 = .ok (.dup, 1) := by decide +kernel
theorem dX4_init_9 : decode cX4_init 9 = .ok (.invokespecial 11, 3) := by decide +kernel
theorem dX4_init_12 : decode cX4_init 12 = .ok (.putfield 12, 3) := by decide +kernel
theorem dX4_init_15 : decode cX4_init 15 = .ok (.aload_n 0, 1) := by decide +kernel
theorem dX4_init_16 : decode cX4_init 16 = .ok (.bipush 9, 2) := by decide +kernel
theorem dX4_init_18 : decode cX4_init 18 = .ok (.newarray .int, 2) := by decide +kernel
theorem dX4_init_20 : decode cX4_init 20 = .ok (.putfield 18, 3) := by decide +kernel
theorem dX4_init_23 : decode cX4_init 23 = .ok (.aload_n 0, 1) := by decide +kernel
theorem dX4_init_24 : decode cX4_init 24 = .ok (.bipush 12, 2) := by decide +kernel
theorem dX4_init_26 : decode cX4_init 26 = .ok (.newarray .int, 2) := by decide +kernel
theorem dX4_init_28 : decode cX4_init 28 = .ok (.putfield 22, 3) := by decide +kernel
theorem dX4_init_31 : decode cX4_init 31 = .ok (.aload_n 0, 1) := by decide +kernel
theorem dX4_init_32 : decode cX4_init 32 = .ok (.iconst (-1), 1) := by decide +kernel
theorem dX4_init_33 : decode cX4_init 33 = .ok (.putfield 25, 3) := by decide +kernel
theorem dX4_init_36 : decode cX4_init 36 = .ok (.aload_n 0, 1) := by decide +kernel
theorem dX4_init_37 : decode cX4_init 37 = .ok (.sipush 2560, 3) := by decide +kernel
theorem dX4_init_40 : decode cX4_init 40 = .ok (.newarray .int, 2) := by decide +kernel
theorem dX4_init_42 : decode cX4_init 42 = .ok (.putfield 29, 3) := by decide +kernel
theorem dX4_init_45 : decode cX4_init 45 = .ok (.aload_n 0, 1) := by decide +kernel
theorem dX4_init_46 : decode cX4_init 46 = .ok (.iconst 5, 1) := by decide +kernel
theorem dX4_init_47 : decode cX4_init 47 = .ok (.newarray .int, 2) := by decide +kernel
theorem dX4_init_49 : decode cX4_init 49 = .ok (.putfield 32, 3) := by decide +kernel
theorem dX4_init_52 : decode cX4_init 52 = .ok (.aload_n 0, 1) := by decide +kernel
theorem dX4_init_53 : decode cX4_init 53 = .ok (.bipush 9, 2) := by decide +kernel
theorem dX4_init_55 : decode cX4_init 55 = .ok (.newarray .int, 2) := by decide +kernel
theorem dX4_init_57 : decode cX4_init 57 = .ok (.putfield 35, 3) := by decide +kernel
theorem dX4_init_60 : decode cX4_init 60 = .ok (.return_, 1) := by decide +kernel
theorem dX4_forget_0 : decode cX4_forget 0 = .ok (.aload_n 0, 1) := by decide +kernel
theorem dX4_forget_1 : decode cX4_forget 1 = .ok (.iconst (-1), 1) := by decide +kernel
theorem dX4_forget_2 : decode cX4_forget 2 = .ok (.putfield 25, 3) := by decide +kernel
theorem dX4_forget_5 : decode cX4_forget 5 = .ok (.return_, 1) := by decide +kernel
set_option maxRecDepth 20000 in
theorem ggX4_seekFirst_X8_hardWishes : GoodIn wsX4_seekFirst wsX8_hardWishes := goodIn_r _ [9, 10, 11, 12, 8, 13, 14, 15, 16, 17, 18, 153, 154] (by decide +kernel) (by decide +kernel)
set_option maxRecDepth 20000 in
theorem gX4_seekFirst_X8_hardWishes : GoodIn wsX4_seekFirst (wsV RX4 38 RX8 yX8_hardWishes wsX8_hardWishes) := goodIn_app (goodIn_of _ (by decide +kernel)) ggX4_seekFirst_X8_hardWishes
set_option maxRecDepth 20000 in
theorem ggX4_seekFirst_X7_take : GoodIn wsX4_seekFirst wsX7_take := goodIn_r _ [23, 24, 25, 26, 27, 8, 28, 14, 29, 30, 31, 22, 32, 33, 34, 35, 36, 37, 38, 39, 40, 41, 42, 43, 44, 45, 46, 47, 48, 49, 50, 51, 52, 53, 54, 55, 56, 57, 11, 12, 13, 58, 16, 17, 18, 59, 60, 61, 62, 63, 64, 65, 66, 141, 142, 143, 144, 145, 146, 147, 148, 149, 150, 151, 152, 153, 154] (by decide +kernel) (by decide +kernel)
set_option maxRecDepth 20000 in
theorem gX4_seekFirst_X7_take : GoodIn wsX4_seekFirst (wsV RX4 44 RX7 yX7_take wsX7_take) := goodIn_app (goodIn_of _ (by decide +kernel)) ggX4_seekFirst_X7_take
set_option maxRecDepth 20000 in
theorem ggX4_seekFirst_X4_isSolvable : GoodIn wsX4_seekFirst wsX4_isSolvable := goodIn_r _ [71, 1, 2, 3, 72, 73, 74, 4, 75, 76, 77, 78, 79, 80, 81, 70, 82, 83, 84, 85, 86, 87, 88, 89, 90, 91, 92, 93, 94, 95, 96, 97, 98, 99, 100, 101, 102, 103, 104, 105, 106, 107, 108, 109, 110, 111, 112, 113, 114, 115, 22, 116, 36, 24, 34, 39, 35, 40, 41, 42, 43, 44, 33, 117, 118, 119, 120, 121, 122, 123, 124, 125, 126, 127, 128, 129, 130, 131, 132, 133, 134, 135, 136, 137, 138, 139, 140, 141, 142, 143, 144, 145, 146, 147, 148, 149, 150, 151, 152] (by decide +kernel) (by decide +kernel)
set_option maxRecDepth 20000 in
theorem gX4_seekFirst_X4_isSolvable : GoodIn wsX4_seekFirst (wsV RX4 48 RX4 yX4_isSolvable wsX4_isSolvable) := goodIn_app (goodIn_of _ (by decide +kernel)) ggX4_seekFirst_X4_isSolvable
theorem dX4_seekFirst_0 : decode cX4_seekFirst 0 = .ok (.aload_n 0, 1) := by decide +kernel
theorem dX4_seekFirst_1 : decode cX4_seekFirst 1 = .ok (.getfield 12, 3) := by decide +kernel
theorem dX4_seekFirst_4 : decode cX4_seekFirst 4 = .ok (.aload_n 1, 1) := by decide +kernel
theorem dX4_seekFirst_5 : decode cX4_seekFirst 5 = .ok (.aload_n 1, 1) := by decide +kernel
theorem dX4_seekFirst_6 : decode cX4_seekFirst 6 = .ok (.invokevirtual 38, 3) := by decide +kernel
theorem dX4_seekFirst_9 : decode cX4_seekFirst 9 = .ok (.invokevirtual 44, 3) := by decide +kernel
theorem dX4_seekFirst_12 : decode cX4_seekFirst 12 = .ok (.aload_n 0, 1) := by decide +kernel
theorem dX4_seekFirst_13 : decode cX4_seekFirst 13 = .ok (.invokevirtual 48, 3) := by decide +kernel
theorem dX4_seekFirst_16 : decode cX4_seekFirst 16 = .ok (.ifCond .ne 5, 3) := by decide +kernel
theorem dX4_seekFirst_19 : decode cX4_seekFirst 19 = .ok (.iconst 0, 1) := by decide +kernel
theorem dX4_seekFirst_20 : decode cX4_seekFirst 20 = .ok (.ireturn, 1) := by decide +kernel
theorem dX4_seekFirst_21 : decode cX4_seekFirst 21 = .ok (.iconst 0, 1) := by decide +kernel
theorem dX4_seekFirst_22 : decode cX4_seekFirst 22 = .ok (.istore_n 2, 1) := by decide +kernel
theorem dX4_seekFirst_23 : decode cX4_seekFirst 23 = .ok (.iload_n 2, 1) := by decide +kernel
theorem dX4_seekFirst_24 : decode cX4_seekFirst 24 = .ok (.aload_n 0, 1) := by decide +kernel
theorem dX4_seekFirst_25 : decode cX4_seekFirst 25 = .ok (.getfield 12, 3) := by decide +kernel
theorem dX4_seekFirst_28 : decode cX4_seekFirst 28 = .ok (.getfield 52, 3) := by decide +kernel
theorem dX4_seekFirst_31 : decode cX4_seekFirst 31 = .ok (.if_icmp .ge 87, 3) := by decide +kernel
theorem dX4_seekFirst_34 : decode cX4_seekFirst 34 = .ok (.aload_n 0, 1) := by decide +kernel
theorem dX4_seekFirst_35 : decode cX4_seekFirst 35 = .ok (.getfield 12, 3) := by decide +kernel
theorem dX4_seekFirst_38 : decode cX4_seekFirst 38 = .ok (.getfield 55, 3) := by decide +kernel
theorem dX4_seekFirst_41 : decode cX4_seekFirst 41 = .ok (.iload_n 2, 1) := by decide +kernel
theorem dX4_seekFirst_42 : decode cX4_seekFirst 42 = .ok (.iaload, 1) := by decide +kernel
theorem dX4_seekFirst_43 : decode cX4_seekFirst 43 = .ok (.istore_n 3, 1) := by decide +kernel
theorem dX4_seekFirst_44 : decode cX4_seekFirst 44 = .ok (.iconst 1, 1) := by decide +kernel
theorem dX4_seekFirst_45 : decode cX4_seekFirst 45 = .ok (.istore 4, 2) := by decide +kernel
theorem dX4_seekFirst_47 : decode cX4_seekFirst 47 = .ok (.iconst 0, 1) := by decide +kernel
theorem dX4_seekFirst_48 : decode cX4_seekFirst 48 = .ok (.istore 5, 2) := by decide +kernel
theorem dX4_seekFirst_50 : decode cX4_seekFirst 50 = .ok (.iload 5, 2) := by decide +kernel
theorem dX4_seekFirst_52 : decode cX4_seekFirst 52 = .ok (.bipush 20, 2) := by decide +kernel
theorem dX4_seekFirst_54 : decode cX4_seekFirst 54 = .ok (.if_icmp .ge 41, 3) := by decide +kernel
theorem dX4_seekFirst_57 : decode cX4_seekFirst 57 = .ok (.iload 4, 2) := by decide +kernel
theorem dX4_seekFirst_59 : decode cX4_seekFirst 59 = .ok (.ifCond .eq 36, 3) := by decide +kernel
theorem dX4_seekFirst_62 : decode cX4_seekFirst 62 = .ok (.aload_n 0, 1) := by decide +kernel
theorem dX4_seekFirst_63 : decode cX4_seekFirst 63 = .ok (.getfield 12, 3) := by decide +kernel
theorem dX4_seekFirst_66 : decode cX4_seekFirst 66 = .ok (.getfield 55, 3) := by decide +kernel
theorem dX4_seekFirst_69 : decode cX4_seekFirst 69 = .ok (.iload_n 2, 1) := by decide +kernel
theorem dX4_seekFirst_70 : decode cX4_seekFirst 70 = .ok (.iload_n 3, 1) := by decide +kernel
theorem dX4_seekFirst_71 : decode cX4_seekFirst 71 = .ok (.iconst 1, 1) := by decide +kernel
theorem dX4_seekFirst_72 : decode cX4_seekFirst 72 = .ok (.aload_n 0, 1) := by decide +kernel
theorem dX4_seekFirst_73 : decode cX4_seekFirst 73 = .ok (.getfield 18, 3) := by decide +kernel
theorem dX4_seekFirst_76 : decode cX4_seekFirst 76 = .ok (.iload_n 2, 1) := by decide +kernel
theorem dX4_seekFirst_77 : decode cX4_seekFirst 77 = .ok (.iaload, 1) := by decide +kernel
theorem dX4_seekFirst_78 : decode cX4_seekFirst 78 = .ok (.ishl, 1) := by decide +kernel
theorem dX4_seekFirst_79 : decode cX4_seekFirst 79 = .ok (.iconst 1, 1) := by decide +kernel
theorem dX4_seekFirst_80 : decode cX4_seekFirst 80 = .ok (.isub, 1) := by decide +kernel
theorem dX4_seekFirst_81 : decode cX4_seekFirst 81 = .ok (.iand, 1) := by decide +kernel
theorem dX4_seekFirst_82 : decode cX4_seekFirst 82 = .ok (.iastore, 1) := by decide +kernel
theorem dX4_seekFirst_83 : decode cX4_seekFirst 83 = .ok (.aload_n 0, 1) := by decide +kernel
theorem dX4_seekFirst_84 : decode cX4_seekFirst 84 = .ok (.invokevirtual 48, 3) := by decide +kernel
theorem dX4_seekFirst_87 : decode cX4_seekFirst 87 = .ok (.istore 4, 2) := by decide +kernel
theorem dX4_seekFirst_89 : decode cX4_seekFirst 89 = .ok (.iinc 5 1, 3) := by decide +kernel
theorem dX4_seekFirst_92 : decode cX4_seekFirst 92 = .ok (.goto (-42), 3) := by decide +kernel
theorem dX4_seekFirst_95 : decode cX4_seekFirst 95 = .ok (.aload_n 0, 1) := by decide +kernel
theorem dX4_seekFirst_96 : decode cX4_seekFirst 96 = .ok (.getfield 12, 3) := by decide +kernel
theorem dX4_seekFirst_99 : decode cX4_seekFirst 99 = .ok (.getfield 55, 3) := by decide +kernel
theorem dX4_seekFirst_102 : decode cX4_seekFirst 102 = .ok (.iload_n 2, 1) := by decide +kernel
theorem dX4_seekFirst_103 : decode cX4_seekFirst 103 = .ok (.iconst 1, 1) := by decide +kernel
theorem dX4_seekFirst_104 : decode cX4_seekFirst 104 = .ok (.aload_n 0, 1) := by decide +kernel
theorem dX4_seekFirst_105 : decode cX4_seekFirst 105 = .ok (.getfield 18, 3) := by decide +kernel
theorem dX4_seekFirst_108 : decode cX4_seekFirst 108 = .ok (.iload_n 2, 1) := by decide +kernel
theorem dX4_seekFirst_109 : decode cX4_seekFirst 109 = .ok (.iaload, 1) := by decide +kernel
theorem dX4_seekFirst_110 : decode cX4_seekFirst 110 = .ok (.ishl, 1) := by decide +kernel
theorem dX4_seekFirst_111 : decode cX4_seekFirst 111 = .ok (.iastore, 1) := by decide +kernel
theorem dX4_seekFirst_112 : decode cX4_seekFirst 112 = .ok (.iinc 2 1, 3) := by decide +kernel
theorem dX4_seekFirst_115 : decode cX4_seekFirst 115 = .ok (.goto (-92), 3) := by decide +kernel
theorem dX4_seekFirst_118 : decode cX4_seekFirst 118 = .ok (.iconst 1, 1) := by decide +kernel
theorem dX4_seekFirst_119 : decode cX4_seekFirst 119 = .ok (.ireturn, 1) := by decide +kernel
set_option maxRecDepth 20000 in
theorem ggX4_seekProof_X8_hardWishes : GoodIn wsX4_seekProof wsX8_hardWishes := goodIn_r _ [8, 9, 10, 11, 7, 12, 13, 14, 15, 16, 17, 144, 145] (by decide +kernel) (by decide +kernel)
set_option maxRecDepth 20000 in
theorem gX4_seekProof_X8_hardWishes : GoodIn wsX4_seekProof (wsV RX4 38 RX8 yX8_hardWishes wsX8_hardWishes) := goodIn_app (goodIn_of _ (by decide +kernel)) ggX4_seekProof_X8_hardWishes
set_option maxRecDepth 20000 in
theorem ggX4_seekProof_X8_wishTotal : GoodIn wsX4_seekProof wsX8_wishTotal := goodIn_r _ [12, 13, 144, 145] (by decide +kernel) (by decide +kernel)
set_option maxRecDepth 20000 in
theorem gX4_seekProof_X8_wishTotal : GoodIn wsX4_seekProof (wsV RX4 58 RX8 yX8_wishTotal wsX8_wishTotal) := goodIn_app (goodIn_of _ (by decide +kernel)) ggX4_seekProof_X8_wishTotal
set_option maxRecDepth 20000 in
theorem ggX4_seekProof_X7_take : GoodIn wsX4_seekProof wsX7_take := goodIn_r _ [23, 24, 25, 26, 27, 7, 28, 13, 29, 30, 31, 22, 32, 33, 34, 35, 36, 37, 38, 39, 40, 41, 42, 43, 44, 45, 46, 47, 48, 49, 50, 51, 52, 53, 54, 55, 56, 57, 10, 11, 12, 58, 15, 16, 17, 59, 60, 61, 62, 63, 64, 65, 66, 146, 147, 148, 149, 150, 151, 152, 153, 154, 155, 156, 157, 144, 145] (by decide +kernel) (by decide +kernel)
set_option maxRecDepth 20000 in
theorem gX4_seekProof_X7_take : GoodIn wsX4_seekProof (wsV RX4 44 RX7 yX7_take wsX7_take) := goodIn_app (goodIn_of _ (by decide +kernel)) ggX4_seekProof_X7_take
set_option maxRecDepth 20000 in
theorem ggX4_seekProof_X4_isSolvable : GoodIn wsX4_seekProof wsX4_isSolvable := goodIn_r _ [71, 1, 72, 73, 74, 75, 76, 77, 78, 79, 80, 81, 82, 83, 84, 70, 85, 86, 87, 88, 89, 90, 91, 92, 93, 94, 95, 96, 97, 98, 99, 100, 101, 102, 103, 104, 105, 106, 107, 108, 109, 110, 111, 112, 113, 114, 115, 116, 117, 118, 22, 119, 36, 24, 34, 39, 35, 40, 41, 42, 43, 44, 33, 120, 121, 122, 123, 124, 125, 126, 127, 128, 129, 130, 131, 132, 133, 134, 135, 136, 137, 138, 139, 140, 141, 142, 143, 146, 147, 148, 149, 150, 151, 152, 153, 154, 155, 156, 157] (by decide +kernel) (by decide +kernel)
set_option maxRecDepth 20000 in
theorem gX4_seekProof_X4_isSolvable : GoodIn wsX4_seekProof (wsV RX4 48 RX4 yX4_isSolvable wsX4_isSolvable) := goodIn_app (goodIn_of _ (by decide +kernel)) ggX4_seekProof_X4_isSolvable
theorem dX4_seekProof_0 : decode cX4_seekProof 0 = .ok (.aload_n 1, 1) := by decide +kernel
theorem dX4_seekProof_1 : decode cX4_seekProof 1 = .ok (.invokevirtual 38, 3) := by decide +kernel
theorem dX4_seekProof_4 : decode cX4_seekProof 4 = .ok (.istore_n 2, 1) := by decide +kernel
theorem dX4_seekProof_5 : decode cX4_seekProof 5 = .ok (.iconst 0, 1) := by decide +kernel
theorem dX4_seekProof_6 : decode cX4_seekProof 6 = .ok (.istore_n 3, 1) := by decide +kernel
theorem dX4_seekProof_7 : decode cX4_seekProof 7 = .ok (.iload_n 3, 1) := by decide +kernel
theorem dX4_seekProof_8 : decode cX4_seekProof 8 = .ok (.aload_n 1, 1) := by decide +kernel
theorem dX4_seekProof_9 : decode cX4_seekProof 9 = .ok (.invokevirtual 58, 3) := by decide +kernel
theorem dX4_seekProof_12 : decode cX4_seekProof 12 = .ok (.if_icmp .ge 51, 3) := by decide +kernel
theorem dX4_seekProof_15 : decode cX4_seekProof 15 = .ok (.iload_n 2, 1) := by decide +kernel
theorem dX4_seekProof_16 : decode cX4_seekProof 16 = .ok (.iload_n 3, 1) := by decide +kernel
theorem dX4_seekProof_17 : decode cX4_seekProof 17 = .ok (.ishr, 1) := by decide +kernel
theorem dX4_seekProof_18 : decode cX4_seekProof 18 = .ok (.iconst 1, 1) := by decide +kernel
theorem dX4_seekProof_19 : decode cX4_seekProof 19 = .ok (.iand, 1) := by decide +kernel
theorem dX4_seekProof_20 : decode cX4_seekProof 20 = .ok (.ifCond .eq 37, 3) := by decide +kernel
theorem dX4_seekProof_23 : decode cX4_seekProof 23 = .ok (.aload_n 0, 1) := by decide +kernel
theorem dX4_seekProof_24 : decode cX4_seekProof 24 = .ok (.getfield 12, 3) := by decide +kernel
theorem dX4_seekProof_27 : decode cX4_seekProof 27 = .ok (.aload_n 1, 1) := by decide +kernel
theorem dX4_seekProof_28 : decode cX4_seekProof 28 = .ok (.iload_n 2, 1) := by decide +kernel
theorem dX4_seekProof_29 : decode cX4_seekProof 29 = .ok (.iconst 1, 1) := by decide +kernel
theorem dX4_seekProof_30 : decode cX4_seekProof 30 = .ok (.iload_n 3, 1) := by decide +kernel
theorem dX4_seekProof_31 : decode cX4_seekProof 31 = .ok (.ishl, 1) := by decide +kernel
theorem dX4_seekProof_32 : decode cX4_seekProof 32 = .ok (.iconst (-1), 1) := by decide +kernel
theorem dX4_seekProof_33 : decode cX4_seekProof 33 = .ok (.ixor, 1) := by decide +kernel
theorem dX4_seekProof_34 : decode cX4_seekProof 34 = .ok (.iand, 1) := by decide +kernel
theorem dX4_seekProof_35 : decode cX4_seekProof 35 = .ok (.invokevirtual 44, 3) := by decide +kernel
theorem dX4_seekProof_38 : decode cX4_seekProof 38 = .ok (.aload_n 0, 1) := by decide +kernel
theorem dX4_seekProof_39 : decode cX4_seekProof 39 = .ok (.invokevirtual 48, 3) := by decide +kernel
theorem dX4_seekProof_42 : decode cX4_seekProof 42 = .ok (.ifCond .eq 7, 3) := by decide +kernel
theorem dX4_seekProof_45 : decode cX4_seekProof 45 = .ok (.iload_n 2, 1) := by decide +kernel
theorem dX4_seekProof_46 : decode cX4_seekProof 46 = .ok (.goto 10, 3) := by decide +kernel
theorem dX4_seekProof_49 : decode cX4_seekProof 49 = .ok (.iload_n 2, 1) := by decide +kernel
theorem dX4_seekProof_50 : decode cX4_seekProof 50 = .ok (.iconst 1, 1) := by decide +kernel
theorem dX4_seekProof_51 : decode cX4_seekProof 51 = .ok (.iload_n 3, 1) := by decide +kernel
theorem dX4_seekProof_52 : decode cX4_seekProof 52 = .ok (.ishl, 1) := by decide +kernel
theorem dX4_seekProof_53 : decode cX4_seekProof 53 = .ok (.iconst (-1), 1) := by decide +kernel
theorem dX4_seekProof_54 : decode cX4_seekProof 54 = .ok (.ixor, 1) := by decide +kernel
theorem dX4_seekProof_55 : decode cX4_seekProof 55 = .ok (.iand, 1) := by decide +kernel
theorem dX4_seekProof_56 : decode cX4_seekProof 56 = .ok (.istore_n 2, 1) := by decide +kernel
theorem dX4_seekProof_57 : decode cX4_seekProof 57 = .ok (.iinc 3 1, 3) := by decide +kernel
theorem dX4_seekProof_60 : decode cX4_seekProof 60 = .ok (.goto (-53), 3) := by decide +kernel
theorem dX4_seekProof_63 : decode cX4_seekProof 63 = .ok (.aload_n 0, 1) := by decide +kernel
theorem dX4_seekProof_64 : decode cX4_seekProof 64 = .ok (.iconst 0, 1) := by decide +kernel
theorem dX4_seekProof_65 : decode cX4_seekProof 65 = .ok (.putfield 25, 3) := by decide +kernel
theorem dX4_seekProof_68 : decode cX4_seekProof 68 = .ok (.iconst 0, 1) := by decide +kernel
theorem dX4_seekProof_69 : decode cX4_seekProof 69 = .ok (.istore_n 3, 1) := by decide +kernel
theorem dX4_seekProof_70 : decode cX4_seekProof 70 = .ok (.iload_n 3, 1) := by decide +kernel
theorem dX4_seekProof_71 : decode cX4_seekProof 71 = .ok (.aload_n 1, 1) := by decide +kernel
theorem dX4_seekProof_72 : decode cX4_seekProof 72 = .ok (.invokevirtual 58, 3) := by decide +kernel
theorem dX4_seekProof_75 : decode cX4_seekProof 75 = .ok (.if_icmp .ge 37, 3) := by decide +kernel
theorem dX4_seekProof_78 : decode cX4_seekProof 78 = .ok (.iload_n 2, 1) := by decide +kernel
theorem dX4_seekProof_79 : decode cX4_seekProof 79 = .ok (.iload_n 3, 1) := by decide +kernel
theorem dX4_seekProof_80 : decode cX4_seekProof 80 = .ok (.ishr, 1) := by decide +kernel
theorem dX4_seekProof_81 : decode cX4_seekProof 81 = .ok (.iconst 1, 1) := by decide +kernel
theorem dX4_seekProof_82 : decode cX4_seekProof 82 = .ok (.iand, 1) := by decide +kernel
theorem dX4_seekProof_83 : decode cX4_seekProof 83 = .ok (.ifCond .eq 23, 3) := by decide +kernel
theorem dX4_seekProof_86 : decode cX4_seekProof 86 = .ok (.aload_n 0, 1) := by decide +kernel
theorem dX4_seekProof_87 : decode cX4_seekProof 87 = .ok (.getfield 22, 3) := by decide +kernel
theorem dX4_seekProof_90 : decode cX4_seekProof 90 = .ok (.aload_n 0, 1) := by decide +kernel
theorem dX4_seekProof_91 : decode cX4_seekProof 91 = .ok (.getfield 25, 3) := by decide +kernel
theorem dX4_seekProof_94 : decode cX4_seekProof 94 = .ok (.iload_n 3, 1) := by decide +kernel
theorem dX4_seekProof_95 : decode cX4_seekProof 95 = .ok (.iastore, 1) := by decide +kernel
theorem dX4_seekProof_96 : decode cX4_seekProof 96 = .ok (.aload_n 0, 1) := by decide +kernel
theorem dX4_seekProof_97 : decode cX4_seekProof 97 = .ok (.dup, 1) := by decide +kernel
theorem dX4_seekProof_98 : decode cX4_seekProof 98 = .ok (.getfield 25, 3) := by decide +kernel
theorem dX4_seekProof_101 : decode cX4_seekProof 101 = .ok (.iconst 1, 1) := by decide +kernel
theorem dX4_seekProof_102 : decode cX4_seekProof 102 = .ok (.iadd, 1) := by decide +kernel
theorem dX4_seekProof_103 : decode cX4_seekProof 103 = .ok (.putfield 25, 3) := by decide +kernel
theorem dX4_seekProof_106 : decode cX4_seekProof 106 = .ok (.iinc 3 1, 3) := by decide +kernel
theorem dX4_seekProof_109 : decode cX4_seekProof 109 = .ok (.goto (-39), 3) := by decide +kernel
theorem dX4_seekProof_112 : decode cX4_seekProof 112 = .ok (.return_, 1) := by decide +kernel
set_option maxRecDepth 20000 in
theorem ggX4_isSolvable_X4_canChoose : GoodIn wsX4_isSolvable wsX4_canChoose := goodIn_r _ [16, 1, 2, 6, 17, 18, 19, 15, 20, 21, 22, 23, 3, 24, 25, 26, 27, 28, 29, 30, 31, 32, 33, 34, 35, 36, 37, 38, 5, 39, 40, 41, 42, 43, 4, 44, 45, 46, 47, 48, 49, 50, 51, 52, 53, 54, 55, 56, 57, 58, 59, 60, 61, 62, 63, 64, 65, 66, 67, 68, 69, 70, 71, 72, 73, 74, 75, 76, 77, 12, 13, 14, 78, 79, 80, 81, 82, 83, 84, 85, 86, 87, 88, 89, 90, 91, 92, 93, 94, 95, 96, 97, 98] (by decide +kernel) (by decide +kernel)
set_option maxRecDepth 20000 in
theorem gX4_isSolvable_X4_canChoose : GoodIn wsX4_isSolvable (wsV RX4 64 RX4 yX4_canChoose wsX4_canChoose) := goodIn_app (goodIn_of _ (by decide +kernel)) ggX4_isSolvable_X4_canChoose
set_option maxRecDepth 20000 in
theorem ggX4_isSolvable_X4_canStand : GoodIn wsX4_isSolvable wsX4_canStand := goodIn_r _ [46, 2, 47, 48, 49, 50, 51, 52, 53, 54, 55, 56, 57, 58, 59, 60, 61, 62, 63, 64, 65, 66, 67, 68, 69, 44, 45, 15, 87, 88, 89, 90, 91, 92, 93, 94, 95, 96, 97, 98] (by decide +kernel) (by decide +kernel)
set_option maxRecDepth 20000 in
theorem gX4_isSolvable_X4_canStand : GoodIn wsX4_isSolvable (va_wsS RX4 68 yX4_canStand wsX4_canStand) := goodIn_app (goodIn_of _ (by decide +kernel)) ggX4_isSolvable_X4_canStand
theorem dX4_isSolvable_0 : decode cX4_isSolvable 0 = .ok (.iconst 0, 1) := by decide +kernel
theorem dX4_isSolvable_1 : decode cX4_isSolvable 1 = .ok (.istore_n 1, 1) := by decide +kernel
theorem dX4_isSolvable_2 : decode cX4_isSolvable 2 = .ok (.iload_n 1, 1) := by decide +kernel
theorem dX4_isSolvable_3 : decode cX4_isSolvable 3 = .ok (.aload_n 0, 1) := by decide +kernel
theorem dX4_isSolvable_4 : decode cX4_isSolvable 4 = .ok (.getfield 12, 3) := by decide +kernel
theorem dX4_isSolvable_7 : decode cX4_isSolvable 7 = .ok (.getfield 52, 3) := by decide +kernel
theorem dX4_isSolvable_10 : decode cX4_isSolvable 10 = .ok (.if_icmp .ge 23, 3) := by decide +kernel
theorem dX4_isSolvable_13 : decode cX4_isSolvable 13 = .ok (.aload_n 0, 1) := by decide +kernel
theorem dX4_isSolvable_14 : decode cX4_isSolvable 14 = .ok (.getfield 12, 3) := by decide +kernel
theorem dX4_isSolvable_17 : decode cX4_isSolvable 17 = .ok (.getfield 55, 3) := by decide +kernel
theorem dX4_isSolvable_20 : decode cX4_isSolvable 20 = .ok (.iload_n 1, 1) := by decide +kernel
theorem dX4_isSolvable_21 : decode cX4_isSolvable 21 = .ok (.iaload, 1) := by decide +kernel
theorem dX4_isSolvable_22 : decode cX4_isSolvable 22 = .ok (.ifCond .ne 5, 3) := by decide +kernel
theorem dX4_isSolvable_25 : decode cX4_isSolvable 25 = .ok (.iconst 0, 1) := by decide +kernel
theorem dX4_isSolvable_26 : decode cX4_isSolvable 26 = .ok (.ireturn, 1) := by decide +kernel
theorem dX4_isSolvable_27 : decode cX4_isSolvable 27 = .ok (.iinc 1 1, 3) := by decide +kernel
theorem dX4_isSolvable_30 : decode cX4_isSolvable 30 = .ok (.goto (-28), 3) := by decide +kernel
theorem dX4_isSolvable_33 : decode cX4_isSolvable 33 = .ok (.aload_n 0, 1) := by decide +kernel
theorem dX4_isSolvable_34 : decode cX4_isSolvable 34 = .ok (.dup, 1) := by decide +kernel
theorem dX4_isSolvable_35 : decode cX4_isSolvable 35 = .ok (.getfield 61, 3) := by decide +kernel
theorem dX4_isSolvable_38 : decode cX4_isSolvable 38 = .ok (.iconst 1, 1) := by decide +kernel
theorem dX4_isSolvable_39 : decode cX4_isSolvable 39 = .ok (.iadd, 1) := by decide +kernel
theorem dX4_isSolvable_40 : decode cX4_isSolvable 40 = .ok (.putfield 61, 3) := by decide +kernel
theorem dX4_isSolvable_43 : decode cX4_isSolvable 43 = .ok (.aload_n 0, 1) := by decide +kernel
theorem dX4_isSolvable_44 : decode cX4_isSolvable 44 = .ok (.iconst 0, 1) := by decide +kernel
theorem dX4_isSolvable_45 : decode cX4_isSolvable 45 = .ok (.iconst 0, 1) := by decide +kernel
theorem dX4_isSolvable_46 : decode cX4_isSolvable 46 = .ok (.iconst 0, 1) := by decide +kernel
theorem dX4_isSolvable_47 : decode cX4_isSolvable 47 = .ok (.iconst 0, 1) := by decide +kernel
theorem dX4_isSolvable_48 : decode cX4_isSolvable 48 = .ok (.invokevirtual 64, 3) := by decide +kernel
theorem dX4_isSolvable_51 : decode cX4_isSolvable 51 = .ok (.ifCond .ne 5, 3) := by decide +kernel
theorem dX4_isSolvable_54 : decode cX4_isSolvable 54 = .ok (.iconst 0, 1) := by decide +kernel
theorem dX4_isSolvable_55 : decode cX4_isSolvable 55 = .ok (.ireturn, 1) := by decide +kernel
theorem dX4_isSolvable_56 : decode cX4_isSolvable 56 = .ok (.iconst 0, 1) := by decide +kernel
theorem dX4_isSolvable_57 : decode cX4_isSolvable 57 = .ok (.istore_n 1, 1) := by decide +kernel
theorem dX4_isSolvable_58 : decode cX4_isSolvable 58 = .ok (.iload_n 1, 1) := by decide +kernel
theorem dX4_isSolvable_59 : decode cX4_isSolvable 59 = .ok (.iconst 5, 1) := by decide +kernel
theorem dX4_isSolvable_60 : decode cX4_isSolvable 60 = .ok (.if_icmp .ge 29, 3) := by decide +kernel
theorem dX4_isSolvable_63 : decode cX4_isSolvable 63 = .ok (.aload_n 0, 1) := by decide +kernel
theorem dX4_isSolvable_64 : decode cX4_isSolvable 64 = .ok (.getfield 12, 3) := by decide +kernel
theorem dX4_isSolvable_67 : decode cX4_isSolvable 67 = .ok (.aload_n 0, 1) := by decide +kernel
theorem dX4_isSolvable_68 : decode cX4_isSolvable 68 = .ok (.getfield 35, 3) := by decide +kernel
theorem dX4_isSolvable_71 : decode cX4_isSolvable 71 = .ok (.iload_n 1, 1) := by decide +kernel
theorem dX4_isSolvable_72 : decode cX4_isSolvable 72 = .ok (.aload_n 0, 1) := by decide +kernel
theorem dX4_isSolvable_73 : decode cX4_isSolvable 73 = .ok (.getfield 32, 3) := by decide +kernel
theorem dX4_isSolvable_76 : decode cX4_isSolvable 76 = .ok (.iload_n 1, 1) := by decide +kernel
theorem dX4_isSolvable_77 : decode cX4_isSolvable 77 = .ok (.iaload, 1) := by decide +kernel
theorem dX4_isSolvable_78 : decode cX4_isSolvable 78 = .ok (.iconst 0, 1) := by decide +kernel
theorem dX4_isSolvable_79 : decode cX4_isSolvable 79 = .ok (.invokestatic 68, 3) := by decide +kernel
theorem dX4_isSolvable_82 : decode cX4_isSolvable 82 = .ok (.pop, 1) := by decide +kernel
theorem dX4_isSolvable_83 : decode cX4_isSolvable 83 = .ok (.iinc 1 1, 3) := by decide +kernel
theorem dX4_isSolvable_86 : decode cX4_isSolvable 86 = .ok (.goto (-28), 3) := by decide +kernel
theorem dX4_isSolvable_89 : decode cX4_isSolvable 89 = .ok (.aload_n 0, 1) := by decide +kernel
theorem dX4_isSolvable_90 : decode cX4_isSolvable 90 = .ok (.getfield 35, 3) := by decide +kernel
theorem dX4_isSolvable_93 : decode cX4_isSolvable 93 = .ok (.iconst 0, 1) := by decide +kernel
theorem dX4_isSolvable_94 : decode cX4_isSolvable 94 = .ok (.aload_n 0, 1) := by decide +kernel
theorem dX4_isSolvable_95 : decode cX4_isSolvable 95 = .ok (.getfield 18, 3) := by decide +kernel
theorem dX4_isSolvable_98 : decode cX4_isSolvable 98 = .ok (.iconst 0, 1) := by decide +kernel
theorem dX4_isSolvable_99 : decode cX4_isSolvable 99 = .ok (.bipush 9, 2) := by decide +kernel
theorem dX4_isSolvable_101 : decode cX4_isSolvable 101 = .ok (.invokestatic 72, 3) := by decide +kernel
theorem dX4_isSolvable_104 : decode cX4_isSolvable 104 = .ok (.iconst 1, 1) := by decide +kernel
theorem dX4_isSolvable_105 : decode cX4_isSolvable 105 = .ok (.ireturn, 1) := by decide +kernel
set_option maxRecDepth 20000 in
theorem ggX4_canChoose_X4_canTakeIn : GoodIn wsX4_canChoose wsX4_canTakeIn := goodIn_r _ [72, 19, 20, 21, 7, 22, 1, 23, 14, 12, 24, 25, 26, 27, 2, 28, 29, 30, 31, 32, 33, 34, 35, 36, 37, 38, 39, 40, 41, 42, 43, 44, 45, 46, 47, 48, 49, 50, 51, 52, 53, 54, 55, 56, 57, 58, 59, 60, 61, 62, 63, 64, 69, 70, 71, 0, 3, 4, 5, 6, 8, 9, 10, 11, 13, 15, 16, 17, 18, 65, 66, 67, 68, 73, 74, 75, 76, 77, 78, 79, 80, 81, 82, 83, 84, 85, 86, 87, 88, 89, 90, 91, 92] (by decide +kernel) (by decide +kernel)
set_option maxRecDepth 20000 in
theorem gX4_canChoose_X4_canTakeIn : GoodIn wsX4_canChoose (wsV RX4 78 RX4 yX4_canTakeIn wsX4_canTakeIn) := goodIn_app (goodIn_of _ (by decide +kernel)) ggX4_canChoose_X4_canTakeIn
set_option maxRecDepth 20000 in
theorem ggX4_canChoose_X4_mustJoin : GoodIn wsX4_canChoose wsX4_mustJoin := goodIn_r _ [11, 1, 12, 13, 14, 73, 74, 75, 76, 77, 78, 79, 80, 81, 82, 83, 84, 85, 86, 87, 88, 89, 90, 91, 92] (by decide +kernel) (by decide +kernel)
set_option maxRecDepth 20000 in
theorem gX4_canChoose_X4_mustJoin : GoodIn wsX4_canChoose (wsV RX4 81 RX4 yX4_mustJoin wsX4_mustJoin) := goodIn_app (goodIn_of _ (by decide +kernel)) ggX4_canChoose_X4_mustJoin
set_option maxRecDepth 20000 in
theorem ggX4_canChoose_X4_canTakeMore : GoodIn wsX4_canChoose wsX4_canTakeMore := goodIn_r _ [18, 1, 2, 19, 20, 21, 7, 22, 23, 14, 12, 24, 25, 26, 27, 28, 29, 30, 31, 32, 33, 34, 35, 36, 37, 38, 39, 40, 41, 42, 43, 44, 45, 46, 47, 48, 49, 50, 51, 52, 53, 54, 55, 56, 57, 58, 59, 60, 61, 62, 63, 64, 73, 74, 75, 76, 77, 78, 79, 80, 81, 82, 83, 84, 85, 86, 87, 88, 89, 90, 91, 92] (by decide +kernel) (by decide +kernel)
set_option maxRecDepth 20000 in
theorem gX4_canChoose_X4_canTakeMore : GoodIn wsX4_canChoose (wsV RX4 85 RX4 yX4_canTakeMore wsX4_canTakeMore) := goodIn_app (goodIn_of _ (by decide +kernel)) ggX4_canChoose_X4_canTakeMore
set_option maxRecDepth 20000 in
theorem ggX4_canChoose_X4_canGoOn : GoodIn wsX4_canChoose wsX4_canGoOn := goodIn_r _ [68, 1, 2, 29, 30, 31, 7, 32, 33, 34, 69, 70, 71, 61, 62, 63, 64, 0, 3, 4, 5, 6, 8, 9, 10, 11, 12, 13, 14, 15, 16, 17, 18, 19, 20, 21, 22, 23, 24, 25, 26, 27, 28, 35, 36, 37, 38, 39, 40, 41, 42, 43, 44, 45, 46, 47, 48, 49, 50, 51, 52, 53, 54, 55, 56, 57, 58, 59, 60, 65, 66, 67, 72, 73, 74, 75, 76, 77, 78, 79, 80, 81, 82, 83, 84, 85, 86, 87, 88, 89, 90, 91, 92] (by decide +kernel) (by decide +kernel)
set_option maxRecDepth 20000 in
theorem gX4_canChoose_X4_canGoOn : GoodIn wsX4_canChoose (wsV RX4 88 RX4 yX4_canGoOn wsX4_canGoOn) := goodIn_app (goodIn_of _ (by decide +kernel)) ggX4_canChoose_X4_canGoOn
theorem dX4_canChoose_0 : decode cX4_canChoose 0 = .ok (.iload_n 2, 1) := by decide +kernel
theorem dX4_canChoose_1 : decode cX4_canChoose 1 = .ok (.istore 5, 2) := by decide +kernel
theorem dX4_canChoose_3 : decode cX4_canChoose 3 = .ok (.iload 5, 2) := by decide +kernel
theorem dX4_canChoose_5 : decode cX4_canChoose 5 = .ok (.aload_n 0, 1) := by decide +kernel
theorem dX4_canChoose_6 : decode cX4_canChoose 6 = .ok (.getfield 12, 3) := by decide +kernel
theorem dX4_canChoose_9 : decode cX4_canChoose 9 = .ok (.getfield 52, 3) := by decide +kernel
theorem dX4_canChoose_12 : decode cX4_canChoose 12 = .ok (.if_icmp .ge 47, 3) := by decide +kernel
theorem dX4_canChoose_15 : decode cX4_canChoose 15 = .ok (.iload 4, 2) := by decide +kernel
theorem dX4_canChoose_17 : decode cX4_canChoose 17 = .ok (.iload 5, 2) := by decide +kernel
theorem dX4_canChoose_19 : decode cX4_canChoose 19 = .ok (.ishr, 1) := by decide +kernel
theorem dX4_canChoose_20 : decode cX4_canChoose 20 = .ok (.iconst 1, 1) := by decide +kernel
theorem dX4_canChoose_21 : decode cX4_canChoose 21 = .ok (.iand, 1) := by decide +kernel
theorem dX4_canChoose_22 : decode cX4_canChoose 22 = .ok (.ifCond .ne 31, 3) := by decide +kernel
theorem dX4_canChoose_25 : decode cX4_canChoose 25 = .ok (.aload_n 0, 1) := by decide +kernel
theorem dX4_canChoose_26 : decode cX4_canChoose 26 = .ok (.iload_n 1, 1) := by decide +kernel
theorem dX4_canChoose_27 : decode cX4_canChoose 27 = .ok (.iload 5, 2) := by decide +kernel
theorem dX4_canChoose_29 : decode cX4_canChoose 29 = .ok (.iload_n 3, 1) := by decide +kernel
theorem dX4_canChoose_30 : decode cX4_canChoose 30 = .ok (.iload 4, 2) := by decide +kernel
theorem dX4_canChoose_32 : decode cX4_canChoose 32 = .ok (.invokevirtual 78, 3) := by decide +kernel
theorem dX4_canChoose_35 : decode cX4_canChoose 35 = .ok (.ifCond .eq 5, 3) := by decide +kernel
theorem dX4_canChoose_38 : decode cX4_canChoose 38 = .ok (.iconst 1, 1) := by decide +kernel
theorem dX4_canChoose_39 : decode cX4_canChoose 39 = .ok (.ireturn, 1) := by decide +kernel
theorem dX4_canChoose_40 : decode cX4_canChoose 40 = .ok (.aload_n 0, 1) := by decide +kernel
theorem dX4_canChoose_41 : decode cX4_canChoose 41 = .ok (.iload_n 1, 1) := by decide +kernel
theorem dX4_canChoose_42 : decode cX4_canChoose 42 = .ok (.iload 5, 2) := by decide +kernel
theorem dX4_canChoose_44 : decode cX4_canChoose 44 = .ok (.iload_n 3, 1) := by decide +kernel
theorem dX4_canChoose_45 : decode cX4_canChoose 45 = .ok (.invokevirtual 81, 3) := by decide +kernel
theorem dX4_canChoose_48 : decode cX4_canChoose 48 = .ok (.ifCond .eq 5, 3) := by decide +kernel
theorem dX4_canChoose_51 : decode cX4_canChoose 51 = .ok (.iconst 0, 1) := by decide +kernel
theorem dX4_canChoose_52 : decode cX4_canChoose 52 = .ok (.ireturn, 1) := by decide +kernel
theorem dX4_canChoose_53 : decode cX4_canChoose 53 = .ok (.iinc 5 1, 3) := by decide +kernel
theorem dX4_canChoose_56 : decode cX4_canChoose 56 = .ok (.goto (-53), 3) := by decide +kernel
theorem dX4_canChoose_59 : decode cX4_canChoose 59 = .ok (.aload_n 0, 1) := by decide +kernel
theorem dX4_canChoose_60 : decode cX4_canChoose 60 = .ok (.getfield 32, 3) := by decide +kernel
theorem dX4_canChoose_63 : decode cX4_canChoose 63 = .ok (.iload_n 1, 1) := by decide +kernel
theorem dX4_canChoose_64 : decode cX4_canChoose 64 = .ok (.iload_n 3, 1) := by decide +kernel
theorem dX4_canChoose_65 : decode cX4_canChoose 65 = .ok (.iastore, 1) := by decide +kernel
theorem dX4_canChoose_66 : decode cX4_canChoose 66 = .ok (.aload_n 0, 1) := by decide +kernel
theorem dX4_canChoose_67 : decode cX4_canChoose 67 = .ok (.iload_n 1, 1) := by decide +kernel
theorem dX4_canChoose_68 : decode cX4_canChoose 68 = .ok (.iload_n 3, 1) := by decide +kernel
theorem dX4_canChoose_69 : decode cX4_canChoose 69 = .ok (.iload 4, 2) := by decide +kernel
theorem dX4_canChoose_71 : decode cX4_canChoose 71 = .ok (.invokevirtual 85, 3) := by decide +kernel
theorem dX4_canChoose_74 : decode cX4_canChoose 74 = .ok (.ifCond .ne 21, 3) := by decide +kernel
theorem dX4_canChoose_77 : decode cX4_canChoose 77 = .ok (.aload_n 0, 1) := by decide +kernel
theorem dX4_canChoose_78 : decode cX4_canChoose 78 = .ok (.iload_n 1, 1) := by decide +kernel
theorem dX4_canChoose_79 : decode cX4_canChoose 79 = .ok (.iconst 1, 1) := by decide +kernel
theorem dX4_canChoose_80 : decode cX4_canChoose 80 = .ok (.iadd, 1) := by decide +kernel
theorem dX4_canChoose_81 : decode cX4_canChoose 81 = .ok (.iload 4, 2) := by decide +kernel
theorem dX4_canChoose_83 : decode cX4_canChoose 83 = .ok (.iload_n 3, 1) := by decide +kernel
theorem dX4_canChoose_84 : decode cX4_canChoose 84 = .ok (.ior, 1) := by decide +kernel
theorem dX4_canChoose_85 : decode cX4_canChoose 85 = .ok (.invokevirtual 88, 3) := by decide +kernel
theorem dX4_canChoose_88 : decode cX4_canChoose 88 = .ok (.ifCond .eq 7, 3) := by decide +kernel
theorem dX4_canChoose_91 : decode cX4_canChoose 91 = .ok (.iconst 1, 1) := by decide +kernel
theorem dX4_canChoose_92 : decode cX4_canChoose 92 = .ok (.goto 4, 3) := by decide +kernel
theorem dX4_canChoose_95 : decode cX4_canChoose 95 = .ok (.iconst 0, 1) := by decide +kernel
theorem dX4_canChoose_96 : decode cX4_canChoose 96 = .ok (.ireturn, 1) := by decide +kernel
set_option maxRecDepth 20000 in
theorem ggX4_canTakeIn_X4_mayJoin : GoodIn wsX4_canTakeIn wsX4_mayJoin := goodIn_r _ [5, 6, 7, 8, 9, 73, 74, 75, 76, 77, 78, 79, 80, 81, 82, 83, 84, 85, 86, 87, 88, 89, 90, 91, 92] (by decide +kernel) (by decide +kernel)
set_option maxRecDepth 20000 in
theorem gX4_canTakeIn_X4_mayJoin : GoodIn wsX4_canTakeIn (wsV RX4 92 RX4 yX4_mayJoin wsX4_mayJoin) := goodIn_app (goodIn_of _ (by decide +kernel)) ggX4_canTakeIn_X4_mayJoin
set_option maxRecDepth 20000 in
theorem ggX4_canTakeIn_X4_fits : GoodIn wsX4_canTakeIn wsX4_fits := goodIn_r _ [13, 6, 14, 15, 16, 17, 18, 4, 19, 20, 21, 22, 23, 24, 25, 26, 27, 28, 29, 30, 31, 32, 33, 34, 35, 36, 37, 38, 39, 40, 41, 42, 43, 44, 45, 46, 47, 48, 49, 50, 51, 73, 74, 75, 76, 77, 78, 79, 80, 81, 82, 83, 84, 85, 86, 87, 88, 89, 90, 91, 92] (by decide +kernel) (by decide +kernel)
set_option maxRecDepth 20000 in
theorem gX4_canTakeIn_X4_fits : GoodIn wsX4_canTakeIn (wsV RX4 96 RX4 yX4_fits wsX4_fits) := goodIn_app (goodIn_of _ (by decide +kernel)) ggX4_canTakeIn_X4_fits
set_option maxRecDepth 20000 in
theorem ggX4_canTakeIn_X4_canChoose : GoodIn wsX4_canTakeIn wsX4_canChoose := goodIn_r _ [55, 6, 14, 56, 57, 58, 59, 4, 60, 61, 62, 63, 9, 64, 8, 65, 66, 67, 68, 1, 2, 3, 5, 7, 10, 11, 12, 13, 15, 16, 17, 18, 19, 20, 21, 22, 23, 24, 25, 26, 27, 28, 29, 30, 31, 32, 33, 34, 35, 36, 37, 38, 39, 40, 41, 42, 43, 44, 45, 46, 47, 48, 49, 50, 51, 69, 70, 71, 72, 52, 53, 54, 0, 73, 74, 75, 76, 77, 78, 79, 80, 81, 82, 83, 84, 85, 86, 87, 88, 89, 90, 91, 92] (by decide +kernel) (by decide +kernel)
set_option maxRecDepth 20000 in
theorem gX4_canTakeIn_X4_canChoose : GoodIn wsX4_canTakeIn (wsV RX4 64 RX4 yX4_canChoose wsX4_canChoose) := goodIn_app (goodIn_of _ (by decide +kernel)) ggX4_canTakeIn_X4_canChoose
theorem dX4_canTakeIn_0 : decode cX4_canTakeIn 0 = .ok (.aload_n 0, 1) := by decide +kernel
theorem dX4_canTakeIn_1 : decode cX4_canTakeIn 1 = .ok (.iload_n 1, 1) := by decide +kernel
theorem dX4_canTakeIn_2 : decode cX4_canTakeIn 2 = .ok (.iload_n 2, 1) := by decide +kernel
theorem dX4_canTakeIn_3 : decode cX4_canTakeIn 3 = .ok (.iload_n 3, 1) := by decide +kernel
theorem dX4_canTakeIn_4 : decode cX4_canTakeIn 4 = .ok (.iload 4, 2) := by decide +kernel
theorem dX4_canTakeIn_6 : decode cX4_canTakeIn 6 = .ok (.iconst 1, 1) := by decide +kernel
theorem dX4_canTakeIn_7 : decode cX4_canTakeIn 7 = .ok (.iload_n 2, 1) := by decide +kernel
theorem dX4_canTakeIn_8 : decode cX4_canTakeIn 8 = .ok (.ishl, 1) := by decide +kernel
theorem dX4_canTakeIn_9 : decode cX4_canTakeIn 9 = .ok (.iconst 1, 1) := by decide +kernel
theorem dX4_canTakeIn_10 : decode cX4_canTakeIn 10 = .ok (.isub, 1) := by decide +kernel
theorem dX4_canTakeIn_11 : decode cX4_canTakeIn 11 = .ok (.invokevirtual 92, 3) := by decide +kernel
theorem dX4_canTakeIn_14 : decode cX4_canTakeIn 14 = .ok (.ifCond .eq 35, 3) := by decide +kernel
theorem dX4_canTakeIn_17 : decode cX4_canTakeIn 17 = .ok (.aload_n 0, 1) := by decide +kernel
theorem dX4_canTakeIn_18 : decode cX4_canTakeIn 18 = .ok (.iload_n 1, 1) := by decide +kernel
theorem dX4_canTakeIn_19 : decode cX4_canTakeIn 19 = .ok (.iload_n 2, 1) := by decide +kernel
theorem dX4_canTakeIn_20 : decode cX4_canTakeIn 20 = .ok (.iload_n 3, 1) := by decide +kernel
theorem dX4_canTakeIn_21 : decode cX4_canTakeIn 21 = .ok (.invokevirtual 96, 3) := by decide +kernel
theorem dX4_canTakeIn_24 : decode cX4_canTakeIn 24 = .ok (.ifCond .eq 25, 3) := by decide +kernel
theorem dX4_canTakeIn_27 : decode cX4_canTakeIn 27 = .ok (.aload_n 0, 1) := by decide +kernel
theorem dX4_canTakeIn_28 : decode cX4_canTakeIn 28 = .ok (.iload_n 1, 1) := by decide +kernel
theorem dX4_canTakeIn_29 : decode cX4_canTakeIn 29 = .ok (.iload_n 2, 1) := by decide +kernel
theorem dX4_canTakeIn_30 : decode cX4_canTakeIn 30 = .ok (.iconst 1, 1) := by decide +kernel
theorem dX4_canTakeIn_31 : decode cX4_canTakeIn 31 = .ok (.iadd, 1) := by decide +kernel
theorem dX4_canTakeIn_32 : decode cX4_canTakeIn 32 = .ok (.iload_n 3, 1) := by decide +kernel
theorem dX4_canTakeIn_33 : decode cX4_canTakeIn 33 = .ok (.iconst 1, 1) := by decide +kernel
theorem dX4_canTakeIn_34 : decode cX4_canTakeIn 34 = .ok (.iload_n 2, 1) := by decide +kernel
theorem dX4_canTakeIn_35 : decode cX4_canTakeIn 35 = .ok (.ishl, 1) := by decide +kernel
theorem dX4_canTakeIn_36 : decode cX4_canTakeIn 36 = .ok (.ior, 1) := by decide +kernel
theorem dX4_canTakeIn_37 : decode cX4_canTakeIn 37 = .ok (.iload 4, 2) := by decide +kernel
theorem dX4_canTakeIn_39 : decode cX4_canTakeIn 39 = .ok (.invokevirtual 64, 3) := by decide +kernel
theorem dX4_canTakeIn_42 : decode cX4_canTakeIn 42 = .ok (.ifCond .eq 7, 3) := by decide +kernel
theorem dX4_canTakeIn_45 : decode cX4_canTakeIn 45 = .ok (.iconst 1, 1) := by decide +kernel
theorem dX4_canTakeIn_46 : decode cX4_canTakeIn 46 = .ok (.goto 4, 3) := by decide +kernel
theorem dX4_canTakeIn_49 : decode cX4_canTakeIn 49 = .ok (.iconst 0, 1) := by decide +kernel
theorem dX4_canTakeIn_50 : decode cX4_canTakeIn 50 = .ok (.ireturn, 1) := by decide +kernel
set_option maxRecDepth 20000 in
theorem ggX4_canTakeMore_X4_mayJoin : GoodIn wsX4_canTakeMore wsX4_mayJoin := goodIn_r _ [7, 1, 8, 9, 10, 52, 53, 54, 55, 56, 57, 58, 59, 60, 61, 62, 63, 64, 65, 66, 67, 68, 69, 70, 71] (by decide +kernel) (by decide +kernel)
set_option maxRecDepth 20000 in
theorem gX4_canTakeMore_X4_mayJoin : GoodIn wsX4_canTakeMore (wsV RX4 92 RX4 yX4_mayJoin wsX4_mayJoin) := goodIn_app (goodIn_of _ (by decide +kernel)) ggX4_canTakeMore_X4_mayJoin
set_option maxRecDepth 20000 in
theorem ggX4_canTakeMore_X4_fits : GoodIn wsX4_canTakeMore wsX4_fits := goodIn_r _ [14, 1, 2, 15, 16, 17, 18, 6, 19, 20, 21, 22, 23, 24, 25, 26, 27, 28, 29, 30, 31, 32, 33, 34, 35, 36, 37, 38, 39, 40, 41, 42, 43, 44, 45, 46, 47, 48, 49, 50, 51, 52, 53, 54, 55, 56, 57, 58, 59, 60, 61, 62, 63, 64, 65, 66, 67, 68, 69, 70, 71] (by decide +kernel) (by decide +kernel)
set_option maxRecDepth 20000 in
theorem gX4_canTakeMore_X4_fits : GoodIn wsX4_canTakeMore (wsV RX4 96 RX4 yX4_fits wsX4_fits) := goodIn_app (goodIn_of _ (by decide +kernel)) ggX4_canTakeMore_X4_fits
theorem dX4_canTakeMore_0 : decode cX4_canTakeMore 0 = .ok (.iconst 0, 1) := by decide +kernel
theorem dX4_canTakeMore_1 : decode cX4_canTakeMore 1 = .ok (.istore 4, 2) := by decide +kernel
theorem dX4_canTakeMore_3 : decode cX4_canTakeMore 3 = .ok (.iload 4, 2) := by decide +kernel
theorem dX4_canTakeMore_5 : decode cX4_canTakeMore 5 = .ok (.aload_n 0, 1) := by decide +kernel
theorem dX4_canTakeMore_6 : decode cX4_canTakeMore 6 = .ok (.getfield 12, 3) := by decide +kernel
theorem dX4_canTakeMore_9 : decode cX4_canTakeMore 9 = .ok (.getfield 52, 3) := by decide +kernel
theorem dX4_canTakeMore_12 : decode cX4_canTakeMore 12 = .ok (.if_icmp .ge 58, 3) := by decide +kernel
theorem dX4_canTakeMore_15 : decode cX4_canTakeMore 15 = .ok (.iload_n 3, 1) := by decide +kernel
theorem dX4_canTakeMore_16 : decode cX4_canTakeMore 16 = .ok (.iload_n 2, 1) := by decide +kernel
theorem dX4_canTakeMore_17 : decode cX4_canTakeMore 17 = .ok (.ior, 1) := by decide +kernel
theorem dX4_canTakeMore_18 : decode cX4_canTakeMore 18 = .ok (.iload 4, 2) := by decide +kernel
theorem dX4_canTakeMore_20 : decode cX4_canTakeMore 20 = .ok (.ishr, 1) := by decide +kernel
theorem dX4_canTakeMore_21 : decode cX4_canTakeMore 21 = .ok (.iconst 1, 1) := by decide +kernel
theorem dX4_canTakeMore_22 : decode cX4_canTakeMore 22 = .ok (.iand, 1) := by decide +kernel
theorem dX4_canTakeMore_23 : decode cX4_canTakeMore 23 = .ok (.ifCond .ne 7, 3) := by decide +kernel
theorem dX4_canTakeMore_26 : decode cX4_canTakeMore 26 = .ok (.iconst 1, 1) := by decide +kernel
theorem dX4_canTakeMore_27 : decode cX4_canTakeMore 27 = .ok (.goto 4, 3) := by decide +kernel
theorem dX4_canTakeMore_30 : decode cX4_canTakeMore 30 = .ok (.iconst 0, 1) := by decide +kernel
theorem dX4_canTakeMore_31 : decode cX4_canTakeMore 31 = .ok (.istore 5, 2) := by decide +kernel
theorem dX4_canTakeMore_33 : decode cX4_canTakeMore 33 = .ok (.iload 5, 2) := by decide +kernel
theorem dX4_canTakeMore_35 : decode cX4_canTakeMore 35 = .ok (.ifCond .eq 29, 3) := by decide +kernel
theorem dX4_canTakeMore_38 : decode cX4_canTakeMore 38 = .ok (.aload_n 0, 1) := by decide +kernel
theorem dX4_canTakeMore_39 : decode cX4_canTakeMore 39 = .ok (.iload_n 1, 1) := by decide +kernel
theorem dX4_canTakeMore_40 : decode cX4_canTakeMore 40 = .ok (.iload 4, 2) := by decide +kernel
theorem dX4_canTakeMore_42 : decode cX4_canTakeMore 42 = .ok (.iload_n 2, 1) := by decide +kernel
theorem dX4_canTakeMore_43 : decode cX4_canTakeMore 43 = .ok (.iload_n 3, 1) := by decide +kernel
theorem dX4_canTakeMore_44 : decode cX4_canTakeMore 44 = .ok (.iconst (-1), 1) := by decide +kernel
theorem dX4_canTakeMore_45 : decode cX4_canTakeMore 45 = .ok (.invokevirtual 92, 3) := by decide +kernel
theorem dX4_canTakeMore_48 : decode cX4_canTakeMore 48 = .ok (.ifCond .eq 16, 3) := by decide +kernel
theorem dX4_canTakeMore_51 : decode cX4_canTakeMore 51 = .ok (.aload_n 0, 1) := by decide +kernel
theorem dX4_canTakeMore_52 : decode cX4_canTakeMore 52 = .ok (.iload_n 1, 1) := by decide +kernel
theorem dX4_canTakeMore_53 : decode cX4_canTakeMore 53 = .ok (.iload 4, 2) := by decide +kernel
theorem dX4_canTakeMore_55 : decode cX4_canTakeMore 55 = .ok (.iload_n 2, 1) := by decide +kernel
theorem dX4_canTakeMore_56 : decode cX4_canTakeMore 56 = .ok (.invokevirtual 96, 3) := by decide +kernel
theorem dX4_canTakeMore_59 : decode cX4_canTakeMore 59 = .ok (.ifCond .eq 5, 3) := by decide +kernel
theorem dX4_canTakeMore_62 : decode cX4_canTakeMore 62 = .ok (.iconst 1, 1) := by decide +kernel
theorem dX4_canTakeMore_63 : decode cX4_canTakeMore 63 = .ok (.ireturn, 1) := by decide +kernel
theorem dX4_canTakeMore_64 : decode cX4_canTakeMore 64 = .ok (.iinc 4 1, 3) := by decide +kernel
theorem dX4_canTakeMore_67 : decode cX4_canTakeMore 67 = .ok (.goto (-64), 3) := by decide +kernel
theorem dX4_canTakeMore_70 : decode cX4_canTakeMore 70 = .ok (.iconst 0, 1) := by decide +kernel
theorem dX4_canTakeMore_71 : decode cX4_canTakeMore 71 = .ok (.ireturn, 1) := by decide +kernel
set_option maxRecDepth 20000 in
theorem ggX4_canGoOn_X4_marksOf : GoodIn wsX4_canGoOn wsX4_marksOf := goodIn_r _ [7, 8, 9, 73, 74, 75, 76, 77, 78, 79, 80] (by decide +kernel) (by decide +kernel)
set_option maxRecDepth 20000 in
theorem gX4_canGoOn_X4_marksOf : GoodIn wsX4_canGoOn (wsV RX4 99 RX4 yX4_marksOf wsX4_marksOf) := goodIn_app (goodIn_of _ (by decide +kernel)) ggX4_canGoOn_X4_marksOf
set_option maxRecDepth 20000 in
theorem ggX4_canGoOn_X4_canChoose : GoodIn wsX4_canGoOn wsX4_canChoose := goodIn_r _ [17, 1, 2, 18, 19, 20, 21, 6, 22, 23, 24, 25, 26, 27, 28, 29, 30, 31, 32, 33, 34, 35, 36, 37, 38, 39, 40, 41, 42, 3, 4, 5, 7, 8, 9, 43, 44, 45, 46, 47, 48, 49, 50, 51, 52, 53, 54, 55, 56, 57, 58, 59, 60, 61, 62, 63, 64, 65, 66, 67, 68, 13, 14, 15, 16, 69, 70, 71, 0, 10, 11, 12, 72, 73, 74, 75, 76, 77, 78, 79, 80, 81, 82, 83, 84, 85, 86, 87, 88, 89, 90, 91, 92] (by decide +kernel) (by decide +kernel)
set_option maxRecDepth 20000 in
theorem gX4_canGoOn_X4_canChoose : GoodIn wsX4_canGoOn (wsV RX4 64 RX4 yX4_canChoose wsX4_canChoose) := goodIn_app (goodIn_of _ (by decide +kernel)) ggX4_canGoOn_X4_canChoose
set_option maxRecDepth 20000 in
theorem ggX4_canGoOn_X4_mark : GoodIn wsX4_canGoOn wsX4_mark := goodIn_r _ [16, 8, 9, 3, 4, 5, 6, 7, 73, 74, 75, 76, 77, 78, 79, 80] (by decide +kernel) (by decide +kernel)
set_option maxRecDepth 20000 in
theorem gX4_canGoOn_X4_mark : GoodIn wsX4_canGoOn (wsV RX4 103 RX4 yX4_mark wsX4_mark) := goodIn_app (goodIn_of _ (by decide +kernel)) ggX4_canGoOn_X4_mark
theorem dX4_canGoOn_0 : decode cX4_canGoOn 0 = .ok (.iload_n 1, 1) := by decide +kernel
theorem dX4_canGoOn_1 : decode cX4_canGoOn 1 = .ok (.iconst 5, 1) := by decide +kernel
theorem dX4_canGoOn_2 : decode cX4_canGoOn 2 = .ok (.if_icmp .lt 24, 3) := by decide +kernel
theorem dX4_canGoOn_5 : decode cX4_canGoOn 5 = .ok (.iload_n 2, 1) := by decide +kernel
theorem dX4_canGoOn_6 : decode cX4_canGoOn 6 = .ok (.iconst 1, 1) := by decide +kernel
theorem dX4_canGoOn_7 : decode cX4_canGoOn 7 = .ok (.aload_n 0, 1) := by decide +kernel
theorem dX4_canGoOn_8 : decode cX4_canGoOn 8 = .ok (.getfield 12, 3) := by decide +kernel
theorem dX4_canGoOn_11 : decode cX4_canGoOn 11 = .ok (.getfield 52, 3) := by decide +kernel
theorem dX4_canGoOn_14 : decode cX4_canGoOn 14 = .ok (.ishl, 1) := by decide +kernel
theorem dX4_canGoOn_15 : decode cX4_canGoOn 15 = .ok (.iconst 1, 1) := by decide +kernel
theorem dX4_canGoOn_16 : decode cX4_canGoOn 16 = .ok (.isub, 1) := by decide +kernel
theorem dX4_canGoOn_17 : decode cX4_canGoOn 17 = .ok (.if_icmp .ne 7, 3) := by decide +kernel
theorem dX4_canGoOn_20 : decode cX4_canGoOn 20 = .ok (.iconst 1, 1) := by decide +kernel
theorem dX4_canGoOn_21 : decode cX4_canGoOn 21 = .ok (.goto 4, 3) := by decide +kernel
theorem dX4_canGoOn_24 : decode cX4_canGoOn 24 = .ok (.iconst 0, 1) := by decide +kernel
theorem dX4_canGoOn_25 : decode cX4_canGoOn 25 = .ok (.ireturn, 1) := by decide +kernel
theorem dX4_canGoOn_26 : decode cX4_canGoOn 26 = .ok (.aload_n 0, 1) := by decide +kernel
theorem dX4_canGoOn_27 : decode cX4_canGoOn 27 = .ok (.iload_n 1, 1) := by decide +kernel
theorem dX4_canGoOn_28 : decode cX4_canGoOn 28 = .ok (.iload_n 2, 1) := by decide +kernel
theorem dX4_canGoOn_29 : decode cX4_canGoOn 29 = .ok (.invokevirtual 99, 3) := by decide +kernel
theorem dX4_canGoOn_32 : decode cX4_canGoOn 32 = .ok (.iconst 4, 1) := by decide +kernel
theorem dX4_canGoOn_33 : decode cX4_canGoOn 33 = .ok (.iand, 1) := by decide +kernel
theorem dX4_canGoOn_34 : decode cX4_canGoOn 34 = .ok (.ifCond .eq 5, 3) := by decide +kernel
theorem dX4_canGoOn_37 : decode cX4_canGoOn 37 = .ok (.iconst 0, 1) := by decide +kernel
theorem dX4_canGoOn_38 : decode cX4_canGoOn 38 = .ok (.ireturn, 1) := by decide +kernel
theorem dX4_canGoOn_39 : decode cX4_canGoOn 39 = .ok (.aload_n 0, 1) := by decide +kernel
theorem dX4_canGoOn_40 : decode cX4_canGoOn 40 = .ok (.iload_n 1, 1) := by decide +kernel
theorem dX4_canGoOn_41 : decode cX4_canGoOn 41 = .ok (.iconst 0, 1) := by decide +kernel
theorem dX4_canGoOn_42 : decode cX4_canGoOn 42 = .ok (.iconst 0, 1) := by decide +kernel
theorem dX4_canGoOn_43 : decode cX4_canGoOn 43 = .ok (.iload_n 2, 1) := by decide +kernel
theorem dX4_canGoOn_44 : decode cX4_canGoOn 44 = .ok (.invokevirtual 64, 3) := by decide +kernel
theorem dX4_canGoOn_47 : decode cX4_canGoOn 47 = .ok (.ifCond .eq 5, 3) := by decide +kernel
theorem dX4_canGoOn_50 : decode cX4_canGoOn 50 = .ok (.iconst 1, 1) := by decide +kernel
theorem dX4_canGoOn_51 : decode cX4_canGoOn 51 = .ok (.ireturn, 1) := by decide +kernel
theorem dX4_canGoOn_52 : decode cX4_canGoOn 52 = .ok (.aload_n 0, 1) := by decide +kernel
theorem dX4_canGoOn_53 : decode cX4_canGoOn 53 = .ok (.iload_n 1, 1) := by decide +kernel
theorem dX4_canGoOn_54 : decode cX4_canGoOn 54 = .ok (.iload_n 2, 1) := by decide +kernel
theorem dX4_canGoOn_55 : decode cX4_canGoOn 55 = .ok (.iconst 4, 1) := by decide +kernel
theorem dX4_canGoOn_56 : decode cX4_canGoOn 56 = .ok (.invokevirtual 103, 3) := by decide +kernel
theorem dX4_canGoOn_59 : decode cX4_canGoOn 59 = .ok (.iconst 0, 1) := by decide +kernel
theorem dX4_canGoOn_60 : decode cX4_canGoOn 60 = .ok (.ireturn, 1) := by decide +kernel
theorem dX4_mayJoin_0 : decode cX4_mayJoin 0 = .ok (.aload_n 0, 1) := by decide +kernel
theorem dX4_mayJoin_1 : decode cX4_mayJoin 1 = .ok (.getfield 12, 3) := by decide +kernel
theorem dX4_mayJoin_4 : decode cX4_mayJoin 4 = .ok (.getfield 107, 3) := by decide +kernel
theorem dX4_mayJoin_7 : decode cX4_mayJoin 7 = .ok (.iload_n 2, 1) := by decide +kernel
theorem dX4_mayJoin_8 : decode cX4_mayJoin 8 = .ok (.iaload, 1) := by decide +kernel
theorem dX4_mayJoin_9 : decode cX4_mayJoin 9 = .ok (.aload_n 0, 1) := by decide +kernel
theorem dX4_mayJoin_10 : decode cX4_mayJoin 10 = .ok (.getfield 12, 3) := by decide +kernel
theorem dX4_mayJoin_13 : decode cX4_mayJoin 13 = .ok (.getfield 110, 3) := by decide +kernel
theorem dX4_mayJoin_16 : decode cX4_mayJoin 16 = .ok (.iload_n 2, 1) := by decide +kernel
theorem dX4_mayJoin_17 : decode cX4_mayJoin 17 = .ok (.iaload, 1) := by decide +kernel
theorem dX4_mayJoin_18 : decode cX4_mayJoin 18 = .ok (.ior, 1) := by decide +kernel
theorem dX4_mayJoin_19 : decode cX4_mayJoin 19 = .ok (.istore 6, 2) := by decide +kernel
theorem dX4_mayJoin_21 : decode cX4_mayJoin 21 = .ok (.aload_n 0, 1) := by decide +kernel
theorem dX4_mayJoin_22 : decode cX4_mayJoin 22 = .ok (.getfield 12, 3) := by decide +kernel
theorem dX4_mayJoin_25 : decode cX4_mayJoin 25 = .ok (.getfield 55, 3) := by decide +kernel
theorem dX4_mayJoin_28 : decode cX4_mayJoin 28 = .ok (.iload_n 2, 1) := by decide +kernel
theorem dX4_mayJoin_29 : decode cX4_mayJoin 29 = .ok (.iaload, 1) := by decide +kernel
theorem dX4_mayJoin_30 : decode cX4_mayJoin 30 = .ok (.iload_n 1, 1) := by decide +kernel
theorem dX4_mayJoin_31 : decode cX4_mayJoin 31 = .ok (.iconst 4, 1) := by decide +kernel
theorem dX4_mayJoin_32 : decode cX4_mayJoin 32 = .ok (.imul, 1) := by decide +kernel
theorem dX4_mayJoin_33 : decode cX4_mayJoin 33 = .ok (.ishr, 1) := by decide +kernel
theorem dX4_mayJoin_34 : decode cX4_mayJoin 34 = .ok (.bipush 15, 2) := by decide +kernel
theorem dX4_mayJoin_36 : decode cX4_mayJoin 36 = .ok (.iand, 1) := by decide +kernel
theorem dX4_mayJoin_37 : decode cX4_mayJoin 37 = .ok (.ifCond .eq 37, 3) := by decide +kernel
theorem dX4_mayJoin_40 : decode cX4_mayJoin 40 = .ok (.aload_n 0, 1) := by decide +kernel
theorem dX4_mayJoin_41 : decode cX4_mayJoin 41 = .ok (.getfield 12, 3) := by decide +kernel
theorem dX4_mayJoin_44 : decode cX4_mayJoin 44 = .ok (.getfield 110, 3) := by decide +kernel
theorem dX4_mayJoin_47 : decode cX4_mayJoin 47 = .ok (.iload_n 2, 1) := by decide +kernel
theorem dX4_mayJoin_48 : decode cX4_mayJoin 48 = .ok (.iaload, 1) := by decide +kernel
theorem dX4_mayJoin_49 : decode cX4_mayJoin 49 = .ok (.iload 4, 2) := by decide +kernel
theorem dX4_mayJoin_51 : decode cX4_mayJoin 51 = .ok (.iand, 1) := by decide +kernel
theorem dX4_mayJoin_52 : decode cX4_mayJoin 52 = .ok (.ifCond .ne 22, 3) := by decide +kernel
theorem dX4_mayJoin_55 : decode cX4_mayJoin 55 = .ok (.iload 6, 2) := by decide +kernel
theorem dX4_mayJoin_57 : decode cX4_mayJoin 57 = .ok (.iload 5, 2) := by decide +kernel
theorem dX4_mayJoin_59 : decode cX4_mayJoin 59 = .ok (.iand, 1) := by decide +kernel
theorem dX4_mayJoin_60 : decode cX4_mayJoin 60 = .ok (.iload 4, 2) := by decide +kernel
theorem dX4_mayJoin_62 : decode cX4_mayJoin 62 = .ok (.iload_n 3, 1) := by decide +kernel
theorem dX4_mayJoin_63 : decode cX4_mayJoin 63 = .ok (.ior, 1) := by decide +kernel
theorem dX4_mayJoin_64 : decode cX4_mayJoin 64 = .ok (.iconst (-1), 1) := by decide +kernel
theorem dX4_mayJoin_65 : decode cX4_mayJoin 65 = .ok (.ixor, 1) := by decide +kernel
theorem dX4_mayJoin_66 : decode cX4_mayJoin 66 = .ok (.iand, 1) := by decide +kernel
theorem dX4_mayJoin_67 : decode cX4_mayJoin 67 = .ok (.ifCond .ne 7, 3) := by decide +kernel
theorem dX4_mayJoin_70 : decode cX4_mayJoin 70 = .ok (.iconst 1, 1) := by decide +kernel
theorem dX4_mayJoin_71 : decode cX4_mayJoin 71 = .ok (.goto 4, 3) := by decide +kernel
theorem dX4_mayJoin_74 : decode cX4_mayJoin 74 = .ok (.iconst 0, 1) := by decide +kernel
theorem dX4_mayJoin_75 : decode cX4_mayJoin 75 = .ok (.ireturn, 1) := by decide +kernel
theorem dX4_mustJoin_0 : decode cX4_mustJoin 0 = .ok (.aload_n 0, 1) := by decide +kernel
theorem dX4_mustJoin_1 : decode cX4_mustJoin 1 = .ok (.getfield 12, 3) := by decide +kernel
theorem dX4_mustJoin_4 : decode cX4_mustJoin 4 = .ok (.getfield 55, 3) := by decide +kernel
theorem dX4_mustJoin_7 : decode cX4_mustJoin 7 = .ok (.iload_n 2, 1) := by decide +kernel
theorem dX4_mustJoin_8 : decode cX4_mustJoin 8 = .ok (.iaload, 1) := by decide +kernel
theorem dX4_mustJoin_9 : decode cX4_mustJoin 9 = .ok (.iload_n 1, 1) := by decide +kernel
theorem dX4_mustJoin_10 : decode cX4_mustJoin 10 = .ok (.iconst 1, 1) := by decide +kernel
theorem dX4_mustJoin_11 : decode cX4_mustJoin 11 = .ok (.iadd, 1) := by decide +kernel
theorem dX4_mustJoin_12 : decode cX4_mustJoin 12 = .ok (.iconst 4, 1) := by decide +kernel
theorem dX4_mustJoin_13 : decode cX4_mustJoin 13 = .ok (.imul, 1) := by decide +kernel
theorem dX4_mustJoin_14 : decode cX4_mustJoin 14 = .ok (.ishr, 1) := by decide +kernel
theorem dX4_mustJoin_15 : decode cX4_mustJoin 15 = .ok (.ifCond .ne 7, 3) := by decide +kernel
theorem dX4_mustJoin_18 : decode cX4_mustJoin 18 = .ok (.iconst 1, 1) := by decide +kernel
theorem dX4_mustJoin_19 : decode cX4_mustJoin 19 = .ok (.goto 4, 3) := by decide +kernel
theorem dX4_mustJoin_22 : decode cX4_mustJoin 22 = .ok (.iconst 0, 1) := by decide +kernel
theorem dX4_mustJoin_23 : decode cX4_mustJoin 23 = .ok (.istore 4, 2) := by decide +kernel
theorem dX4_mustJoin_25 : decode cX4_mustJoin 25 = .ok (.iload 4, 2) := by decide +kernel
theorem dX4_mustJoin_27 : decode cX4_mustJoin 27 = .ok (.ifCond .ne 27, 3) := by decide +kernel
theorem dX4_mustJoin_30 : decode cX4_mustJoin 30 = .ok (.aload_n 0, 1) := by decide +kernel
theorem dX4_mustJoin_31 : decode cX4_mustJoin 31 = .ok (.getfield 12, 3) := by decide +kernel
theorem dX4_mustJoin_34 : decode cX4_mustJoin 34 = .ok (.getfield 113, 3) := by decide +kernel
theorem dX4_mustJoin_37 : decode cX4_mustJoin 37 = .ok (.iload_n 2, 1) := by decide +kernel
theorem dX4_mustJoin_38 : decode cX4_mustJoin 38 = .ok (.iaload, 1) := by decide +kernel
theorem dX4_mustJoin_39 : decode cX4_mustJoin 39 = .ok (.aload_n 0, 1) := by decide +kernel
theorem dX4_mustJoin_40 : decode cX4_mustJoin 40 = .ok (.getfield 12, 3) := by decide +kernel
theorem dX4_mustJoin_43 : decode cX4_mustJoin 43 = .ok (.getfield 110, 3) := by decide +kernel
theorem dX4_mustJoin_46 : decode cX4_mustJoin 46 = .ok (.iload_n 2, 1) := by decide +kernel
theorem dX4_mustJoin_47 : decode cX4_mustJoin 47 = .ok (.iaload, 1) := by decide +kernel
theorem dX4_mustJoin_48 : decode cX4_mustJoin 48 = .ok (.ior, 1) := by decide +kernel
theorem dX4_mustJoin_49 : decode cX4_mustJoin 49 = .ok (.iload_n 3, 1) := by decide +kernel
theorem dX4_mustJoin_50 : decode cX4_mustJoin 50 = .ok (.iand, 1) := by decide +kernel
theorem dX4_mustJoin_51 : decode cX4_mustJoin 51 = .ok (.ifCond .eq 7, 3) := by decide +kernel
theorem dX4_mustJoin_54 : decode cX4_mustJoin 54 = .ok (.iconst 1, 1) := by decide +kernel
theorem dX4_mustJoin_55 : decode cX4_mustJoin 55 = .ok (.goto 4, 3) := by decide +kernel
theorem dX4_mustJoin_58 : decode cX4_mustJoin 58 = .ok (.iconst 0, 1) := by decide +kernel
theorem dX4_mustJoin_59 : decode cX4_mustJoin 59 = .ok (.ireturn, 1) := by decide +kernel
set_option maxRecDepth 20000 in
theorem ggX4_fits_X4_marksOf : GoodIn wsX4_fits wsX4_marksOf := goodIn_r _ [8, 9, 10, 41, 42, 43, 44, 45, 46, 47, 48] (by decide +kernel) (by decide +kernel)
set_option maxRecDepth 20000 in
theorem gX4_fits_X4_marksOf : GoodIn wsX4_fits (wsV RX4 99 RX4 yX4_marksOf wsX4_marksOf) := goodIn_app (goodIn_of _ (by decide +kernel)) ggX4_fits_X4_marksOf
set_option maxRecDepth 20000 in
theorem ggX4_fits_X4_canStand : GoodIn wsX4_fits wsX4_canStand := goodIn_r _ [13, 2, 14, 15, 16, 17, 18, 19, 20, 21, 22, 23, 24, 25, 26, 27, 28, 29, 30, 31, 32, 33, 34, 35, 36, 11, 12, 7, 49, 50, 51, 52, 53, 54, 55, 56, 57, 58, 59, 60] (by decide +kernel) (by decide +kernel)
set_option maxRecDepth 20000 in
theorem gX4_fits_X4_canStand : GoodIn wsX4_fits (va_wsS RX4 68 yX4_canStand wsX4_canStand) := goodIn_app (goodIn_of _ (by decide +kernel)) ggX4_fits_X4_canStand
set_option maxRecDepth 20000 in
theorem ggX4_fits_X4_mark : GoodIn wsX4_fits wsX4_mark := goodIn_r _ [40, 9, 10, 4, 5, 6, 7, 8, 41, 42, 43, 44, 45, 46, 47, 48] (by decide +kernel) (by decide +kernel)
set_option maxRecDepth 20000 in
theorem gX4_fits_X4_mark : GoodIn wsX4_fits (wsV RX4 103 RX4 yX4_mark wsX4_mark) := goodIn_app (goodIn_of _ (by decide +kernel)) ggX4_fits_X4_mark
theorem dX4_fits_0 : decode cX4_fits 0 = .ok (.iload_n 3, 1) := by decide +kernel
theorem dX4_fits_1 : decode cX4_fits 1 = .ok (.iconst 1, 1) := by decide +kernel
theorem dX4_fits_2 : decode cX4_fits 2 = .ok (.iload_n 2, 1) := by decide +kernel
theorem dX4_fits_3 : decode cX4_fits 3 = .ok (.ishl, 1) := by decide +kernel
theorem dX4_fits_4 : decode cX4_fits 4 = .ok (.ior, 1) := by decide +kernel
theorem dX4_fits_5 : decode cX4_fits 5 = .ok (.istore 4, 2) := by decide +kernel
theorem dX4_fits_7 : decode cX4_fits 7 = .ok (.iconst 0, 1) := by decide +kernel
theorem dX4_fits_8 : decode cX4_fits 8 = .ok (.istore 5, 2) := by decide +kernel
theorem dX4_fits_10 : decode cX4_fits 10 = .ok (.iload 5, 2) := by decide +kernel
theorem dX4_fits_12 : decode cX4_fits 12 = .ok (.aload_n 0, 1) := by decide +kernel
theorem dX4_fits_13 : decode cX4_fits 13 = .ok (.getfield 12, 3) := by decide +kernel
theorem dX4_fits_16 : decode cX4_fits 16 = .ok (.getfield 52, 3) := by decide +kernel
theorem dX4_fits_19 : decode cX4_fits 19 = .ok (.if_icmp .gt 100, 3) := by decide +kernel
theorem dX4_fits_22 : decode cX4_fits 22 = .ok (.iload 5, 2) := by decide +kernel
theorem dX4_fits_24 : decode cX4_fits 24 = .ok (.aload_n 0, 1) := by decide +kernel
theorem dX4_fits_25 : decode cX4_fits 25 = .ok (.getfield 12, 3) := by decide +kernel
theorem dX4_fits_28 : decode cX4_fits 28 = .ok (.getfield 52, 3) := by decide +kernel
theorem dX4_fits_31 : decode cX4_fits 31 = .ok (.if_icmp .ge 17, 3) := by decide +kernel
theorem dX4_fits_34 : decode cX4_fits 34 = .ok (.iload 4, 2) := by decide +kernel
theorem dX4_fits_36 : decode cX4_fits 36 = .ok (.iconst 1, 1) := by decide +kernel
theorem dX4_fits_37 : decode cX4_fits 37 = .ok (.iload 5, 2) := by decide +kernel
theorem dX4_fits_39 : decode cX4_fits 39 = .ok (.ishl, 1) := by decide +kernel
theorem dX4_fits_40 : decode cX4_fits 40 = .ok (.iconst 1, 1) := by decide +kernel
theorem dX4_fits_41 : decode cX4_fits 41 = .ok (.iload_n 2, 1) := by decide +kernel
theorem dX4_fits_42 : decode cX4_fits 42 = .ok (.ishl, 1) := by decide +kernel
theorem dX4_fits_43 : decode cX4_fits 43 = .ok (.ior, 1) := by decide +kernel
theorem dX4_fits_44 : decode cX4_fits 44 = .ok (.iand, 1) := by decide +kernel
theorem dX4_fits_45 : decode cX4_fits 45 = .ok (.goto 5, 3) := by decide +kernel
theorem dX4_fits_48 : decode cX4_fits 48 = .ok (.iload 4, 2) := by decide +kernel
theorem dX4_fits_50 : decode cX4_fits 50 = .ok (.istore 6, 2) := by decide +kernel
theorem dX4_fits_52 : decode cX4_fits 52 = .ok (.aload_n 0, 1) := by decide +kernel
theorem dX4_fits_53 : decode cX4_fits 53 = .ok (.iload_n 1, 1) := by decide +kernel
theorem dX4_fits_54 : decode cX4_fits 54 = .ok (.iload 6, 2) := by decide +kernel
theorem dX4_fits_56 : decode cX4_fits 56 = .ok (.invokevirtual 99, 3) := by decide +kernel
theorem dX4_fits_59 : decode cX4_fits 59 = .ok (.istore 7, 2) := by decide +kernel
theorem dX4_fits_61 : decode cX4_fits 61 = .ok (.iload 7, 2) := by decide +kernel
theorem dX4_fits_63 : decode cX4_fits 63 = .ok (.iconst 1, 1) := by decide +kernel
theorem dX4_fits_64 : decode cX4_fits 64 = .ok (.iand, 1) := by decide +kernel
theorem dX4_fits_65 : decode cX4_fits 65 = .ok (.ifCond .ne 39, 3) := by decide +kernel
theorem dX4_fits_68 : decode cX4_fits 68 = .ok (.iconst 1, 1) := by decide +kernel
theorem dX4_fits_69 : decode cX4_fits 69 = .ok (.aload_n 0, 1) := by decide +kernel
theorem dX4_fits_70 : decode cX4_fits 70 = .ok (.getfield 12, 3) := by decide +kernel
theorem dX4_fits_73 : decode cX4_fits 73 = .ok (.aload_n 0, 1) := by decide +kernel
theorem dX4_fits_74 : decode cX4_fits 74 = .ok (.getfield 35, 3) := by decide +kernel
theorem dX4_fits_77 : decode cX4_fits 77 = .ok (.iload_n 1, 1) := by decide +kernel
theorem dX4_fits_78 : decode cX4_fits 78 = .ok (.iload 6, 2) := by decide +kernel
theorem dX4_fits_80 : decode cX4_fits 80 = .ok (.iconst 0, 1) := by decide +kernel
theorem dX4_fits_81 : decode cX4_fits 81 = .ok (.invokestatic 68, 3) := by decide +kernel
theorem dX4_fits_84 : decode cX4_fits 84 = .ok (.ifCond .eq 7, 3) := by decide +kernel
theorem dX4_fits_87 : decode cX4_fits 87 = .ok (.iconst 2, 1) := by decide +kernel
theorem dX4_fits_88 : decode cX4_fits 88 = .ok (.goto 4, 3) := by decide +kernel
theorem dX4_fits_91 : decode cX4_fits 91 = .ok (.iconst 0, 1) := by decide +kernel
theorem dX4_fits_92 : decode cX4_fits 92 = .ok (.ior, 1) := by decide +kernel
theorem dX4_fits_93 : decode cX4_fits 93 = .ok (.istore 7, 2) := by decide +kernel
theorem dX4_fits_95 : decode cX4_fits 95 = .ok (.aload_n 0, 1) := by decide +kernel
theorem dX4_fits_96 : decode cX4_fits 96 = .ok (.iload_n 1, 1) := by decide +kernel
theorem dX4_fits_97 : decode cX4_fits 97 = .ok (.iload 6, 2) := by decide +kernel
theorem dX4_fits_99 : decode cX4_fits 99 = .ok (.iload 7, 2) := by decide +kernel
theorem dX4_fits_101 : decode cX4_fits 101 = .ok (.invokevirtual 103, 3) := by decide +kernel
theorem dX4_fits_104 : decode cX4_fits 104 = .ok (.iload 7, 2) := by decide +kernel
theorem dX4_fits_106 : decode cX4_fits 106 = .ok (.iconst 2, 1) := by decide +kernel
theorem dX4_fits_107 : decode cX4_fits 107 = .ok (.iand, 1) := by decide +kernel
theorem dX4_fits_108 : decode cX4_fits 108 = .ok (.ifCond .ne 5, 3) := by decide +kernel
theorem dX4_fits_111 : decode cX4_fits 111 = .ok (.iconst 0, 1) := by decide +kernel
theorem dX4_fits_112 : decode cX4_fits 112 = .ok (.ireturn, 1) := by decide +kernel
theorem dX4_fits_113 : decode cX4_fits 113 = .ok (.iinc 5 1, 3) := by decide +kernel
theorem dX4_fits_116 : decode cX4_fits 116 = .ok (.goto (-106), 3) := by decide +kernel
theorem dX4_fits_119 : decode cX4_fits 119 = .ok (.iconst 1, 1) := by decide +kernel
theorem dX4_fits_120 : decode cX4_fits 120 = .ok (.ireturn, 1) := by decide +kernel
set_option maxRecDepth 20000 in
theorem ggX4_canStand_X7_allowed : GoodIn wsX4_canStand wsX7_allowed := goodIn_r _ [6, 7, 8, 9, 10, 11, 12, 13, 14, 15, 16, 17, 28, 29, 30, 31, 32, 33, 34, 35, 36, 37, 38, 39] (by decide +kernel) (by decide +kernel)
set_option maxRecDepth 20000 in
theorem gX4_canStand_X7_allowed : GoodIn wsX4_canStand (wsV RX4 116 RX7 yX7_allowed wsX7_allowed) := goodIn_app (goodIn_of _ (by decide +kernel)) ggX4_canStand_X7_allowed
set_option maxRecDepth 20000 in
theorem ggX4_canStand_J6_bitCount_0f7a4 : GoodIn wsX4_canStand wsJ6_bitCount_0f7a4 := goodIn_r _ [21, 22, 23, 24] (by decide +kernel) (by decide +kernel)
set_option maxRecDepth 20000 in
theorem gX4_canStand_J6_bitCount_0f7a4 : GoodIn wsX4_canStand (va_wsS RX4 120 yJ6_bitCount_0f7a4 wsJ6_bitCount_0f7a4) := goodIn_app (goodIn_of _ (by decide +kernel)) ggX4_canStand_J6_bitCount_0f7a4
set_option maxRecDepth 20000 in
theorem ggX4_canStand_X4_canStand : GoodIn wsX4_canStand wsX4_canStand := goodIn_r _ [0, 1, 2, 3, 4, 5, 6, 7, 8, 9, 10, 11, 12, 13, 14, 15, 16, 17, 18, 19, 20, 21, 22, 23, 24, 25, 26, 27, 28, 29, 30, 31, 32, 33, 34, 35, 36, 37, 38, 39] (by decide +kernel) (by decide +kernel)
set_option maxRecDepth 20000 in
theorem gX4_canStand_X4_canStand : GoodIn wsX4_canStand (va_wsS RX4 68 yX4_canStand wsX4_canStand) := goodIn_app (goodIn_of _ (by decide +kernel)) ggX4_canStand_X4_canStand
theorem dX4_canStand_0 : decode cX4_canStand 0 = .ok (.iconst (-1), 1) := by decide +kernel
theorem dX4_canStand_1 : decode cX4_canStand 1 = .ok (.istore 5, 2) := by decide +kernel
theorem dX4_canStand_3 : decode cX4_canStand 3 = .ok (.iconst 0, 1) := by decide +kernel
theorem dX4_canStand_4 : decode cX4_canStand 4 = .ok (.istore 6, 2) := by decide +kernel
theorem dX4_canStand_6 : decode cX4_canStand 6 = .ok (.iconst 5, 1) := by decide +kernel
theorem dX4_canStand_7 : decode cX4_canStand 7 = .ok (.istore 7, 2) := by decide +kernel
theorem dX4_canStand_9 : decode cX4_canStand 9 = .ok (.iconst 0, 1) := by decide +kernel
theorem dX4_canStand_10 : decode cX4_canStand 10 = .ok (.istore 8, 2) := by decide +kernel
theorem dX4_canStand_12 : decode cX4_canStand 12 = .ok (.iload 8, 2) := by decide +kernel
theorem dX4_canStand_14 : decode cX4_canStand 14 = .ok (.aload_n 0, 1) := by decide +kernel
theorem dX4_canStand_15 : decode cX4_canStand 15 = .ok (.getfield 52, 3) := by decide +kernel
theorem dX4_canStand_18 : decode cX4_canStand 18 = .ok (.if_icmp .ge 71, 3) := by decide +kernel
theorem dX4_canStand_21 : decode cX4_canStand 21 = .ok (.iload 7, 2) := by decide +kernel
theorem dX4_canStand_23 : decode cX4_canStand 23 = .ok (.ifCond .le 66, 3) := by decide +kernel
theorem dX4_canStand_26 : decode cX4_canStand 26 = .ok (.iload_n 3, 1) := by decide +kernel
theorem dX4_canStand_27 : decode cX4_canStand 27 = .ok (.iload 4, 2) := by decide +kernel
theorem dX4_canStand_29 : decode cX4_canStand 29 = .ok (.iconst (-1), 1) := by decide +kernel
theorem dX4_canStand_30 : decode cX4_canStand 30 = .ok (.ixor, 1) := by decide +kernel
theorem dX4_canStand_31 : decode cX4_canStand 31 = .ok (.iand, 1) := by decide +kernel
theorem dX4_canStand_32 : decode cX4_canStand 32 = .ok (.iload 8, 2) := by decide +kernel
theorem dX4_canStand_34 : decode cX4_canStand 34 = .ok (.ishr, 1) := by decide +kernel
theorem dX4_canStand_35 : decode cX4_canStand 35 = .ok (.iconst 1, 1) := by decide +kernel
theorem dX4_canStand_36 : decode cX4_canStand 36 = .ok (.iand, 1) := by decide +kernel
theorem dX4_canStand_37 : decode cX4_canStand 37 = .ok (.ifCond .eq 46, 3) := by decide +kernel
theorem dX4_canStand_40 : decode cX4_canStand 40 = .ok (.aload_n 0, 1) := by decide +kernel
theorem dX4_canStand_41 : decode cX4_canStand 41 = .ok (.iload 8, 2) := by decide +kernel
theorem dX4_canStand_43 : decode cX4_canStand 43 = .ok (.aload_n 1, 1) := by decide +kernel
theorem dX4_canStand_44 : decode cX4_canStand 44 = .ok (.iload 4, 2) := by decide +kernel
theorem dX4_canStand_46 : decode cX4_canStand 46 = .ok (.invokevirtual 116, 3) := by decide +kernel
theorem dX4_canStand_49 : decode cX4_canStand 49 = .ok (.iload_n 2, 1) := by decide +kernel
theorem dX4_canStand_50 : decode cX4_canStand 50 = .ok (.iconst 4, 1) := by decide +kernel
theorem dX4_canStand_51 : decode cX4_canStand 51 = .ok (.imul, 1) := by decide +kernel
theorem dX4_canStand_52 : decode cX4_canStand 52 = .ok (.ishr, 1) := by decide +kernel
theorem dX4_canStand_53 : decode cX4_canStand 53 = .ok (.bipush 15, 2) := by decide +kernel
theorem dX4_canStand_55 : decode cX4_canStand 55 = .ok (.iand, 1) := by decide +kernel
theorem dX4_canStand_56 : decode cX4_canStand 56 = .ok (.istore 9, 2) := by decide +kernel
theorem dX4_canStand_58 : decode cX4_canStand 58 = .ok (.iload 9, 2) := by decide +kernel
theorem dX4_canStand_60 : decode cX4_canStand 60 = .ok (.invokestatic 120, 3) := by decide +kernel
theorem dX4_canStand_63 : decode cX4_canStand 63 = .ok (.iload 7, 2) := by decide +kernel
theorem dX4_canStand_65 : decode cX4_canStand 65 = .ok (.if_icmp .ge 18, 3) := by decide +kernel
theorem dX4_canStand_68 : decode cX4_canStand 68 = .ok (.iload 8, 2) := by decide +kernel
theorem dX4_canStand_70 : decode cX4_canStand 70 = .ok (.istore 5, 2) := by decide +kernel
theorem dX4_canStand_72 : decode cX4_canStand 72 = .ok (.iload 9, 2) := by decide +kernel
theorem dX4_canStand_74 : decode cX4_canStand 74 = .ok (.istore 6, 2) := by decide +kernel
theorem dX4_canStand_76 : decode cX4_canStand 76 = .ok (.iload 9, 2) := by decide +kernel
theorem dX4_canStand_78 : decode cX4_canStand 78 = .ok (.invokestatic 120, 3) := by decide +kernel
theorem dX4_canStand_81 : decode cX4_canStand 81 = .ok (.istore 7, 2) := by decide +kernel
theorem dX4_canStand_83 : decode cX4_canStand 83 = .ok (.iinc 8 1, 3) := by decide +kernel
theorem dX4_canStand_86 : decode cX4_canStand 86 = .ok (.goto (-74), 3) := by decide +kernel
theorem dX4_canStand_89 : decode cX4_canStand 89 = .ok (.iconst 0, 1) := by decide +kernel
theorem dX4_canStand_90 : decode cX4_canStand 90 = .ok (.istore 8, 2) := by decide +kernel
theorem dX4_canStand_92 : decode cX4_canStand 92 = .ok (.iload 8, 2) := by decide +kernel
theorem dX4_canStand_94 : decode cX4_canStand 94 = .ok (.iconst 4, 1) := by decide +kernel
theorem dX4_canStand_95 : decode cX4_canStand 95 = .ok (.if_icmp .ge 54, 3) := by decide +kernel
theorem dX4_canStand_98 : decode cX4_canStand 98 = .ok (.iload 5, 2) := by decide +kernel
theorem dX4_canStand_100 : decode cX4_canStand 100 = .ok (.iconst (-1), 1) := by decide +kernel
theorem dX4_canStand_101 : decode cX4_canStand 101 = .ok (.if_icmp .eq 48, 3) := by decide +kernel
theorem dX4_canStand_104 : decode cX4_canStand 104 = .ok (.iload 6, 2) := by decide +kernel
theorem dX4_canStand_106 : decode cX4_canStand 106 = .ok (.iload 8, 2) := by decide +kernel
theorem dX4_canStand_108 : decode cX4_canStand 108 = .ok (.ishr, 1) := by decide +kernel
theorem dX4_canStand_109 : decode cX4_canStand 109 = .ok (.iconst 1, 1) := by decide +kernel
theorem dX4_canStand_110 : decode cX4_canStand 110 = .ok (.iand, 1) := by decide +kernel
theorem dX4_canStand_111 : decode cX4_canStand 111 = .ok (.ifCond .eq 32, 3) := by decide +kernel
theorem dX4_canStand_114 : decode cX4_canStand 114 = .ok (.aload_n 1, 1) := by decide +kernel
theorem dX4_canStand_115 : decode cX4_canStand 115 = .ok (.iload 5, 2) := by decide +kernel
theorem dX4_canStand_117 : decode cX4_canStand 117 = .ok (.iload_n 2, 1) := by decide +kernel
theorem dX4_canStand_118 : decode cX4_canStand 118 = .ok (.iconst 4, 1) := by decide +kernel
theorem dX4_canStand_119 : decode cX4_canStand 119 = .ok (.imul, 1) := by decide +kernel
theorem dX4_canStand_120 : decode cX4_canStand 120 = .ok (.iload 8, 2) := by decide +kernel
theorem dX4_canStand_122 : decode cX4_canStand 122 = .ok (.iadd, 1) := by decide +kernel
theorem dX4_canStand_123 : decode cX4_canStand 123 = .ok (.iastore, 1) := by decide +kernel
theorem dX4_canStand_124 : decode cX4_canStand 124 = .ok (.aload_n 0, 1) := by decide +kernel
theorem dX4_canStand_125 : decode cX4_canStand 125 = .ok (.aload_n 1, 1) := by decide +kernel
theorem dX4_canStand_126 : decode cX4_canStand 126 = .ok (.iload_n 2, 1) := by decide +kernel
theorem dX4_canStand_127 : decode cX4_canStand 127 = .ok (.iload_n 3, 1) := by decide +kernel
theorem dX4_canStand_128 : decode cX4_canStand 128 = .ok (.iload 4, 2) := by decide +kernel
theorem dX4_canStand_130 : decode cX4_canStand 130 = .ok (.iconst 1, 1) := by decide +kernel
theorem dX4_canStand_131 : decode cX4_canStand 131 = .ok (.iload 5, 2) := by decide +kernel
theorem dX4_canStand_133 : decode cX4_canStand 133 = .ok (.ishl, 1) := by decide +kernel
theorem dX4_canStand_134 : decode cX4_canStand 134 = .ok (.ior, 1) := by decide +kernel
theorem dX4_canStand_135 : decode cX4_canStand 135 = .ok (.invokestatic 68, 3) := by decide +kernel
theorem dX4_canStand_138 : decode cX4_canStand 138 = .ok (.ifCond .eq 5, 3) := by decide +kernel
theorem dX4_canStand_141 : decode cX4_canStand 141 = .ok (.iconst 1, 1) := by decide +kernel
theorem dX4_canStand_142 : decode cX4_canStand 142 = .ok (.ireturn, 1) := by decide +kernel
theorem dX4_canStand_143 : decode cX4_canStand 143 = .ok (.iinc 8 1, 3) := by decide +kernel
theorem dX4_canStand_146 : decode cX4_canStand 146 = .ok (.goto (-54), 3) := by decide +kernel
theorem dX4_canStand_149 : decode cX4_canStand 149 = .ok (.iload 5, 2) := by decide +kernel
theorem dX4_canStand_151 : decode cX4_canStand 151 = .ok (.iconst (-1), 1) := by decide +kernel
theorem dX4_canStand_152 : decode cX4_canStand 152 = .ok (.if_icmp .ne 7, 3) := by decide +kernel
theorem dX4_canStand_155 : decode cX4_canStand 155 = .ok (.iconst 1, 1) := by decide +kernel
theorem dX4_canStand_156 : decode cX4_canStand 156 = .ok (.goto 4, 3) := by decide +kernel
theorem dX4_canStand_159 : decode cX4_canStand 159 = .ok (.iconst 0, 1) := by decide +kernel
theorem dX4_canStand_160 : decode cX4_canStand 160 = .ok (.ireturn, 1) := by decide +kernel
theorem dX4_marksOf_0 : decode cX4_marksOf 0 = .ok (.aload_n 0, 1) := by decide +kernel
theorem dX4_marksOf_1 : decode cX4_marksOf 1 = .ok (.getfield 29, 3) := by decide +kernel
theorem dX4_marksOf_4 : decode cX4_marksOf 4 = .ok (.iload_n 1, 1) := by decide +kernel
theorem dX4_marksOf_5 : decode cX4_marksOf 5 = .ok (.sipush 512, 3) := by decide +kernel
theorem dX4_marksOf_8 : decode cX4_marksOf 8 = .ok (.imul, 1) := by decide +kernel
theorem dX4_marksOf_9 : decode cX4_marksOf 9 = .ok (.iload_n 2, 1) := by decide +kernel
theorem dX4_marksOf_10 : decode cX4_marksOf 10 = .ok (.iadd, 1) := by decide +kernel
theorem dX4_marksOf_11 : decode cX4_marksOf 11 = .ok (.iaload, 1) := by decide +kernel
theorem dX4_marksOf_12 : decode cX4_marksOf 12 = .ok (.istore_n 3, 1) := by decide +kernel
theorem dX4_marksOf_13 : decode cX4_marksOf 13 = .ok (.iload_n 3, 1) := by decide +kernel
theorem dX4_marksOf_14 : decode cX4_marksOf 14 = .ok (.iconst 3, 1) := by decide +kernel
theorem dX4_marksOf_15 : decode cX4_marksOf 15 = .ok (.ishr, 1) := by decide +kernel
theorem dX4_marksOf_16 : decode cX4_marksOf 16 = .ok (.aload_n 0, 1) := by decide +kernel
theorem dX4_marksOf_17 : decode cX4_marksOf 17 = .ok (.getfield 61, 3) := by decide +kernel
theorem dX4_marksOf_20 : decode cX4_marksOf 20 = .ok (.if_icmp .ne 10, 3) := by decide +kernel
theorem dX4_marksOf_23 : decode cX4_marksOf 23 = .ok (.iload_n 3, 1) := by decide +kernel
theorem dX4_marksOf_24 : decode cX4_marksOf 24 = .ok (.bipush 7, 2) := by decide +kernel
theorem dX4_marksOf_26 : decode cX4_marksOf 26 = .ok (.iand, 1) := by decide +kernel
theorem dX4_marksOf_27 : decode cX4_marksOf 27 = .ok (.goto 4, 3) := by decide +kernel
theorem dX4_marksOf_30 : decode cX4_marksOf 30 = .ok (.iconst 0, 1) := by decide +kernel
theorem dX4_marksOf_31 : decode cX4_marksOf 31 = .ok (.ireturn, 1) := by decide +kernel
set_option maxRecDepth 20000 in
theorem ggX4_mark_X4_marksOf : GoodIn wsX4_mark wsX4_marksOf := goodIn_r _ [7, 1, 2, 8, 9, 10, 11, 12, 13, 14, 15] (by decide +kernel) (by decide +kernel)
set_option maxRecDepth 20000 in
theorem gX4_mark_X4_marksOf : GoodIn wsX4_mark (wsV RX4 99 RX4 yX4_marksOf wsX4_marksOf) := goodIn_app (goodIn_of _ (by decide +kernel)) ggX4_mark_X4_marksOf
theorem dX4_mark_0 : decode cX4_mark 0 = .ok (.aload_n 0, 1) := by decide +kernel
theorem dX4_mark_1 : decode cX4_mark 1 = .ok (.getfield 29, 3) := by decide +kernel
theorem dX4_mark_4 : decode cX4_mark 4 = .ok (.iload_n 1, 1) := by decide +kernel
theorem dX4_mark_5 : decode cX4_mark 5 = .ok (.sipush 512, 3) := by decide +kernel
theorem dX4_mark_8 : decode cX4_mark 8 = .ok (.imul, 1) := by decide +kernel
theorem dX4_mark_9 : decode cX4_mark 9 = .ok (.iload_n 2, 1) := by decide +kernel
theorem dX4_mark_10 : decode cX4_mark 10 = .ok (.iadd, 1) := by decide +kernel
theorem dX4_mark_11 : decode cX4_mark 11 = .ok (.aload_n 0, 1) := by decide +kernel
theorem dX4_mark_12 : decode cX4_mark 12 = .ok (.getfield 61, 3) := by decide +kernel
theorem dX4_mark_15 : decode cX4_mark 15 = .ok (.iconst 3, 1) := by decide +kernel
theorem dX4_mark_16 : decode cX4_mark 16 = .ok (.ishl, 1) := by decide +kernel
theorem dX4_mark_17 : decode cX4_mark 17 = .ok (.aload_n 0, 1) := by decide +kernel
theorem dX4_mark_18 : decode cX4_mark 18 = .ok (.iload_n 1, 1) := by decide +kernel
theorem dX4_mark_19 : decode cX4_mark 19 = .ok (.iload_n 2, 1) := by decide +kernel
theorem dX4_mark_20 : decode cX4_mark 20 = .ok (.invokevirtual 99, 3) := by decide +kernel
theorem dX4_mark_23 : decode cX4_mark 23 = .ok (.ior, 1) := by decide +kernel
theorem dX4_mark_24 : decode cX4_mark 24 = .ok (.iload_n 3, 1) := by decide +kernel
theorem dX4_mark_25 : decode cX4_mark 25 = .ok (.ior, 1) := by decide +kernel
theorem dX4_mark_26 : decode cX4_mark 26 = .ok (.iastore, 1) := by decide +kernel
theorem dX4_mark_27 : decode cX4_mark 27 = .ok (.return_, 1) := by decide +kernel
theorem dX5_init_0 : decode cX5_init 0 = .ok (.aload_n 0, 1) := by decide +kernel
theorem dX5_init_1 : decode cX5_init 1 = .ok (.invokespecial 5, 3) := by decide +kernel
theorem dX5_init_4 : decode cX5_init 4 = .ok (.aload_n 0, 1) := by decide +kernel
theorem dX5_init_5 : decode cX5_init 5 = .ok (.sipush 2560, 3) := by decide +kernel
theorem dX5_init_8 : decode cX5_init 8 = .ok (.newarray .int, 2) := by decide +kernel
theorem dX5_init_10 : decode cX5_init 10 = .ok (.putfield 13, 3) := by decide +kernel
theorem dX5_init_13 : decode cX5_init 13 = .ok (.return_, 1) := by decide +kernel
theorem dX5_keep_0 : decode cX5_keep 0 = .ok (.aload_n 1, 1) := by decide +kernel
theorem dX5_keep_1 : decode cX5_keep 1 = .ok (.getfield 17, 3) := by decide +kernel
theorem dX5_keep_4 : decode cX5_keep 4 = .ok (.iconst 0, 1) := by decide +kernel
theorem dX5_keep_5 : decode cX5_keep 5 = .ok (.aload_n 0, 1) := by decide +kernel
theorem dX5_keep_6 : decode cX5_keep 6 = .ok (.getfield 13, 3) := by decide +kernel
theorem dX5_keep_9 : decode cX5_keep 9 = .ok (.aload_n 0, 1) := by decide +kernel
theorem dX5_keep_10 : decode cX5_keep 10 = .ok (.getfield 20, 3) := by decide +kernel
theorem dX5_keep_13 : decode cX5_keep 13 = .ok (.sipush 128, 3) := by decide +kernel
theorem dX5_keep_16 : decode cX5_keep 16 = .ok (.imul, 1) := by decide +kernel
theorem dX5_keep_17 : decode cX5_keep 17 = .ok (.bipush 119, 2) := by decide +kernel
theorem dX5_keep_19 : decode cX5_keep 19 = .ok (.invokestatic 24, 3) := by decide +kernel
theorem dX5_keep_22 : decode cX5_keep 22 = .ok (.aload_n 1, 1) := by decide +kernel
theorem dX5_keep_23 : decode cX5_keep 23 = .ok (.getfield 30, 3) := by decide +kernel
theorem dX5_keep_26 : decode cX5_keep 26 = .ok (.iconst 0, 1) := by decide +kernel
theorem dX5_keep_27 : decode cX5_keep 27 = .ok (.aload_n 0, 1) := by decide +kernel
theorem dX5_keep_28 : decode cX5_keep 28 = .ok (.getfield 13, 3) := by decide +kernel
theorem dX5_keep_31 : decode cX5_keep 31 = .ok (.aload_n 0, 1) := by decide +kernel
theorem dX5_keep_32 : decode cX5_keep 32 = .ok (.getfield 20, 3) := by decide +kernel
theorem dX5_keep_35 : decode cX5_keep 35 = .ok (.sipush 128, 3) := by decide +kernel
theorem dX5_keep_38 : decode cX5_keep 38 = .ok (.imul, 1) := by decide +kernel
theorem dX5_keep_39 : decode cX5_keep 39 = .ok (.bipush 119, 2) := by decide +kernel
theorem dX5_keep_41 : decode cX5_keep 41 = .ok (.iadd, 1) := by decide +kernel
theorem dX5_keep_42 : decode cX5_keep 42 = .ok (.bipush 9, 2) := by decide +kernel
theorem dX5_keep_44 : decode cX5_keep 44 = .ok (.invokestatic 24, 3) := by decide +kernel
theorem dX5_keep_47 : decode cX5_keep 47 = .ok (.aload_n 0, 1) := by decide +kernel
theorem dX5_keep_48 : decode cX5_keep 48 = .ok (.aload_n 0, 1) := by decide +kernel
theorem dX5_keep_49 : decode cX5_keep 49 = .ok (.getfield 20, 3) := by decide +kernel
theorem dX5_keep_52 : decode cX5_keep 52 = .ok (.iconst 1, 1) := by decide +kernel
theorem dX5_keep_53 : decode cX5_keep 53 = .ok (.iadd, 1) := by decide +kernel
theorem dX5_keep_54 : decode cX5_keep 54 = .ok (.bipush 20, 2) := by decide +kernel
theorem dX5_keep_56 : decode cX5_keep 56 = .ok (.irem, 1) := by decide +kernel
theorem dX5_keep_57 : decode cX5_keep 57 = .ok (.putfield 20, 3) := by decide +kernel
theorem dX5_keep_60 : decode cX5_keep 60 = .ok (.aload_n 0, 1) := by decide +kernel
theorem dX5_keep_61 : decode cX5_keep 61 = .ok (.aload_n 0, 1) := by decide +kernel
theorem dX5_keep_62 : decode cX5_keep 62 = .ok (.getfield 33, 3) := by decide +kernel
theorem dX5_keep_65 : decode cX5_keep 65 = .ok (.iconst 1, 1) := by decide +kernel
theorem dX5_keep_66 : decode cX5_keep 66 = .ok (.iadd, 1) := by decide +kernel
theorem dX5_keep_67 : decode cX5_keep 67 = .ok (.bipush 20, 2) := by decide +kernel
theorem dX5_keep_69 : decode cX5_keep 69 = .ok (.invokestatic 36, 3) := by decide +kernel
theorem dX5_keep_72 : decode cX5_keep 72 = .ok (.putfield 33, 3) := by decide +kernel
theorem dX5_keep_75 : decode cX5_keep 75 = .ok (.return_, 1) := by decide +kernel
theorem dX5_back_0 : decode cX5_back 0 = .ok (.aload_n 0, 1) := by decide +kernel
theorem dX5_back_1 : decode cX5_back 1 = .ok (.aload_n 0, 1) := by decide +kernel
theorem dX5_back_2 : decode cX5_back 2 = .ok (.getfield 20, 3) := by decide +kernel
theorem dX5_back_5 : decode cX5_back 5 = .ok (.bipush 20, 2) := by decide +kernel
theorem dX5_back_7 : decode cX5_back 7 = .ok (.iadd, 1) := by decide +kernel
theorem dX5_back_8 : decode cX5_back 8 = .ok (.iconst 1, 1) := by decide +kernel
theorem dX5_back_9 : decode cX5_back 9 = .ok (.isub, 1) := by decide +kernel
theorem dX5_back_10 : decode cX5_back 10 = .ok (.bipush 20, 2) := by decide +kernel
theorem dX5_back_12 : decode cX5_back 12 = .ok (.irem, 1) := by decide +kernel
theorem dX5_back_13 : decode cX5_back 13 = .ok (.putfield 20, 3) := by decide +kernel
theorem dX5_back_16 : decode cX5_back 16 = .ok (.aload_n 0, 1) := by decide +kernel
theorem dX5_back_17 : decode cX5_back 17 = .ok (.dup, 1) := by decide +kernel
theorem dX5_back_18 : decode cX5_back 18 = .ok (.getfield 33, 3) := by decide +kernel
theorem dX5_back_21 : decode cX5_back 21 = .ok (.iconst 1, 1) := by decide +kernel
theorem dX5_back_22 : decode cX5_back 22 = .ok (.isub, 1) := by decide +kernel
theorem dX5_back_23 : decode cX5_back 23 = .ok (.putfield 33, 3) := by decide +kernel
theorem dX5_back_26 : decode cX5_back 26 = .ok (.aload_n 0, 1) := by decide +kernel
theorem dX5_back_27 : decode cX5_back 27 = .ok (.getfield 13, 3) := by decide +kernel
theorem dX5_back_30 : decode cX5_back 30 = .ok (.aload_n 0, 1) := by decide +kernel
theorem dX5_back_31 : decode cX5_back 31 = .ok (.getfield 20, 3) := by decide +kernel
theorem dX5_back_34 : decode cX5_back 34 = .ok (.sipush 128, 3) := by decide +kernel
theorem dX5_back_37 : decode cX5_back 37 = .ok (.imul, 1) := by decide +kernel
theorem dX5_back_38 : decode cX5_back 38 = .ok (.aload_n 1, 1) := by decide +kernel
theorem dX5_back_39 : decode cX5_back 39 = .ok (.getfield 17, 3) := by decide +kernel
theorem dX5_back_42 : decode cX5_back 42 = .ok (.iconst 0, 1) := by decide +kernel
theorem dX5_back_43 : decode cX5_back 43 = .ok (.bipush 119, 2) := by decide +kernel
theorem dX5_back_45 : decode cX5_back 45 = .ok (.invokestatic 24, 3) := by decide +kernel
theorem dX5_back_48 : decode cX5_back 48 = .ok (.aload_n 0, 1) := by decide +kernel
theorem dX5_back_49 : decode cX5_back 49 = .ok (.getfield 13, 3) := by decide +kernel
theorem dX5_back_52 : decode cX5_back 52 = .ok (.aload_n 0, 1) := by decide +kernel
theorem dX5_back_53 : decode cX5_back 53 = .ok (.getfield 20, 3) := by decide +kernel
theorem dX5_back_56 : decode cX5_back 56 = .ok (.sipush 128, 3) := by decide +kernel
theorem dX5_back_59 : decode cX5_back 59 = .ok (.imul, 1) := by decide +kernel
theorem dX5_back_60 : decode cX5_back 60 = .ok (.bipush 119, 2) := by decide +kernel
theorem dX5_back_62 : decode cX5_back 62 = .ok (.iadd, 1) := by decide +kernel
theorem dX5_back_63 : decode cX5_back 63 = .ok (.aload_n 1, 1) := by decide +kernel
theorem dX5_back_64 : decode cX5_back 64 = .ok (.getfield 30, 3) := by decide +kernel
theorem dX5_back_67 : decode cX5_back 67 = .ok (.iconst 0, 1) := by decide +kernel
theorem dX5_back_68 : decode cX5_back 68 = .ok (.bipush 9, 2) := by decide +kernel
theorem dX5_back_70 : decode cX5_back 70 = .ok (.invokestatic 24, 3) := by decide +kernel
theorem dX5_back_73 : decode cX5_back 73 = .ok (.aload_n 0, 1) := by decide +kernel
theorem dX5_back_74 : decode cX5_back 74 = .ok (.getfield 33, 3) := by decide +kernel
theorem dX5_back_77 : decode cX5_back 77 = .ok (.ireturn, 1) := by decide +kernel
theorem dX6_init_0 : decode cX6_init 0 = .ok (.aload_n 0, 1) := by decide +kernel
theorem dX6_init_1 : decode cX6_init 1 = .ok (.invokespecial 3, 3) := by decide +kernel
theorem dX6_init_4 : decode cX6_init 4 = .ok (.aload_n 0, 1) := by decide +kernel
theorem dX6_init_5 : decode cX6_init 5 = .ok (.bipush 9, 2) := by decide +kernel
theorem dX6_init_7 : decode cX6_init 7 = .ok (.newarray .int, 2) := by decide +kernel
theorem dX6_init_9 : decode cX6_init 9 = .ok (.putfield 9, 3) := by decide +kernel
theorem dX6_init_12 : decode cX6_init 12 = .ok (.aload_n 0, 1) := by decide +kernel
theorem dX6_init_13 : decode cX6_init 13 = .ok (.bipush 9, 2) := by decide +kernel
theorem dX6_init_15 : decode cX6_init 15 = .ok (.newarray .int, 2) := by decide +kernel
theorem dX6_init_17 : decode cX6_init 17 = .ok (.putfield 15, 3) := by decide +kernel
theorem dX6_init_20 : decode cX6_init 20 = .ok (.return_, 1) := by decide +kernel
set_option maxRecDepth 20000 in
theorem ggX6_costOf_X8_slotsOfPerson : GoodIn wsX6_costOf wsX8_slotsOfPerson := goodIn_r _ [5, 6, 7, 8, 4, 9, 10, 11, 12, 13, 14, 15, 16, 17, 18, 51, 52] (by decide +kernel) (by decide +kernel)
set_option maxRecDepth 20000 in
theorem gX6_costOf_X8_slotsOfPerson : GoodIn wsX6_costOf (wsV RX6 18 RX8 yX8_slotsOfPerson wsX8_slotsOfPerson) := goodIn_app (goodIn_of _ (by decide +kernel)) ggX6_costOf_X8_slotsOfPerson
set_option maxRecDepth 20000 in
theorem ggX6_costOf_X6_gapsIn : GoodIn wsX6_costOf wsX6_gapsIn := goodIn_r _ [23, 24, 25, 26, 27, 28, 29, 30, 31, 32, 33, 34, 35, 36] (by decide +kernel) (by decide +kernel)
set_option maxRecDepth 20000 in
theorem gX6_costOf_X6_gapsIn : GoodIn wsX6_costOf (wsV RX6 24 RX6 yX6_gapsIn wsX6_gapsIn) := goodIn_app (goodIn_of _ (by decide +kernel)) ggX6_costOf_X6_gapsIn
set_option maxRecDepth 20000 in
theorem ggX6_costOf_X8_wishTotal : GoodIn wsX6_costOf wsX8_wishTotal := goodIn_r _ [40, 10, 51, 52] (by decide +kernel) (by decide +kernel)
set_option maxRecDepth 20000 in
theorem gX6_costOf_X8_wishTotal : GoodIn wsX6_costOf (wsV RX6 28 RX8 yX8_wishTotal wsX8_wishTotal) := goodIn_app (goodIn_of _ (by decide +kernel)) ggX6_costOf_X8_wishTotal
set_option maxRecDepth 20000 in
theorem ggX6_costOf_X8_ofWish : GoodIn wsX6_costOf wsX8_ofWish := goodIn_r _ [44, 10, 51, 52] (by decide +kernel) (by decide +kernel)
set_option maxRecDepth 20000 in
theorem gX6_costOf_X8_ofWish : GoodIn wsX6_costOf (wsV RX6 32 RX8 yX8_ofWish wsX8_ofWish) := goodIn_app (goodIn_of _ (by decide +kernel)) ggX6_costOf_X8_ofWish
set_option maxRecDepth 20000 in
theorem ggX6_costOf_X8_fulfils : GoodIn wsX6_costOf wsX8_fulfils := goodIn_r _ [48, 49, 42, 43, 4, 44, 10, 50, 2, 3, 5, 6, 7, 8, 9, 11, 12, 13, 14, 15, 16, 17, 18, 51, 52] (by decide +kernel) (by decide +kernel)
set_option maxRecDepth 20000 in
theorem gX6_costOf_X8_fulfils : GoodIn wsX6_costOf (wsV RX6 36 RX8 yX8_fulfils wsX8_fulfils) := goodIn_app (goodIn_of _ (by decide +kernel)) ggX6_costOf_X8_fulfils
theorem dX6_costOf_0 : decode cX6_costOf 0 = .ok (.iconst 0, 1) := by decide +kernel
theorem dX6_costOf_1 : decode cX6_costOf 1 = .ok (.istore_n 3, 1) := by decide +kernel
theorem dX6_costOf_2 : decode cX6_costOf 2 = .ok (.iconst 0, 1) := by decide +kernel
theorem dX6_costOf_3 : decode cX6_costOf 3 = .ok (.istore 4, 2) := by decide +kernel
theorem dX6_costOf_5 : decode cX6_costOf 5 = .ok (.iload 4, 2) := by decide +kernel
theorem dX6_costOf_7 : decode cX6_costOf 7 = .ok (.iconst 4, 1) := by decide +kernel
theorem dX6_costOf_8 : decode cX6_costOf 8 = .ok (.if_icmp .ge 24, 3) := by decide +kernel
theorem dX6_costOf_11 : decode cX6_costOf 11 = .ok (.iload_n 3, 1) := by decide +kernel
theorem dX6_costOf_12 : decode cX6_costOf 12 = .ok (.aload_n 0, 1) := by decide +kernel
theorem dX6_costOf_13 : decode cX6_costOf 13 = .ok (.aload_n 1, 1) := by decide +kernel
theorem dX6_costOf_14 : decode cX6_costOf 14 = .ok (.iconst 0, 1) := by decide +kernel
theorem dX6_costOf_15 : decode cX6_costOf 15 = .ok (.iload 4, 2) := by decide +kernel
theorem dX6_costOf_17 : decode cX6_costOf 17 = .ok (.aload_n 2, 1) := by decide +kernel
theorem dX6_costOf_18 : decode cX6_costOf 18 = .ok (.invokevirtual 18, 3) := by decide +kernel
theorem dX6_costOf_21 : decode cX6_costOf 21 = .ok (.invokevirtual 24, 3) := by decide +kernel
theorem dX6_costOf_24 : decode cX6_costOf 24 = .ok (.iadd, 1) := by decide +kernel
theorem dX6_costOf_25 : decode cX6_costOf 25 = .ok (.istore_n 3, 1) := by decide +kernel
theorem dX6_costOf_26 : decode cX6_costOf 26 = .ok (.iinc 4 1, 3) := by decide +kernel
theorem dX6_costOf_29 : decode cX6_costOf 29 = .ok (.goto (-24), 3) := by decide +kernel
theorem dX6_costOf_32 : decode cX6_costOf 32 = .ok (.iconst 0, 1) := by decide +kernel
theorem dX6_costOf_33 : decode cX6_costOf 33 = .ok (.istore 4, 2) := by decide +kernel
theorem dX6_costOf_35 : decode cX6_costOf 35 = .ok (.iload 4, 2) := by decide +kernel
theorem dX6_costOf_37 : decode cX6_costOf 37 = .ok (.bipush 6, 2) := by decide +kernel
theorem dX6_costOf_39 : decode cX6_costOf 39 = .ok (.if_icmp .ge 24, 3) := by decide +kernel
theorem dX6_costOf_42 : decode cX6_costOf 42 = .ok (.iload_n 3, 1) := by decide +kernel
theorem dX6_costOf_43 : decode cX6_costOf 43 = .ok (.aload_n 0, 1) := by decide +kernel
theorem dX6_costOf_44 : decode cX6_costOf 44 = .ok (.aload_n 1, 1) := by decide +kernel
theorem dX6_costOf_45 : decode cX6_costOf 45 = .ok (.iconst 1, 1) := by decide +kernel
theorem dX6_costOf_46 : decode cX6_costOf 46 = .ok (.iload 4, 2) := by decide +kernel
theorem dX6_costOf_48 : decode cX6_costOf 48 = .ok (.aload_n 2, 1) := by decide +kernel
theorem dX6_costOf_49 : decode cX6_costOf 49 = .ok (.invokevirtual 18, 3) := by decide +kernel
theorem dX6_costOf_52 : decode cX6_costOf 52 = .ok (.invokevirtual 24, 3) := by decide +kernel
theorem dX6_costOf_55 : decode cX6_costOf 55 = .ok (.iadd, 1) := by decide +kernel
theorem dX6_costOf_56 : decode cX6_costOf 56 = .ok (.istore_n 3, 1) := by decide +kernel
theorem dX6_costOf_57 : decode cX6_costOf 57 = .ok (.iinc 4 1, 3) := by decide +kernel
theorem dX6_costOf_60 : decode cX6_costOf 60 = .ok (.goto (-25), 3) := by decide +kernel
theorem dX6_costOf_63 : decode cX6_costOf 63 = .ok (.iconst 0, 1) := by decide +kernel
theorem dX6_costOf_64 : decode cX6_costOf 64 = .ok (.istore 4, 2) := by decide +kernel
theorem dX6_costOf_66 : decode cX6_costOf 66 = .ok (.iload 4, 2) := by decide +kernel
theorem dX6_costOf_68 : decode cX6_costOf 68 = .ok (.aload_n 1, 1) := by decide +kernel
theorem dX6_costOf_69 : decode cX6_costOf 69 = .ok (.invokevirtual 28, 3) := by decide +kernel
theorem dX6_costOf_72 : decode cX6_costOf 72 = .ok (.if_icmp .ge 38, 3) := by decide +kernel
theorem dX6_costOf_75 : decode cX6_costOf 75 = .ok (.aload_n 1, 1) := by decide +kernel
theorem dX6_costOf_76 : decode cX6_costOf 76 = .ok (.iload 4, 2) := by decide +kernel
theorem dX6_costOf_78 : decode cX6_costOf 78 = .ok (.iconst 3, 1) := by decide +kernel
theorem dX6_costOf_79 : decode cX6_costOf 79 = .ok (.invokevirtual 32, 3) := by decide +kernel
theorem dX6_costOf_82 : decode cX6_costOf 82 = .ok (.istore 5, 2) := by decide +kernel
theorem dX6_costOf_84 : decode cX6_costOf 84 = .ok (.iload 5, 2) := by decide +kernel
theorem dX6_costOf_86 : decode cX6_costOf 86 = .ok (.ifCond .eq 18, 3) := by decide +kernel
theorem dX6_costOf_89 : decode cX6_costOf 89 = .ok (.aload_n 1, 1) := by decide +kernel
theorem dX6_costOf_90 : decode cX6_costOf 90 = .ok (.iload 4, 2) := by decide +kernel
theorem dX6_costOf_92 : decode cX6_costOf 92 = .ok (.aload_n 2, 1) := by decide +kernel
theorem dX6_costOf_93 : decode cX6_costOf 93 = .ok (.invokevirtual 36, 3) := by decide +kernel
theorem dX6_costOf_96 : decode cX6_costOf 96 = .ok (.ifCond .ne 8, 3) := by decide +kernel
theorem dX6_costOf_99 : decode cX6_costOf 99 = .ok (.iload_n 3, 1) := by decide +kernel
theorem dX6_costOf_100 : decode cX6_costOf 100 = .ok (.iload 5, 2) := by decide +kernel
theorem dX6_costOf_102 : decode cX6_costOf 102 = .ok (.iadd, 1) := by decide +kernel
theorem dX6_costOf_103 : decode cX6_costOf 103 = .ok (.istore_n 3, 1) := by decide +kernel
theorem dX6_costOf_104 : decode cX6_costOf 104 = .ok (.iinc 4 1, 3) := by decide +kernel
theorem dX6_costOf_107 : decode cX6_costOf 107 = .ok (.goto (-41), 3) := by decide +kernel
theorem dX6_costOf_110 : decode cX6_costOf 110 = .ok (.iload_n 3, 1) := by decide +kernel
theorem dX6_costOf_111 : decode cX6_costOf 111 = .ok (.ireturn, 1) := by decide +kernel
set_option maxRecDepth 20000 in
theorem ggX6_gapsIn_J6_bitCount_0f7a4 : GoodIn wsX6_gapsIn wsJ6_bitCount_0f7a4 := goodIn_r _ [10, 11, 12, 13] (by decide +kernel) (by decide +kernel)
set_option maxRecDepth 20000 in
theorem gX6_gapsIn_J6_bitCount_0f7a4 : GoodIn wsX6_gapsIn (va_wsS RX6 46 yJ6_bitCount_0f7a4 wsJ6_bitCount_0f7a4) := goodIn_app (goodIn_of _ (by decide +kernel)) ggX6_gapsIn_J6_bitCount_0f7a4
theorem dX6_gapsIn_0 : decode cX6_gapsIn 0 = .ok (.iload_n 1, 1) := by decide +kernel
theorem dX6_gapsIn_1 : decode cX6_gapsIn 1 = .ok (.iconst 1, 1) := by decide +kernel
theorem dX6_gapsIn_2 : decode cX6_gapsIn 2 = .ok (.ishl, 1) := by decide +kernel
theorem dX6_gapsIn_3 : decode cX6_gapsIn 3 = .ok (.ldc 40, 2) := by decide +kernel
theorem dX6_gapsIn_5 : decode cX6_gapsIn 5 = .ok (.iand, 1) := by decide +kernel
theorem dX6_gapsIn_6 : decode cX6_gapsIn 6 = .ok (.iload_n 1, 1) := by decide +kernel
theorem dX6_gapsIn_7 : decode cX6_gapsIn 7 = .ok (.iconst 2, 1) := by decide +kernel
theorem dX6_gapsIn_8 : decode cX6_gapsIn 8 = .ok (.ishl, 1) := by decide +kernel
theorem dX6_gapsIn_9 : decode cX6_gapsIn 9 = .ok (.ldc 41, 2) := by decide +kernel
theorem dX6_gapsIn_11 : decode cX6_gapsIn 11 = .ok (.iand, 1) := by decide +kernel
theorem dX6_gapsIn_12 : decode cX6_gapsIn 12 = .ok (.ior, 1) := by decide +kernel
theorem dX6_gapsIn_13 : decode cX6_gapsIn 13 = .ok (.iload_n 1, 1) := by decide +kernel
theorem dX6_gapsIn_14 : decode cX6_gapsIn 14 = .ok (.iconst 3, 1) := by decide +kernel
theorem dX6_gapsIn_15 : decode cX6_gapsIn 15 = .ok (.ishl, 1) := by decide +kernel
theorem dX6_gapsIn_16 : decode cX6_gapsIn 16 = .ok (.ldc 42, 2) := by decide +kernel
theorem dX6_gapsIn_18 : decode cX6_gapsIn 18 = .ok (.iand, 1) := by decide +kernel
theorem dX6_gapsIn_19 : decode cX6_gapsIn 19 = .ok (.ior, 1) := by decide +kernel
theorem dX6_gapsIn_20 : decode cX6_gapsIn 20 = .ok (.istore_n 2, 1) := by decide +kernel
theorem dX6_gapsIn_21 : decode cX6_gapsIn 21 = .ok (.iload_n 1, 1) := by decide +kernel
theorem dX6_gapsIn_22 : decode cX6_gapsIn 22 = .ok (.iconst 1, 1) := by decide +kernel
theorem dX6_gapsIn_23 : decode cX6_gapsIn 23 = .ok (.ishr, 1) := by decide +kernel
theorem dX6_gapsIn_24 : decode cX6_gapsIn 24 = .ok (.ldc 43, 2) := by decide +kernel
theorem dX6_gapsIn_26 : decode cX6_gapsIn 26 = .ok (.iand, 1) := by decide +kernel
theorem dX6_gapsIn_27 : decode cX6_gapsIn 27 = .ok (.iload_n 1, 1) := by decide +kernel
theorem dX6_gapsIn_28 : decode cX6_gapsIn 28 = .ok (.iconst 2, 1) := by decide +kernel
theorem dX6_gapsIn_29 : decode cX6_gapsIn 29 = .ok (.ishr, 1) := by decide +kernel
theorem dX6_gapsIn_30 : decode cX6_gapsIn 30 = .ok (.ldc 44, 2) := by decide +kernel
theorem dX6_gapsIn_32 : decode cX6_gapsIn 32 = .ok (.iand, 1) := by decide +kernel
theorem dX6_gapsIn_33 : decode cX6_gapsIn 33 = .ok (.ior, 1) := by decide +kernel
theorem dX6_gapsIn_34 : decode cX6_gapsIn 34 = .ok (.iload_n 1, 1) := by decide +kernel
theorem dX6_gapsIn_35 : decode cX6_gapsIn 35 = .ok (.iconst 3, 1) := by decide +kernel
theorem dX6_gapsIn_36 : decode cX6_gapsIn 36 = .ok (.ishr, 1) := by decide +kernel
theorem dX6_gapsIn_37 : decode cX6_gapsIn 37 = .ok (.ldc 45, 2) := by decide +kernel
theorem dX6_gapsIn_39 : decode cX6_gapsIn 39 = .ok (.iand, 1) := by decide +kernel
theorem dX6_gapsIn_40 : decode cX6_gapsIn 40 = .ok (.ior, 1) := by decide +kernel
theorem dX6_gapsIn_41 : decode cX6_gapsIn 41 = .ok (.istore_n 3, 1) := by decide +kernel
theorem dX6_gapsIn_42 : decode cX6_gapsIn 42 = .ok (.iload_n 2, 1) := by decide +kernel
theorem dX6_gapsIn_43 : decode cX6_gapsIn 43 = .ok (.iload_n 3, 1) := by decide +kernel
theorem dX6_gapsIn_44 : decode cX6_gapsIn 44 = .ok (.iand, 1) := by decide +kernel
theorem dX6_gapsIn_45 : decode cX6_gapsIn 45 = .ok (.iload_n 1, 1) := by decide +kernel
theorem dX6_gapsIn_46 : decode cX6_gapsIn 46 = .ok (.iconst (-1), 1) := by decide +kernel
theorem dX6_gapsIn_47 : decode cX6_gapsIn 47 = .ok (.ixor, 1) := by decide +kernel
theorem dX6_gapsIn_48 : decode cX6_gapsIn 48 = .ok (.iand, 1) := by decide +kernel
theorem dX6_gapsIn_49 : decode cX6_gapsIn 49 = .ok (.invokestatic 46, 3) := by decide +kernel
theorem dX6_gapsIn_52 : decode cX6_gapsIn 52 = .ok (.ireturn, 1) := by decide +kernel
set_option maxRecDepth 20000 in
theorem ggX6_seekBest_X6_costOf : GoodIn wsX6_seekBest wsX6_costOf := goodIn_r _ [13, 14, 15, 16, 17, 18, 19, 20, 21, 22, 23, 24, 25, 26, 27, 28, 29, 30, 31, 32, 33, 34, 12, 35, 36, 37, 38, 39, 40, 41, 42, 43, 44, 45, 46, 47, 48, 49, 50, 51, 52, 53, 54, 55, 56, 57, 58, 59, 60, 61, 62, 97, 98] (by decide +kernel) (by decide +kernel)
set_option maxRecDepth 20000 in
theorem gX6_seekBest_X6_costOf : GoodIn wsX6_seekBest (wsV RX6 54 RX6 yX6_costOf wsX6_costOf) := goodIn_app (goodIn_of _ (by decide +kernel)) ggX6_seekBest_X6_costOf
set_option maxRecDepth 20000 in
theorem ggX6_seekBest_X6_trySlots : GoodIn wsX6_seekBest wsX6_trySlots := goodIn_r _ [66, 1, 3, 67, 68, 69, 70, 71, 72, 73, 74, 75, 76, 77, 78, 79, 80, 81, 82, 83, 84, 85, 12, 86, 2, 87, 4, 5, 6, 7, 9, 10, 11, 13, 14, 15, 16, 17, 18, 19, 20, 21, 22, 23, 24, 25, 26, 27, 28, 29, 30, 31, 32, 33, 34, 35, 36, 37, 38, 39, 40, 41, 42, 43, 44, 45, 46, 47, 48, 49, 50, 51, 52, 53, 54, 55, 56, 57, 58, 59, 60, 61, 62, 97, 98, 99, 100, 101, 102, 103, 104, 105, 106, 107, 108, 109, 110, 111, 112, 113] (by decide +kernel) (by decide +kernel)
set_option maxRecDepth 20000 in
theorem gX6_seekBest_X6_trySlots : GoodIn wsX6_seekBest (wsV RX6 73 RX6 yX6_trySlots wsX6_trySlots) := goodIn_app (goodIn_of _ (by decide +kernel)) ggX6_seekBest_X6_trySlots
set_option maxRecDepth 20000 in
theorem ggX6_seekBest_X6_trySwap : GoodIn wsX6_seekBest wsX6_trySwap := goodIn_r _ [91, 3, 1, 92, 93, 94, 70, 95, 73, 96, 68, 69, 71, 72, 74, 75, 76, 77, 78, 79, 80, 81, 82, 83, 84, 85, 12, 86, 2, 87, 4, 5, 6, 7, 9, 10, 11, 13, 14, 15, 16, 17, 18, 19, 20, 21, 22, 23, 24, 25, 26, 27, 28, 29, 30, 31, 32, 33, 34, 35, 36, 37, 38, 39, 40, 41, 42, 43, 44, 45, 46, 47, 48, 49, 50, 51, 52, 53, 54, 55, 56, 57, 58, 59, 60, 61, 62, 99, 100, 101, 97, 98, 102, 103, 104, 105, 106, 107, 108, 109, 110, 111, 112, 113] (by decide +kernel) (by decide +kernel)
set_option maxRecDepth 20000 in
theorem gX6_seekBest_X6_trySwap : GoodIn wsX6_seekBest (wsV RX6 77 RX6 yX6_trySwap wsX6_trySwap) := goodIn_app (goodIn_of _ (by decide +kernel)) ggX6_seekBest_X6_trySwap
theorem dX6_seekBest_0 : decode cX6_seekBest 0 = .ok (.aload_n 0, 1) := by decide +kernel
theorem dX6_seekBest_1 : decode cX6_seekBest 1 = .ok (.aload_n 1, 1) := by decide +kernel
theorem dX6_seekBest_2 : decode cX6_seekBest 2 = .ok (.aload_n 1, 1) := by decide +kernel
theorem dX6_seekBest_3 : decode cX6_seekBest 3 = .ok (.getfield 51, 3) := by decide +kernel
theorem dX6_seekBest_6 : decode cX6_seekBest 6 = .ok (.invokevirtual 54, 3) := by decide +kernel
theorem dX6_seekBest_9 : decode cX6_seekBest 9 = .ok (.istore_n 3, 1) := by decide +kernel
theorem dX6_seekBest_10 : decode cX6_seekBest 10 = .ok (.aload_n 0, 1) := by decide +kernel
theorem dX6_seekBest_11 : decode cX6_seekBest 11 = .ok (.iload_n 3, 1) := by decide +kernel
theorem dX6_seekBest_12 : decode cX6_seekBest 12 = .ok (.putfield 58, 3) := by decide +kernel
theorem dX6_seekBest_15 : decode cX6_seekBest 15 = .ok (.aload_n 1, 1) := by decide +kernel
theorem dX6_seekBest_16 : decode cX6_seekBest 16 = .ok (.getfield 51, 3) := by decide +kernel
theorem dX6_seekBest_19 : decode cX6_seekBest 19 = .ok (.iconst 0, 1) := by decide +kernel
theorem dX6_seekBest_20 : decode cX6_seekBest 20 = .ok (.aload_n 0, 1) := by decide +kernel
theorem dX6_seekBest_21 : decode cX6_seekBest 21 = .ok (.getfield 15, 3) := by decide +kernel
theorem dX6_seekBest_24 : decode cX6_seekBest 24 = .ok (.iconst 0, 1) := by decide +kernel
theorem dX6_seekBest_25 : decode cX6_seekBest 25 = .ok (.bipush 9, 2) := by decide +kernel
theorem dX6_seekBest_27 : decode cX6_seekBest 27 = .ok (.invokestatic 62, 3) := by decide +kernel
theorem dX6_seekBest_30 : decode cX6_seekBest 30 = .ok (.iconst 0, 1) := by decide +kernel
theorem dX6_seekBest_31 : decode cX6_seekBest 31 = .ok (.istore 4, 2) := by decide +kernel
theorem dX6_seekBest_33 : decode cX6_seekBest 33 = .ok (.iload 4, 2) := by decide +kernel
theorem dX6_seekBest_35 : decode cX6_seekBest 35 = .ok (.aload_n 2, 1) := by decide +kernel
theorem dX6_seekBest_36 : decode cX6_seekBest 36 = .ok (.getfield 68, 3) := by decide +kernel
theorem dX6_seekBest_39 : decode cX6_seekBest 39 = .ok (.if_icmp .ge 24, 3) := by decide +kernel
theorem dX6_seekBest_42 : decode cX6_seekBest 42 = .ok (.aload_n 0, 1) := by decide +kernel
theorem dX6_seekBest_43 : decode cX6_seekBest 43 = .ok (.getfield 58, 3) := by decide +kernel
theorem dX6_seekBest_46 : decode cX6_seekBest 46 = .ok (.ifCond .le 17, 3) := by decide +kernel
theorem dX6_seekBest_49 : decode cX6_seekBest 49 = .ok (.aload_n 0, 1) := by decide +kernel
theorem dX6_seekBest_50 : decode cX6_seekBest 50 = .ok (.aload_n 1, 1) := by decide +kernel
theorem dX6_seekBest_51 : decode cX6_seekBest 51 = .ok (.aload_n 2, 1) := by decide +kernel
theorem dX6_seekBest_52 : decode cX6_seekBest 52 = .ok (.iload 4, 2) := by decide +kernel
theorem dX6_seekBest_54 : decode cX6_seekBest 54 = .ok (.invokevirtual 73, 3) := by decide +kernel
theorem dX6_seekBest_57 : decode cX6_seekBest 57 = .ok (.iinc 4 1, 3) := by decide +kernel
theorem dX6_seekBest_60 : decode cX6_seekBest 60 = .ok (.goto (-27), 3) := by decide +kernel
theorem dX6_seekBest_63 : decode cX6_seekBest 63 = .ok (.iconst 0, 1) := by decide +kernel
theorem dX6_seekBest_64 : decode cX6_seekBest 64 = .ok (.istore 4, 2) := by decide +kernel
theorem dX6_seekBest_66 : decode cX6_seekBest 66 = .ok (.iload 4, 2) := by decide +kernel
theorem dX6_seekBest_68 : decode cX6_seekBest 68 = .ok (.aload_n 2, 1) := by decide +kernel
theorem dX6_seekBest_69 : decode cX6_seekBest 69 = .ok (.getfield 68, 3) := by decide +kernel
theorem dX6_seekBest_72 : decode cX6_seekBest 72 = .ok (.if_icmp .ge 47, 3) := by decide +kernel
theorem dX6_seekBest_75 : decode cX6_seekBest 75 = .ok (.aload_n 0, 1) := by decide +kernel
theorem dX6_seekBest_76 : decode cX6_seekBest 76 = .ok (.getfield 58, 3) := by decide +kernel
theorem dX6_seekBest_79 : decode cX6_seekBest 79 = .ok (.ifCond .le 40, 3) := by decide +kernel
theorem dX6_seekBest_82 : decode cX6_seekBest 82 = .ok (.iload 4, 2) := by decide +kernel
theorem dX6_seekBest_84 : decode cX6_seekBest 84 = .ok (.iconst 1, 1) := by decide +kernel
theorem dX6_seekBest_85 : decode cX6_seekBest 85 = .ok (.iadd, 1) := by decide +kernel
theorem dX6_seekBest_86 : decode cX6_seekBest 86 = .ok (.istore 5, 2) := by decide +kernel
theorem dX6_seekBest_88 : decode cX6_seekBest 88 = .ok (.iload 5, 2) := by decide +kernel
theorem dX6_seekBest_90 : decode cX6_seekBest 90 = .ok (.aload_n 2, 1) := by decide +kernel
theorem dX6_seekBest_91 : decode cX6_seekBest 91 = .ok (.getfield 68, 3) := by decide +kernel
theorem dX6_seekBest_94 : decode cX6_seekBest 94 = .ok (.if_icmp .ge 19, 3) := by decide +kernel
theorem dX6_seekBest_97 : decode cX6_seekBest 97 = .ok (.aload_n 0, 1) := by decide +kernel
theorem dX6_seekBest_98 : decode cX6_seekBest 98 = .ok (.aload_n 1, 1) := by decide +kernel
theorem dX6_seekBest_99 : decode cX6_seekBest 99 = .ok (.aload_n 2, 1) := by decide +kernel
theorem dX6_seekBest_100 : decode cX6_seekBest 100 = .ok (.iload 4, 2) := by decide +kernel
theorem dX6_seekBest_102 : decode cX6_seekBest 102 = .ok (.iload 5, 2) := by decide +kernel
theorem dX6_seekBest_104 : decode cX6_seekBest 104 = .ok (.invokevirtual 77, 3) := by decide +kernel
theorem dX6_seekBest_107 : decode cX6_seekBest 107 = .ok (.iinc 5 1, 3) := by decide +kernel
theorem dX6_seekBest_110 : decode cX6_seekBest 110 = .ok (.goto (-22), 3) := by decide +kernel
theorem dX6_seekBest_113 : decode cX6_seekBest 113 = .ok (.iinc 4 1, 3) := by decide +kernel
theorem dX6_seekBest_116 : decode cX6_seekBest 116 = .ok (.goto (-50), 3) := by decide +kernel
theorem dX6_seekBest_119 : decode cX6_seekBest 119 = .ok (.iload_n 3, 1) := by decide +kernel
theorem dX6_seekBest_120 : decode cX6_seekBest 120 = .ok (.aload_n 0, 1) := by decide +kernel
theorem dX6_seekBest_121 : decode cX6_seekBest 121 = .ok (.getfield 58, 3) := by decide +kernel
theorem dX6_seekBest_124 : decode cX6_seekBest 124 = .ok (.isub, 1) := by decide +kernel
theorem dX6_seekBest_125 : decode cX6_seekBest 125 = .ok (.ireturn, 1) := by decide +kernel
set_option maxRecDepth 20000 in
theorem ggX6_trySlots_X7_allowed : GoodIn wsX6_trySlots wsX7_allowed := goodIn_r _ [7, 8, 9, 10, 11, 12, 13, 14, 15, 16, 17, 18, 88, 89, 90, 91, 92, 93, 94, 95, 96, 97, 98, 99] (by decide +kernel) (by decide +kernel)
set_option maxRecDepth 20000 in
theorem gX6_trySlots_X7_allowed : GoodIn wsX6_trySlots (wsV RX6 81 RX7 yX7_allowed wsX7_allowed) := goodIn_app (goodIn_of _ (by decide +kernel)) ggX6_trySlots_X7_allowed
set_option maxRecDepth 20000 in
theorem ggX6_trySlots_X6_weigh : GoodIn wsX6_trySlots wsX6_weigh := goodIn_r _ [23, 2, 24, 25, 26, 27, 28, 29, 30, 31, 32, 22, 33, 34, 35, 36, 37, 38, 39, 40, 41, 42, 43, 44, 45, 46, 47, 48, 49, 50, 51, 52, 53, 54, 55, 56, 57, 58, 59, 60, 61, 62, 63, 64, 65, 66, 67, 68, 69, 70, 71, 72, 73, 74, 75, 76, 77, 78, 79, 80, 81, 82, 85, 86, 87, 83, 84] (by decide +kernel) (by decide +kernel)
set_option maxRecDepth 20000 in
theorem gX6_trySlots_X6_weigh : GoodIn wsX6_trySlots (wsV RX6 85 RX6 yX6_weigh wsX6_weigh) := goodIn_app (goodIn_of _ (by decide +kernel)) ggX6_trySlots_X6_weigh
theorem dX6_trySlots_0 : decode cX6_trySlots 0 = .ok (.aload_n 2, 1) := by decide +kernel
theorem dX6_trySlots_1 : decode cX6_trySlots 1 = .ok (.iload_n 3, 1) := by decide +kernel
theorem dX6_trySlots_2 : decode cX6_trySlots 2 = .ok (.aload_n 1, 1) := by decide +kernel
theorem dX6_trySlots_3 : decode cX6_trySlots 3 = .ok (.getfield 51, 3) := by decide +kernel
theorem dX6_trySlots_6 : decode cX6_trySlots 6 = .ok (.iconst (-1), 1) := by decide +kernel
theorem dX6_trySlots_7 : decode cX6_trySlots 7 = .ok (.invokevirtual 81, 3) := by decide +kernel
theorem dX6_trySlots_10 : decode cX6_trySlots 10 = .ok (.istore 4, 2) := by decide +kernel
theorem dX6_trySlots_12 : decode cX6_trySlots 12 = .ok (.iconst 0, 1) := by decide +kernel
theorem dX6_trySlots_13 : decode cX6_trySlots 13 = .ok (.istore 5, 2) := by decide +kernel
theorem dX6_trySlots_15 : decode cX6_trySlots 15 = .ok (.iload 5, 2) := by decide +kernel
theorem dX6_trySlots_17 : decode cX6_trySlots 17 = .ok (.bipush 20, 2) := by decide +kernel
theorem dX6_trySlots_19 : decode cX6_trySlots 19 = .ok (.if_icmp .ge 32, 3) := by decide +kernel
theorem dX6_trySlots_22 : decode cX6_trySlots 22 = .ok (.iload 4, 2) := by decide +kernel
theorem dX6_trySlots_24 : decode cX6_trySlots 24 = .ok (.iload 5, 2) := by decide +kernel
theorem dX6_trySlots_26 : decode cX6_trySlots 26 = .ok (.ishr, 1) := by decide +kernel
theorem dX6_trySlots_27 : decode cX6_trySlots 27 = .ok (.iconst 1, 1) := by decide +kernel
theorem dX6_trySlots_28 : decode cX6_trySlots 28 = .ok (.iand, 1) := by decide +kernel
theorem dX6_trySlots_29 : decode cX6_trySlots 29 = .ok (.ifCond .eq 16, 3) := by decide +kernel
theorem dX6_trySlots_32 : decode cX6_trySlots 32 = .ok (.aload_n 0, 1) := by decide +kernel
theorem dX6_trySlots_33 : decode cX6_trySlots 33 = .ok (.getfield 15, 3) := by decide +kernel
theorem dX6_trySlots_36 : decode cX6_trySlots 36 = .ok (.iload_n 3, 1) := by decide +kernel
theorem dX6_trySlots_37 : decode cX6_trySlots 37 = .ok (.iload 5, 2) := by decide +kernel
theorem dX6_trySlots_39 : decode cX6_trySlots 39 = .ok (.iastore, 1) := by decide +kernel
theorem dX6_trySlots_40 : decode cX6_trySlots 40 = .ok (.aload_n 0, 1) := by decide +kernel
theorem dX6_trySlots_41 : decode cX6_trySlots 41 = .ok (.aload_n 1, 1) := by decide +kernel
theorem dX6_trySlots_42 : decode cX6_trySlots 42 = .ok (.invokevirtual 85, 3) := by decide +kernel
theorem dX6_trySlots_45 : decode cX6_trySlots 45 = .ok (.iinc 5 1, 3) := by decide +kernel
theorem dX6_trySlots_48 : decode cX6_trySlots 48 = .ok (.goto (-33), 3) := by decide +kernel
theorem dX6_trySlots_51 : decode cX6_trySlots 51 = .ok (.aload_n 0, 1) := by decide +kernel
theorem dX6_trySlots_52 : decode cX6_trySlots 52 = .ok (.getfield 15, 3) := by decide +kernel
theorem dX6_trySlots_55 : decode cX6_trySlots 55 = .ok (.iload_n 3, 1) := by decide +kernel
theorem dX6_trySlots_56 : decode cX6_trySlots 56 = .ok (.aload_n 1, 1) := by decide +kernel
theorem dX6_trySlots_57 : decode cX6_trySlots 57 = .ok (.getfield 51, 3) := by decide +kernel
theorem dX6_trySlots_60 : decode cX6_trySlots 60 = .ok (.iload_n 3, 1) := by decide +kernel
theorem dX6_trySlots_61 : decode cX6_trySlots 61 = .ok (.iaload, 1) := by decide +kernel
theorem dX6_trySlots_62 : decode cX6_trySlots 62 = .ok (.iastore, 1) := by decide +kernel
theorem dX6_trySlots_63 : decode cX6_trySlots 63 = .ok (.return_, 1) := by decide +kernel
set_option maxRecDepth 20000 in
theorem ggX6_trySwap_X7_isRight : GoodIn wsX6_trySwap wsX7_isRight := goodIn_r _ [7, 8, 9, 10, 11, 6, 12, 13, 14, 15, 16, 17, 18, 19, 20, 21, 22, 92, 93, 94, 95, 96, 97, 98, 99, 100, 101, 102, 103] (by decide +kernel) (by decide +kernel)
set_option maxRecDepth 20000 in
theorem gX6_trySwap_X7_isRight : GoodIn wsX6_trySwap (wsV RX6 89 RX7 yX7_isRight wsX7_isRight) := goodIn_app (goodIn_of _ (by decide +kernel)) ggX6_trySwap_X7_isRight
set_option maxRecDepth 20000 in
theorem ggX6_trySwap_X6_weigh : GoodIn wsX6_trySwap wsX6_weigh := goodIn_r _ [27, 1, 28, 29, 30, 31, 32, 33, 34, 35, 36, 26, 37, 38, 39, 40, 41, 42, 43, 44, 45, 46, 47, 48, 49, 50, 51, 52, 53, 54, 55, 56, 57, 58, 59, 60, 61, 62, 63, 64, 65, 66, 67, 68, 69, 70, 71, 72, 73, 74, 75, 76, 77, 78, 79, 80, 81, 82, 83, 84, 85, 86, 87, 88, 89, 90, 91] (by decide +kernel) (by decide +kernel)
set_option maxRecDepth 20000 in
theorem gX6_trySwap_X6_weigh : GoodIn wsX6_trySwap (wsV RX6 85 RX6 yX6_weigh wsX6_weigh) := goodIn_app (goodIn_of _ (by decide +kernel)) ggX6_trySwap_X6_weigh
theorem dX6_trySwap_0 : decode cX6_trySwap 0 = .ok (.aload_n 0, 1) := by decide +kernel
theorem dX6_trySwap_1 : decode cX6_trySwap 1 = .ok (.getfield 15, 3) := by decide +kernel
theorem dX6_trySwap_4 : decode cX6_trySwap 4 = .ok (.iload_n 3, 1) := by decide +kernel
theorem dX6_trySwap_5 : decode cX6_trySwap 5 = .ok (.aload_n 1, 1) := by decide +kernel
theorem dX6_trySwap_6 : decode cX6_trySwap 6 = .ok (.getfield 51, 3) := by decide +kernel
theorem dX6_trySwap_9 : decode cX6_trySwap 9 = .ok (.iload 4, 2) := by decide +kernel
theorem dX6_trySwap_11 : decode cX6_trySwap 11 = .ok (.iaload, 1) := by decide +kernel
theorem dX6_trySwap_12 : decode cX6_trySwap 12 = .ok (.iastore, 1) := by decide +kernel
theorem dX6_trySwap_13 : decode cX6_trySwap 13 = .ok (.aload_n 0, 1) := by decide +kernel
theorem dX6_trySwap_14 : decode cX6_trySwap 14 = .ok (.getfield 15, 3) := by decide +kernel
theorem dX6_trySwap_17 : decode cX6_trySwap 17 = .ok (.iload 4, 2) := by decide +kernel
theorem dX6_trySwap_19 : decode cX6_trySwap 19 = .ok (.aload_n 1, 1) := by decide +kernel
theorem dX6_trySwap_20 : decode cX6_trySwap 20 = .ok (.getfield 51, 3) := by decide +kernel
theorem dX6_trySwap_23 : decode cX6_trySwap 23 = .ok (.iload_n 3, 1) := by decide +kernel
theorem dX6_trySwap_24 : decode cX6_trySwap 24 = .ok (.iaload, 1) := by decide +kernel
theorem dX6_trySwap_25 : decode cX6_trySwap 25 = .ok (.iastore, 1) := by decide +kernel
theorem dX6_trySwap_26 : decode cX6_trySwap 26 = .ok (.aload_n 2, 1) := by decide +kernel
theorem dX6_trySwap_27 : decode cX6_trySwap 27 = .ok (.aload_n 0, 1) := by decide +kernel
theorem dX6_trySwap_28 : decode cX6_trySwap 28 = .ok (.getfield 15, 3) := by decide +kernel
theorem dX6_trySwap_31 : decode cX6_trySwap 31 = .ok (.invokevirtual 89, 3) := by decide +kernel
theorem dX6_trySwap_34 : decode cX6_trySwap 34 = .ok (.ifCond .eq 8, 3) := by decide +kernel
theorem dX6_trySwap_37 : decode cX6_trySwap 37 = .ok (.aload_n 0, 1) := by decide +kernel
theorem dX6_trySwap_38 : decode cX6_trySwap 38 = .ok (.aload_n 1, 1) := by decide +kernel
theorem dX6_trySwap_39 : decode cX6_trySwap 39 = .ok (.invokevirtual 85, 3) := by decide +kernel
theorem dX6_trySwap_42 : decode cX6_trySwap 42 = .ok (.aload_n 0, 1) := by decide +kernel
theorem dX6_trySwap_43 : decode cX6_trySwap 43 = .ok (.getfield 15, 3) := by decide +kernel
theorem dX6_trySwap_46 : decode cX6_trySwap 46 = .ok (.iload_n 3, 1) := by decide +kernel
theorem dX6_trySwap_47 : decode cX6_trySwap 47 = .ok (.aload_n 1, 1) := by decide +kernel
theorem dX6_trySwap_48 : decode cX6_trySwap 48 = .ok (.getfield 51, 3) := by decide +kernel
theorem dX6_trySwap_51 : decode cX6_trySwap 51 = .ok (.iload_n 3, 1) := by decide +kernel
theorem dX6_trySwap_52 : decode cX6_trySwap 52 = .ok (.iaload, 1) := by decide +kernel
theorem dX6_trySwap_53 : decode cX6_trySwap 53 = .ok (.iastore, 1) := by decide +kernel
theorem dX6_trySwap_54 : decode cX6_trySwap 54 = .ok (.aload_n 0, 1) := by decide +kernel
theorem dX6_trySwap_55 : decode cX6_trySwap 55 = .ok (.getfield 15, 3) := by decide +kernel
theorem dX6_trySwap_58 : decode cX6_trySwap 58 = .ok (.iload 4, 2) := by decide +kernel
theorem dX6_trySwap_60 : decode cX6_trySwap 60 = .ok (.aload_n 1, 1) := by decide +kernel
theorem dX6_trySwap_61 : decode cX6_trySwap 61 = .ok (.getfield 51, 3) := by decide +kernel
theorem dX6_trySwap_64 : decode cX6_trySwap 64 = .ok (.iload 4, 2) := by decide +kernel
theorem dX6_trySwap_66 : decode cX6_trySwap 66 = .ok (.iaload, 1) := by decide +kernel
theorem dX6_trySwap_67 : decode cX6_trySwap 67 = .ok (.iastore, 1) := by decide +kernel
theorem dX6_trySwap_68 : decode cX6_trySwap 68 = .ok (.return_, 1) := by decide +kernel
set_option maxRecDepth 20000 in
theorem ggX6_weigh_X6_costOf : GoodIn wsX6_weigh wsX6_costOf := goodIn_r _ [12, 13, 14, 15, 16, 17, 18, 19, 20, 21, 22, 23, 24, 25, 26, 27, 28, 29, 30, 31, 32, 33, 11, 34, 35, 36, 37, 38, 39, 40, 41, 42, 43, 44, 45, 46, 47, 48, 49, 50, 51, 52, 53, 54, 55, 56, 57, 58, 59, 60, 61, 65, 66] (by decide +kernel) (by decide +kernel)
set_option maxRecDepth 20000 in
theorem gX6_weigh_X6_costOf : GoodIn wsX6_weigh (wsV RX6 54 RX6 yX6_costOf wsX6_costOf) := goodIn_app (goodIn_of _ (by decide +kernel)) ggX6_weigh_X6_costOf
theorem dX6_weigh_0 : decode cX6_weigh 0 = .ok (.aload_n 0, 1) := by decide +kernel
theorem dX6_weigh_1 : decode cX6_weigh 1 = .ok (.aload_n 1, 1) := by decide +kernel
theorem dX6_weigh_2 : decode cX6_weigh 2 = .ok (.aload_n 0, 1) := by decide +kernel
theorem dX6_weigh_3 : decode cX6_weigh 3 = .ok (.getfield 15, 3) := by decide +kernel
theorem dX6_weigh_6 : decode cX6_weigh 6 = .ok (.invokevirtual 54, 3) := by decide +kernel
theorem dX6_weigh_9 : decode cX6_weigh 9 = .ok (.istore_n 2, 1) := by decide +kernel
theorem dX6_weigh_10 : decode cX6_weigh 10 = .ok (.iload_n 2, 1) := by decide +kernel
theorem dX6_weigh_11 : decode cX6_weigh 11 = .ok (.aload_n 0, 1) := by decide +kernel
theorem dX6_weigh_12 : decode cX6_weigh 12 = .ok (.getfield 58, 3) := by decide +kernel
theorem dX6_weigh_15 : decode cX6_weigh 15 = .ok (.if_icmp .ge 23, 3) := by decide +kernel
theorem dX6_weigh_18 : decode cX6_weigh 18 = .ok (.aload_n 0, 1) := by decide +kernel
theorem dX6_weigh_19 : decode cX6_weigh 19 = .ok (.iload_n 2, 1) := by decide +kernel
theorem dX6_weigh_20 : decode cX6_weigh 20 = .ok (.putfield 58, 3) := by decide +kernel
theorem dX6_weigh_23 : decode cX6_weigh 23 = .ok (.aload_n 0, 1) := by decide +kernel
theorem dX6_weigh_24 : decode cX6_weigh 24 = .ok (.getfield 15, 3) := by decide +kernel
theorem dX6_weigh_27 : decode cX6_weigh 27 = .ok (.iconst 0, 1) := by decide +kernel
theorem dX6_weigh_28 : decode cX6_weigh 28 = .ok (.aload_n 0, 1) := by decide +kernel
theorem dX6_weigh_29 : decode cX6_weigh 29 = .ok (.getfield 9, 3) := by decide +kernel
theorem dX6_weigh_32 : decode cX6_weigh 32 = .ok (.iconst 0, 1) := by decide +kernel
theorem dX6_weigh_33 : decode cX6_weigh 33 = .ok (.bipush 9, 2) := by decide +kernel
theorem dX6_weigh_35 : decode cX6_weigh 35 = .ok (.invokestatic 62, 3) := by decide +kernel
theorem dX6_weigh_38 : decode cX6_weigh 38 = .ok (.return_, 1) := by decide +kernel
theorem dX7_init_0 : decode cX7_init 0 = .ok (.aload_n 0, 1) := by decide +kernel
theorem dX7_init_1 : decode cX7_init 1 = .ok (.invokespecial 3, 3) := by decide +kernel
theorem dX7_init_4 : decode cX7_init 4 = .ok (.aload_n 0, 1) := by decide +kernel
theorem dX7_init_5 : decode cX7_init 5 = .ok (.bipush 9, 2) := by decide +kernel
theorem dX7_init_7 : decode cX7_init 7 = .ok (.newarray .int, 2) := by decide +kernel
theorem dX7_init_9 : decode cX7_init 9 = .ok (.putfield 9, 3) := by decide +kernel
theorem dX7_init_12 : decode cX7_init 12 = .ok (.aload_n 0, 1) := by decide +kernel
theorem dX7_init_13 : decode cX7_init 13 = .ok (.bipush 9, 2) := by decide +kernel
theorem dX7_init_15 : decode cX7_init 15 = .ok (.newarray .int, 2) := by decide +kernel
theorem dX7_init_17 : decode cX7_init 17 = .ok (.putfield 15, 3) := by decide +kernel
theorem dX7_init_20 : decode cX7_init 20 = .ok (.aload_n 0, 1) := by decide +kernel
theorem dX7_init_21 : decode cX7_init 21 = .ok (.bipush 9, 2) := by decide +kernel
theorem dX7_init_23 : decode cX7_init 23 = .ok (.newarray .int, 2) := by decide +kernel
theorem dX7_init_25 : decode cX7_init 25 = .ok (.putfield 18, 3) := by decide +kernel
theorem dX7_init_28 : decode cX7_init 28 = .ok (.aload_n 0, 1) := by decide +kernel
theorem dX7_init_29 : decode cX7_init 29 = .ok (.bipush 9, 2) := by decide +kernel
theorem dX7_init_31 : decode cX7_init 31 = .ok (.newarray .int, 2) := by decide +kernel
theorem dX7_init_33 : decode cX7_init 33 = .ok (.putfield 21, 3) := by decide +kernel
theorem dX7_init_36 : decode cX7_init 36 = .ok (.aload_n 0, 1) := by decide +kernel
theorem dX7_init_37 : decode cX7_init 37 = .ok (.bipush 9, 2) := by decide +kernel
theorem dX7_init_39 : decode cX7_init 39 = .ok (.newarray .int, 2) := by decide +kernel
theorem dX7_init_41 : decode cX7_init 41 = .ok (.putfield 24, 3) := by decide +kernel
theorem dX7_init_44 : decode cX7_init 44 = .ok (.aload_n 0, 1) := by decide +kernel
theorem dX7_init_45 : decode cX7_init 45 = .ok (.bipush 9, 2) := by decide +kernel
theorem dX7_init_47 : decode cX7_init 47 = .ok (.newarray .int, 2) := by decide +kernel
theorem dX7_init_49 : decode cX7_init 49 = .ok (.putfield 27, 3) := by decide +kernel
theorem dX7_init_52 : decode cX7_init 52 = .ok (.aload_n 0, 1) := by decide +kernel
theorem dX7_init_53 : decode cX7_init 53 = .ok (.bipush 9, 2) := by decide +kernel
theorem dX7_init_55 : decode cX7_init 55 = .ok (.newarray .int, 2) := by decide +kernel
theorem dX7_init_57 : decode cX7_init 57 = .ok (.putfield 30, 3) := by decide +kernel
theorem dX7_init_60 : decode cX7_init 60 = .ok (.aload_n 0, 1) := by decide +kernel
theorem dX7_init_61 : decode cX7_init 61 = .ok (.bipush 9, 2) := by decide +kernel
theorem dX7_init_63 : decode cX7_init 63 = .ok (.newarray .int, 2) := by decide +kernel
theorem dX7_init_65 : decode cX7_init 65 = .ok (.putfield 33, 3) := by decide +kernel
theorem dX7_init_68 : decode cX7_init 68 = .ok (.aload_n 0, 1) := by decide +kernel
theorem dX7_init_69 : decode cX7_init 69 = .ok (.bipush 9, 2) := by decide +kernel
theorem dX7_init_71 : decode cX7_init 71 = .ok (.newarray .int, 2) := by decide +kernel
theorem dX7_init_73 : decode cX7_init 73 = .ok (.putfield 36, 3) := by decide +kernel
theorem dX7_init_76 : decode cX7_init 76 = .ok (.aload_n 0, 1) := by decide +kernel
theorem dX7_init_77 : decode cX7_init 77 = .ok (.bipush 9, 2) := by decide +kernel
theorem dX7_init_79 : decode cX7_init 79 = .ok (.newarray .int, 2) := by decide +kernel
theorem dX7_init_81 : decode cX7_init 81 = .ok (.putfield 39, 3) := by decide +kernel
theorem dX7_init_84 : decode cX7_init 84 = .ok (.aload_n 0, 1) := by decide +kernel
theorem dX7_init_85 : decode cX7_init 85 = .ok (.bipush 9, 2) := by decide +kernel
theorem dX7_init_87 : decode cX7_init 87 = .ok (.newarray .int, 2) := by decide +kernel
theorem dX7_init_89 : decode cX7_init 89 = .ok (.putfield 42, 3) := by decide +kernel
theorem dX7_init_92 : decode cX7_init 92 = .ok (.return_, 1) := by decide +kernel
set_option maxRecDepth 20000 in
theorem ggX7_take_X8_lessonTotal : GoodIn wsX7_take wsX8_lessonTotal := goodIn_r _ [6, 7, 65, 66] (by decide +kernel) (by decide +kernel)
set_option maxRecDepth 20000 in
theorem gX7_take_X8_lessonTotal : GoodIn wsX7_take (wsV RX7 45 RX8 yX8_lessonTotal wsX8_lessonTotal) := goodIn_app (goodIn_of _ (by decide +kernel)) ggX7_take_X8_lessonTotal
set_option maxRecDepth 20000 in
theorem ggX7_take_X7_takeLesson : GoodIn wsX7_take wsX7_takeLesson := goodIn_r _ [12, 13, 14, 15, 16, 17, 18, 19, 20, 21, 22, 23, 24, 1, 25, 26, 27, 5, 28, 7, 29, 30, 31, 32, 33, 34, 35, 11, 36, 53, 54, 55, 56, 57, 58, 59, 60, 61, 62, 63, 64, 65, 66] (by decide +kernel) (by decide +kernel)
set_option maxRecDepth 20000 in
theorem gX7_take_X7_takeLesson : GoodIn wsX7_take (wsV RX7 55 RX7 yX7_takeLesson wsX7_takeLesson) := goodIn_app (goodIn_of _ (by decide +kernel)) ggX7_take_X7_takeLesson
set_option maxRecDepth 20000 in
theorem ggX7_take_X8_wishTotal : GoodIn wsX7_take wsX8_wishTotal := goodIn_r _ [40, 7, 65, 66] (by decide +kernel) (by decide +kernel)
set_option maxRecDepth 20000 in
theorem gX7_take_X8_wishTotal : GoodIn wsX7_take (wsV RX7 59 RX8 yX8_wishTotal wsX8_wishTotal) := goodIn_app (goodIn_of _ (by decide +kernel)) ggX7_take_X8_wishTotal
set_option maxRecDepth 20000 in
theorem ggX7_take_X8_ofWish : GoodIn wsX7_take wsX8_ofWish := goodIn_r _ [44, 7, 65, 66] (by decide +kernel) (by decide +kernel)
set_option maxRecDepth 20000 in
theorem gX7_take_X8_ofWish : GoodIn wsX7_take (wsV RX7 62 RX8 yX8_ofWish wsX8_ofWish) := goodIn_app (goodIn_of _ (by decide +kernel)) ggX7_take_X8_ofWish
set_option maxRecDepth 20000 in
theorem ggX7_take_X7_takeWish : GoodIn wsX7_take wsX7_takeWish := goodIn_r _ [48, 1, 16, 15, 22, 23, 20, 21, 49, 50, 51, 5, 52, 7, 53, 54, 55, 56, 57, 58, 59, 60, 61, 62, 63, 64, 65, 66] (by decide +kernel) (by decide +kernel)
set_option maxRecDepth 20000 in
theorem gX7_take_X7_takeWish : GoodIn wsX7_take (wsV RX7 66 RX7 yX7_takeWish wsX7_takeWish) := goodIn_app (goodIn_of _ (by decide +kernel)) ggX7_take_X7_takeWish
theorem dX7_take_0 : decode cX7_take 0 = .ok (.aload_n 0, 1) := by decide +kernel
theorem dX7_take_1 : decode cX7_take 1 = .ok (.aload_n 1, 1) := by decide +kernel
theorem dX7_take_2 : decode cX7_take 2 = .ok (.invokevirtual 45, 3) := by decide +kernel
theorem dX7_take_5 : decode cX7_take 5 = .ok (.putfield 51, 3) := by decide +kernel
theorem dX7_take_8 : decode cX7_take 8 = .ok (.iconst 0, 1) := by decide +kernel
theorem dX7_take_9 : decode cX7_take 9 = .ok (.istore_n 3, 1) := by decide +kernel
theorem dX7_take_10 : decode cX7_take 10 = .ok (.iload_n 3, 1) := by decide +kernel
theorem dX7_take_11 : decode cX7_take 11 = .ok (.aload_n 0, 1) := by decide +kernel
theorem dX7_take_12 : decode cX7_take 12 = .ok (.getfield 51, 3) := by decide +kernel
theorem dX7_take_15 : decode cX7_take 15 = .ok (.if_icmp .ge 15, 3) := by decide +kernel
theorem dX7_take_18 : decode cX7_take 18 = .ok (.aload_n 0, 1) := by decide +kernel
theorem dX7_take_19 : decode cX7_take 19 = .ok (.aload_n 1, 1) := by decide +kernel
theorem dX7_take_20 : decode cX7_take 20 = .ok (.iload_n 3, 1) := by decide +kernel
theorem dX7_take_21 : decode cX7_take 21 = .ok (.invokevirtual 55, 3) := by decide +kernel
theorem dX7_take_24 : decode cX7_take 24 = .ok (.iinc 3 1, 3) := by decide +kernel
theorem dX7_take_27 : decode cX7_take 27 = .ok (.goto (-17), 3) := by decide +kernel
theorem dX7_take_30 : decode cX7_take 30 = .ok (.iconst 0, 1) := by decide +kernel
theorem dX7_take_31 : decode cX7_take 31 = .ok (.istore_n 3, 1) := by decide +kernel
theorem dX7_take_32 : decode cX7_take 32 = .ok (.iload_n 3, 1) := by decide +kernel
theorem dX7_take_33 : decode cX7_take 33 = .ok (.aload_n 1, 1) := by decide +kernel
theorem dX7_take_34 : decode cX7_take 34 = .ok (.invokevirtual 59, 3) := by decide +kernel
theorem dX7_take_37 : decode cX7_take 37 = .ok (.if_icmp .ge 40, 3) := by decide +kernel
theorem dX7_take_40 : decode cX7_take 40 = .ok (.iload_n 2, 1) := by decide +kernel
theorem dX7_take_41 : decode cX7_take 41 = .ok (.iload_n 3, 1) := by decide +kernel
theorem dX7_take_42 : decode cX7_take 42 = .ok (.ishr, 1) := by decide +kernel
theorem dX7_take_43 : decode cX7_take 43 = .ok (.iconst 1, 1) := by decide +kernel
theorem dX7_take_44 : decode cX7_take 44 = .ok (.iand, 1) := by decide +kernel
theorem dX7_take_45 : decode cX7_take 45 = .ok (.ifCond .eq 26, 3) := by decide +kernel
theorem dX7_take_48 : decode cX7_take 48 = .ok (.aload_n 0, 1) := by decide +kernel
theorem dX7_take_49 : decode cX7_take 49 = .ok (.aload_n 1, 1) := by decide +kernel
theorem dX7_take_50 : decode cX7_take 50 = .ok (.aload_n 1, 1) := by decide +kernel
theorem dX7_take_51 : decode cX7_take 51 = .ok (.iload_n 3, 1) := by decide +kernel
theorem dX7_take_52 : decode cX7_take 52 = .ok (.iconst 0, 1) := by decide +kernel
theorem dX7_take_53 : decode cX7_take 53 = .ok (.invokevirtual 62, 3) := by decide +kernel
theorem dX7_take_56 : decode cX7_take 56 = .ok (.aload_n 1, 1) := by decide +kernel
theorem dX7_take_57 : decode cX7_take 57 = .ok (.iload_n 3, 1) := by decide +kernel
theorem dX7_take_58 : decode cX7_take 58 = .ok (.iconst 1, 1) := by decide +kernel
theorem dX7_take_59 : decode cX7_take 59 = .ok (.invokevirtual 62, 3) := by decide +kernel
theorem dX7_take_62 : decode cX7_take 62 = .ok (.aload_n 1, 1) := by decide +kernel
theorem dX7_take_63 : decode cX7_take 63 = .ok (.iload_n 3, 1) := by decide +kernel
theorem dX7_take_64 : decode cX7_take 64 = .ok (.iconst 2, 1) := by decide +kernel
theorem dX7_take_65 : decode cX7_take 65 = .ok (.invokevirtual 62, 3) := by decide +kernel
theorem dX7_take_68 : decode cX7_take 68 = .ok (.invokevirtual 66, 3) := by decide +kernel
theorem dX7_take_71 : decode cX7_take 71 = .ok (.iinc 3 1, 3) := by decide +kernel
theorem dX7_take_74 : decode cX7_take 74 = .ok (.goto (-42), 3) := by decide +kernel
theorem dX7_take_77 : decode cX7_take 77 = .ok (.return_, 1) := by decide +kernel
set_option maxRecDepth 20000 in
theorem ggX7_takeLesson_X8_ofLesson : GoodIn wsX7_takeLesson wsX8_ofLesson := goodIn_r _ [18, 19, 41, 42] (by decide +kernel) (by decide +kernel)
set_option maxRecDepth 20000 in
theorem gX7_takeLesson_X8_ofLesson : GoodIn wsX7_takeLesson (wsV RX7 70 RX8 yX8_ofLesson wsX8_ofLesson) := goodIn_app (goodIn_of _ (by decide +kernel)) ggX7_takeLesson_X8_ofLesson
set_option maxRecDepth 20000 in
theorem ggX7_takeLesson_X8_roomsOf : GoodIn wsX7_takeLesson wsX8_roomsOf := goodIn_r _ [23, 19, 41, 42] (by decide +kernel) (by decide +kernel)
set_option maxRecDepth 20000 in
theorem gX7_takeLesson_X8_roomsOf : GoodIn wsX7_takeLesson (wsV RX7 73 RX8 yX8_roomsOf wsX8_roomsOf) := goodIn_app (goodIn_of _ (by decide +kernel)) ggX7_takeLesson_X8_roomsOf
set_option maxRecDepth 20000 in
theorem ggX7_takeLesson_X7_compare : GoodIn wsX7_takeLesson wsX7_compare := goodIn_r _ [28, 7, 9, 12, 14, 15, 16, 17, 18, 19, 29, 30, 31, 32, 33, 34, 35, 36, 37, 38, 39, 40, 41, 42] (by decide +kernel) (by decide +kernel)
set_option maxRecDepth 20000 in
theorem gX7_takeLesson_X7_compare : GoodIn wsX7_takeLesson (wsV RX7 79 RX7 yX7_compare wsX7_compare) := goodIn_app (goodIn_of _ (by decide +kernel)) ggX7_takeLesson_X7_compare
theorem dX7_takeLesson_0 : decode cX7_takeLesson 0 = .ok (.aload_n 1, 1) := by decide +kernel
theorem dX7_takeLesson_1 : decode cX7_takeLesson 1 = .ok (.iload_n 2, 1) := by decide +kernel
theorem dX7_takeLesson_2 : decode cX7_takeLesson 2 = .ok (.iconst 3, 1) := by decide +kernel
theorem dX7_takeLesson_3 : decode cX7_takeLesson 3 = .ok (.invokevirtual 70, 3) := by decide +kernel
theorem dX7_takeLesson_6 : decode cX7_takeLesson 6 = .ok (.istore_n 3, 1) := by decide +kernel
theorem dX7_takeLesson_7 : decode cX7_takeLesson 7 = .ok (.aload_n 1, 1) := by decide +kernel
theorem dX7_takeLesson_8 : decode cX7_takeLesson 8 = .ok (.iload_n 2, 1) := by decide +kernel
theorem dX7_takeLesson_9 : decode cX7_takeLesson 9 = .ok (.iconst 4, 1) := by decide +kernel
theorem dX7_takeLesson_10 : decode cX7_takeLesson 10 = .ok (.invokevirtual 70, 3) := by decide +kernel
theorem dX7_takeLesson_13 : decode cX7_takeLesson 13 = .ok (.iconst 1, 1) := by decide +kernel
theorem dX7_takeLesson_14 : decode cX7_takeLesson 14 = .ok (.if_icmp .ne 7, 3) := by decide +kernel
theorem dX7_takeLesson_17 : decode cX7_takeLesson 17 = .ok (.iconst 1, 1) := by decide +kernel
theorem dX7_takeLesson_18 : decode cX7_takeLesson 18 = .ok (.goto 4, 3) := by decide +kernel
theorem dX7_takeLesson_21 : decode cX7_takeLesson 21 = .ok (.iconst 0, 1) := by decide +kernel
theorem dX7_takeLesson_22 : decode cX7_takeLesson 22 = .ok (.istore 4, 2) := by decide +kernel
theorem dX7_takeLesson_24 : decode cX7_takeLesson 24 = .ok (.aload_n 0, 1) := by decide +kernel
theorem dX7_takeLesson_25 : decode cX7_takeLesson 25 = .ok (.getfield 39, 3) := by decide +kernel
theorem dX7_takeLesson_28 : decode cX7_takeLesson 28 = .ok (.iload_n 2, 1) := by decide +kernel
theorem dX7_takeLesson_29 : decode cX7_takeLesson 29 = .ok (.iload_n 3, 1) := by decide +kernel
theorem dX7_takeLesson_30 : decode cX7_takeLesson 30 = .ok (.iconst (-1), 1) := by decide +kernel
theorem dX7_takeLesson_31 : decode cX7_takeLesson 31 = .ok (.if_icmp .ne 8, 3) := by decide +kernel
theorem dX7_takeLesson_34 : decode cX7_takeLesson 34 = .ok (.bipush 9, 2) := by decide +kernel
theorem dX7_takeLesson_36 : decode cX7_takeLesson 36 = .ok (.goto 8, 3) := by decide +kernel
theorem dX7_takeLesson_39 : decode cX7_takeLesson 39 = .ok (.aload_n 1, 1) := by decide +kernel
theorem dX7_takeLesson_40 : decode cX7_takeLesson 40 = .ok (.iload_n 3, 1) := by decide +kernel
theorem dX7_takeLesson_41 : decode cX7_takeLesson 41 = .ok (.invokevirtual 73, 3) := by decide +kernel
theorem dX7_takeLesson_44 : decode cX7_takeLesson 44 = .ok (.iastore, 1) := by decide +kernel
theorem dX7_takeLesson_45 : decode cX7_takeLesson 45 = .ok (.aload_n 0, 1) := by decide +kernel
theorem dX7_takeLesson_46 : decode cX7_takeLesson 46 = .ok (.getfield 15, 3) := by decide +kernel
theorem dX7_takeLesson_49 : decode cX7_takeLesson 49 = .ok (.iload_n 2, 1) := by decide +kernel
theorem dX7_takeLesson_50 : decode cX7_takeLesson 50 = .ok (.iload 4, 2) := by decide +kernel
theorem dX7_takeLesson_52 : decode cX7_takeLesson 52 = .ok (.ifCond .eq 7, 3) := by decide +kernel
theorem dX7_takeLesson_55 : decode cX7_takeLesson 55 = .ok (.iconst 3, 1) := by decide +kernel
theorem dX7_takeLesson_56 : decode cX7_takeLesson 56 = .ok (.goto 4, 3) := by decide +kernel
theorem dX7_takeLesson_59 : decode cX7_takeLesson 59 = .ok (.iconst 1, 1) := by decide +kernel
theorem dX7_takeLesson_60 : decode cX7_takeLesson 60 = .ok (.iastore, 1) := by decide +kernel
theorem dX7_takeLesson_61 : decode cX7_takeLesson 61 = .ok (.aload_n 0, 1) := by decide +kernel
theorem dX7_takeLesson_62 : decode cX7_takeLesson 62 = .ok (.getfield 18, 3) := by decide +kernel
theorem dX7_takeLesson_65 : decode cX7_takeLesson 65 = .ok (.iload_n 2, 1) := by decide +kernel
theorem dX7_takeLesson_66 : decode cX7_takeLesson 66 = .ok (.iload 4, 2) := by decide +kernel
theorem dX7_takeLesson_68 : decode cX7_takeLesson 68 = .ok (.ifCond .eq 7, 3) := by decide +kernel
theorem dX7_takeLesson_71 : decode cX7_takeLesson 71 = .ok (.iconst 1, 1) := by decide +kernel
theorem dX7_takeLesson_72 : decode cX7_takeLesson 72 = .ok (.goto 4, 3) := by decide +kernel
theorem dX7_takeLesson_75 : decode cX7_takeLesson 75 = .ok (.iconst 0, 1) := by decide +kernel
theorem dX7_takeLesson_76 : decode cX7_takeLesson 76 = .ok (.iastore, 1) := by decide +kernel
theorem dX7_takeLesson_77 : decode cX7_takeLesson 77 = .ok (.aload_n 0, 1) := by decide +kernel
theorem dX7_takeLesson_78 : decode cX7_takeLesson 78 = .ok (.getfield 9, 3) := by decide +kernel
theorem dX7_takeLesson_81 : decode cX7_takeLesson 81 = .ok (.iload_n 2, 1) := by decide +kernel
theorem dX7_takeLesson_82 : decode cX7_takeLesson 82 = .ok (.aload_n 0, 1) := by decide +kernel
theorem dX7_takeLesson_83 : decode cX7_takeLesson 83 = .ok (.getfield 39, 3) := by decide +kernel
theorem dX7_takeLesson_86 : decode cX7_takeLesson 86 = .ok (.iload_n 2, 1) := by decide +kernel
theorem dX7_takeLesson_87 : decode cX7_takeLesson 87 = .ok (.iaload, 1) := by decide +kernel
theorem dX7_takeLesson_88 : decode cX7_takeLesson 88 = .ok (.ifCond .ne 7, 3) := by decide +kernel
theorem dX7_takeLesson_91 : decode cX7_takeLesson 91 = .ok (.iconst 0, 1) := by decide +kernel
theorem dX7_takeLesson_92 : decode cX7_takeLesson 92 = .ok (.goto 15, 3) := by decide +kernel
theorem dX7_takeLesson_95 : decode cX7_takeLesson 95 = .ok (.iload 4, 2) := by decide +kernel
theorem dX7_takeLesson_97 : decode cX7_takeLesson 97 = .ok (.ifCond .eq 8, 3) := by decide +kernel
theorem dX7_takeLesson_100 : decode cX7_takeLesson 100 = .ok (.ldc 77, 2) := by decide +kernel
theorem dX7_takeLesson_102 : decode cX7_takeLesson 102 = .ok (.goto 5, 3) := by decide +kernel
theorem dX7_takeLesson_105 : decode cX7_takeLesson 105 = .ok (.ldc 78, 2) := by decide +kernel
theorem dX7_takeLesson_107 : decode cX7_takeLesson 107 = .ok (.iastore, 1) := by decide +kernel
theorem dX7_takeLesson_108 : decode cX7_takeLesson 108 = .ok (.aload_n 0, 1) := by decide +kernel
theorem dX7_takeLesson_109 : decode cX7_takeLesson 109 = .ok (.getfield 21, 3) := by decide +kernel
theorem dX7_takeLesson_112 : decode cX7_takeLesson 112 = .ok (.iload_n 2, 1) := by decide +kernel
theorem dX7_takeLesson_113 : decode cX7_takeLesson 113 = .ok (.iconst 0, 1) := by decide +kernel
theorem dX7_takeLesson_114 : decode cX7_takeLesson 114 = .ok (.iastore, 1) := by decide +kernel
theorem dX7_takeLesson_115 : decode cX7_takeLesson 115 = .ok (.aload_n 0, 1) := by decide +kernel
theorem dX7_takeLesson_116 : decode cX7_takeLesson 116 = .ok (.getfield 24, 3) := by decide +kernel
theorem dX7_takeLesson_119 : decode cX7_takeLesson 119 = .ok (.iload_n 2, 1) := by decide +kernel
theorem dX7_takeLesson_120 : decode cX7_takeLesson 120 = .ok (.iconst 0, 1) := by decide +kernel
theorem dX7_takeLesson_121 : decode cX7_takeLesson 121 = .ok (.iastore, 1) := by decide +kernel
theorem dX7_takeLesson_122 : decode cX7_takeLesson 122 = .ok (.aload_n 0, 1) := by decide +kernel
theorem dX7_takeLesson_123 : decode cX7_takeLesson 123 = .ok (.getfield 27, 3) := by decide +kernel
theorem dX7_takeLesson_126 : decode cX7_takeLesson 126 = .ok (.iload_n 2, 1) := by decide +kernel
theorem dX7_takeLesson_127 : decode cX7_takeLesson 127 = .ok (.iconst 0, 1) := by decide +kernel
theorem dX7_takeLesson_128 : decode cX7_takeLesson 128 = .ok (.iastore, 1) := by decide +kernel
theorem dX7_takeLesson_129 : decode cX7_takeLesson 129 = .ok (.aload_n 0, 1) := by decide +kernel
theorem dX7_takeLesson_130 : decode cX7_takeLesson 130 = .ok (.getfield 30, 3) := by decide +kernel
theorem dX7_takeLesson_133 : decode cX7_takeLesson 133 = .ok (.iload_n 2, 1) := by decide +kernel
theorem dX7_takeLesson_134 : decode cX7_takeLesson 134 = .ok (.iconst 0, 1) := by decide +kernel
theorem dX7_takeLesson_135 : decode cX7_takeLesson 135 = .ok (.iastore, 1) := by decide +kernel
theorem dX7_takeLesson_136 : decode cX7_takeLesson 136 = .ok (.aload_n 0, 1) := by decide +kernel
theorem dX7_takeLesson_137 : decode cX7_takeLesson 137 = .ok (.getfield 33, 3) := by decide +kernel
theorem dX7_takeLesson_140 : decode cX7_takeLesson 140 = .ok (.iload_n 2, 1) := by decide +kernel
theorem dX7_takeLesson_141 : decode cX7_takeLesson 141 = .ok (.iconst 0, 1) := by decide +kernel
theorem dX7_takeLesson_142 : decode cX7_takeLesson 142 = .ok (.iastore, 1) := by decide +kernel
theorem dX7_takeLesson_143 : decode cX7_takeLesson 143 = .ok (.aload_n 0, 1) := by decide +kernel
theorem dX7_takeLesson_144 : decode cX7_takeLesson 144 = .ok (.getfield 36, 3) := by decide +kernel
theorem dX7_takeLesson_147 : decode cX7_takeLesson 147 = .ok (.iload_n 2, 1) := by decide +kernel
theorem dX7_takeLesson_148 : decode cX7_takeLesson 148 = .ok (.iconst 0, 1) := by decide +kernel
theorem dX7_takeLesson_149 : decode cX7_takeLesson 149 = .ok (.iastore, 1) := by decide +kernel
theorem dX7_takeLesson_150 : decode cX7_takeLesson 150 = .ok (.iconst 0, 1) := by decide +kernel
theorem dX7_takeLesson_151 : decode cX7_takeLesson 151 = .ok (.istore 5, 2) := by decide +kernel
theorem dX7_takeLesson_153 : decode cX7_takeLesson 153 = .ok (.iload 5, 2) := by decide +kernel
theorem dX7_takeLesson_155 : decode cX7_takeLesson 155 = .ok (.aload_n 0, 1) := by decide +kernel

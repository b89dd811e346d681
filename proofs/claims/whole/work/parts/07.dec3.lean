theorem dX12_daysOfWeek_13 : decode cX12_daysOfWeek 13 = .ok (.getfield 67, 3) := by decide +kernel
theorem dX12_daysOfWeek_16 : decode cX12_daysOfWeek 16 = .ok (.invokestatic 277, 3) := by decide +kernel
theorem dX12_daysOfWeek_19 : decode cX12_daysOfWeek 19 = .ok (.bipush 7, 2) := by decide +kernel
theorem dX12_daysOfWeek_21 : decode cX12_daysOfWeek 21 = .ok (.iload_n 1, 1) := by decide +kernel
theorem dX12_daysOfWeek_22 : decode cX12_daysOfWeek 22 = .ok (.imul, 1) := by decide +kernel
theorem dX12_daysOfWeek_23 : decode cX12_daysOfWeek 23 = .ok (.iadd, 1) := by decide +kernel
theorem dX12_daysOfWeek_24 : decode cX12_daysOfWeek 24 = .ok (.iload_n 3, 1) := by decide +kernel
theorem dX12_daysOfWeek_25 : decode cX12_daysOfWeek 25 = .ok (.iadd, 1) := by decide +kernel
theorem dX12_daysOfWeek_26 : decode cX12_daysOfWeek 26 = .ok (.invokevirtual 289, 3) := by decide +kernel
theorem dX12_daysOfWeek_29 : decode cX12_daysOfWeek 29 = .ok (.ifCond .eq 7, 3) := by decide +kernel
theorem dX12_daysOfWeek_32 : decode cX12_daysOfWeek 32 = .ok (.iconst 1, 1) := by decide +kernel
theorem dX12_daysOfWeek_33 : decode cX12_daysOfWeek 33 = .ok (.goto 4, 3) := by decide +kernel
theorem dX12_daysOfWeek_36 : decode cX12_daysOfWeek 36 = .ok (.iconst 0, 1) := by decide +kernel
theorem dX12_daysOfWeek_37 : decode cX12_daysOfWeek 37 = .ok (.iadd, 1) := by decide +kernel
theorem dX12_daysOfWeek_38 : decode cX12_daysOfWeek 38 = .ok (.istore_n 2, 1) := by decide +kernel
theorem dX12_daysOfWeek_39 : decode cX12_daysOfWeek 39 = .ok (.iinc 3 1, 3) := by decide +kernel
theorem dX12_daysOfWeek_42 : decode cX12_daysOfWeek 42 = .ok (.goto (-38), 3) := by decide +kernel
theorem dX12_daysOfWeek_45 : decode cX12_daysOfWeek 45 = .ok (.iload_n 2, 1) := by decide +kernel
theorem dX12_daysOfWeek_46 : decode cX12_daysOfWeek 46 = .ok (.ireturn, 1) := by decide +kernel
set_option maxRecDepth 20000 in
theorem ggX12_weekOf_X12_noDate : GoodIn wsX12_weekOf wsX12_noDate := goodIn_r _ [7, 8, 9, 6, 10, 11, 12, 13, 14, 15, 16, 17, 18, 19, 20, 21, 22, 23, 24, 25, 1, 48, 49, 50, 51, 52, 53, 54, 55, 56, 57, 58, 59, 60, 61, 62, 63, 64, 65, 66, 67, 68, 69, 70, 71, 72, 73, 74, 75, 76, 77] (by decide +kernel) (by decide +kernel)
set_option maxRecDepth 20000 in
theorem gX12_weekOf_X12_noDate : GoodIn wsX12_weekOf (wsV RX12 274 RX12 yX12_noDate wsX12_noDate) := goodIn_app (goodIn_of _ (by decide +kernel)) ggX12_weekOf_X12_noDate
set_option maxRecDepth 20000 in
theorem ggX12_weekOf_X12_in : GoodIn wsX12_weekOf wsX12_in := goodIn_r _ [15] (by decide +kernel) (by decide +kernel)
set_option maxRecDepth 20000 in
theorem gX12_weekOf_X12_in : GoodIn wsX12_weekOf (va_wsS RX12 92 yX12_in wsX12_in) := goodIn_app (goodIn_of _ (by decide +kernel)) ggX12_weekOf_X12_in
set_option maxRecDepth 20000 in
theorem ggX12_weekOf_X12_fails : GoodIn wsX12_weekOf wsX12_fails := goodIn_r _ [25, 1, 48, 49, 50, 51, 52, 53, 54, 55, 56, 57, 58, 59, 60, 61, 62, 63, 64, 65, 66, 67, 68, 69, 70, 71, 72, 73, 74, 75, 76, 77] (by decide +kernel) (by decide +kernel)
set_option maxRecDepth 20000 in
theorem gX12_weekOf_X12_fails : GoodIn wsX12_weekOf (wsV RX12 96 RX12 yX12_fails wsX12_fails) := goodIn_app (goodIn_of _ (by decide +kernel)) ggX12_weekOf_X12_fails
set_option maxRecDepth 20000 in
theorem ggX12_weekOf_X12_dayOf : GoodIn wsX12_weekOf wsX12_dayOf := goodIn_r _ [28, 19, 20, 6, 21, 16, 17, 18] (by decide +kernel) (by decide +kernel)
set_option maxRecDepth 20000 in
theorem gX12_weekOf_X12_dayOf : GoodIn wsX12_weekOf (va_wsS RX12 277 yX12_dayOf wsX12_dayOf) := goodIn_app (goodIn_of _ (by decide +kernel)) ggX12_weekOf_X12_dayOf
set_option maxRecDepth 20000 in
theorem ggX12_weekOf_X12_isInYear : GoodIn wsX12_weekOf wsX12_isInYear := goodIn_r _ [32, 2, 26, 27, 6, 28, 19, 20, 21, 16, 17, 18, 13, 14, 15, 48, 49, 50, 51, 52, 53, 54, 55, 56, 57, 58, 59, 60, 61, 62, 63, 64, 65, 66, 67, 68, 69, 70, 71, 72, 73, 74, 75, 76, 77] (by decide +kernel) (by decide +kernel)
set_option maxRecDepth 20000 in
theorem gX12_weekOf_X12_isInYear : GoodIn wsX12_weekOf (wsV RX12 283 RX12 yX12_isInYear wsX12_isInYear) := goodIn_app (goodIn_of _ (by decide +kernel)) ggX12_weekOf_X12_isInYear
set_option maxRecDepth 20000 in
theorem ggX12_weekOf_X12_daysOfWeek : GoodIn wsX12_weekOf wsX12_daysOfWeek := goodIn_r _ [36, 2, 26, 27, 6, 28, 19, 20, 21, 16, 17, 18, 37, 38, 39, 40, 29, 30, 31, 32, 13, 14, 15, 41, 42, 43, 44, 45, 46, 47, 48, 49, 50, 51, 52, 53, 54, 55, 56, 57, 58, 59, 60, 61, 62, 63, 64, 65, 66, 67, 68, 69, 70, 71, 72, 73, 74, 75, 76, 77] (by decide +kernel) (by decide +kernel)
set_option maxRecDepth 20000 in
theorem gX12_weekOf_X12_daysOfWeek : GoodIn wsX12_weekOf (wsV RX12 298 RX12 yX12_daysOfWeek wsX12_daysOfWeek) := goodIn_app (goodIn_of _ (by decide +kernel)) ggX12_weekOf_X12_daysOfWeek
theorem dX12_weekOf_0 : decode cX12_weekOf 0 = .ok (.aload_n 0, 1) := by decide +kernel
theorem dX12_weekOf_1 : decode cX12_weekOf 1 = .ok (.iconst 0, 1) := by decide +kernel
theorem dX12_weekOf_2 : decode cX12_weekOf 2 = .ok (.putfield 1, 3) := by decide +kernel
theorem dX12_weekOf_5 : decode cX12_weekOf 5 = .ok (.aload_n 0, 1) := by decide +kernel
theorem dX12_weekOf_6 : decode cX12_weekOf 6 = .ok (.iload_n 1, 1) := by decide +kernel
theorem dX12_weekOf_7 : decode cX12_weekOf 7 = .ok (.invokevirtual 274, 3) := by decide +kernel
theorem dX12_weekOf_10 : decode cX12_weekOf 10 = .ok (.ifCond .ne 17, 3) := by decide +kernel
theorem dX12_weekOf_13 : decode cX12_weekOf 13 = .ok (.aload_n 0, 1) := by decide +kernel
theorem dX12_weekOf_14 : decode cX12_weekOf 14 = .ok (.iload_n 2, 1) := by decide +kernel
theorem dX12_weekOf_15 : decode cX12_weekOf 15 = .ok (.iconst 0, 1) := by decide +kernel
theorem dX12_weekOf_16 : decode cX12_weekOf 16 = .ok (.iconst 2, 1) := by decide +kernel
theorem dX12_weekOf_17 : decode cX12_weekOf 17 = .ok (.invokestatic 92, 3) := by decide +kernel
theorem dX12_weekOf_20 : decode cX12_weekOf 20 = .ok (.iconst 1, 1) := by decide +kernel
theorem dX12_weekOf_21 : decode cX12_weekOf 21 = .ok (.invokevirtual 96, 3) := by decide +kernel
theorem dX12_weekOf_24 : decode cX12_weekOf 24 = .ok (.ifCond .eq 5, 3) := by decide +kernel
theorem dX12_weekOf_27 : decode cX12_weekOf 27 = .ok (.iconst 0, 1) := by decide +kernel
theorem dX12_weekOf_28 : decode cX12_weekOf 28 = .ok (.ireturn, 1) := by decide +kernel
theorem dX12_weekOf_29 : decode cX12_weekOf 29 = .ok (.aload_n 0, 1) := by decide +kernel
theorem dX12_weekOf_30 : decode cX12_weekOf 30 = .ok (.iload_n 1, 1) := by decide +kernel
theorem dX12_weekOf_31 : decode cX12_weekOf 31 = .ok (.invokestatic 277, 3) := by decide +kernel
theorem dX12_weekOf_34 : decode cX12_weekOf 34 = .ok (.invokevirtual 283, 3) := by decide +kernel
theorem dX12_weekOf_37 : decode cX12_weekOf 37 = .ok (.ifCond .ne 5, 3) := by decide +kernel
theorem dX12_weekOf_40 : decode cX12_weekOf 40 = .ok (.iconst (-1), 1) := by decide +kernel
theorem dX12_weekOf_41 : decode cX12_weekOf 41 = .ok (.ireturn, 1) := by decide +kernel
theorem dX12_weekOf_42 : decode cX12_weekOf 42 = .ok (.iload_n 1, 1) := by decide +kernel
theorem dX12_weekOf_43 : decode cX12_weekOf 43 = .ok (.invokestatic 277, 3) := by decide +kernel
theorem dX12_weekOf_46 : decode cX12_weekOf 46 = .ok (.aload_n 0, 1) := by decide +kernel
theorem dX12_weekOf_47 : decode cX12_weekOf 47 = .ok (.getfield 67, 3) := by decide +kernel
theorem dX12_weekOf_50 : decode cX12_weekOf 50 = .ok (.invokestatic 277, 3) := by decide +kernel
theorem dX12_weekOf_53 : decode cX12_weekOf 53 = .ok (.isub, 1) := by decide +kernel
theorem dX12_weekOf_54 : decode cX12_weekOf 54 = .ok (.bipush 7, 2) := by decide +kernel
theorem dX12_weekOf_56 : decode cX12_weekOf 56 = .ok (.idiv, 1) := by decide +kernel
theorem dX12_weekOf_57 : decode cX12_weekOf 57 = .ok (.istore_n 3, 1) := by decide +kernel
theorem dX12_weekOf_58 : decode cX12_weekOf 58 = .ok (.iload_n 2, 1) := by decide +kernel
theorem dX12_weekOf_59 : decode cX12_weekOf 59 = .ok (.iconst 1, 1) := by decide +kernel
theorem dX12_weekOf_60 : decode cX12_weekOf 60 = .ok (.if_icmp .eq 17, 3) := by decide +kernel
theorem dX12_weekOf_63 : decode cX12_weekOf 63 = .ok (.iload_n 2, 1) := by decide +kernel
theorem dX12_weekOf_64 : decode cX12_weekOf 64 = .ok (.ifCond .ne 7, 3) := by decide +kernel
theorem dX12_weekOf_67 : decode cX12_weekOf 67 = .ok (.iload_n 3, 1) := by decide +kernel
theorem dX12_weekOf_68 : decode cX12_weekOf 68 = .ok (.goto 8, 3) := by decide +kernel
theorem dX12_weekOf_71 : decode cX12_weekOf 71 = .ok (.aload_n 0, 1) := by decide +kernel
theorem dX12_weekOf_72 : decode cX12_weekOf 72 = .ok (.iload_n 3, 1) := by decide +kernel
theorem dX12_weekOf_73 : decode cX12_weekOf 73 = .ok (.invokevirtual 298, 3) := by decide +kernel
theorem dX12_weekOf_76 : decode cX12_weekOf 76 = .ok (.ireturn, 1) := by decide +kernel
theorem dX12_weekOf_77 : decode cX12_weekOf 77 = .ok (.aload_n 0, 1) := by decide +kernel
theorem dX12_weekOf_78 : decode cX12_weekOf 78 = .ok (.iload_n 3, 1) := by decide +kernel
theorem dX12_weekOf_79 : decode cX12_weekOf 79 = .ok (.invokevirtual 298, 3) := by decide +kernel
theorem dX12_weekOf_82 : decode cX12_weekOf 82 = .ok (.ifCond .ne 5, 3) := by decide +kernel
theorem dX12_weekOf_85 : decode cX12_weekOf 85 = .ok (.iconst (-1), 1) := by decide +kernel
theorem dX12_weekOf_86 : decode cX12_weekOf 86 = .ok (.ireturn, 1) := by decide +kernel
theorem dX12_weekOf_87 : decode cX12_weekOf 87 = .ok (.iconst 0, 1) := by decide +kernel
theorem dX12_weekOf_88 : decode cX12_weekOf 88 = .ok (.istore 4, 2) := by decide +kernel
theorem dX12_weekOf_90 : decode cX12_weekOf 90 = .ok (.iconst 0, 1) := by decide +kernel
theorem dX12_weekOf_91 : decode cX12_weekOf 91 = .ok (.istore 5, 2) := by decide +kernel
theorem dX12_weekOf_93 : decode cX12_weekOf 93 = .ok (.iload 5, 2) := by decide +kernel
theorem dX12_weekOf_95 : decode cX12_weekOf 95 = .ok (.iload_n 3, 1) := by decide +kernel
theorem dX12_weekOf_96 : decode cX12_weekOf 96 = .ok (.if_icmp .ge 28, 3) := by decide +kernel
theorem dX12_weekOf_99 : decode cX12_weekOf 99 = .ok (.iload 4, 2) := by decide +kernel
theorem dX12_weekOf_101 : decode cX12_weekOf 101 = .ok (.aload_n 0, 1) := by decide +kernel
theorem dX12_weekOf_102 : decode cX12_weekOf 102 = .ok (.iload 5, 2) := by decide +kernel
theorem dX12_weekOf_104 : decode cX12_weekOf 104 = .ok (.invokevirtual 298, 3) := by decide +kernel
theorem dX12_weekOf_107 : decode cX12_weekOf 107 = .ok (.ifCond .le 7, 3) := by decide +kernel
theorem dX12_weekOf_110 : decode cX12_weekOf 110 = .ok (.iconst 1, 1) := by decide +kernel
theorem dX12_weekOf_111 : decode cX12_weekOf 111 = .ok (.goto 4, 3) := by decide +kernel
theorem dX12_weekOf_114 : decode cX12_weekOf 114 = .ok (.iconst 0, 1) := by decide +kernel
theorem dX12_weekOf_115 : decode cX12_weekOf 115 = .ok (.iadd, 1) := by decide +kernel
theorem dX12_weekOf_116 : decode cX12_weekOf 116 = .ok (.istore 4, 2) := by decide +kernel
theorem dX12_weekOf_118 : decode cX12_weekOf 118 = .ok (.iinc 5 1, 3) := by decide +kernel
theorem dX12_weekOf_121 : decode cX12_weekOf 121 = .ok (.goto (-28), 3) := by decide +kernel
theorem dX12_weekOf_124 : decode cX12_weekOf 124 = .ok (.iload 4, 2) := by decide +kernel
theorem dX12_weekOf_126 : decode cX12_weekOf 126 = .ok (.iconst 2, 1) := by decide +kernel
theorem dX12_weekOf_127 : decode cX12_weekOf 127 = .ok (.irem, 1) := by decide +kernel
theorem dX12_weekOf_128 : decode cX12_weekOf 128 = .ok (.ireturn, 1) := by decide +kernel
set_option maxRecDepth 20000 in
theorem ggX12_dayOfWeek_X12_noDate : GoodIn wsX12_dayOfWeek wsX12_noDate := goodIn_r _ [6, 7, 8, 5, 9, 10, 11, 12, 13, 14, 15, 16, 17, 18, 19, 20, 21, 22, 23, 24, 1, 28, 29, 30, 31, 32, 33, 34, 35, 36, 37, 38, 39, 40, 41, 42, 43, 44, 45, 46, 47, 48, 49, 50, 51, 52, 53, 54, 55, 56, 57] (by decide +kernel) (by decide +kernel)
set_option maxRecDepth 20000 in
theorem gX12_dayOfWeek_X12_noDate : GoodIn wsX12_dayOfWeek (wsV RX12 274 RX12 yX12_noDate wsX12_noDate) := goodIn_app (goodIn_of _ (by decide +kernel)) ggX12_dayOfWeek_X12_noDate
set_option maxRecDepth 20000 in
theorem ggX12_dayOfWeek_X12_dayOf : GoodIn wsX12_dayOfWeek wsX12_dayOf := goodIn_r _ [27, 18, 19, 5, 20, 15, 16, 17] (by decide +kernel) (by decide +kernel)
set_option maxRecDepth 20000 in
theorem gX12_dayOfWeek_X12_dayOf : GoodIn wsX12_dayOfWeek (va_wsS RX12 277 yX12_dayOf wsX12_dayOf) := goodIn_app (goodIn_of _ (by decide +kernel)) ggX12_dayOfWeek_X12_dayOf
theorem dX12_dayOfWeek_0 : decode cX12_dayOfWeek 0 = .ok (.aload_n 0, 1) := by decide +kernel
theorem dX12_dayOfWeek_1 : decode cX12_dayOfWeek 1 = .ok (.iconst 0, 1) := by decide +kernel
theorem dX12_dayOfWeek_2 : decode cX12_dayOfWeek 2 = .ok (.putfield 1, 3) := by decide +kernel
theorem dX12_dayOfWeek_5 : decode cX12_dayOfWeek 5 = .ok (.aload_n 0, 1) := by decide +kernel
theorem dX12_dayOfWeek_6 : decode cX12_dayOfWeek 6 = .ok (.iload_n 1, 1) := by decide +kernel
theorem dX12_dayOfWeek_7 : decode cX12_dayOfWeek 7 = .ok (.invokevirtual 274, 3) := by decide +kernel
theorem dX12_dayOfWeek_10 : decode cX12_dayOfWeek 10 = .ok (.ifCond .eq 7, 3) := by decide +kernel
theorem dX12_dayOfWeek_13 : decode cX12_dayOfWeek 13 = .ok (.iconst 0, 1) := by decide +kernel
theorem dX12_dayOfWeek_14 : decode cX12_dayOfWeek 14 = .ok (.goto 10, 3) := by decide +kernel
theorem dX12_dayOfWeek_17 : decode cX12_dayOfWeek 17 = .ok (.iload_n 1, 1) := by decide +kernel
theorem dX12_dayOfWeek_18 : decode cX12_dayOfWeek 18 = .ok (.invokestatic 277, 3) := by decide +kernel
theorem dX12_dayOfWeek_21 : decode cX12_dayOfWeek 21 = .ok (.bipush 7, 2) := by decide +kernel
theorem dX12_dayOfWeek_23 : decode cX12_dayOfWeek 23 = .ok (.irem, 1) := by decide +kernel
theorem dX12_dayOfWeek_24 : decode cX12_dayOfWeek 24 = .ok (.ireturn, 1) := by decide +kernel
set_option maxRecDepth 20000 in
theorem ggX12_later_X12_noDate : GoodIn wsX12_later wsX12_noDate := goodIn_r _ [6, 7, 8, 5, 9, 10, 11, 12, 13, 14, 15, 16, 17, 18, 19, 20, 21, 22, 23, 24, 1, 31, 32, 33, 34, 35, 36, 37, 38, 39, 40, 41, 42, 43, 44, 45, 46, 47, 48, 49, 50, 51, 52, 53, 54, 55, 56, 57, 58, 59, 60] (by decide +kernel) (by decide +kernel)
set_option maxRecDepth 20000 in
theorem gX12_later_X12_noDate : GoodIn wsX12_later (wsV RX12 274 RX12 yX12_noDate wsX12_noDate) := goodIn_app (goodIn_of _ (by decide +kernel)) ggX12_later_X12_noDate
set_option maxRecDepth 20000 in
theorem ggX12_later_X12_in : GoodIn wsX12_later wsX12_in := goodIn_r _ [14] (by decide +kernel) (by decide +kernel)
set_option maxRecDepth 20000 in
theorem gX12_later_X12_in : GoodIn wsX12_later (va_wsS RX12 92 yX12_in wsX12_in) := goodIn_app (goodIn_of _ (by decide +kernel)) ggX12_later_X12_in
set_option maxRecDepth 20000 in
theorem ggX12_later_X12_fails : GoodIn wsX12_later wsX12_fails := goodIn_r _ [24, 1, 31, 32, 33, 34, 35, 36, 37, 38, 39, 40, 41, 42, 43, 44, 45, 46, 47, 48, 49, 50, 51, 52, 53, 54, 55, 56, 57, 58, 59, 60] (by decide +kernel) (by decide +kernel)
set_option maxRecDepth 20000 in
theorem gX12_later_X12_fails : GoodIn wsX12_later (wsV RX12 96 RX12 yX12_fails wsX12_fails) := goodIn_app (goodIn_of _ (by decide +kernel)) ggX12_later_X12_fails
set_option maxRecDepth 20000 in
theorem ggX12_later_X12_dayOf : GoodIn wsX12_later wsX12_dayOf := goodIn_r _ [27, 18, 19, 5, 20, 15, 16, 17] (by decide +kernel) (by decide +kernel)
set_option maxRecDepth 20000 in
theorem gX12_later_X12_dayOf : GoodIn wsX12_later (va_wsS RX12 277 yX12_dayOf wsX12_dayOf) := goodIn_app (goodIn_of _ (by decide +kernel)) ggX12_later_X12_dayOf
set_option maxRecDepth 20000 in
theorem ggX12_later_X12_dateOfDay : GoodIn wsX12_later wsX12_dateOfDay := goodIn_r _ [30, 18, 19, 5, 20, 15, 16, 17] (by decide +kernel) (by decide +kernel)
set_option maxRecDepth 20000 in
theorem gX12_later_X12_dateOfDay : GoodIn wsX12_later (va_wsS RX12 295 yX12_dateOfDay wsX12_dateOfDay) := goodIn_app (goodIn_of _ (by decide +kernel)) ggX12_later_X12_dateOfDay
theorem dX12_later_0 : decode cX12_later 0 = .ok (.aload_n 0, 1) := by decide +kernel
theorem dX12_later_1 : decode cX12_later 1 = .ok (.iconst 0, 1) := by decide +kernel
theorem dX12_later_2 : decode cX12_later 2 = .ok (.putfield 1, 3) := by decide +kernel
theorem dX12_later_5 : decode cX12_later 5 = .ok (.aload_n 0, 1) := by decide +kernel
theorem dX12_later_6 : decode cX12_later 6 = .ok (.iload_n 1, 1) := by decide +kernel
theorem dX12_later_7 : decode cX12_later 7 = .ok (.invokevirtual 274, 3) := by decide +kernel
theorem dX12_later_10 : decode cX12_later 10 = .ok (.ifCond .ne 21, 3) := by decide +kernel
theorem dX12_later_13 : decode cX12_later 13 = .ok (.aload_n 0, 1) := by decide +kernel
theorem dX12_later_14 : decode cX12_later 14 = .ok (.iload_n 2, 1) := by decide +kernel
theorem dX12_later_15 : decode cX12_later 15 = .ok (.sipush (-1000), 3) := by decide +kernel
theorem dX12_later_18 : decode cX12_later 18 = .ok (.sipush 1000, 3) := by decide +kernel
theorem dX12_later_21 : decode cX12_later 21 = .ok (.invokestatic 92, 3) := by decide +kernel
theorem dX12_later_24 : decode cX12_later 24 = .ok (.iconst 1, 1) := by decide +kernel
theorem dX12_later_25 : decode cX12_later 25 = .ok (.invokevirtual 96, 3) := by decide +kernel
theorem dX12_later_28 : decode cX12_later 28 = .ok (.ifCond .eq 7, 3) := by decide +kernel
theorem dX12_later_31 : decode cX12_later 31 = .ok (.iconst 0, 1) := by decide +kernel
theorem dX12_later_32 : decode cX12_later 32 = .ok (.goto 12, 3) := by decide +kernel
theorem dX12_later_35 : decode cX12_later 35 = .ok (.iload_n 1, 1) := by decide +kernel
theorem dX12_later_36 : decode cX12_later 36 = .ok (.invokestatic 277, 3) := by decide +kernel
theorem dX12_later_39 : decode cX12_later 39 = .ok (.iload_n 2, 1) := by decide +kernel
theorem dX12_later_40 : decode cX12_later 40 = .ok (.iadd, 1) := by decide +kernel
theorem dX12_later_41 : decode cX12_later 41 = .ok (.invokestatic 295, 3) := by decide +kernel
theorem dX12_later_44 : decode cX12_later 44 = .ok (.ireturn, 1) := by decide +kernel
set_option maxRecDepth 20000 in
theorem ggX12_lostLessons_X12_in : GoodIn wsX12_lostLessons wsX12_in := goodIn_r _ [7] (by decide +kernel) (by decide +kernel)
set_option maxRecDepth 20000 in
theorem gX12_lostLessons_X12_in : GoodIn wsX12_lostLessons (va_wsS RX12 92 yX12_in wsX12_in) := goodIn_app (goodIn_of _ (by decide +kernel)) ggX12_lostLessons_X12_in
set_option maxRecDepth 20000 in
theorem ggX12_lostLessons_X12_fails : GoodIn wsX12_lostLessons wsX12_fails := goodIn_r _ [11, 1, 36, 37, 38, 39, 40, 41, 42, 43, 44, 45, 46, 47, 48, 49, 50, 51, 52, 53, 54, 55, 56, 57, 58, 59, 60, 61, 62, 63, 64, 65] (by decide +kernel) (by decide +kernel)
set_option maxRecDepth 20000 in
theorem gX12_lostLessons_X12_fails : GoodIn wsX12_lostLessons (wsV RX12 96 RX12 yX12_fails wsX12_fails) := goodIn_app (goodIn_of _ (by decide +kernel)) ggX12_lostLessons_X12_fails
set_option maxRecDepth 20000 in
theorem ggX12_lostLessons_X12_noTable : GoodIn wsX12_lostLessons wsX12_noTable := goodIn_r _ [15, 3, 8, 9, 10, 6, 11, 1, 36, 37, 38, 39, 40, 41, 42, 43, 44, 45, 46, 47, 48, 49, 50, 51, 52, 53, 54, 55, 56, 57, 58, 59, 60, 61, 62, 63, 64, 65] (by decide +kernel) (by decide +kernel)
set_option maxRecDepth 20000 in
theorem gX12_lostLessons_X12_noTable : GoodIn wsX12_lostLessons (wsV RX12 179 RX12 yX12_noTable wsX12_noTable) := goodIn_app (goodIn_of _ (by decide +kernel)) ggX12_lostLessons_X12_noTable
set_option maxRecDepth 20000 in
theorem ggX12_lostLessons_X12_dayOf : GoodIn wsX12_lostLessons wsX12_dayOf := goodIn_r _ [18, 19, 20, 6, 21, 22, 23, 24] (by decide +kernel) (by decide +kernel)
set_option maxRecDepth 20000 in
theorem gX12_lostLessons_X12_dayOf : GoodIn wsX12_lostLessons (va_wsS RX12 277 yX12_dayOf wsX12_dayOf) := goodIn_app (goodIn_of _ (by decide +kernel)) ggX12_lostLessons_X12_dayOf
set_option maxRecDepth 20000 in
theorem ggX12_lostLessons_X12_isHoliday : GoodIn wsX12_lostLessons wsX12_isHoliday := goodIn_r _ [28, 29, 30, 31, 4, 5, 6, 7, 36, 37, 38, 39, 40, 41, 42, 43, 44, 45, 46, 47, 48, 49, 50, 51, 52, 53, 54, 55, 56, 57, 58, 59, 60, 61, 62, 63, 64, 65] (by decide +kernel) (by decide +kernel)
set_option maxRecDepth 20000 in
theorem gX12_lostLessons_X12_isHoliday : GoodIn wsX12_lostLessons (wsV RX12 286 RX12 yX12_isHoliday wsX12_isHoliday) := goodIn_app (goodIn_of _ (by decide +kernel)) ggX12_lostLessons_X12_isHoliday
set_option maxRecDepth 20000 in
theorem ggX12_lostLessons_X12_many : GoodIn wsX12_lostLessons wsX12_many := goodIn_r _ [35, 3, 36, 37, 38, 39, 40, 41, 42, 43, 44, 45, 46, 47, 48, 49, 50, 51, 52, 53, 54, 55, 56, 57, 58, 59, 60, 61, 62, 63, 64, 65] (by decide +kernel) (by decide +kernel)
set_option maxRecDepth 20000 in
theorem gX12_lostLessons_X12_many : GoodIn wsX12_lostLessons (wsV RX12 88 RX12 yX12_many wsX12_many) := goodIn_app (goodIn_of _ (by decide +kernel)) ggX12_lostLessons_X12_many
theorem dX12_lostLessons_0 : decode cX12_lostLessons 0 = .ok (.aload_n 0, 1) := by decide +kernel
theorem dX12_lostLessons_1 : decode cX12_lostLessons 1 = .ok (.iconst 0, 1) := by decide +kernel
theorem dX12_lostLessons_2 : decode cX12_lostLessons 2 = .ok (.putfield 1, 3) := by decide +kernel
theorem dX12_lostLessons_5 : decode cX12_lostLessons 5 = .ok (.aload_n 0, 1) := by decide +kernel
theorem dX12_lostLessons_6 : decode cX12_lostLessons 6 = .ok (.iload_n 1, 1) := by decide +kernel
theorem dX12_lostLessons_7 : decode cX12_lostLessons 7 = .ok (.iconst 0, 1) := by decide +kernel
theorem dX12_lostLessons_8 : decode cX12_lostLessons 8 = .ok (.iconst 3, 1) := by decide +kernel
theorem dX12_lostLessons_9 : decode cX12_lostLessons 9 = .ok (.invokestatic 92, 3) := by decide +kernel
theorem dX12_lostLessons_12 : decode cX12_lostLessons 12 = .ok (.iconst 1, 1) := by decide +kernel
theorem dX12_lostLessons_13 : decode cX12_lostLessons 13 = .ok (.invokevirtual 96, 3) := by decide +kernel
theorem dX12_lostLessons_16 : decode cX12_lostLessons 16 = .ok (.ifCond .ne 11, 3) := by decide +kernel
theorem dX12_lostLessons_19 : decode cX12_lostLessons 19 = .ok (.aload_n 0, 1) := by decide +kernel
theorem dX12_lostLessons_20 : decode cX12_lostLessons 20 = .ok (.iconst 2, 1) := by decide +kernel
theorem dX12_lostLessons_21 : decode cX12_lostLessons 21 = .ok (.invokevirtual 179, 3) := by decide +kernel
theorem dX12_lostLessons_24 : decode cX12_lostLessons 24 = .ok (.ifCond .eq 5, 3) := by decide +kernel
theorem dX12_lostLessons_27 : decode cX12_lostLessons 27 = .ok (.iconst 0, 1) := by decide +kernel
theorem dX12_lostLessons_28 : decode cX12_lostLessons 28 = .ok (.ireturn, 1) := by decide +kernel
theorem dX12_lostLessons_29 : decode cX12_lostLessons 29 = .ok (.aload_n 0, 1) := by decide +kernel
theorem dX12_lostLessons_30 : decode cX12_lostLessons 30 = .ok (.getfield 67, 3) := by decide +kernel
theorem dX12_lostLessons_33 : decode cX12_lostLessons 33 = .ok (.invokestatic 277, 3) := by decide +kernel
theorem dX12_lostLessons_36 : decode cX12_lostLessons 36 = .ok (.istore_n 2, 1) := by decide +kernel
theorem dX12_lostLessons_37 : decode cX12_lostLessons 37 = .ok (.iconst 0, 1) := by decide +kernel
theorem dX12_lostLessons_38 : decode cX12_lostLessons 38 = .ok (.istore_n 3, 1) := by decide +kernel
theorem dX12_lostLessons_39 : decode cX12_lostLessons 39 = .ok (.iload_n 2, 1) := by decide +kernel
theorem dX12_lostLessons_40 : decode cX12_lostLessons 40 = .ok (.istore 4, 2) := by decide +kernel
theorem dX12_lostLessons_42 : decode cX12_lostLessons 42 = .ok (.iload 4, 2) := by decide +kernel
theorem dX12_lostLessons_44 : decode cX12_lostLessons 44 = .ok (.iload_n 2, 1) := by decide +kernel
theorem dX12_lostLessons_45 : decode cX12_lostLessons 45 = .ok (.sipush 280, 3) := by decide +kernel
theorem dX12_lostLessons_48 : decode cX12_lostLessons 48 = .ok (.iadd, 1) := by decide +kernel
theorem dX12_lostLessons_49 : decode cX12_lostLessons 49 = .ok (.if_icmp .ge 89, 3) := by decide +kernel
theorem dX12_lostLessons_52 : decode cX12_lostLessons 52 = .ok (.iload 4, 2) := by decide +kernel
theorem dX12_lostLessons_54 : decode cX12_lostLessons 54 = .ok (.bipush 7, 2) := by decide +kernel
theorem dX12_lostLessons_56 : decode cX12_lostLessons 56 = .ok (.irem, 1) := by decide +kernel
theorem dX12_lostLessons_57 : decode cX12_lostLessons 57 = .ok (.iconst 5, 1) := by decide +kernel
theorem dX12_lostLessons_58 : decode cX12_lostLessons 58 = .ok (.if_icmp .ge 74, 3) := by decide +kernel
theorem dX12_lostLessons_61 : decode cX12_lostLessons 61 = .ok (.aload_n 0, 1) := by decide +kernel
theorem dX12_lostLessons_62 : decode cX12_lostLessons 62 = .ok (.iload 4, 2) := by decide +kernel
theorem dX12_lostLessons_64 : decode cX12_lostLessons 64 = .ok (.invokevirtual 286, 3) := by decide +kernel
theorem dX12_lostLessons_67 : decode cX12_lostLessons 67 = .ok (.ifCond .ne 6, 3) := by decide +kernel
theorem dX12_lostLessons_70 : decode cX12_lostLessons 70 = .ok (.goto 62, 3) := by decide +kernel
theorem dX12_lostLessons_73 : decode cX12_lostLessons 73 = .ok (.iconst 0, 1) := by decide +kernel
theorem dX12_lostLessons_74 : decode cX12_lostLessons 74 = .ok (.istore 5, 2) := by decide +kernel
theorem dX12_lostLessons_76 : decode cX12_lostLessons 76 = .ok (.iload 5, 2) := by decide +kernel
theorem dX12_lostLessons_78 : decode cX12_lostLessons 78 = .ok (.aload_n 0, 1) := by decide +kernel
theorem dX12_lostLessons_79 : decode cX12_lostLessons 79 = .ok (.invokevirtual 88, 3) := by decide +kernel
theorem dX12_lostLessons_82 : decode cX12_lostLessons 82 = .ok (.if_icmp .ge 50, 3) := by decide +kernel
theorem dX12_lostLessons_85 : decode cX12_lostLessons 85 = .ok (.iload_n 3, 1) := by decide +kernel
theorem dX12_lostLessons_86 : decode cX12_lostLessons 86 = .ok (.aload_n 0, 1) := by decide +kernel
theorem dX12_lostLessons_87 : decode cX12_lostLessons 87 = .ok (.getfield 13, 3) := by decide +kernel
theorem dX12_lostLessons_90 : decode cX12_lostLessons 90 = .ok (.iconst 0, 1) := by decide +kernel
theorem dX12_lostLessons_91 : decode cX12_lostLessons 91 = .ok (.iload 5, 2) := by decide +kernel
theorem dX12_lostLessons_93 : decode cX12_lostLessons 93 = .ok (.iadd, 1) := by decide +kernel
theorem dX12_lostLessons_94 : decode cX12_lostLessons 94 = .ok (.iaload, 1) := by decide +kernel
theorem dX12_lostLessons_95 : decode cX12_lostLessons 95 = .ok (.iload_n 1, 1) := by decide +kernel
theorem dX12_lostLessons_96 : decode cX12_lostLessons 96 = .ok (.if_icmp .ne 27, 3) := by decide +kernel
theorem dX12_lostLessons_99 : decode cX12_lostLessons 99 = .ok (.aload_n 0, 1) := by decide +kernel
theorem dX12_lostLessons_100 : decode cX12_lostLessons 100 = .ok (.getfield 13, 3) := by decide +kernel
theorem dX12_lostLessons_103 : decode cX12_lostLessons 103 = .ok (.bipush 116, 2) := by decide +kernel
theorem dX12_lostLessons_105 : decode cX12_lostLessons 105 = .ok (.iload 5, 2) := by decide +kernel
theorem dX12_lostLessons_107 : decode cX12_lostLessons 107 = .ok (.iadd, 1) := by decide +kernel
theorem dX12_lostLessons_108 : decode cX12_lostLessons 108 = .ok (.iaload, 1) := by decide +kernel
theorem dX12_lostLessons_109 : decode cX12_lostLessons 109 = .ok (.iconst 4, 1) := by decide +kernel
theorem dX12_lostLessons_110 : decode cX12_lostLessons 110 = .ok (.idiv, 1) := by decide +kernel
theorem dX12_lostLessons_111 : decode cX12_lostLessons 111 = .ok (.iload 4, 2) := by decide +kernel
theorem dX12_lostLessons_113 : decode cX12_lostLessons 113 = .ok (.bipush 7, 2) := by decide +kernel
theorem dX12_lostLessons_115 : decode cX12_lostLessons 115 = .ok (.irem, 1) := by decide +kernel
theorem dX12_lostLessons_116 : decode cX12_lostLessons 116 = .ok (.if_icmp .ne 7, 3) := by decide +kernel
theorem dX12_lostLessons_119 : decode cX12_lostLessons 119 = .ok (.iconst 1, 1) := by decide +kernel
theorem dX12_lostLessons_120 : decode cX12_lostLessons 120 = .ok (.goto 4, 3) := by decide +kernel
theorem dX12_lostLessons_123 : decode cX12_lostLessons 123 = .ok (.iconst 0, 1) := by decide +kernel
theorem dX12_lostLessons_124 : decode cX12_lostLessons 124 = .ok (.iadd, 1) := by decide +kernel
theorem dX12_lostLessons_125 : decode cX12_lostLessons 125 = .ok (.istore_n 3, 1) := by decide +kernel
theorem dX12_lostLessons_126 : decode cX12_lostLessons 126 = .ok (.iinc 5 1, 3) := by decide +kernel
theorem dX12_lostLessons_129 : decode cX12_lostLessons 129 = .ok (.goto (-53), 3) := by decide +kernel
theorem dX12_lostLessons_132 : decode cX12_lostLessons 132 = .ok (.iinc 4 1, 3) := by decide +kernel
theorem dX12_lostLessons_135 : decode cX12_lostLessons 135 = .ok (.goto (-93), 3) := by decide +kernel
theorem dX12_lostLessons_138 : decode cX12_lostLessons 138 = .ok (.iload_n 3, 1) := by decide +kernel
theorem dX12_lostLessons_139 : decode cX12_lostLessons 139 = .ok (.ireturn, 1) := by decide +kernel
theorem dX12_bytesIn_0 : decode cX12_bytesIn 0 = .ok (.iconst 0, 1) := by decide +kernel
theorem dX12_bytesIn_1 : decode cX12_bytesIn 1 = .ok (.istore_n 1, 1) := by decide +kernel
theorem dX12_bytesIn_2 : decode cX12_bytesIn 2 = .ok (.iconst 0, 1) := by decide +kernel
theorem dX12_bytesIn_3 : decode cX12_bytesIn 3 = .ok (.istore_n 2, 1) := by decide +kernel
theorem dX12_bytesIn_4 : decode cX12_bytesIn 4 = .ok (.iload_n 2, 1) := by decide +kernel
theorem dX12_bytesIn_5 : decode cX12_bytesIn 5 = .ok (.bipush 32, 2) := by decide +kernel
theorem dX12_bytesIn_7 : decode cX12_bytesIn 7 = .ok (.if_icmp .ge 27, 3) := by decide +kernel
theorem dX12_bytesIn_10 : decode cX12_bytesIn 10 = .ok (.iload_n 1, 1) := by decide +kernel
theorem dX12_bytesIn_11 : decode cX12_bytesIn 11 = .ok (.iload_n 0, 1) := by decide +kernel
theorem dX12_bytesIn_12 : decode cX12_bytesIn 12 = .ok (.iload_n 2, 1) := by decide +kernel
theorem dX12_bytesIn_13 : decode cX12_bytesIn 13 = .ok (.ishr, 1) := by decide +kernel
theorem dX12_bytesIn_14 : decode cX12_bytesIn 14 = .ok (.sipush 255, 3) := by decide +kernel
theorem dX12_bytesIn_17 : decode cX12_bytesIn 17 = .ok (.iand, 1) := by decide +kernel
theorem dX12_bytesIn_18 : decode cX12_bytesIn 18 = .ok (.ifCond .ne 7, 3) := by decide +kernel
theorem dX12_bytesIn_21 : decode cX12_bytesIn 21 = .ok (.iconst 0, 1) := by decide +kernel
theorem dX12_bytesIn_22 : decode cX12_bytesIn 22 = .ok (.goto 4, 3) := by decide +kernel
theorem dX12_bytesIn_25 : decode cX12_bytesIn 25 = .ok (.iconst 1, 1) := by decide +kernel
theorem dX12_bytesIn_26 : decode cX12_bytesIn 26 = .ok (.iadd, 1) := by decide +kernel
theorem dX12_bytesIn_27 : decode cX12_bytesIn 27 = .ok (.istore_n 1, 1) := by decide +kernel
theorem dX12_bytesIn_28 : decode cX12_bytesIn 28 = .ok (.iinc 2 8, 3) := by decide +kernel
theorem dX12_bytesIn_31 : decode cX12_bytesIn 31 = .ok (.goto (-27), 3) := by decide +kernel
theorem dX12_bytesIn_34 : decode cX12_bytesIn 34 = .ok (.iload_n 1, 1) := by decide +kernel
theorem dX12_bytesIn_35 : decode cX12_bytesIn 35 = .ok (.ireturn, 1) := by decide +kernel
theorem dX12_takesBytes_0 : decode cX12_takesBytes 0 = .ok (.bipush 24, 2) := by decide +kernel
theorem dX12_takesBytes_2 : decode cX12_takesBytes 2 = .ok (.istore_n 2, 1) := by decide +kernel
theorem dX12_takesBytes_3 : decode cX12_takesBytes 3 = .ok (.iload_n 2, 1) := by decide +kernel
theorem dX12_takesBytes_4 : decode cX12_takesBytes 4 = .ok (.ifCond .lt 44, 3) := by decide +kernel
theorem dX12_takesBytes_7 : decode cX12_takesBytes 7 = .ok (.iload_n 1, 1) := by decide +kernel
theorem dX12_takesBytes_8 : decode cX12_takesBytes 8 = .ok (.iload_n 2, 1) := by decide +kernel
theorem dX12_takesBytes_9 : decode cX12_takesBytes 9 = .ok (.ishr, 1) := by decide +kernel
theorem dX12_takesBytes_10 : decode cX12_takesBytes 10 = .ok (.sipush 255, 3) := by decide +kernel
theorem dX12_takesBytes_13 : decode cX12_takesBytes 13 = .ok (.iand, 1) := by decide +kernel
theorem dX12_takesBytes_14 : decode cX12_takesBytes 14 = .ok (.istore_n 3, 1) := by decide +kernel
theorem dX12_takesBytes_15 : decode cX12_takesBytes 15 = .ok (.iload_n 3, 1) := by decide +kernel
theorem dX12_takesBytes_16 : decode cX12_takesBytes 16 = .ok (.ifCond .ne 6, 3) := by decide +kernel
theorem dX12_takesBytes_19 : decode cX12_takesBytes 19 = .ok (.goto 23, 3) := by decide +kernel
theorem dX12_takesBytes_22 : decode cX12_takesBytes 22 = .ok (.aload_n 0, 1) := by decide +kernel
theorem dX12_takesBytes_23 : decode cX12_takesBytes 23 = .ok (.getfield 76, 3) := by decide +kernel
theorem dX12_takesBytes_26 : decode cX12_takesBytes 26 = .ok (.aload_n 0, 1) := by decide +kernel
theorem dX12_takesBytes_27 : decode cX12_takesBytes 27 = .ok (.getfield 301, 3) := by decide +kernel
theorem dX12_takesBytes_30 : decode cX12_takesBytes 30 = .ok (.iload_n 3, 1) := by decide +kernel
theorem dX12_takesBytes_31 : decode cX12_takesBytes 31 = .ok (.iastore, 1) := by decide +kernel
theorem dX12_takesBytes_32 : decode cX12_takesBytes 32 = .ok (.aload_n 0, 1) := by decide +kernel
theorem dX12_takesBytes_33 : decode cX12_takesBytes 33 = .ok (.dup, 1) := by decide +kernel
theorem dX12_takesBytes_34 : decode cX12_takesBytes 34 = .ok (.getfield 301, 3) := by decide +kernel
theorem dX12_takesBytes_37 : decode cX12_takesBytes 37 = .ok (.iconst 1, 1) := by decide +kernel
theorem dX12_takesBytes_38 : decode cX12_takesBytes 38 = .ok (.iadd, 1) := by decide +kernel
theorem dX12_takesBytes_39 : decode cX12_takesBytes 39 = .ok (.putfield 301, 3) := by decide +kernel
theorem dX12_takesBytes_42 : decode cX12_takesBytes 42 = .ok (.iinc 2 (-8), 3) := by decide +kernel
theorem dX12_takesBytes_45 : decode cX12_takesBytes 45 = .ok (.goto (-42), 3) := by decide +kernel
theorem dX12_takesBytes_48 : decode cX12_takesBytes 48 = .ok (.return_, 1) := by decide +kernel
set_option maxRecDepth 20000 in
theorem ggX12_append_X12_bytesIn : GoodIn wsX12_append wsX12_bytesIn := goodIn_r _ [6] (by decide +kernel) (by decide +kernel)
set_option maxRecDepth 20000 in
theorem gX12_append_X12_bytesIn : GoodIn wsX12_append (va_wsS RX12 304 yX12_bytesIn wsX12_bytesIn) := goodIn_app (goodIn_of _ (by decide +kernel)) ggX12_append_X12_bytesIn
set_option maxRecDepth 20000 in
theorem ggX12_append_X12_fails : GoodIn wsX12_append wsX12_fails := goodIn_r _ [10, 1, 16, 17, 18, 19, 20, 21, 22, 23, 24, 25, 26, 27, 28, 29, 30, 31, 32, 33, 34, 35, 36, 37, 38, 39, 40, 41, 42, 43, 44, 45] (by decide +kernel) (by decide +kernel)
set_option maxRecDepth 20000 in
theorem gX12_append_X12_fails : GoodIn wsX12_append (wsV RX12 96 RX12 yX12_fails wsX12_fails) := goodIn_app (goodIn_of _ (by decide +kernel)) ggX12_append_X12_fails
set_option maxRecDepth 20000 in
theorem ggX12_append_X12_takesBytes : GoodIn wsX12_append wsX12_takesBytes := goodIn_r _ [14, 15, 2, 16, 17, 18, 19, 20, 21, 22, 23, 24, 25, 26, 27, 28, 29, 30, 31, 32, 33, 34, 35, 36, 37, 38, 39, 40, 41, 42, 43, 44, 45] (by decide +kernel) (by decide +kernel)
set_option maxRecDepth 20000 in
theorem gX12_append_X12_takesBytes : GoodIn wsX12_append (wsV RX12 307 RX12 yX12_takesBytes wsX12_takesBytes) := goodIn_app (goodIn_of _ (by decide +kernel)) ggX12_append_X12_takesBytes
theorem dX12_append_0 : decode cX12_append 0 = .ok (.aload_n 0, 1) := by decide +kernel
theorem dX12_append_1 : decode cX12_append 1 = .ok (.iconst 0, 1) := by decide +kernel
theorem dX12_append_2 : decode cX12_append 2 = .ok (.putfield 1, 3) := by decide +kernel
theorem dX12_append_5 : decode cX12_append 5 = .ok (.iload_n 1, 1) := by decide +kernel
theorem dX12_append_6 : decode cX12_append 6 = .ok (.invokestatic 304, 3) := by decide +kernel
theorem dX12_append_9 : decode cX12_append 9 = .ok (.iload_n 2, 1) := by decide +kernel
theorem dX12_append_10 : decode cX12_append 10 = .ok (.invokestatic 304, 3) := by decide +kernel
theorem dX12_append_13 : decode cX12_append 13 = .ok (.iadd, 1) := by decide +kernel
theorem dX12_append_14 : decode cX12_append 14 = .ok (.iload_n 3, 1) := by decide +kernel
theorem dX12_append_15 : decode cX12_append 15 = .ok (.invokestatic 304, 3) := by decide +kernel
theorem dX12_append_18 : decode cX12_append 18 = .ok (.iadd, 1) := by decide +kernel
theorem dX12_append_19 : decode cX12_append 19 = .ok (.iload 4, 2) := by decide +kernel
theorem dX12_append_21 : decode cX12_append 21 = .ok (.invokestatic 304, 3) := by decide +kernel
theorem dX12_append_24 : decode cX12_append 24 = .ok (.iadd, 1) := by decide +kernel
theorem dX12_append_25 : decode cX12_append 25 = .ok (.iload 5, 2) := by decide +kernel
theorem dX12_append_27 : decode cX12_append 27 = .ok (.invokestatic 304, 3) := by decide +kernel
theorem dX12_append_30 : decode cX12_append 30 = .ok (.iadd, 1) := by decide +kernel
theorem dX12_append_31 : decode cX12_append 31 = .ok (.istore 6, 2) := by decide +kernel
theorem dX12_append_33 : decode cX12_append 33 = .ok (.aload_n 0, 1) := by decide +kernel
theorem dX12_append_34 : decode cX12_append 34 = .ok (.aload_n 0, 1) := by decide +kernel
theorem dX12_append_35 : decode cX12_append 35 = .ok (.getfield 301, 3) := by decide +kernel
theorem dX12_append_38 : decode cX12_append 38 = .ok (.iload 6, 2) := by decide +kernel
theorem dX12_append_40 : decode cX12_append 40 = .ok (.iadd, 1) := by decide +kernel
theorem dX12_append_41 : decode cX12_append 41 = .ok (.bipush 100, 2) := by decide +kernel
theorem dX12_append_43 : decode cX12_append 43 = .ok (.if_icmp .gt 7, 3) := by decide +kernel
theorem dX12_append_46 : decode cX12_append 46 = .ok (.iconst 1, 1) := by decide +kernel
theorem dX12_append_47 : decode cX12_append 47 = .ok (.goto 4, 3) := by decide +kernel
theorem dX12_append_50 : decode cX12_append 50 = .ok (.iconst 0, 1) := by decide +kernel
theorem dX12_append_51 : decode cX12_append 51 = .ok (.iconst 1, 1) := by decide +kernel
theorem dX12_append_52 : decode cX12_append 52 = .ok (.invokevirtual 96, 3) := by decide +kernel
theorem dX12_append_55 : decode cX12_append 55 = .ok (.ifCond .eq 5, 3) := by decide +kernel
theorem dX12_append_58 : decode cX12_append 58 = .ok (.iconst 0, 1) := by decide +kernel
theorem dX12_append_59 : decode cX12_append 59 = .ok (.ireturn, 1) := by decide +kernel
theorem dX12_append_60 : decode cX12_append 60 = .ok (.aload_n 0, 1) := by decide +kernel
theorem dX12_append_61 : decode cX12_append 61 = .ok (.iload_n 1, 1) := by decide +kernel
theorem dX12_append_62 : decode cX12_append 62 = .ok (.invokevirtual 307, 3) := by decide +kernel
theorem dX12_append_65 : decode cX12_append 65 = .ok (.aload_n 0, 1) := by decide +kernel
theorem dX12_append_66 : decode cX12_append 66 = .ok (.iload_n 2, 1) := by decide +kernel
theorem dX12_append_67 : decode cX12_append 67 = .ok (.invokevirtual 307, 3) := by decide +kernel
theorem dX12_append_70 : decode cX12_append 70 = .ok (.aload_n 0, 1) := by decide +kernel
theorem dX12_append_71 : decode cX12_append 71 = .ok (.iload_n 3, 1) := by decide +kernel
theorem dX12_append_72 : decode cX12_append 72 = .ok (.invokevirtual 307, 3) := by decide +kernel
theorem dX12_append_75 : decode cX12_append 75 = .ok (.aload_n 0, 1) := by decide +kernel
theorem dX12_append_76 : decode cX12_append 76 = .ok (.iload 4, 2) := by decide +kernel
theorem dX12_append_78 : decode cX12_append 78 = .ok (.invokevirtual 307, 3) := by decide +kernel
theorem dX12_append_81 : decode cX12_append 81 = .ok (.aload_n 0, 1) := by decide +kernel
theorem dX12_append_82 : decode cX12_append 82 = .ok (.iload 5, 2) := by decide +kernel
theorem dX12_append_84 : decode cX12_append 84 = .ok (.invokevirtual 307, 3) := by decide +kernel
theorem dX12_append_87 : decode cX12_append 87 = .ok (.aload_n 0, 1) := by decide +kernel
theorem dX12_append_88 : decode cX12_append 88 = .ok (.getfield 301, 3) := by decide +kernel
theorem dX12_append_91 : decode cX12_append 91 = .ok (.ireturn, 1) := by decide +kernel
theorem dX12_clearTape_0 : decode cX12_clearTape 0 = .ok (.aload_n 0, 1) := by decide +kernel
theorem dX12_clearTape_1 : decode cX12_clearTape 1 = .ok (.iconst 0, 1) := by decide +kernel
theorem dX12_clearTape_2 : decode cX12_clearTape 2 = .ok (.putfield 1, 3) := by decide +kernel
theorem dX12_clearTape_5 : decode cX12_clearTape 5 = .ok (.aload_n 0, 1) := by decide +kernel
theorem dX12_clearTape_6 : decode cX12_clearTape 6 = .ok (.getfield 301, 3) := by decide +kernel
theorem dX12_clearTape_9 : decode cX12_clearTape 9 = .ok (.istore_n 1, 1) := by decide +kernel
theorem dX12_clearTape_10 : decode cX12_clearTape 10 = .ok (.aload_n 0, 1) := by decide +kernel
theorem dX12_clearTape_11 : decode cX12_clearTape 11 = .ok (.iconst 0, 1) := by decide +kernel
theorem dX12_clearTape_12 : decode cX12_clearTape 12 = .ok (.putfield 301, 3) := by decide +kernel
theorem dX12_clearTape_15 : decode cX12_clearTape 15 = .ok (.iload_n 1, 1) := by decide +kernel
theorem dX12_clearTape_16 : decode cX12_clearTape 16 = .ok (.ireturn, 1) := by decide +kernel
theorem dX12_dayNamed_0 : decode cX12_dayNamed 0 = .ok (.iload_n 0, 1) := by decide +kernel
theorem dX12_dayNamed_1 : decode cX12_dayNamed 1 = .ok (.bipush 109, 2) := by decide +kernel
theorem dX12_dayNamed_3 : decode cX12_dayNamed 3 = .ok (.if_icmp .ne 7, 3) := by decide +kernel
theorem dX12_dayNamed_6 : decode cX12_dayNamed 6 = .ok (.iconst 0, 1) := by decide +kernel
theorem dX12_dayNamed_7 : decode cX12_dayNamed 7 = .ok (.goto 44, 3) := by decide +kernel
theorem dX12_dayNamed_10 : decode cX12_dayNamed 10 = .ok (.iload_n 0, 1) := by decide +kernel
theorem dX12_dayNamed_11 : decode cX12_dayNamed 11 = .ok (.bipush 116, 2) := by decide +kernel
theorem dX12_dayNamed_13 : decode cX12_dayNamed 13 = .ok (.if_icmp .ne 7, 3) := by decide +kernel
theorem dX12_dayNamed_16 : decode cX12_dayNamed 16 = .ok (.iconst 1, 1) := by decide +kernel
theorem dX12_dayNamed_17 : decode cX12_dayNamed 17 = .ok (.goto 34, 3) := by decide +kernel
theorem dX12_dayNamed_20 : decode cX12_dayNamed 20 = .ok (.iload_n 0, 1) := by decide +kernel
theorem dX12_dayNamed_21 : decode cX12_dayNamed 21 = .ok (.bipush 119, 2) := by decide +kernel
theorem dX12_dayNamed_23 : decode cX12_dayNamed 23 = .ok (.if_icmp .ne 7, 3) := by decide +kernel
theorem dX12_dayNamed_26 : decode cX12_dayNamed 26 = .ok (.iconst 2, 1) := by decide +kernel
theorem dX12_dayNamed_27 : decode cX12_dayNamed 27 = .ok (.goto 24, 3) := by decide +kernel
theorem dX12_dayNamed_30 : decode cX12_dayNamed 30 = .ok (.iload_n 0, 1) := by decide +kernel
theorem dX12_dayNamed_31 : decode cX12_dayNamed 31 = .ok (.bipush 104, 2) := by decide +kernel
theorem dX12_dayNamed_33 : decode cX12_dayNamed 33 = .ok (.if_icmp .ne 7, 3) := by decide +kernel
theorem dX12_dayNamed_36 : decode cX12_dayNamed 36 = .ok (.iconst 3, 1) := by decide +kernel
theorem dX12_dayNamed_37 : decode cX12_dayNamed 37 = .ok (.goto 14, 3) := by decide +kernel
theorem dX12_dayNamed_40 : decode cX12_dayNamed 40 = .ok (.iload_n 0, 1) := by decide +kernel
theorem dX12_dayNamed_41 : decode cX12_dayNamed 41 = .ok (.bipush 102, 2) := by decide +kernel
theorem dX12_dayNamed_43 : decode cX12_dayNamed 43 = .ok (.if_icmp .ne 7, 3) := by decide +kernel
theorem dX12_dayNamed_46 : decode cX12_dayNamed 46 = .ok (.iconst 4, 1) := by decide +kernel
theorem dX12_dayNamed_47 : decode cX12_dayNamed 47 = .ok (.goto 4, 3) := by decide +kernel
theorem dX12_dayNamed_50 : decode cX12_dayNamed 50 = .ok (.iconst (-1), 1) := by decide +kernel
theorem dX12_dayNamed_51 : decode cX12_dayNamed 51 = .ok (.ireturn, 1) := by decide +kernel
theorem dX12_sign_0 : decode cX12_sign 0 = .ok (.iload_n 0, 1) := by decide +kernel
theorem dX12_sign_1 : decode cX12_sign 1 = .ok (.ifCond .ne 8, 3) := by decide +kernel
theorem dX12_sign_4 : decode cX12_sign 4 = .ok (.bipush 109, 2) := by decide +kernel
theorem dX12_sign_6 : decode cX12_sign 6 = .ok (.goto 35, 3) := by decide +kernel
theorem dX12_sign_9 : decode cX12_sign 9 = .ok (.iload_n 0, 1) := by decide +kernel
theorem dX12_sign_10 : decode cX12_sign 10 = .ok (.iconst 1, 1) := by decide +kernel
theorem dX12_sign_11 : decode cX12_sign 11 = .ok (.if_icmp .ne 8, 3) := by decide +kernel
theorem dX12_sign_14 : decode cX12_sign 14 = .ok (.bipush 116, 2) := by decide +kernel
theorem dX12_sign_16 : decode cX12_sign 16 = .ok (.goto 25, 3) := by decide +kernel
theorem dX12_sign_19 : decode cX12_sign 19 = .ok (.iload_n 0, 1) := by decide +kernel
theorem dX12_sign_20 : decode cX12_sign 20 = .ok (.iconst 2, 1) := by decide +kernel
theorem dX12_sign_21 : decode cX12_sign 21 = .ok (.if_icmp .ne 8, 3) := by decide +kernel
theorem dX12_sign_24 : decode cX12_sign 24 = .ok (.bipush 119, 2) := by decide +kernel
theorem dX12_sign_26 : decode cX12_sign 26 = .ok (.goto 15, 3) := by decide +kernel
theorem dX12_sign_29 : decode cX12_sign 29 = .ok (.iload_n 0, 1) := by decide +kernel
theorem dX12_sign_30 : decode cX12_sign 30 = .ok (.iconst 3, 1) := by decide +kernel
theorem dX12_sign_31 : decode cX12_sign 31 = .ok (.if_icmp .ne 8, 3) := by decide +kernel
theorem dX12_sign_34 : decode cX12_sign 34 = .ok (.bipush 104, 2) := by decide +kernel
theorem dX12_sign_36 : decode cX12_sign 36 = .ok (.goto 5, 3) := by decide +kernel
theorem dX12_sign_39 : decode cX12_sign 39 = .ok (.bipush 102, 2) := by decide +kernel
theorem dX12_sign_41 : decode cX12_sign 41 = .ok (.ireturn, 1) := by decide +kernel
set_option maxRecDepth 20000 in
theorem ggX12_readsTape_X12_many : GoodIn wsX12_readsTape wsX12_many := goodIn_r _ [9, 3, 16, 17, 18, 19, 20, 21, 22, 23, 24, 25, 26, 27, 28, 29, 30, 31, 32, 33, 34, 35, 36, 37, 38, 39, 40, 41, 42, 43, 44, 45] (by decide +kernel) (by decide +kernel)
set_option maxRecDepth 20000 in
theorem gX12_readsTape_X12_many : GoodIn wsX12_readsTape (wsV RX12 88 RX12 yX12_many wsX12_many) := goodIn_app (goodIn_of _ (by decide +kernel)) ggX12_readsTape_X12_many
set_option maxRecDepth 20000 in
theorem ggX12_readsTape_X12_in : GoodIn wsX12_readsTape wsX12_in := goodIn_r _ [12] (by decide +kernel) (by decide +kernel)
set_option maxRecDepth 20000 in
theorem gX12_readsTape_X12_in : GoodIn wsX12_readsTape (va_wsS RX12 92 yX12_in wsX12_in) := goodIn_app (goodIn_of _ (by decide +kernel)) ggX12_readsTape_X12_in
set_option maxRecDepth 20000 in
theorem ggX12_readsTape_X12_dayNamed : GoodIn wsX12_readsTape wsX12_dayNamed := goodIn_r _ [15] (by decide +kernel) (by decide +kernel)
set_option maxRecDepth 20000 in
theorem gX12_readsTape_X12_dayNamed : GoodIn wsX12_readsTape (va_wsS RX12 310 yX12_dayNamed wsX12_dayNamed) := goodIn_app (goodIn_of _ (by decide +kernel)) ggX12_readsTape_X12_dayNamed
theorem dX12_readsTape_0 : decode cX12_readsTape 0 = .ok (.iconst 0, 1) := by decide +kernel
theorem dX12_readsTape_1 : decode cX12_readsTape 1 = .ok (.istore_n 1, 1) := by decide +kernel
theorem dX12_readsTape_2 : decode cX12_readsTape 2 = .ok (.iconst 0, 1) := by decide +kernel
theorem dX12_readsTape_3 : decode cX12_readsTape 3 = .ok (.istore_n 2, 1) := by decide +kernel
theorem dX12_readsTape_4 : decode cX12_readsTape 4 = .ok (.iconst 0, 1) := by decide +kernel
theorem dX12_readsTape_5 : decode cX12_readsTape 5 = .ok (.istore_n 3, 1) := by decide +kernel
theorem dX12_readsTape_6 : decode cX12_readsTape 6 = .ok (.iconst 0, 1) := by decide +kernel
theorem dX12_readsTape_7 : decode cX12_readsTape 7 = .ok (.istore 4, 2) := by decide +kernel
theorem dX12_readsTape_9 : decode cX12_readsTape 9 = .ok (.iconst 0, 1) := by decide +kernel
theorem dX12_readsTape_10 : decode cX12_readsTape 10 = .ok (.istore 5, 2) := by decide +kernel
theorem dX12_readsTape_12 : decode cX12_readsTape 12 = .ok (.iload 5, 2) := by decide +kernel
theorem dX12_readsTape_14 : decode cX12_readsTape 14 = .ok (.aload_n 0, 1) := by decide +kernel
theorem dX12_readsTape_15 : decode cX12_readsTape 15 = .ok (.getfield 301, 3) := by decide +kernel
theorem dX12_readsTape_18 : decode cX12_readsTape 18 = .ok (.if_icmp .ge 167, 3) := by decide +kernel
theorem dX12_readsTape_21 : decode cX12_readsTape 21 = .ok (.aload_n 0, 1) := by decide +kernel
theorem dX12_readsTape_22 : decode cX12_readsTape 22 = .ok (.getfield 76, 3) := by decide +kernel
theorem dX12_readsTape_25 : decode cX12_readsTape 25 = .ok (.iload 5, 2) := by decide +kernel
theorem dX12_readsTape_27 : decode cX12_readsTape 27 = .ok (.iaload, 1) := by decide +kernel
theorem dX12_readsTape_28 : decode cX12_readsTape 28 = .ok (.istore 6, 2) := by decide +kernel
theorem dX12_readsTape_30 : decode cX12_readsTape 30 = .ok (.iload 6, 2) := by decide +kernel
theorem dX12_readsTape_32 : decode cX12_readsTape 32 = .ok (.bipush 32, 2) := by decide +kernel
theorem dX12_readsTape_34 : decode cX12_readsTape 34 = .ok (.if_icmp .eq 145, 3) := by decide +kernel
theorem dX12_readsTape_37 : decode cX12_readsTape 37 = .ok (.iload 6, 2) := by decide +kernel
theorem dX12_readsTape_39 : decode cX12_readsTape 39 = .ok (.bipush 10, 2) := by decide +kernel
theorem dX12_readsTape_41 : decode cX12_readsTape 41 = .ok (.if_icmp .ne 6, 3) := by decide +kernel
theorem dX12_readsTape_44 : decode cX12_readsTape 44 = .ok (.goto 135, 3) := by decide +kernel
theorem dX12_readsTape_47 : decode cX12_readsTape 47 = .ok (.iload 6, 2) := by decide +kernel
theorem dX12_readsTape_49 : decode cX12_readsTape 49 = .ok (.bipush 48, 2) := by decide +kernel
theorem dX12_readsTape_51 : decode cX12_readsTape 51 = .ok (.isub, 1) := by decide +kernel
theorem dX12_readsTape_52 : decode cX12_readsTape 52 = .ok (.istore 7, 2) := by decide +kernel
theorem dX12_readsTape_54 : decode cX12_readsTape 54 = .ok (.iload_n 2, 1) := by decide +kernel
theorem dX12_readsTape_55 : decode cX12_readsTape 55 = .ok (.ifCond .ne 43, 3) := by decide +kernel
theorem dX12_readsTape_58 : decode cX12_readsTape 58 = .ok (.iload 7, 2) := by decide +kernel
theorem dX12_readsTape_60 : decode cX12_readsTape 60 = .ok (.iconst 0, 1) := by decide +kernel
theorem dX12_readsTape_61 : decode cX12_readsTape 61 = .ok (.aload_n 0, 1) := by decide +kernel
theorem dX12_readsTape_62 : decode cX12_readsTape 62 = .ok (.invokevirtual 88, 3) := by decide +kernel
theorem dX12_readsTape_65 : decode cX12_readsTape 65 = .ok (.iconst 1, 1) := by decide +kernel
theorem dX12_readsTape_66 : decode cX12_readsTape 66 = .ok (.isub, 1) := by decide +kernel
theorem dX12_readsTape_67 : decode cX12_readsTape 67 = .ok (.invokestatic 92, 3) := by decide +kernel
theorem dX12_readsTape_70 : decode cX12_readsTape 70 = .ok (.ifCond .eq 13, 3) := by decide +kernel
theorem dX12_readsTape_73 : decode cX12_readsTape 73 = .ok (.iload_n 1, 1) := by decide +kernel
theorem dX12_readsTape_74 : decode cX12_readsTape 74 = .ok (.iload 7, 2) := by decide +kernel
theorem dX12_readsTape_76 : decode cX12_readsTape 76 = .ok (.ishr, 1) := by decide +kernel
theorem dX12_readsTape_77 : decode cX12_readsTape 77 = .ok (.iconst 1, 1) := by decide +kernel
theorem dX12_readsTape_78 : decode cX12_readsTape 78 = .ok (.iand, 1) := by decide +kernel
theorem dX12_readsTape_79 : decode cX12_readsTape 79 = .ok (.iconst 1, 1) := by decide +kernel
theorem dX12_readsTape_80 : decode cX12_readsTape 80 = .ok (.if_icmp .ne 6, 3) := by decide +kernel
theorem dX12_readsTape_83 : decode cX12_readsTape 83 = .ok (.iload 5, 2) := by decide +kernel
theorem dX12_readsTape_85 : decode cX12_readsTape 85 = .ok (.ireturn, 1) := by decide +kernel
theorem dX12_readsTape_86 : decode cX12_readsTape 86 = .ok (.iload 7, 2) := by decide +kernel
theorem dX12_readsTape_88 : decode cX12_readsTape 88 = .ok (.istore_n 3, 1) := by decide +kernel
theorem dX12_readsTape_89 : decode cX12_readsTape 89 = .ok (.iload_n 1, 1) := by decide +kernel
theorem dX12_readsTape_90 : decode cX12_readsTape 90 = .ok (.iconst 1, 1) := by decide +kernel
theorem dX12_readsTape_91 : decode cX12_readsTape 91 = .ok (.iload_n 3, 1) := by decide +kernel
theorem dX12_readsTape_92 : decode cX12_readsTape 92 = .ok (.ishl, 1) := by decide +kernel
theorem dX12_readsTape_93 : decode cX12_readsTape 93 = .ok (.ior, 1) := by decide +kernel
theorem dX12_readsTape_94 : decode cX12_readsTape 94 = .ok (.istore_n 1, 1) := by decide +kernel
theorem dX12_readsTape_95 : decode cX12_readsTape 95 = .ok (.goto 78, 3) := by decide +kernel
theorem dX12_readsTape_98 : decode cX12_readsTape 98 = .ok (.iload_n 2, 1) := by decide +kernel
theorem dX12_readsTape_99 : decode cX12_readsTape 99 = .ok (.iconst 1, 1) := by decide +kernel
theorem dX12_readsTape_100 : decode cX12_readsTape 100 = .ok (.if_icmp .ne 19, 3) := by decide +kernel
theorem dX12_readsTape_103 : decode cX12_readsTape 103 = .ok (.iload 6, 2) := by decide +kernel
theorem dX12_readsTape_105 : decode cX12_readsTape 105 = .ok (.invokestatic 310, 3) := by decide +kernel
theorem dX12_readsTape_108 : decode cX12_readsTape 108 = .ok (.istore 4, 2) := by decide +kernel
theorem dX12_readsTape_110 : decode cX12_readsTape 110 = .ok (.iload 4, 2) := by decide +kernel
theorem dX12_readsTape_112 : decode cX12_readsTape 112 = .ok (.iconst (-1), 1) := by decide +kernel
theorem dX12_readsTape_113 : decode cX12_readsTape 113 = .ok (.if_icmp .ne 60, 3) := by decide +kernel
theorem dX12_readsTape_116 : decode cX12_readsTape 116 = .ok (.iload 5, 2) := by decide +kernel
theorem dX12_readsTape_118 : decode cX12_readsTape 118 = .ok (.ireturn, 1) := by decide +kernel
theorem dX12_readsTape_119 : decode cX12_readsTape 119 = .ok (.iload_n 2, 1) := by decide +kernel
theorem dX12_readsTape_120 : decode cX12_readsTape 120 = .ok (.iconst 2, 1) := by decide +kernel
theorem dX12_readsTape_121 : decode cX12_readsTape 121 = .ok (.if_icmp .ne 42, 3) := by decide +kernel
theorem dX12_readsTape_124 : decode cX12_readsTape 124 = .ok (.iload 7, 2) := by decide +kernel
theorem dX12_readsTape_126 : decode cX12_readsTape 126 = .ok (.iconst 0, 1) := by decide +kernel
theorem dX12_readsTape_127 : decode cX12_readsTape 127 = .ok (.iconst 3, 1) := by decide +kernel
theorem dX12_readsTape_128 : decode cX12_readsTape 128 = .ok (.aload_n 0, 1) := by decide +kernel
theorem dX12_readsTape_129 : decode cX12_readsTape 129 = .ok (.getfield 13, 3) := by decide +kernel
theorem dX12_readsTape_132 : decode cX12_readsTape 132 = .ok (.bipush 36, 2) := by decide +kernel
theorem dX12_readsTape_134 : decode cX12_readsTape 134 = .ok (.iload_n 3, 1) := by decide +kernel
theorem dX12_readsTape_135 : decode cX12_readsTape 135 = .ok (.iadd, 1) := by decide +kernel
theorem dX12_readsTape_136 : decode cX12_readsTape 136 = .ok (.iaload, 1) := by decide +kernel
theorem dX12_readsTape_137 : decode cX12_readsTape 137 = .ok (.isub, 1) := by decide +kernel
theorem dX12_readsTape_138 : decode cX12_readsTape 138 = .ok (.invokestatic 92, 3) := by decide +kernel
theorem dX12_readsTape_141 : decode cX12_readsTape 141 = .ok (.ifCond .ne 6, 3) := by decide +kernel
theorem dX12_readsTape_144 : decode cX12_readsTape 144 = .ok (.iload 5, 2) := by decide +kernel
theorem dX12_readsTape_146 : decode cX12_readsTape 146 = .ok (.ireturn, 1) := by decide +kernel
theorem dX12_readsTape_147 : decode cX12_readsTape 147 = .ok (.aload_n 0, 1) := by decide +kernel
theorem dX12_readsTape_148 : decode cX12_readsTape 148 = .ok (.getfield 20, 3) := by decide +kernel
theorem dX12_readsTape_151 : decode cX12_readsTape 151 = .ok (.iload_n 3, 1) := by decide +kernel
theorem dX12_readsTape_152 : decode cX12_readsTape 152 = .ok (.iconst 4, 1) := by decide +kernel
theorem dX12_readsTape_153 : decode cX12_readsTape 153 = .ok (.iload 4, 2) := by decide +kernel
theorem dX12_readsTape_155 : decode cX12_readsTape 155 = .ok (.imul, 1) := by decide +kernel
theorem dX12_readsTape_156 : decode cX12_readsTape 156 = .ok (.iload 7, 2) := by decide +kernel
theorem dX12_readsTape_158 : decode cX12_readsTape 158 = .ok (.iadd, 1) := by decide +kernel
theorem dX12_readsTape_159 : decode cX12_readsTape 159 = .ok (.iastore, 1) := by decide +kernel
theorem dX12_readsTape_160 : decode cX12_readsTape 160 = .ok (.goto 13, 3) := by decide +kernel
theorem dX12_readsTape_163 : decode cX12_readsTape 163 = .ok (.iload 6, 2) := by decide +kernel
theorem dX12_readsTape_165 : decode cX12_readsTape 165 = .ok (.bipush 59, 2) := by decide +kernel
theorem dX12_readsTape_167 : decode cX12_readsTape 167 = .ok (.if_icmp .eq 6, 3) := by decide +kernel
theorem dX12_readsTape_170 : decode cX12_readsTape 170 = .ok (.iload 5, 2) := by decide +kernel
theorem dX12_readsTape_172 : decode cX12_readsTape 172 = .ok (.ireturn, 1) := by decide +kernel
theorem dX12_readsTape_173 : decode cX12_readsTape 173 = .ok (.iload_n 2, 1) := by decide +kernel
theorem dX12_readsTape_174 : decode cX12_readsTape 174 = .ok (.iconst 1, 1) := by decide +kernel
theorem dX12_readsTape_175 : decode cX12_readsTape 175 = .ok (.iadd, 1) := by decide +kernel
theorem dX12_readsTape_176 : decode cX12_readsTape 176 = .ok (.iconst 4, 1) := by decide +kernel
theorem dX12_readsTape_177 : decode cX12_readsTape 177 = .ok (.irem, 1) := by decide +kernel
theorem dX12_readsTape_178 : decode cX12_readsTape 178 = .ok (.istore_n 2, 1) := by decide +kernel
theorem dX12_readsTape_179 : decode cX12_readsTape 179 = .ok (.iinc 5 1, 3) := by decide +kernel
theorem dX12_readsTape_182 : decode cX12_readsTape 182 = .ok (.goto (-170), 3) := by decide +kernel
theorem dX12_readsTape_185 : decode cX12_readsTape 185 = .ok (.iload_n 2, 1) := by decide +kernel
theorem dX12_readsTape_186 : decode cX12_readsTape 186 = .ok (.ifCond .ne 19, 3) := by decide +kernel
theorem dX12_readsTape_189 : decode cX12_readsTape 189 = .ok (.iload_n 1, 1) := by decide +kernel
theorem dX12_readsTape_190 : decode cX12_readsTape 190 = .ok (.iconst 1, 1) := by decide +kernel
theorem dX12_readsTape_191 : decode cX12_readsTape 191 = .ok (.aload_n 0, 1) := by decide +kernel
theorem dX12_readsTape_192 : decode cX12_readsTape 192 = .ok (.invokevirtual 88, 3) := by decide +kernel
theorem dX12_readsTape_195 : decode cX12_readsTape 195 = .ok (.ishl, 1) := by decide +kernel
theorem dX12_readsTape_196 : decode cX12_readsTape 196 = .ok (.iconst 1, 1) := by decide +kernel
theorem dX12_readsTape_197 : decode cX12_readsTape 197 = .ok (.isub, 1) := by decide +kernel
theorem dX12_readsTape_198 : decode cX12_readsTape 198 = .ok (.if_icmp .ne 7, 3) := by decide +kernel
theorem dX12_readsTape_201 : decode cX12_readsTape 201 = .ok (.iconst (-1), 1) := by decide +kernel
theorem dX12_readsTape_202 : decode cX12_readsTape 202 = .ok (.goto 7, 3) := by decide +kernel
theorem dX12_readsTape_205 : decode cX12_readsTape 205 = .ok (.aload_n 0, 1) := by decide +kernel
theorem dX12_readsTape_206 : decode cX12_readsTape 206 = .ok (.getfield 301, 3) := by decide +kernel
theorem dX12_readsTape_209 : decode cX12_readsTape 209 = .ok (.ireturn, 1) := by decide +kernel
set_option maxRecDepth 20000 in
theorem ggX12_read_X12_readsTape : GoodIn wsX12_read wsX12_readsTape := goodIn_r _ [9, 4, 10, 11, 12, 13, 14, 15, 8, 16, 17, 18, 19, 20, 21, 22, 102, 103, 104, 105, 106, 107, 108, 109, 110, 111, 112, 113, 114, 115, 116, 117, 118, 119, 120, 121, 122, 123, 124, 125, 126, 127, 128, 129, 130, 131] (by decide +kernel) (by decide +kernel)
set_option maxRecDepth 20000 in
theorem gX12_read_X12_readsTape : GoodIn wsX12_read (wsV RX12 313 RX12 yX12_readsTape wsX12_readsTape) := goodIn_app (goodIn_of _ (by decide +kernel)) ggX12_read_X12_readsTape
set_option maxRecDepth 20000 in
theorem ggX12_read_X12_fails : GoodIn wsX12_read wsX12_fails := goodIn_r _ [26, 1, 102, 103, 104, 105, 106, 107, 108, 109, 110, 111, 112, 113, 114, 115, 116, 117, 118, 119, 120, 121, 122, 123, 124, 125, 126, 127, 128, 129, 130, 131] (by decide +kernel) (by decide +kernel)
set_option maxRecDepth 20000 in
theorem gX12_read_X12_fails : GoodIn wsX12_read (wsV RX12 96 RX12 yX12_fails wsX12_fails) := goodIn_app (goodIn_of _ (by decide +kernel)) ggX12_read_X12_fails
set_option maxRecDepth 20000 in
theorem ggX12_read_X12_isRight : GoodIn wsX12_read wsX12_isRight := goodIn_r _ [30, 13, 14, 15, 8, 16, 11, 31, 32, 33, 34, 12, 35, 36, 37, 38, 39, 40, 41, 42, 2, 43, 44, 45, 46, 47, 48, 49, 50, 51, 52, 53, 54, 55, 56, 57, 58, 59, 60, 61, 62, 63, 64, 65, 66, 67, 68, 69, 70, 102, 103, 104, 105, 106, 107, 108, 109, 110, 111, 112, 113, 114, 115, 116, 117, 118, 119, 120, 121, 122, 123, 124, 125, 126, 127, 128, 129, 130, 131] (by decide +kernel) (by decide +kernel)
set_option maxRecDepth 20000 in
theorem gX12_read_X12_isRight : GoodIn wsX12_read (wsV RX12 202 RX12 yX12_isRight wsX12_isRight) := goodIn_app (goodIn_of _ (by decide +kernel)) ggX12_read_X12_isRight
set_option maxRecDepth 20000 in
theorem ggX12_read_X12_puts : GoodIn wsX12_read wsX12_puts := goodIn_r _ [74, 11, 12, 75, 76, 77, 8, 78, 79, 80, 81, 13, 14, 15, 16, 102, 103, 104, 105, 106, 107, 108, 109, 110, 111, 112, 113, 114, 115, 116, 117, 118, 119, 120, 121, 122, 123, 124, 125, 126, 127, 128, 129, 130, 131] (by decide +kernel) (by decide +kernel)
set_option maxRecDepth 20000 in
theorem gX12_read_X12_puts : GoodIn wsX12_read (wsV RX12 176 RX12 yX12_puts wsX12_puts) := goodIn_app (goodIn_of _ (by decide +kernel)) ggX12_read_X12_puts
set_option maxRecDepth 20000 in
theorem ggX12_read_X12_costs : GoodIn wsX12_read wsX12_costs := goodIn_r _ [85, 11, 86, 87, 88, 8, 89, 90, 91, 92, 93, 13, 14, 15, 16, 94, 95, 96, 97, 51, 52, 53, 54, 12, 35, 36, 37, 38, 98, 99, 100, 101, 43, 44, 45, 46, 67, 68, 69, 70, 47, 48, 49, 50, 102, 103, 104, 105, 106, 107, 108, 109, 110, 111, 112, 113, 114, 115, 116, 117, 118, 119, 120, 121, 122, 123, 124, 125, 126, 127, 128, 129, 130, 131] (by decide +kernel) (by decide +kernel)
set_option maxRecDepth 20000 in
theorem gX12_read_X12_costs : GoodIn wsX12_read (wsV RX12 205 RX12 yX12_costs wsX12_costs) := goodIn_app (goodIn_of _ (by decide +kernel)) ggX12_read_X12_costs
theorem dX12_read_0 : decode cX12_read 0 = .ok (.aload_n 0, 1) := by decide +kernel
theorem dX12_read_1 : decode cX12_read 1 = .ok (.iconst 0, 1) := by decide +kernel
theorem dX12_read_2 : decode cX12_read 2 = .ok (.putfield 1, 3) := by decide +kernel
theorem dX12_read_5 : decode cX12_read 5 = .ok (.iconst 0, 1) := by decide +kernel
theorem dX12_read_6 : decode cX12_read 6 = .ok (.istore_n 1, 1) := by decide +kernel
theorem dX12_read_7 : decode cX12_read 7 = .ok (.iload_n 1, 1) := by decide +kernel
theorem dX12_read_8 : decode cX12_read 8 = .ok (.bipush 12, 2) := by decide +kernel
theorem dX12_read_10 : decode cX12_read 10 = .ok (.if_icmp .ge 16, 3) := by decide +kernel
theorem dX12_read_13 : decode cX12_read 13 = .ok (.aload_n 0, 1) := by decide +kernel
theorem dX12_read_14 : decode cX12_read 14 = .ok (.getfield 23, 3) := by decide +kernel
theorem dX12_read_17 : decode cX12_read 17 = .ok (.iload_n 1, 1) := by decide +kernel
theorem dX12_read_18 : decode cX12_read 18 = .ok (.iconst 0, 1) := by decide +kernel
theorem dX12_read_19 : decode cX12_read 19 = .ok (.bastore, 1) := by decide +kernel
theorem dX12_read_20 : decode cX12_read 20 = .ok (.iinc 1 1, 3) := by decide +kernel
theorem dX12_read_23 : decode cX12_read 23 = .ok (.goto (-16), 3) := by decide +kernel
theorem dX12_read_26 : decode cX12_read 26 = .ok (.aload_n 0, 1) := by decide +kernel
theorem dX12_read_27 : decode cX12_read 27 = .ok (.aload_n 0, 1) := by decide +kernel
theorem dX12_read_28 : decode cX12_read 28 = .ok (.invokevirtual 313, 3) := by decide +kernel
theorem dX12_read_31 : decode cX12_read 31 = .ok (.putfield 79, 3) := by decide +kernel
theorem dX12_read_34 : decode cX12_read 34 = .ok (.aload_n 0, 1) := by decide +kernel
theorem dX12_read_35 : decode cX12_read 35 = .ok (.iconst 0, 1) := by decide +kernel
theorem dX12_read_36 : decode cX12_read 36 = .ok (.putfield 301, 3) := by decide +kernel
theorem dX12_read_39 : decode cX12_read 39 = .ok (.aload_n 0, 1) := by decide +kernel
theorem dX12_read_40 : decode cX12_read 40 = .ok (.aload_n 0, 1) := by decide +kernel
theorem dX12_read_41 : decode cX12_read 41 = .ok (.getfield 79, 3) := by decide +kernel
theorem dX12_read_44 : decode cX12_read 44 = .ok (.iconst (-1), 1) := by decide +kernel
theorem dX12_read_45 : decode cX12_read 45 = .ok (.if_icmp .ne 7, 3) := by decide +kernel
theorem dX12_read_48 : decode cX12_read 48 = .ok (.iconst 1, 1) := by decide +kernel
theorem dX12_read_49 : decode cX12_read 49 = .ok (.goto 4, 3) := by decide +kernel
theorem dX12_read_52 : decode cX12_read 52 = .ok (.iconst 0, 1) := by decide +kernel
theorem dX12_read_53 : decode cX12_read 53 = .ok (.iconst 1, 1) := by decide +kernel
theorem dX12_read_54 : decode cX12_read 54 = .ok (.invokevirtual 96, 3) := by decide +kernel
theorem dX12_read_57 : decode cX12_read 57 = .ok (.ifCond .ne 15, 3) := by decide +kernel
theorem dX12_read_60 : decode cX12_read 60 = .ok (.aload_n 0, 1) := by decide +kernel
theorem dX12_read_61 : decode cX12_read 61 = .ok (.aload_n 0, 1) := by decide +kernel
theorem dX12_read_62 : decode cX12_read 62 = .ok (.invokevirtual 202, 3) := by decide +kernel
theorem dX12_read_65 : decode cX12_read 65 = .ok (.iconst 2, 1) := by decide +kernel
theorem dX12_read_66 : decode cX12_read 66 = .ok (.invokevirtual 96, 3) := by decide +kernel
theorem dX12_read_69 : decode cX12_read 69 = .ok (.ifCond .eq 5, 3) := by decide +kernel
theorem dX12_read_72 : decode cX12_read 72 = .ok (.iconst 0, 1) := by decide +kernel
theorem dX12_read_73 : decode cX12_read 73 = .ok (.ireturn, 1) := by decide +kernel
theorem dX12_read_74 : decode cX12_read 74 = .ok (.aload_n 0, 1) := by decide +kernel
theorem dX12_read_75 : decode cX12_read 75 = .ok (.invokevirtual 176, 3) := by decide +kernel
theorem dX12_read_78 : decode cX12_read 78 = .ok (.aload_n 0, 1) := by decide +kernel
theorem dX12_read_79 : decode cX12_read 79 = .ok (.invokevirtual 205, 3) := by decide +kernel
theorem dX12_read_82 : decode cX12_read 82 = .ok (.ireturn, 1) := by decide +kernel
theorem dX12_errorPosition_0 : decode cX12_errorPosition 0 = .ok (.aload_n 0, 1) := by decide +kernel
theorem dX12_errorPosition_1 : decode cX12_errorPosition 1 = .ok (.iconst 0, 1) := by decide +kernel
theorem dX12_errorPosition_2 : decode cX12_errorPosition 2 = .ok (.putfield 1, 3) := by decide +kernel
theorem dX12_errorPosition_5 : decode cX12_errorPosition 5 = .ok (.aload_n 0, 1) := by decide +kernel
theorem dX12_errorPosition_6 : decode cX12_errorPosition 6 = .ok (.getfield 79, 3) := by decide +kernel
theorem dX12_errorPosition_9 : decode cX12_errorPosition 9 = .ok (.ireturn, 1) := by decide +kernel
set_option maxRecDepth 20000 in
theorem ggX12_write_X12_noTable : GoodIn wsX12_write wsX12_noTable := goodIn_r _ [9, 3, 10, 11, 12, 8, 13, 1, 21, 22, 23, 24, 25, 26, 27, 28, 29, 30, 31, 32, 33, 34, 35, 36, 37, 38, 39, 40, 41, 42, 43, 44, 45, 46, 47, 48, 49, 50] (by decide +kernel) (by decide +kernel)
set_option maxRecDepth 20000 in
theorem gX12_write_X12_noTable : GoodIn wsX12_write (wsV RX12 179 RX12 yX12_noTable wsX12_noTable) := goodIn_app (goodIn_of _ (by decide +kernel)) ggX12_write_X12_noTable
set_option maxRecDepth 20000 in
theorem ggX12_write_X12_many : GoodIn wsX12_write wsX12_many := goodIn_r _ [17, 3, 21, 22, 23, 24, 25, 26, 27, 28, 29, 30, 31, 32, 33, 34, 35, 36, 37, 38, 39, 40, 41, 42, 43, 44, 45, 46, 47, 48, 49, 50] (by decide +kernel) (by decide +kernel)
set_option maxRecDepth 20000 in
theorem gX12_write_X12_many : GoodIn wsX12_write (wsV RX12 88 RX12 yX12_many wsX12_many) := goodIn_app (goodIn_of _ (by decide +kernel)) ggX12_write_X12_many
set_option maxRecDepth 20000 in
theorem ggX12_write_X12_sign : GoodIn wsX12_write wsX12_sign := goodIn_r _ [20] (by decide +kernel) (by decide +kernel)
set_option maxRecDepth 20000 in
theorem gX12_write_X12_sign : GoodIn wsX12_write (va_wsS RX12 316 yX12_sign wsX12_sign) := goodIn_app (goodIn_of _ (by decide +kernel)) ggX12_write_X12_sign
theorem dX12_write_0 : decode cX12_write 0 = .ok (.aload_n 0, 1) := by decide +kernel
theorem dX12_write_1 : decode cX12_write 1 = .ok (.iconst 0, 1) := by decide +kernel
theorem dX12_write_2 : decode cX12_write 2 = .ok (.putfield 1, 3) := by decide +kernel
theorem dX12_write_5 : decode cX12_write 5 = .ok (.aload_n 0, 1) := by decide +kernel
theorem dX12_write_6 : decode cX12_write 6 = .ok (.iconst 1, 1) := by decide +kernel
theorem dX12_write_7 : decode cX12_write 7 = .ok (.invokevirtual 179, 3) := by decide +kernel
theorem dX12_write_10 : decode cX12_write 10 = .ok (.ifCond .eq 5, 3) := by decide +kernel
theorem dX12_write_13 : decode cX12_write 13 = .ok (.iconst 0, 1) := by decide +kernel
theorem dX12_write_14 : decode cX12_write 14 = .ok (.ireturn, 1) := by decide +kernel
theorem dX12_write_15 : decode cX12_write 15 = .ok (.iconst 0, 1) := by decide +kernel
theorem dX12_write_16 : decode cX12_write 16 = .ok (.istore_n 1, 1) := by decide +kernel
theorem dX12_write_17 : decode cX12_write 17 = .ok (.iload_n 1, 1) := by decide +kernel
theorem dX12_write_18 : decode cX12_write 18 = .ok (.aload_n 0, 1) := by decide +kernel
theorem dX12_write_19 : decode cX12_write 19 = .ok (.invokevirtual 88, 3) := by decide +kernel
theorem dX12_write_22 : decode cX12_write 22 = .ok (.if_icmp .ge 81, 3) := by decide +kernel
theorem dX12_write_25 : decode cX12_write 25 = .ok (.aload_n 0, 1) := by decide +kernel
theorem dX12_write_26 : decode cX12_write 26 = .ok (.getfield 82, 3) := by decide +kernel
theorem dX12_write_29 : decode cX12_write 29 = .ok (.iconst 4, 1) := by decide +kernel
theorem dX12_write_30 : decode cX12_write 30 = .ok (.iload_n 1, 1) := by decide +kernel
theorem dX12_write_31 : decode cX12_write 31 = .ok (.imul, 1) := by decide +kernel
theorem dX12_write_32 : decode cX12_write 32 = .ok (.bipush 48, 2) := by decide +kernel
theorem dX12_write_34 : decode cX12_write 34 = .ok (.iload_n 1, 1) := by decide +kernel
theorem dX12_write_35 : decode cX12_write 35 = .ok (.iadd, 1) := by decide +kernel
theorem dX12_write_36 : decode cX12_write 36 = .ok (.iastore, 1) := by decide +kernel
theorem dX12_write_37 : decode cX12_write 37 = .ok (.aload_n 0, 1) := by decide +kernel
theorem dX12_write_38 : decode cX12_write 38 = .ok (.getfield 82, 3) := by decide +kernel
theorem dX12_write_41 : decode cX12_write 41 = .ok (.iconst 4, 1) := by decide +kernel
theorem dX12_write_42 : decode cX12_write 42 = .ok (.iload_n 1, 1) := by decide +kernel
theorem dX12_write_43 : decode cX12_write 43 = .ok (.imul, 1) := by decide +kernel
theorem dX12_write_44 : decode cX12_write 44 = .ok (.iconst 1, 1) := by decide +kernel
theorem dX12_write_45 : decode cX12_write 45 = .ok (.iadd, 1) := by decide +kernel
theorem dX12_write_46 : decode cX12_write 46 = .ok (.aload_n 0, 1) := by decide +kernel
theorem dX12_write_47 : decode cX12_write 47 = .ok (.getfield 13, 3) := by decide +kernel
theorem dX12_write_50 : decode cX12_write 50 = .ok (.bipush 116, 2) := by decide +kernel
theorem dX12_write_52 : decode cX12_write 52 = .ok (.iload_n 1, 1) := by decide +kernel
theorem dX12_write_53 : decode cX12_write 53 = .ok (.iadd, 1) := by decide +kernel
theorem dX12_write_54 : decode cX12_write 54 = .ok (.iaload, 1) := by decide +kernel
theorem dX12_write_55 : decode cX12_write 55 = .ok (.iconst 4, 1) := by decide +kernel
theorem dX12_write_56 : decode cX12_write 56 = .ok (.idiv, 1) := by decide +kernel
theorem dX12_write_57 : decode cX12_write 57 = .ok (.invokestatic 316, 3) := by decide +kernel
theorem dX12_write_60 : decode cX12_write 60 = .ok (.iastore, 1) := by decide +kernel
theorem dX12_write_61 : decode cX12_write 61 = .ok (.aload_n 0, 1) := by decide +kernel
theorem dX12_write_62 : decode cX12_write 62 = .ok (.getfield 82, 3) := by decide +kernel
theorem dX12_write_65 : decode cX12_write 65 = .ok (.iconst 4, 1) := by decide +kernel
theorem dX12_write_66 : decode cX12_write 66 = .ok (.iload_n 1, 1) := by decide +kernel
theorem dX12_write_67 : decode cX12_write 67 = .ok (.imul, 1) := by decide +kernel
theorem dX12_write_68 : decode cX12_write 68 = .ok (.iconst 2, 1) := by decide +kernel
theorem dX12_write_69 : decode cX12_write 69 = .ok (.iadd, 1) := by decide +kernel
theorem dX12_write_70 : decode cX12_write 70 = .ok (.bipush 48, 2) := by decide +kernel
theorem dX12_write_72 : decode cX12_write 72 = .ok (.aload_n 0, 1) := by decide +kernel
theorem dX12_write_73 : decode cX12_write 73 = .ok (.getfield 13, 3) := by decide +kernel
theorem dX12_write_76 : decode cX12_write 76 = .ok (.bipush 116, 2) := by decide +kernel
theorem dX12_write_78 : decode cX12_write 78 = .ok (.iload_n 1, 1) := by decide +kernel
theorem dX12_write_79 : decode cX12_write 79 = .ok (.iadd, 1) := by decide +kernel
theorem dX12_write_80 : decode cX12_write 80 = .ok (.iaload, 1) := by decide +kernel
theorem dX12_write_81 : decode cX12_write 81 = .ok (.iconst 4, 1) := by decide +kernel
theorem dX12_write_82 : decode cX12_write 82 = .ok (.irem, 1) := by decide +kernel
theorem dX12_write_83 : decode cX12_write 83 = .ok (.iadd, 1) := by decide +kernel
theorem dX12_write_84 : decode cX12_write 84 = .ok (.iastore, 1) := by decide +kernel
theorem dX12_write_85 : decode cX12_write 85 = .ok (.aload_n 0, 1) := by decide +kernel
theorem dX12_write_86 : decode cX12_write 86 = .ok (.getfield 82, 3) := by decide +kernel
theorem dX12_write_89 : decode cX12_write 89 = .ok (.iconst 4, 1) := by decide +kernel
theorem dX12_write_90 : decode cX12_write 90 = .ok (.iload_n 1, 1) := by decide +kernel
theorem dX12_write_91 : decode cX12_write 91 = .ok (.imul, 1) := by decide +kernel
theorem dX12_write_92 : decode cX12_write 92 = .ok (.iconst 3, 1) := by decide +kernel
theorem dX12_write_93 : decode cX12_write 93 = .ok (.iadd, 1) := by decide +kernel
theorem dX12_write_94 : decode cX12_write 94 = .ok (.bipush 59, 2) := by decide +kernel
theorem dX12_write_96 : decode cX12_write 96 = .ok (.iastore, 1) := by decide +kernel
theorem dX12_write_97 : decode cX12_write 97 = .ok (.iinc 1 1, 3) := by decide +kernel
theorem dX12_write_100 : decode cX12_write 100 = .ok (.goto (-83), 3) := by decide +kernel
theorem dX12_write_103 : decode cX12_write 103 = .ok (.aload_n 0, 1) := by decide +kernel
theorem dX12_write_104 : decode cX12_write 104 = .ok (.iconst 4, 1) := by decide +kernel
theorem dX12_write_105 : decode cX12_write 105 = .ok (.aload_n 0, 1) := by decide +kernel
theorem dX12_write_106 : decode cX12_write 106 = .ok (.invokevirtual 88, 3) := by decide +kernel
theorem dX12_write_109 : decode cX12_write 109 = .ok (.imul, 1) := by decide +kernel
theorem dX12_write_110 : decode cX12_write 110 = .ok (.putfield 319, 3) := by decide +kernel
theorem dX12_write_113 : decode cX12_write 113 = .ok (.aload_n 0, 1) := by decide +kernel
theorem dX12_write_114 : decode cX12_write 114 = .ok (.getfield 319, 3) := by decide +kernel
theorem dX12_write_117 : decode cX12_write 117 = .ok (.ireturn, 1) := by decide +kernel
set_option maxRecDepth 20000 in
theorem ggX12_writtenAt_X12_in : GoodIn wsX12_writtenAt wsX12_in := goodIn_r _ [7] (by decide +kernel) (by decide +kernel)
set_option maxRecDepth 20000 in
theorem gX12_writtenAt_X12_in : GoodIn wsX12_writtenAt (va_wsS RX12 92 yX12_in wsX12_in) := goodIn_app (goodIn_of _ (by decide +kernel)) ggX12_writtenAt_X12_in
set_option maxRecDepth 20000 in
theorem ggX12_writtenAt_X12_fails : GoodIn wsX12_writtenAt wsX12_fails := goodIn_r _ [11, 1, 12, 13, 14, 15, 16, 17, 18, 19, 20, 21, 22, 23, 24, 25, 26, 27, 28, 29, 30, 31, 32, 33, 34, 35, 36, 37, 38, 39, 40, 41] (by decide +kernel) (by decide +kernel)
set_option maxRecDepth 20000 in
theorem gX12_writtenAt_X12_fails : GoodIn wsX12_writtenAt (wsV RX12 96 RX12 yX12_fails wsX12_fails) := goodIn_app (goodIn_of _ (by decide +kernel)) ggX12_writtenAt_X12_fails
theorem dX12_writtenAt_0 : decode cX12_writtenAt 0 = .ok (.aload_n 0, 1) := by decide +kernel
theorem dX12_writtenAt_1 : decode cX12_writtenAt 1 = .ok (.iconst 0, 1) := by decide +kernel
theorem dX12_writtenAt_2 : decode cX12_writtenAt 2 = .ok (.putfield 1, 3) := by decide +kernel
theorem dX12_writtenAt_5 : decode cX12_writtenAt 5 = .ok (.aload_n 0, 1) := by decide +kernel
theorem dX12_writtenAt_6 : decode cX12_writtenAt 6 = .ok (.iload_n 1, 1) := by decide +kernel
theorem dX12_writtenAt_7 : decode cX12_writtenAt 7 = .ok (.iconst 0, 1) := by decide +kernel
theorem dX12_writtenAt_8 : decode cX12_writtenAt 8 = .ok (.aload_n 0, 1) := by decide +kernel
theorem dX12_writtenAt_9 : decode cX12_writtenAt 9 = .ok (.getfield 319, 3) := by decide +kernel
theorem dX12_writtenAt_12 : decode cX12_writtenAt 12 = .ok (.iconst 1, 1) := by decide +kernel
theorem dX12_writtenAt_13 : decode cX12_writtenAt 13 = .ok (.isub, 1) := by decide +kernel
theorem dX12_writtenAt_14 : decode cX12_writtenAt 14 = .ok (.invokestatic 92, 3) := by decide +kernel
theorem dX12_writtenAt_17 : decode cX12_writtenAt 17 = .ok (.iconst 1, 1) := by decide +kernel
theorem dX12_writtenAt_18 : decode cX12_writtenAt 18 = .ok (.invokevirtual 96, 3) := by decide +kernel
theorem dX12_writtenAt_21 : decode cX12_writtenAt 21 = .ok (.ifCond .eq 8, 3) := by decide +kernel
theorem dX12_writtenAt_24 : decode cX12_writtenAt 24 = .ok (.bipush 32, 2) := by decide +kernel
theorem dX12_writtenAt_26 : decode cX12_writtenAt 26 = .ok (.goto 10, 3) := by decide +kernel
theorem dX12_writtenAt_29 : decode cX12_writtenAt 29 = .ok (.aload_n 0, 1) := by decide +kernel
theorem dX12_writtenAt_30 : decode cX12_writtenAt 30 = .ok (.getfield 82, 3) := by decide +kernel
theorem dX12_writtenAt_33 : decode cX12_writtenAt 33 = .ok (.iload_n 1, 1) := by decide +kernel
theorem dX12_writtenAt_34 : decode cX12_writtenAt 34 = .ok (.iaload, 1) := by decide +kernel
theorem dX12_writtenAt_35 : decode cX12_writtenAt 35 = .ok (.i2c, 1) := by decide +kernel
theorem dX12_writtenAt_36 : decode cX12_writtenAt 36 = .ok (.ireturn, 1) := by decide +kernel
set_option maxRecDepth 20000 in
theorem ggX12_checksum_X12_many : GoodIn wsX12_checksum wsX12_many := goodIn_r _ [7, 2, 8, 9, 10, 11, 12, 13, 14, 15, 16, 17, 18, 19, 20, 21, 22, 23, 24, 25, 26, 27, 28, 29, 30, 31, 32, 33, 34, 35, 36, 37] (by decide +kernel) (by decide +kernel)
set_option maxRecDepth 20000 in
theorem gX12_checksum_X12_many : GoodIn wsX12_checksum (wsV RX12 88 RX12 yX12_many wsX12_many) := goodIn_app (goodIn_of _ (by decide +kernel)) ggX12_checksum_X12_many
theorem dX12_checksum_0 : decode cX12_checksum 0 = .ok (.aload_n 0, 1) := by decide +kernel
theorem dX12_checksum_1 : decode cX12_checksum 1 = .ok (.iconst 0, 1) := by decide +kernel
theorem dX12_checksum_2 : decode cX12_checksum 2 = .ok (.putfield 1, 3) := by decide +kernel
theorem dX12_checksum_5 : decode cX12_checksum 5 = .ok (.aload_n 0, 1) := by decide +kernel
theorem dX12_checksum_6 : decode cX12_checksum 6 = .ok (.getfield 13, 3) := by decide +kernel
theorem dX12_checksum_9 : decode cX12_checksum 9 = .ok (.bipush 127, 2) := by decide +kernel
theorem dX12_checksum_11 : decode cX12_checksum 11 = .ok (.iaload, 1) := by decide +kernel
theorem dX12_checksum_12 : decode cX12_checksum 12 = .ok (.ifCond .ne 5, 3) := by decide +kernel
theorem dX12_checksum_15 : decode cX12_checksum 15 = .ok (.iconst 0, 1) := by decide +kernel
theorem dX12_checksum_16 : decode cX12_checksum 16 = .ok (.ireturn, 1) := by decide +kernel
theorem dX12_checksum_17 : decode cX12_checksum 17 = .ok (.bipush 17, 2) := by decide +kernel
theorem dX12_checksum_19 : decode cX12_checksum 19 = .ok (.istore_n 1, 1) := by decide +kernel
theorem dX12_checksum_20 : decode cX12_checksum 20 = .ok (.iconst 0, 1) := by decide +kernel
theorem dX12_checksum_21 : decode cX12_checksum 21 = .ok (.istore_n 2, 1) := by decide +kernel
theorem dX12_checksum_22 : decode cX12_checksum 22 = .ok (.iload_n 2, 1) := by decide +kernel
theorem dX12_checksum_23 : decode cX12_checksum 23 = .ok (.aload_n 0, 1) := by decide +kernel
theorem dX12_checksum_24 : decode cX12_checksum 24 = .ok (.invokevirtual 88, 3) := by decide +kernel
theorem dX12_checksum_27 : decode cX12_checksum 27 = .ok (.if_icmp .ge 24, 3) := by decide +kernel
theorem dX12_checksum_30 : decode cX12_checksum 30 = .ok (.bipush 31, 2) := by decide +kernel
theorem dX12_checksum_32 : decode cX12_checksum 32 = .ok (.iload_n 1, 1) := by decide +kernel
theorem dX12_checksum_33 : decode cX12_checksum 33 = .ok (.imul, 1) := by decide +kernel
theorem dX12_checksum_34 : decode cX12_checksum 34 = .ok (.aload_n 0, 1) := by decide +kernel
theorem dX12_checksum_35 : decode cX12_checksum 35 = .ok (.getfield 13, 3) := by decide +kernel
theorem dX12_checksum_38 : decode cX12_checksum 38 = .ok (.bipush 116, 2) := by decide +kernel
theorem dX12_checksum_40 : decode cX12_checksum 40 = .ok (.iload_n 2, 1) := by decide +kernel
theorem dX12_checksum_41 : decode cX12_checksum 41 = .ok (.iadd, 1) := by decide +kernel
theorem dX12_checksum_42 : decode cX12_checksum 42 = .ok (.iaload, 1) := by decide +kernel
theorem dX12_checksum_43 : decode cX12_checksum 43 = .ok (.iadd, 1) := by decide +kernel
theorem dX12_checksum_44 : decode cX12_checksum 44 = .ok (.istore_n 1, 1) := by decide +kernel
theorem dX12_checksum_45 : decode cX12_checksum 45 = .ok (.iinc 2 1, 3) := by decide +kernel
theorem dX12_checksum_48 : decode cX12_checksum 48 = .ok (.goto (-26), 3) := by decide +kernel
theorem dX12_checksum_51 : decode cX12_checksum 51 = .ok (.iload_n 1, 1) := by decide +kernel
theorem dX12_checksum_52 : decode cX12_checksum 52 = .ok (.ireturn, 1) := by decide +kernel
set_option maxRecDepth 20000 in
theorem ggX12_meanSlot_X12_noTable : GoodIn wsX12_meanSlot wsX12_noTable := goodIn_r _ [7, 2, 8, 9, 10, 6, 11, 1, 16, 17, 18, 19, 20, 21, 22, 23, 24, 25, 26, 27, 28, 29, 30, 31, 32, 33, 34, 35, 36, 37, 38, 39, 40, 41, 42, 43, 44, 45] (by decide +kernel) (by decide +kernel)
set_option maxRecDepth 20000 in
theorem gX12_meanSlot_X12_noTable : GoodIn wsX12_meanSlot (wsV RX12 179 RX12 yX12_noTable wsX12_noTable) := goodIn_app (goodIn_of _ (by decide +kernel)) ggX12_meanSlot_X12_noTable
set_option maxRecDepth 20000 in
theorem ggX12_meanSlot_X12_many : GoodIn wsX12_meanSlot wsX12_many := goodIn_r _ [15, 2, 16, 17, 18, 19, 20, 21, 22, 23, 24, 25, 26, 27, 28, 29, 30, 31, 32, 33, 34, 35, 36, 37, 38, 39, 40, 41, 42, 43, 44, 45] (by decide +kernel) (by decide +kernel)
set_option maxRecDepth 20000 in
theorem gX12_meanSlot_X12_many : GoodIn wsX12_meanSlot (wsV RX12 88 RX12 yX12_many wsX12_many) := goodIn_app (goodIn_of _ (by decide +kernel)) ggX12_meanSlot_X12_many
theorem dX12_meanSlot_0 : decode cX12_meanSlot 0 = .ok (.aload_n 0, 1) := by decide +kernel
theorem dX12_meanSlot_1 : decode cX12_meanSlot 1 = .ok (.iconst 0, 1) := by decide +kernel
theorem dX12_meanSlot_2 : decode cX12_meanSlot 2 = .ok (.putfield 1, 3) := by decide +kernel
theorem dX12_meanSlot_5 : decode cX12_meanSlot 5 = .ok (.aload_n 0, 1) := by decide +kernel
theorem dX12_meanSlot_6 : decode cX12_meanSlot 6 = .ok (.iconst 1, 1) := by decide +kernel
theorem dX12_meanSlot_7 : decode cX12_meanSlot 7 = .ok (.invokevirtual 179, 3) := by decide +kernel
theorem dX12_meanSlot_10 : decode cX12_meanSlot 10 = .ok (.ifCond .ne 10, 3) := by decide +kernel
theorem dX12_meanSlot_13 : decode cX12_meanSlot 13 = .ok (.aload_n 0, 1) := by decide +kernel
theorem dX12_meanSlot_14 : decode cX12_meanSlot 14 = .ok (.invokevirtual 88, 3) := by decide +kernel
theorem dX12_meanSlot_17 : decode cX12_meanSlot 17 = .ok (.ifCond .ne 5, 3) := by decide +kernel
theorem dX12_meanSlot_20 : decode cX12_meanSlot 20 = .ok (.dconst 0, 1) := by decide +kernel
theorem dX12_meanSlot_21 : decode cX12_meanSlot 21 = .ok (.dreturn, 1) := by decide +kernel
theorem dX12_meanSlot_22 : decode cX12_meanSlot 22 = .ok (.iconst 0, 1) := by decide +kernel
theorem dX12_meanSlot_23 : decode cX12_meanSlot 23 = .ok (.istore_n 1, 1) := by decide +kernel
theorem dX12_meanSlot_24 : decode cX12_meanSlot 24 = .ok (.iconst 0, 1) := by decide +kernel
theorem dX12_meanSlot_25 : decode cX12_meanSlot 25 = .ok (.istore_n 2, 1) := by decide +kernel
theorem dX12_meanSlot_26 : decode cX12_meanSlot 26 = .ok (.iload_n 2, 1) := by decide +kernel
theorem dX12_meanSlot_27 : decode cX12_meanSlot 27 = .ok (.aload_n 0, 1) := by decide +kernel
theorem dX12_meanSlot_28 : decode cX12_meanSlot 28 = .ok (.invokevirtual 88, 3) := by decide +kernel
theorem dX12_meanSlot_31 : decode cX12_meanSlot 31 = .ok (.if_icmp .ge 21, 3) := by decide +kernel
theorem dX12_meanSlot_34 : decode cX12_meanSlot 34 = .ok (.iload_n 1, 1) := by decide +kernel
theorem dX12_meanSlot_35 : decode cX12_meanSlot 35 = .ok (.aload_n 0, 1) := by decide +kernel
theorem dX12_meanSlot_36 : decode cX12_meanSlot 36 = .ok (.getfield 13, 3) := by decide +kernel
theorem dX12_meanSlot_39 : decode cX12_meanSlot 39 = .ok (.bipush 116, 2) := by decide +kernel
theorem dX12_meanSlot_41 : decode cX12_meanSlot 41 = .ok (.iload_n 2, 1) := by decide +kernel
theorem dX12_meanSlot_42 : decode cX12_meanSlot 42 = .ok (.iadd, 1) := by decide +kernel
theorem dX12_meanSlot_43 : decode cX12_meanSlot 43 = .ok (.iaload, 1) := by decide +kernel
theorem dX12_meanSlot_44 : decode cX12_meanSlot 44 = .ok (.iadd, 1) := by decide +kernel
theorem dX12_meanSlot_45 : decode cX12_meanSlot 45 = .ok (.istore_n 1, 1) := by decide +kernel
theorem dX12_meanSlot_46 : decode cX12_meanSlot 46 = .ok (.iinc 2 1, 3) := by decide +kernel
theorem dX12_meanSlot_49 : decode cX12_meanSlot 49 = .ok (.goto (-23), 3) := by decide +kernel
theorem dX12_meanSlot_52 : decode cX12_meanSlot 52 = .ok (.iload_n 1, 1) := by decide +kernel
theorem dX12_meanSlot_53 : decode cX12_meanSlot 53 = .ok (.i2d, 1) := by decide +kernel
theorem dX12_meanSlot_54 : decode cX12_meanSlot 54 = .ok (.aload_n 0, 1) := by decide +kernel
theorem dX12_meanSlot_55 : decode cX12_meanSlot 55 = .ok (.invokevirtual 88, 3) := by decide +kernel
theorem dX12_meanSlot_58 : decode cX12_meanSlot 58 = .ok (.i2d, 1) := by decide +kernel
theorem dX12_meanSlot_59 : decode cX12_meanSlot 59 = .ok (.ddiv, 1) := by decide +kernel
theorem dX12_meanSlot_60 : decode cX12_meanSlot 60 = .ok (.dreturn, 1) := by decide +kernel
set_option maxRecDepth 20000 in
theorem ggX12_taken_X12_noTable : GoodIn wsX12_taken wsX12_noTable := goodIn_r _ [8, 2, 9, 10, 11, 7, 12, 1, 17, 18, 19, 20, 21, 22, 23, 24, 25, 26, 27, 28, 29, 30, 31, 32, 33, 34, 35, 36, 37, 38, 39, 40, 41, 42, 43, 44, 45, 46] (by decide +kernel) (by decide +kernel)
set_option maxRecDepth 20000 in
theorem gX12_taken_X12_noTable : GoodIn wsX12_taken (wsV RX12 179 RX12 yX12_noTable wsX12_noTable) := goodIn_app (goodIn_of _ (by decide +kernel)) ggX12_taken_X12_noTable
set_option maxRecDepth 20000 in
theorem ggX12_taken_X12_many : GoodIn wsX12_taken wsX12_many := goodIn_r _ [16, 2, 17, 18, 19, 20, 21, 22, 23, 24, 25, 26, 27, 28, 29, 30, 31, 32, 33, 34, 35, 36, 37, 38, 39, 40, 41, 42, 43, 44, 45, 46] (by decide +kernel) (by decide +kernel)
set_option maxRecDepth 20000 in
theorem gX12_taken_X12_many : GoodIn wsX12_taken (wsV RX12 88 RX12 yX12_many wsX12_many) := goodIn_app (goodIn_of _ (by decide +kernel)) ggX12_taken_X12_many
theorem dX12_taken_0 : decode cX12_taken 0 = .ok (.aload_n 0, 1) := by decide +kernel
theorem dX12_taken_1 : decode cX12_taken 1 = .ok (.iconst 0, 1) := by decide +kernel
theorem dX12_taken_2 : decode cX12_taken 2 = .ok (.putfield 1, 3) := by decide +kernel
theorem dX12_taken_5 : decode cX12_taken 5 = .ok (.aload_n 0, 1) := by decide +kernel
theorem dX12_taken_6 : decode cX12_taken 6 = .ok (.iconst 1, 1) := by decide +kernel
theorem dX12_taken_7 : decode cX12_taken 7 = .ok (.invokevirtual 179, 3) := by decide +kernel
theorem dX12_taken_10 : decode cX12_taken 10 = .ok (.ifCond .eq 5, 3) := by decide +kernel
theorem dX12_taken_13 : decode cX12_taken 13 = .ok (.fconst 0, 1) := by decide +kernel
theorem dX12_taken_14 : decode cX12_taken 14 = .ok (.freturn, 1) := by decide +kernel
theorem dX12_taken_15 : decode cX12_taken 15 = .ok (.iconst 0, 1) := by decide +kernel
theorem dX12_taken_16 : decode cX12_taken 16 = .ok (.istore_n 1, 1) := by decide +kernel
theorem dX12_taken_17 : decode cX12_taken 17 = .ok (.iconst 0, 1) := by decide +kernel
theorem dX12_taken_18 : decode cX12_taken 18 = .ok (.istore_n 2, 1) := by decide +kernel
theorem dX12_taken_19 : decode cX12_taken 19 = .ok (.iload_n 2, 1) := by decide +kernel
theorem dX12_taken_20 : decode cX12_taken 20 = .ok (.aload_n 0, 1) := by decide +kernel
theorem dX12_taken_21 : decode cX12_taken 21 = .ok (.invokevirtual 88, 3) := by decide +kernel
theorem dX12_taken_24 : decode cX12_taken 24 = .ok (.if_icmp .ge 23, 3) := by decide +kernel
theorem dX12_taken_27 : decode cX12_taken 27 = .ok (.iload_n 1, 1) := by decide +kernel
theorem dX12_taken_28 : decode cX12_taken 28 = .ok (.iconst 1, 1) := by decide +kernel
theorem dX12_taken_29 : decode cX12_taken 29 = .ok (.aload_n 0, 1) := by decide +kernel
theorem dX12_taken_30 : decode cX12_taken 30 = .ok (.getfield 13, 3) := by decide +kernel
theorem dX12_taken_33 : decode cX12_taken 33 = .ok (.bipush 36, 2) := by decide +kernel
theorem dX12_taken_35 : decode cX12_taken 35 = .ok (.iload_n 2, 1) := by decide +kernel
theorem dX12_taken_36 : decode cX12_taken 36 = .ok (.iadd, 1) := by decide +kernel
theorem dX12_taken_37 : decode cX12_taken 37 = .ok (.iaload, 1) := by decide +kernel
theorem dX12_taken_38 : decode cX12_taken 38 = .ok (.iadd, 1) := by decide +kernel
theorem dX12_taken_39 : decode cX12_taken 39 = .ok (.iadd, 1) := by decide +kernel
theorem dX12_taken_40 : decode cX12_taken 40 = .ok (.istore_n 1, 1) := by decide +kernel
theorem dX12_taken_41 : decode cX12_taken 41 = .ok (.iinc 2 1, 3) := by decide +kernel
theorem dX12_taken_44 : decode cX12_taken 44 = .ok (.goto (-25), 3) := by decide +kernel
theorem dX12_taken_47 : decode cX12_taken 47 = .ok (.iload_n 1, 1) := by decide +kernel
theorem dX12_taken_48 : decode cX12_taken 48 = .ok (.i2f, 1) := by decide +kernel
theorem dX12_taken_49 : decode cX12_taken 49 = .ok (.ldc_w 322, 3) := by decide +kernel
theorem dX12_taken_52 : decode cX12_taken 52 = .ok (.fdiv, 1) := by decide +kernel
theorem dX12_taken_53 : decode cX12_taken 53 = .ok (.freturn, 1) := by decide +kernel
theorem dX12_errors_0 : decode cX12_errors 0 = .ok (.aload_n 0, 1) := by decide +kernel
theorem dX12_errors_1 : decode cX12_errors 1 = .ok (.iconst 0, 1) := by decide +kernel
theorem dX12_errors_2 : decode cX12_errors 2 = .ok (.putfield 1, 3) := by decide +kernel
theorem dX12_errors_5 : decode cX12_errors 5 = .ok (.iconst 0, 1) := by decide +kernel
theorem dX12_errors_6 : decode cX12_errors 6 = .ok (.ireturn, 1) := by decide +kernel
theorem dJ6_bitCount_0f7a4_0 : decode cJ6_bitCount_0f7a4 0 = .ok (.iload_n 0, 1) := by decide +kernel
theorem dJ6_bitCount_0f7a4_1 : decode cJ6_bitCount_0f7a4 1 = .ok (.iload_n 0, 1) := by decide +kernel
theorem dJ6_bitCount_0f7a4_2 : decode cJ6_bitCount_0f7a4 2 = .ok (.iconst 1, 1) := by decide +kernel
theorem dJ6_bitCount_0f7a4_3 : decode cJ6_bitCount_0f7a4 3 = .ok (.iushr, 1) := by decide +kernel
theorem dJ6_bitCount_0f7a4_4 : decode cJ6_bitCount_0f7a4 4 = .ok (.ldc_w 265, 3) := by decide +kernel
theorem dJ6_bitCount_0f7a4_7 : decode cJ6_bitCount_0f7a4 7 = .ok (.iand, 1) := by decide +kernel
theorem dJ6_bitCount_0f7a4_8 : decode cJ6_bitCount_0f7a4 8 = .ok (.isub, 1) := by decide +kernel
theorem dJ6_bitCount_0f7a4_9 : decode cJ6_bitCount_0f7a4 9 = .ok (.istore_n 0, 1) := by decide +kernel
theorem dJ6_bitCount_0f7a4_10 : decode cJ6_bitCount_0f7a4 10 = .ok (.iload_n 0, 1) := by decide +kernel
theorem dJ6_bitCount_0f7a4_11 : decode cJ6_bitCount_0f7a4 11 = .ok (.ldc_w 266, 3) := by decide +kernel
theorem dJ6_bitCount_0f7a4_14 : decode cJ6_bitCount_0f7a4 14 = .ok (.iand, 1) := by decide +kernel
theorem dJ6_bitCount_0f7a4_15 : decode cJ6_bitCount_0f7a4 15 = .ok (.iload_n 0, 1) := by decide +kernel
theorem dJ6_bitCount_0f7a4_16 : decode cJ6_bitCount_0f7a4 16 = .ok (.iconst 2, 1) := by decide +kernel
theorem dJ6_bitCount_0f7a4_17 : decode cJ6_bitCount_0f7a4 17 = .ok (.iushr, 1) := by decide +kernel
theorem dJ6_bitCount_0f7a4_18 : decode cJ6_bitCount_0f7a4 18 = .ok (.ldc_w 266, 3) := by decide +kernel
theorem dJ6_bitCount_0f7a4_21 : decode cJ6_bitCount_0f7a4 21 = .ok (.iand, 1) := by decide +kernel
theorem dJ6_bitCount_0f7a4_22 : decode cJ6_bitCount_0f7a4 22 = .ok (.iadd, 1) := by decide +kernel
theorem dJ6_bitCount_0f7a4_23 : decode cJ6_bitCount_0f7a4 23 = .ok (.istore_n 0, 1) := by decide +kernel
theorem dJ6_bitCount_0f7a4_24 : decode cJ6_bitCount_0f7a4 24 = .ok (.iload_n 0, 1) := by decide +kernel
theorem dJ6_bitCount_0f7a4_25 : decode cJ6_bitCount_0f7a4 25 = .ok (.iload_n 0, 1) := by decide +kernel
theorem dJ6_bitCount_0f7a4_26 : decode cJ6_bitCount_0f7a4 26 = .ok (.iconst 4, 1) := by decide +kernel
theorem dJ6_bitCount_0f7a4_27 : decode cJ6_bitCount_0f7a4 27 = .ok (.iushr, 1) := by decide +kernel
theorem dJ6_bitCount_0f7a4_28 : decode cJ6_bitCount_0f7a4 28 = .ok (.iadd, 1) := by decide +kernel
theorem dJ6_bitCount_0f7a4_29 : decode cJ6_bitCount_0f7a4 29 = .ok (.ldc_w 267, 3) := by decide +kernel
theorem dJ6_bitCount_0f7a4_32 : decode cJ6_bitCount_0f7a4 32 = .ok (.iand, 1) := by decide +kernel
theorem dJ6_bitCount_0f7a4_33 : decode cJ6_bitCount_0f7a4 33 = .ok (.istore_n 0, 1) := by decide +kernel
theorem dJ6_bitCount_0f7a4_34 : decode cJ6_bitCount_0f7a4 34 = .ok (.iload_n 0, 1) := by decide +kernel
theorem dJ6_bitCount_0f7a4_35 : decode cJ6_bitCount_0f7a4 35 = .ok (.iload_n 0, 1) := by decide +kernel
theorem dJ6_bitCount_0f7a4_36 : decode cJ6_bitCount_0f7a4 36 = .ok (.bipush 8, 2) := by decide +kernel
theorem dJ6_bitCount_0f7a4_38 : decode cJ6_bitCount_0f7a4 38 = .ok (.iushr, 1) := by decide +kernel
theorem dJ6_bitCount_0f7a4_39 : decode cJ6_bitCount_0f7a4 39 = .ok (.iadd, 1) := by decide +kernel
theorem dJ6_bitCount_0f7a4_40 : decode cJ6_bitCount_0f7a4 40 = .ok (.istore_n 0, 1) := by decide +kernel
theorem dJ6_bitCount_0f7a4_41 : decode cJ6_bitCount_0f7a4 41 = .ok (.iload_n 0, 1) := by decide +kernel
theorem dJ6_bitCount_0f7a4_42 : decode cJ6_bitCount_0f7a4 42 = .ok (.iload_n 0, 1) := by decide +kernel
theorem dJ6_bitCount_0f7a4_43 : decode cJ6_bitCount_0f7a4 43 = .ok (.bipush 16, 2) := by decide +kernel
theorem dJ6_bitCount_0f7a4_45 : decode cJ6_bitCount_0f7a4 45 = .ok (.iushr, 1) := by decide +kernel
theorem dJ6_bitCount_0f7a4_46 : decode cJ6_bitCount_0f7a4 46 = .ok (.iadd, 1) := by decide +kernel
theorem dJ6_bitCount_0f7a4_47 : decode cJ6_bitCount_0f7a4 47 = .ok (.istore_n 0, 1) := by decide +kernel
theorem dJ6_bitCount_0f7a4_48 : decode cJ6_bitCount_0f7a4 48 = .ok (.iload_n 0, 1) := by decide +kernel
theorem dJ6_bitCount_0f7a4_49 : decode cJ6_bitCount_0f7a4 49 = .ok (.bipush 63, 2) := by decide +kernel
theorem dJ6_bitCount_0f7a4_51 : decode cJ6_bitCount_0f7a4 51 = .ok (.iand, 1) := by decide +kernel
theorem dJ6_bitCount_0f7a4_52 : decode cJ6_bitCount_0f7a4 52 = .ok (.ireturn, 1) := by decide +kernel
theorem dJ9_floorMod_7cf53_0 : decode cJ9_floorMod_7cf53 0 = .ok (.iload_n 0, 1) := by decide +kernel
theorem dJ9_floorMod_7cf53_1 : decode cJ9_floorMod_7cf53 1 = .ok (.iload_n 1, 1) := by decide +kernel
theorem dJ9_floorMod_7cf53_2 : decode cJ9_floorMod_7cf53 2 = .ok (.irem, 1) := by decide +kernel
theorem dJ9_floorMod_7cf53_3 : decode cJ9_floorMod_7cf53 3 = .ok (.istore_n 2, 1) := by decide +kernel
theorem dJ9_floorMod_7cf53_4 : decode cJ9_floorMod_7cf53 4 = .ok (.iload_n 0, 1) := by decide +kernel
theorem dJ9_floorMod_7cf53_5 : decode cJ9_floorMod_7cf53 5 = .ok (.iload_n 1, 1) := by decide +kernel
theorem dJ9_floorMod_7cf53_6 : decode cJ9_floorMod_7cf53 6 = .ok (.ixor, 1) := by decide +kernel
theorem dJ9_floorMod_7cf53_7 : decode cJ9_floorMod_7cf53 7 = .ok (.ifCond .ge 11, 3) := by decide +kernel
theorem dJ9_floorMod_7cf53_10 : decode cJ9_floorMod_7cf53 10 = .ok (.iload_n 2, 1) := by decide +kernel
theorem dJ9_floorMod_7cf53_11 : decode cJ9_floorMod_7cf53 11 = .ok (.ifCond .eq 7, 3) := by decide +kernel
theorem dJ9_floorMod_7cf53_14 : decode cJ9_floorMod_7cf53 14 = .ok (.iload_n 2, 1) := by decide +kernel
theorem dJ9_floorMod_7cf53_15 : decode cJ9_floorMod_7cf53 15 = .ok (.iload_n 1, 1) := by decide +kernel
theorem dJ9_floorMod_7cf53_16 : decode cJ9_floorMod_7cf53 16 = .ok (.iadd, 1) := by decide +kernel
theorem dJ9_floorMod_7cf53_17 : decode cJ9_floorMod_7cf53 17 = .ok (.ireturn, 1) := by decide +kernel
theorem dJ9_floorMod_7cf53_18 : decode cJ9_floorMod_7cf53 18 = .ok (.iload_n 2, 1) := by decide +kernel
theorem dJ9_floorMod_7cf53_19 : decode cJ9_floorMod_7cf53 19 = .ok (.ireturn, 1) := by decide +kernel
theorem dJ9_max_7cf53_0 : decode cJ9_max_7cf53 0 = .ok (.iload_n 0, 1) := by decide +kernel
theorem dJ9_max_7cf53_1 : decode cJ9_max_7cf53 1 = .ok (.iload_n 1, 1) := by decide +kernel
theorem dJ9_max_7cf53_2 : decode cJ9_max_7cf53 2 = .ok (.if_icmp .lt 7, 3) := by decide +kernel
theorem dJ9_max_7cf53_5 : decode cJ9_max_7cf53 5 = .ok (.iload_n 0, 1) := by decide +kernel
theorem dJ9_max_7cf53_6 : decode cJ9_max_7cf53 6 = .ok (.goto 4, 3) := by decide +kernel
theorem dJ9_max_7cf53_9 : decode cJ9_max_7cf53 9 = .ok (.iload_n 1, 1) := by decide +kernel
theorem dJ9_max_7cf53_10 : decode cJ9_max_7cf53 10 = .ok (.ireturn, 1) := by decide +kernel
theorem dJ9_min_7cf53_0 : decode cJ9_min_7cf53 0 = .ok (.iload_n 0, 1) := by decide +kernel
theorem dJ9_min_7cf53_1 : decode cJ9_min_7cf53 1 = .ok (.iload_n 1, 1) := by decide +kernel
theorem dJ9_min_7cf53_2 : decode cJ9_min_7cf53 2 = .ok (.if_icmp .gt 7, 3) := by decide +kernel
theorem dJ9_min_7cf53_5 : decode cJ9_min_7cf53 5 = .ok (.iload_n 0, 1) := by decide +kernel
theorem dJ9_min_7cf53_6 : decode cJ9_min_7cf53 6 = .ok (.goto 4, 3) := by decide +kernel
theorem dJ9_min_7cf53_9 : decode cJ9_min_7cf53 9 = .ok (.iload_n 1, 1) := by decide +kernel
theorem dJ9_min_7cf53_10 : decode cJ9_min_7cf53 10 = .ok (.ireturn, 1) := by decide +kernel
set_option maxRecDepth 20000 in
theorem ggJ0_charAt_5068e_J0_isLatin1_aae02 : GoodIn wsJ0_charAt_5068e wsJ0_isLatin1_aae02 := goodIn_r _ [6, 7, 8] (by decide +kernel) (by decide +kernel)
set_option maxRecDepth 20000 in
theorem gJ0_charAt_5068e_J0_isLatin1_aae02 : GoodIn wsJ0_charAt_5068e (wsV RJ0 492 RJ0 yJ0_isLatin1_aae02 wsJ0_isLatin1_aae02) := goodIn_app (goodIn_of _ (by decide +kernel)) ggJ0_charAt_5068e_J0_isLatin1_aae02
set_option maxRecDepth 20000 in
theorem ggJ0_charAt_5068e_J1_charAt_3b067 : GoodIn wsJ0_charAt_5068e wsJ1_charAt_3b067 := goodIn_r _ [12, 13, 14, 5, 15, 16, 17, 18, 19, 20] (by decide +kernel) (by decide +kernel)
set_option maxRecDepth 20000 in
theorem gJ0_charAt_5068e_J1_charAt_3b067 : GoodIn wsJ0_charAt_5068e (va_wsS RJ0 495 yJ1_charAt_3b067 wsJ1_charAt_3b067) := goodIn_app (goodIn_of _ (by decide +kernel)) ggJ0_charAt_5068e_J1_charAt_3b067
set_option maxRecDepth 20000 in
theorem ggJ0_charAt_5068e_J2_charAt_3b067 : GoodIn wsJ0_charAt_5068e wsJ2_charAt_3b067 := goodIn_r _ [24, 25, 26, 23, 27, 28, 29, 30, 31, 14, 5, 15, 16, 17, 18, 19, 20, 32, 33, 34, 35, 36, 37] (by decide +kernel) (by decide +kernel)
set_option maxRecDepth 20000 in
theorem gJ0_charAt_5068e_J2_charAt_3b067 : GoodIn wsJ0_charAt_5068e (va_wsS RJ0 498 yJ2_charAt_3b067 wsJ2_charAt_3b067) := goodIn_app (goodIn_of _ (by decide +kernel)) ggJ0_charAt_5068e_J2_charAt_3b067
theorem dJ0_charAt_5068e_0 : decode cJ0_charAt_5068e 0 = .ok (.aload_n 0, 1) := by decide +kernel
theorem dJ0_charAt_5068e_1 : decode cJ0_charAt_5068e 1 = .ok (.invokevirtual 492, 3) := by decide +kernel
theorem dJ0_charAt_5068e_4 : decode cJ0_charAt_5068e 4 = .ok (.ifCond .eq 12, 3) := by decide +kernel
theorem dJ0_charAt_5068e_7 : decode cJ0_charAt_5068e 7 = .ok (.aload_n 0, 1) := by decide +kernel
theorem dJ0_charAt_5068e_8 : decode cJ0_charAt_5068e 8 = .ok (.getfield 9, 3) := by decide +kernel
theorem dJ0_charAt_5068e_11 : decode cJ0_charAt_5068e 11 = .ok (.iload_n 1, 1) := by decide +kernel
theorem dJ0_charAt_5068e_12 : decode cJ0_charAt_5068e 12 = .ok (.invokestatic 495, 3) := by decide +kernel
theorem dJ0_charAt_5068e_15 : decode cJ0_charAt_5068e 15 = .ok (.ireturn, 1) := by decide +kernel
theorem dJ0_charAt_5068e_16 : decode cJ0_charAt_5068e 16 = .ok (.aload_n 0, 1) := by decide +kernel
theorem dJ0_charAt_5068e_17 : decode cJ0_charAt_5068e 17 = .ok (.getfield 9, 3) := by decide +kernel
theorem dJ0_charAt_5068e_20 : decode cJ0_charAt_5068e 20 = .ok (.iload_n 1, 1) := by decide +kernel
theorem dJ0_charAt_5068e_21 : decode cJ0_charAt_5068e 21 = .ok (.invokestatic 498, 3) := by decide +kernel
theorem dJ0_charAt_5068e_24 : decode cJ0_charAt_5068e 24 = .ok (.ireturn, 1) := by decide +kernel
theorem dJ0_isLatin1_aae02_0 : decode cJ0_isLatin1_aae02 0 = .ok (.getstatic 38, 3) := by decide +kernel
theorem dJ0_isLatin1_aae02_3 : decode cJ0_isLatin1_aae02 3 = .ok (.ifCond .eq 14, 3) := by decide +kernel
theorem dJ0_isLatin1_aae02_6 : decode cJ0_isLatin1_aae02 6 = .ok (.aload_n 0, 1) := by decide +kernel
theorem dJ0_isLatin1_aae02_7 : decode cJ0_isLatin1_aae02 7 = .ok (.getfield 15, 3) := by decide +kernel
theorem dJ0_isLatin1_aae02_10 : decode cJ0_isLatin1_aae02 10 = .ok (.ifCond .ne 7, 3) := by decide +kernel
theorem dJ0_isLatin1_aae02_13 : decode cJ0_isLatin1_aae02 13 = .ok (.iconst 1, 1) := by decide +kernel
theorem dJ0_isLatin1_aae02_14 : decode cJ0_isLatin1_aae02 14 = .ok (.goto 4, 3) := by decide +kernel
theorem dJ0_isLatin1_aae02_17 : decode cJ0_isLatin1_aae02 17 = .ok (.iconst 0, 1) := by decide +kernel
theorem dJ0_isLatin1_aae02_18 : decode cJ0_isLatin1_aae02 18 = .ok (.ireturn, 1) := by decide +kernel
set_option maxRecDepth 20000 in
theorem ggJ0_checkIndex_df160_J3_checkIndex_8e157 : GoodIn wsJ0_checkIndex_df160 wsJ3_checkIndex_8e157 := goodIn_r _ [5] (by decide +kernel) (by decide +kernel)
set_option maxRecDepth 20000 in
theorem gJ0_checkIndex_df160_J3_checkIndex_8e157 : GoodIn wsJ0_checkIndex_df160 (va_wsS RJ0 1059 yJ3_checkIndex_8e157 wsJ3_checkIndex_8e157) := goodIn_app (goodIn_of _ (by decide +kernel)) ggJ0_checkIndex_df160_J3_checkIndex_8e157
theorem dJ0_checkIndex_df160_0 : decode cJ0_checkIndex_df160 0 = .ok (.iload_n 0, 1) := by decide +kernel
theorem dJ0_checkIndex_df160_1 : decode cJ0_checkIndex_df160 1 = .ok (.iload_n 1, 1) := by decide +kernel
theorem dJ0_checkIndex_df160_2 : decode cJ0_checkIndex_df160 2 = .ok (.getstatic 1053, 3) := by decide +kernel
theorem dJ0_checkIndex_df160_5 : decode cJ0_checkIndex_df160 5 = .ok (.invokestatic 1059, 3) := by decide +kernel
theorem dJ0_checkIndex_df160_8 : decode cJ0_checkIndex_df160 8 = .ok (.pop, 1) := by decide +kernel
theorem dJ0_checkIndex_df160_9 : decode cJ0_checkIndex_df160 9 = .ok (.return_, 1) := by decide +kernel
set_option maxRecDepth 20000 in
theorem ggJ1_charAt_3b067_J0_checkIndex_df160 : GoodIn wsJ1_charAt_3b067 wsJ0_checkIndex_df160 := goodIn_r _ [4, 5, 6, 7, 8, 9] (by decide +kernel) (by decide +kernel)
set_option maxRecDepth 20000 in
theorem gJ1_charAt_3b067_J0_checkIndex_df160 : GoodIn wsJ1_charAt_3b067 (va_wsS RJ1 9 yJ0_checkIndex_df160 wsJ0_checkIndex_df160) := goodIn_app (goodIn_of _ (by decide +kernel)) ggJ1_charAt_3b067_J0_checkIndex_df160
theorem dJ1_charAt_3b067_0 : decode cJ1_charAt_3b067 0 = .ok (.iload_n 1, 1) := by decide +kernel
theorem dJ1_charAt_3b067_1 : decode cJ1_charAt_3b067 1 = .ok (.aload_n 0, 1) := by decide +kernel
theorem dJ1_charAt_3b067_2 : decode cJ1_charAt_3b067 2 = .ok (.arraylength, 1) := by decide +kernel
theorem dJ1_charAt_3b067_3 : decode cJ1_charAt_3b067 3 = .ok (.invokestatic 9, 3) := by decide +kernel
theorem dJ1_charAt_3b067_6 : decode cJ1_charAt_3b067 6 = .ok (.aload_n 0, 1) := by decide +kernel
theorem dJ1_charAt_3b067_7 : decode cJ1_charAt_3b067 7 = .ok (.iload_n 1, 1) := by decide +kernel
theorem dJ1_charAt_3b067_8 : decode cJ1_charAt_3b067 8 = .ok (.baload, 1) := by decide +kernel
theorem dJ1_charAt_3b067_9 : decode cJ1_charAt_3b067 9 = .ok (.sipush 255, 3) := by decide +kernel
theorem dJ1_charAt_3b067_12 : decode cJ1_charAt_3b067 12 = .ok (.iand, 1) := by decide +kernel
theorem dJ1_charAt_3b067_13 : decode cJ1_charAt_3b067 13 = .ok (.i2c, 1) := by decide +kernel
theorem dJ1_charAt_3b067_14 : decode cJ1_charAt_3b067 14 = .ok (.ireturn, 1) := by decide +kernel
set_option maxRecDepth 20000 in
theorem ggJ2_getChar_3b067_J2_length_9d52b : GoodIn wsJ2_getChar_3b067 wsJ2_length_9d52b := goodIn_r _ [7] (by decide +kernel) (by decide +kernel)
set_option maxRecDepth 20000 in
theorem gJ2_getChar_3b067_J2_length_9d52b : GoodIn wsJ2_getChar_3b067 (va_wsS RJ2 48 yJ2_length_9d52b wsJ2_length_9d52b) := goodIn_app (goodIn_of _ (by decide +kernel)) ggJ2_getChar_3b067_J2_length_9d52b
theorem dJ2_getChar_3b067_0 : decode cJ2_getChar_3b067 0 = .ok (.getstatic 44, 3) := by decide +kernel
theorem dJ2_getChar_3b067_3 : decode cJ2_getChar_3b067 3 = .ok (.ifCond .ne 25, 3) := by decide +kernel
theorem dJ2_getChar_3b067_6 : decode cJ2_getChar_3b067 6 = .ok (.iload_n 1, 1) := by decide +kernel
theorem dJ2_getChar_3b067_7 : decode cJ2_getChar_3b067 7 = .ok (.ifCond .lt 11, 3) := by decide +kernel
theorem dJ2_getChar_3b067_10 : decode cJ2_getChar_3b067 10 = .ok (.iload_n 1, 1) := by decide +kernel
theorem dJ2_getChar_3b067_11 : decode cJ2_getChar_3b067 11 = .ok (.aload_n 0, 1) := by decide +kernel
theorem dJ2_getChar_3b067_12 : decode cJ2_getChar_3b067 12 = .ok (.invokestatic 48, 3) := by decide +kernel
theorem dJ2_getChar_3b067_15 : decode cJ2_getChar_3b067 15 = .ok (.if_icmp .lt 13, 3) := by decide +kernel
theorem dJ2_getChar_3b067_18 : decode cJ2_getChar_3b067 18 = .ok (.new 52, 3) := by decide +kernel
theorem dJ2_getChar_3b067_21 : decode cJ2_getChar_3b067 21 = .ok (.dup, 1) := by decide +kernel
theorem dJ2_getChar_3b067_22 : decode cJ2_getChar_3b067 22 = .ok (.ldc 54, 2) := by decide +kernel
theorem dJ2_getChar_3b067_24 : decode cJ2_getChar_3b067 24 = .ok (.invokespecial 56, 3) := by decide +kernel
theorem dJ2_getChar_3b067_27 : decode cJ2_getChar_3b067 27 = .ok (.athrow, 1) := by decide +kernel
theorem dJ2_getChar_3b067_28 : decode cJ2_getChar_3b067 28 = .ok (.iload_n 1, 1) := by decide +kernel
theorem dJ2_getChar_3b067_29 : decode cJ2_getChar_3b067 29 = .ok (.iconst 1, 1) := by decide +kernel
theorem dJ2_getChar_3b067_30 : decode cJ2_getChar_3b067 30 = .ok (.ishl, 1) := by decide +kernel
theorem dJ2_getChar_3b067_31 : decode cJ2_getChar_3b067 31 = .ok (.istore_n 1, 1) := by decide +kernel
theorem dJ2_getChar_3b067_32 : decode cJ2_getChar_3b067 32 = .ok (.aload_n 0, 1) := by decide +kernel
theorem dJ2_getChar_3b067_33 : decode cJ2_getChar_3b067 33 = .ok (.iload_n 1, 1) := by decide +kernel
theorem dJ2_getChar_3b067_34 : decode cJ2_getChar_3b067 34 = .ok (.iinc 1 1, 3) := by decide +kernel
theorem dJ2_getChar_3b067_37 : decode cJ2_getChar_3b067 37 = .ok (.baload, 1) := by decide +kernel
theorem dJ2_getChar_3b067_38 : decode cJ2_getChar_3b067 38 = .ok (.sipush 255, 3) := by decide +kernel
theorem dJ2_getChar_3b067_41 : decode cJ2_getChar_3b067 41 = .ok (.iand, 1) := by decide +kernel
theorem dJ2_getChar_3b067_42 : decode cJ2_getChar_3b067 42 = .ok (.getstatic 59, 3) := by decide +kernel
theorem dJ2_getChar_3b067_45 : decode cJ2_getChar_3b067 45 = .ok (.ishl, 1) := by decide +kernel
theorem dJ2_getChar_3b067_46 : decode cJ2_getChar_3b067 46 = .ok (.aload_n 0, 1) := by decide +kernel
theorem dJ2_getChar_3b067_47 : decode cJ2_getChar_3b067 47 = .ok (.iload_n 1, 1) := by decide +kernel
theorem dJ2_getChar_3b067_48 : decode cJ2_getChar_3b067 48 = .ok (.baload, 1) := by decide +kernel
theorem dJ2_getChar_3b067_49 : decode cJ2_getChar_3b067 49 = .ok (.sipush 255, 3) := by decide +kernel
theorem dJ2_getChar_3b067_52 : decode cJ2_getChar_3b067 52 = .ok (.iand, 1) := by decide +kernel
theorem dJ2_getChar_3b067_53 : decode cJ2_getChar_3b067 53 = .ok (.getstatic 63, 3) := by decide +kernel
theorem dJ2_getChar_3b067_56 : decode cJ2_getChar_3b067 56 = .ok (.ishl, 1) := by decide +kernel
theorem dJ2_getChar_3b067_57 : decode cJ2_getChar_3b067 57 = .ok (.ior, 1) := by decide +kernel
theorem dJ2_getChar_3b067_58 : decode cJ2_getChar_3b067 58 = .ok (.i2c, 1) := by decide +kernel
theorem dJ2_getChar_3b067_59 : decode cJ2_getChar_3b067 59 = .ok (.ireturn, 1) := by decide +kernel
theorem dJ2_length_9d52b_0 : decode cJ2_length_9d52b 0 = .ok (.aload_n 0, 1) := by decide +kernel
theorem dJ2_length_9d52b_1 : decode cJ2_length_9d52b 1 = .ok (.arraylength, 1) := by decide +kernel
theorem dJ2_length_9d52b_2 : decode cJ2_length_9d52b 2 = .ok (.iconst 1, 1) := by decide +kernel
theorem dJ2_length_9d52b_3 : decode cJ2_length_9d52b 3 = .ok (.ishr, 1) := by decide +kernel
theorem dJ2_length_9d52b_4 : decode cJ2_length_9d52b 4 = .ok (.ireturn, 1) := by decide +kernel
set_option maxRecDepth 20000 in
theorem ggJ2_charAt_3b067_J2_checkIndex_2214a : GoodIn wsJ2_charAt_3b067 wsJ2_checkIndex_2214a := goodIn_r _ [4, 5, 6, 3, 7, 8, 9, 10, 11, 12, 13, 14, 15, 16] (by decide +kernel) (by decide +kernel)
set_option maxRecDepth 20000 in
theorem gJ2_charAt_3b067_J2_checkIndex_2214a : GoodIn wsJ2_charAt_3b067 (va_wsS RJ2 67 yJ2_checkIndex_2214a wsJ2_checkIndex_2214a) := goodIn_app (goodIn_of _ (by decide +kernel)) ggJ2_charAt_3b067_J2_checkIndex_2214a
set_option maxRecDepth 20000 in
theorem ggJ2_charAt_3b067_J2_getChar_3b067 : GoodIn wsJ2_charAt_3b067 wsJ2_getChar_3b067 := goodIn_r _ [19, 20, 21, 22, 5, 6, 3, 7] (by decide +kernel) (by decide +kernel)
set_option maxRecDepth 20000 in
theorem gJ2_charAt_3b067_J2_getChar_3b067 : GoodIn wsJ2_charAt_3b067 (va_wsS RJ2 71 yJ2_getChar_3b067 wsJ2_getChar_3b067) := goodIn_app (goodIn_of _ (by decide +kernel)) ggJ2_charAt_3b067_J2_getChar_3b067
theorem dJ2_charAt_3b067_0 : decode cJ2_charAt_3b067 0 = .ok (.iload_n 1, 1) := by decide +kernel
theorem dJ2_charAt_3b067_1 : decode cJ2_charAt_3b067 1 = .ok (.aload_n 0, 1) := by decide +kernel
theorem dJ2_charAt_3b067_2 : decode cJ2_charAt_3b067 2 = .ok (.invokestatic 67, 3) := by decide +kernel
theorem dJ2_charAt_3b067_5 : decode cJ2_charAt_3b067 5 = .ok (.aload_n 0, 1) := by decide +kernel
theorem dJ2_charAt_3b067_6 : decode cJ2_charAt_3b067 6 = .ok (.iload_n 1, 1) := by decide +kernel
theorem dJ2_charAt_3b067_7 : decode cJ2_charAt_3b067 7 = .ok (.invokestatic 71, 3) := by decide +kernel
theorem dJ2_charAt_3b067_10 : decode cJ2_charAt_3b067 10 = .ok (.ireturn, 1) := by decide +kernel
set_option maxRecDepth 20000 in
theorem ggJ2_checkIndex_2214a_J2_length_9d52b : GoodIn wsJ2_checkIndex_2214a wsJ2_length_9d52b := goodIn_r _ [4] (by decide +kernel) (by decide +kernel)
set_option maxRecDepth 20000 in
theorem gJ2_checkIndex_2214a_J2_length_9d52b : GoodIn wsJ2_checkIndex_2214a (va_wsS RJ2 48 yJ2_length_9d52b wsJ2_length_9d52b) := goodIn_app (goodIn_of _ (by decide +kernel)) ggJ2_checkIndex_2214a_J2_length_9d52b
set_option maxRecDepth 20000 in
theorem ggJ2_checkIndex_2214a_J0_checkIndex_df160 : GoodIn wsJ2_checkIndex_2214a wsJ0_checkIndex_df160 := goodIn_r _ [8, 9, 10, 11, 12, 13] (by decide +kernel) (by decide +kernel)
set_option maxRecDepth 20000 in
theorem gJ2_checkIndex_2214a_J0_checkIndex_df160 : GoodIn wsJ2_checkIndex_2214a (va_wsS RJ2 414 yJ0_checkIndex_df160 wsJ0_checkIndex_df160) := goodIn_app (goodIn_of _ (by decide +kernel)) ggJ2_checkIndex_2214a_J0_checkIndex_df160
theorem dJ2_checkIndex_2214a_0 : decode cJ2_checkIndex_2214a 0 = .ok (.iload_n 0, 1) := by decide +kernel
theorem dJ2_checkIndex_2214a_1 : decode cJ2_checkIndex_2214a 1 = .ok (.aload_n 1, 1) := by decide +kernel
theorem dJ2_checkIndex_2214a_2 : decode cJ2_checkIndex_2214a 2 = .ok (.invokestatic 48, 3) := by decide +kernel
theorem dJ2_checkIndex_2214a_5 : decode cJ2_checkIndex_2214a 5 = .ok (.invokestatic 414, 3) := by decide +kernel
theorem dJ2_checkIndex_2214a_8 : decode cJ2_checkIndex_2214a 8 = .ok (.return_, 1) := by decide +kernel
theorem dJ3_checkIndex_8e157_0 : decode cJ3_checkIndex_8e157 0 = .ok (.iload_n 0, 1) := by decide +kernel
theorem dJ3_checkIndex_8e157_1 : decode cJ3_checkIndex_8e157 1 = .ok (.ifCond .lt 8, 3) := by decide +kernel
theorem dJ3_checkIndex_8e157_4 : decode cJ3_checkIndex_8e157 4 = .ok (.iload_n 0, 1) := by decide +kernel
theorem dJ3_checkIndex_8e157_5 : decode cJ3_checkIndex_8e157 5 = .ok (.iload_n 1, 1) := by decide +kernel
theorem dJ3_checkIndex_8e157_6 : decode cJ3_checkIndex_8e157 6 = .ok (.if_icmp .lt 10, 3) := by decide +kernel
theorem dJ3_checkIndex_8e157_9 : decode cJ3_checkIndex_8e157 9 = .ok (.aload_n 2, 1) := by decide +kernel
theorem dJ3_checkIndex_8e157_10 : decode cJ3_checkIndex_8e157 10 = .ok (.iload_n 0, 1) := by decide +kernel
theorem dJ3_checkIndex_8e157_11 : decode cJ3_checkIndex_8e157 11 = .ok (.iload_n 1, 1) := by decide +kernel
theorem dJ3_checkIndex_8e157_12 : decode cJ3_checkIndex_8e157 12 = .ok (.invokestatic 95, 3) := by decide +kernel
theorem dJ3_checkIndex_8e157_15 : decode cJ3_checkIndex_8e157 15 = .ok (.athrow, 1) := by decide +kernel
theorem dJ3_checkIndex_8e157_16 : decode cJ3_checkIndex_8e157 16 = .ok (.iload_n 0, 1) := by decide +kernel
theorem dJ3_checkIndex_8e157_17 : decode cJ3_checkIndex_8e157 17 = .ok (.ireturn, 1) := by decide +kernel
set_option maxRecDepth 20000 in
theorem ggL_lesson_X11_lesson : GoodIn wsL_lesson wsX11_lesson := goodIn_ca (goodIn_ca (goodIn_r _ [7, 8, 9, 10, 11, 12, 13, 14, 15, 6, 16, 17, 18, 19, 20, 21, 22, 23, 24, 25, 26, 27, 28, 29, 30, 31, 32, 33, 34, 35, 36, 37, 38, 39, 40, 41, 42, 43, 44, 45, 46, 47, 48, 49, 50, 51, 52, 53, 54, 55, 56, 57, 58, 59, 60, 61, 62, 63, 64, 65, 66, 67, 68, 69, 70, 71, 72, 73, 74, 75, 76, 77, 78, 79, 80, 81, 82, 83, 84, 85, 86, 87, 88, 89, 90, 91, 92] (by decide +kernel) (by decide +kernel)) (goodIn_sub (fun _ h => List.mem_cons_of_mem _ (List.mem_append_left _ (List.mem_append_right _ h))) (by decide +kernel))) (goodIn_sub (fun _ h => List.mem_cons_of_mem _ (List.mem_append_right _ h)) (by decide +kernel))
set_option maxRecDepth 20000 in
theorem gL_lesson_X11_lesson : GoodIn wsL_lesson (wsV RL 7 RX11 yX11_lesson wsX11_lesson) := goodIn_app (goodIn_of _ (by decide +kernel)) ggL_lesson_X11_lesson

theorem dX12_dayOfWeek_24 : decode cX12_dayOfWeek 24 = .ok (.ireturn, 1) := by decide +kernel
set_option maxRecDepth 20000 in
theorem ggX12_later_X12_noDate : GoodIn wsX12_later wsX12_noDate := goodIn_r _ [6, 7, 8, 5, 9, 10, 11, 12, 13, 14, 15, 16, 17, 18, 19, 20, 21, 22, 23, 24, 1, 31, 32, 33, 34, 35, 36, 37, 38, 39, 40, 41, 42, 43, 44, 45, 46, 47, 48, 49, 50, 51, 52, 53, 54, 55, 56, 57, 58, 59, 60] (by decide +kernel) (by decide +kernel)
set_option maxRecDepth 20000 in
theorem gX12_later_X12_noDate : GoodIn wsX12_later (wsV RX12 274 RX12 yX12_noDate wsX12_noDate) := goodIn_app (goodIn_of _ (by decide +kernel)) ggX12_later_X12_noDate
set_option maxRecDepth 20000 in
theorem ggX12_later_X12_in : GoodIn wsX12_later wsX12_in := goodIn_r _ [14] (by decide +kernel) (by decide +kernel)
set_option maxRecDepth 20000 in
theorem gX12_later_X12_in : GoodIn wsX12_later (va_wsS RX12 92 yX12_in wsX12_in) := goodIn_app (goodIn_of _ (by decide +kernel)) ggX12_later_X12_in
set_option maxRecDepth 20000 in
theorem ggX12_later_X12_fails : GoodIn wsX12_later wsX12_fails := goodIn_r _ [24, 1, 31, 32, 33, 34, 35, 36, 37, 38, 39, 40, 41, 42, 43, 44, 45, 46, 47, 48, 49, 50, 51, 52, 53, 54, 55, 56, 57, 58, 59, 60] (by decide +kernel) (by decide +kernel)
set_option maxRecDepth 20000 in
theorem gX12_later_X12_fails : GoodIn wsX12_later (wsV RX12 96 RX12 yX12_fails wsX12_fails) := goodIn_app (goodIn_of _ (by decide +kernel)) ggX12_later_X12_fails
set_option maxRecDepth 20000 in
theorem ggX12_later_X12_dayOf : GoodIn wsX12_later wsX12_dayOf := goodIn_r _ [27, 18, 19, 5, 20, 15, 16, 17] (by decide +kernel) (by decide +kernel)
set_option maxRecDepth 20000 in
theorem gX12_later_X12_dayOf : GoodIn wsX12_later (va_wsS RX12 277 yX12_dayOf wsX12_dayOf) := goodIn_app (goodIn_of _ (by decide +kernel)) ggX12_later_X12_dayOf
set_option maxRecDepth 20000 in
theorem ggX12_later_X12_dateOfDay : GoodIn wsX12_later wsX12_dateOfDay := goodIn_r _ [30, 18, 19, 5, 20, 15, 16, 17] (by decide +kernel) (by decide +kernel)
set_option maxRecDepth 20000 in
theorem gX12_later_X12_dateOfDay : GoodIn wsX12_later (va_wsS RX12 295 yX12_dateOfDay wsX12_dateOfDay) := goodIn_app (goodIn_of _ (by decide +kernel)) ggX12_later_X12_dateOfDay
theorem dX12_later_0 : decode cX12_later 0 = .ok (.aload_n 0, 1) := by decide +kernel
theorem dX12_later_1 : decode cX12_later 1 = .ok (.iconst 0, 1) := by decide +kernel
theorem dX12_later_2 : decode cX12_later 2 = .ok (.putfield 1, 3) := by decide +kernel
theorem dX12_later_5 : decode cX12_later 5 = .ok (.aload_n 0, 1) := by decide +kernel
theorem dX12_later_6 : decode cX12_later 6 = .ok (.iload_n 1, 1) := by decide +kernel
theorem dX12_later_7 : decode cX12_later 7 = .ok (.invokevirtual 274, 3) := by decide +kernel
theorem dX12_later_10 : decode cX12_later 10 = .ok (.ifCond .ne 21, 3) := by decide +kernel
theorem dX12_later_13 : decode cX12_later 13 = .ok (.aload_n 0, 1) := by decide +kernel
theorem dX12_later_14 : decode cX12_later 14 = .ok (.iload_n 2, 1) := by decide +kernel
theorem dX12_later_15 : decode cX12_later 15 = .ok (.sipush (-1000), 3) := by decide +kernel
theorem dX12_later_18 : decode cX12_later 18 = .ok (.sipush 1000, 3) := by decide +kernel
theorem dX12_later_21 : decode cX12_later 21 = .ok (.invokestatic 92, 3) := by decide +kernel
theorem dX12_later_24 : decode cX12_later 24 = .ok (.iconst 1, 1) := by decide +kernel
theorem dX12_later_25 : decode cX12_later 25 = .ok (.invokevirtual 96, 3) := by decide +kernel
theorem dX12_later_28 : decode cX12_later 28 = .ok (.ifCond .eq 7, 3) := by decide +kernel
theorem dX12_later_31 : decode cX12_later 31 = .ok (.iconst 0, 1) := by decide +kernel
theorem dX12_later_32 : decode cX12_later 32 = .ok (.goto 12, 3) := by decide +kernel
theorem dX12_later_35 : decode cX12_later 35 = .ok (.iload_n 1, 1) := by decide +kernel
theorem dX12_later_36 : decode cX12_later 36 = .ok (.invokestatic 277, 3) := by decide +kernel
theorem dX12_later_39 : decode cX12_later 39 = .ok (.iload_n 2, 1) := by decide +kernel
theorem dX12_later_40 : decode cX12_later 40 = .ok (.iadd, 1) := by decide +kernel
theorem dX12_later_41 : decode cX12_later 41 = .ok (.invokestatic 295, 3) := by decide +kernel
theorem dX12_later_44 : decode cX12_later 44 = .ok (.ireturn, 1) := by decide +kernel
set_option maxRecDepth 20000 in
theorem ggX12_lostLessons_X12_in : GoodIn wsX12_lostLessons wsX12_in := goodIn_r _ [7] (by decide +kernel) (by decide +kernel)
set_option maxRecDepth 20000 in
theorem gX12_lostLessons_X12_in : GoodIn wsX12_lostLessons (va_wsS RX12 92 yX12_in wsX12_in) := goodIn_app (goodIn_of _ (by decide +kernel)) ggX12_lostLessons_X12_in
set_option maxRecDepth 20000 in
theorem ggX12_lostLessons_X12_fails : GoodIn wsX12_lostLessons wsX12_fails := goodIn_r _ [11, 1, 36, 37, 38, 39, 40, 41, 42, 43, 44, 45, 46, 47, 48, 49, 50, 51, 52, 53, 54, 55, 56, 57, 58, 59, 60, 61, 62, 63, 64, 65] (by decide +kernel) (by decide +kernel)
set_option maxRecDepth 20000 in
theorem gX12_lostLessons_X12_fails : GoodIn wsX12_lostLessons (wsV RX12 96 RX12 yX12_fails wsX12_fails) := goodIn_app (goodIn_of _ (by decide +kernel)) ggX12_lostLessons_X12_fails
set_option maxRecDepth 20000 in
theorem ggX12_lostLessons_X12_noTable : GoodIn wsX12_lostLessons wsX12_noTable := goodIn_r _ [15, 3, 8, 9, 10, 6, 11, 1, 36, 37, 38, 39, 40, 41, 42, 43, 44, 45, 46, 47, 48, 49, 50, 51, 52, 53, 54, 55, 56, 57, 58, 59, 60, 61, 62, 63, 64, 65] (by decide +kernel) (by decide +kernel)
set_option maxRecDepth 20000 in
theorem gX12_lostLessons_X12_noTable : GoodIn wsX12_lostLessons (wsV RX12 179 RX12 yX12_noTable wsX12_noTable) := goodIn_app (goodIn_of _ (by decide +kernel)) ggX12_lostLessons_X12_noTable
set_option maxRecDepth 20000 in
theorem ggX12_lostLessons_X12_dayOf : GoodIn wsX12_lostLessons wsX12_dayOf := goodIn_r _ [18, 19, 20, 6, 21, 22, 23, 24] (by decide +kernel) (by decide +kernel)
set_option maxRecDepth 20000 in
theorem gX12_lostLessons_X12_dayOf : GoodIn wsX12_lostLessons (va_wsS RX12 277 yX12_dayOf wsX12_dayOf) := goodIn_app (goodIn_of _ (by decide +kernel)) ggX12_lostLessons_X12_dayOf
set_option maxRecDepth 20000 in
theorem ggX12_lostLessons_X12_isHoliday : GoodIn wsX12_lostLessons wsX12_isHoliday := goodIn_r _ [28, 29, 30, 31, 4, 5, 6, 7, 36, 37, 38, 39, 40, 41, 42, 43, 44, 45, 46, 47, 48, 49, 50, 51, 52, 53, 54, 55, 56, 57, 58, 59, 60, 61, 62, 63, 64, 65] (by decide +kernel) (by decide +kernel)
set_option maxRecDepth 20000 in
theorem gX12_lostLessons_X12_isHoliday : GoodIn wsX12_lostLessons (wsV RX12 286 RX12 yX12_isHoliday wsX12_isHoliday) := goodIn_app (goodIn_of _ (by decide +kernel)) ggX12_lostLessons_X12_isHoliday
set_option maxRecDepth 20000 in
theorem ggX12_lostLessons_X12_many : GoodIn wsX12_lostLessons wsX12_many := goodIn_r _ [35, 3, 36, 37, 38, 39, 40, 41, 42, 43, 44, 45, 46, 47, 48, 49, 50, 51, 52, 53, 54, 55, 56, 57, 58, 59, 60, 61, 62, 63, 64, 65] (by decide +kernel) (by decide +kernel)
set_option maxRecDepth 20000 in
theorem gX12_lostLessons_X12_many : GoodIn wsX12_lostLessons (wsV RX12 88 RX12 yX12_many wsX12_many) := goodIn_app (goodIn_of _ (by decide +kernel)) ggX12_lostLessons_X12_many
theorem dX12_lostLessons_0 : decode cX12_lostLessons 0 = .ok (.aload_n 0, 1) := by decide +kernel
theorem dX12_lostLessons_1 : decode cX12_lostLessons 1 = .ok (.iconst 0, 1) := by decide +kernel
theorem dX12_lostLessons_2 : decode cX12_lostLessons 2 = .ok (.putfield 1, 3) := by decide +kernel
theorem dX12_lostLessons_5 : decode cX12_lostLessons 5 = .ok (.aload_n 0, 1) := by decide +kernel
theorem dX12_lostLessons_6 : decode cX12_lostLessons 6 = .ok (.iload_n 1, 1) := by decide +kernel
theorem dX12_lostLessons_7 : decode cX12_lostLessons 7 = .ok (.iconst 0, 1) := by decide +kernel
theorem dX12_lostLessons_8 : decode cX12_lostLessons 8 = .ok (.iconst 3, 1) := by decide +kernel
theorem dX12_lostLessons_9 : decode cX12_lostLessons 9 = .ok (.invokestatic 92, 3) := by decide +kernel
theorem dX12_lostLessons_12 : decode cX12_lostLessons 12 = .ok (.iconst 1, 1) := by decide +kernel
theorem dX12_lostLessons_13 : decode cX12_lostLessons 13 = .ok (.invokevirtual 96, 3) := by decide +kernel
theorem dX12_lostLessons_16 : decode cX12_lostLessons 16 = .ok (.ifCond .ne 11, 3) := by decide +kernel
theorem dX12_lostLessons_19 : decode cX12_lostLessons 19 = .ok (.aload_n 0, 1) := by decide +kernel
theorem dX12_lostLessons_20 : decode cX12_lostLessons 20 = .ok (.iconst 2, 1) := by decide +kernel
theorem dX12_lostLessons_21 : decode cX12_lostLessons 21 = .ok (.invokevirtual 179, 3) := by decide +kernel
theorem dX12_lostLessons_24 : decode cX12_lostLessons 24 = .ok (.ifCond .eq 5, 3) := by decide +kernel
theorem dX12_lostLessons_27 : decode cX12_lostLessons 27 = .ok (.iconst 0, 1) := by decide +kernel
theorem dX12_lostLessons_28 : decode cX12_lostLessons 28 = .ok (.ireturn, 1) := by decide +kernel
theorem dX12_lostLessons_29 : decode cX12_lostLessons 29 = .ok (.aload_n 0, 1) := by decide +kernel
theorem dX12_lostLessons_30 : decode cX12_lostLessons 30 = .ok (.getfield 67, 3) := by decide +kernel
theorem dX12_lostLessons_33 : decode cX12_lostLessons 33 = .ok (.invokestatic 277, 3) := by decide +kernel
theorem dX12_lostLessons_36 : decode cX12_lostLessons 36 = .ok (.istore_n 2, 1) := by decide +kernel
theorem dX12_lostLessons_37 : decode cX12_lostLessons 37 = .ok (.iconst 0, 1) := by decide +kernel
theorem dX12_lostLessons_38 : decode cX12_lostLessons 38 = .ok (.istore_n 3, 1) := by decide +kernel
theorem dX12_lostLessons_39 : decode cX12_lostLessons 39 = .ok (.iload_n 2, 1) := by decide +kernel
theorem dX12_lostLessons_40 : decode cX12_lostLessons 40 = .ok (.istore 4, 2) := by decide +kernel
theorem dX12_lostLessons_42 : decode cX12_lostLessons 42 = .ok (.iload 4, 2) := by decide +kernel
theorem dX12_lostLessons_44 : decode cX12_lostLessons 44 = .ok (.iload_n 2, 1) := by decide +kernel
theorem dX12_lostLessons_45 : decode cX12_lostLessons 45 = .ok (.sipush 280, 3) := by decide +kernel
theorem dX12_lostLessons_48 : decode cX12_lostLessons 48 = .ok (.iadd, 1) := by decide +kernel
theorem dX12_lostLessons_49 : decode cX12_lostLessons 49 = .ok (.if_icmp .ge 89, 3) := by decide +kernel
theorem dX12_lostLessons_52 : decode cX12_lostLessons 52 = .ok (.iload 4, 2) := by decide +kernel
theorem dX12_lostLessons_54 : decode cX12_lostLessons 54 = .ok (.bipush 7, 2) := by decide +kernel
theorem dX12_lostLessons_56 : decode cX12_lostLessons 56 = .ok (.irem, 1) := by decide +kernel
theorem dX12_lostLessons_57 : decode cX12_lostLessons 57 = .ok (.iconst 5, 1) := by decide +kernel
theorem dX12_lostLessons_58 : decode cX12_lostLessons 58 = .ok (.if_icmp .ge 74, 3) := by decide +kernel
theorem dX12_lostLessons_61 : decode cX12_lostLessons 61 = .ok (.aload_n 0, 1) := by decide +kernel
theorem dX12_lostLessons_62 : decode cX12_lostLessons 62 = .ok (.iload 4, 2) := by decide +kernel
theorem dX12_lostLessons_64 : decode cX12_lostLessons 64 = .ok (.invokevirtual 286, 3) := by decide +kernel
theorem dX12_lostLessons_67 : decode cX12_lostLessons 67 = .ok (.ifCond .ne 6, 3) := by decide +kernel
theorem dX12_lostLessons_70 : decode cX12_lostLessons 70 = .ok (.goto 62, 3) := by decide +kernel
theorem dX12_lostLessons_73 : decode cX12_lostLessons 73 = .ok (.iconst 0, 1) := by decide +kernel
theorem dX12_lostLessons_74 : decode cX12_lostLessons 74 = .ok (.istore 5, 2) := by decide +kernel
theorem dX12_lostLessons_76 : decode cX12_lostLessons 76 = .ok (.iload 5, 2) := by decide +kernel
theorem dX12_lostLessons_78 : decode cX12_lostLessons 78 = .ok (.aload_n 0, 1) := by decide +kernel
theorem dX12_lostLessons_79 : decode cX12_lostLessons 79 = .ok (.invokevirtual 88, 3) := by decide +kernel
theorem dX12_lostLessons_82 : decode cX12_lostLessons 82 = .ok (.if_icmp .ge 50, 3) := by decide +kernel
theorem dX12_lostLessons_85 : decode cX12_lostLessons 85 = .ok (.iload_n 3, 1) := by decide +kernel
theorem dX12_lostLessons_86 : decode cX12_lostLessons 86 = .ok (.aload_n 0, 1) := by decide +kernel
theorem dX12_lostLessons_87 : decode cX12_lostLessons 87 = .ok (.getfield 13, 3) := by decide +kernel
theorem dX12_lostLessons_90 : decode cX12_lostLessons 90 = .ok (.iconst 0, 1) := by decide +kernel
theorem dX12_lostLessons_91 : decode cX12_lostLessons 91 = .ok (.iload 5, 2) := by decide +kernel
theorem dX12_lostLessons_93 : decode cX12_lostLessons 93 = .ok (.iadd, 1) := by decide +kernel
theorem dX12_lostLessons_94 : decode cX12_lostLessons 94 = .ok (.iaload, 1) := by decide +kernel
theorem dX12_lostLessons_95 : decode cX12_lostLessons 95 = .ok (.iload_n 1, 1) := by decide +kernel
theorem dX12_lostLessons_96 : decode cX12_lostLessons 96 = .ok (.if_icmp .ne 27, 3) := by decide +kernel
theorem dX12_lostLessons_99 : decode cX12_lostLessons 99 = .ok (.aload_n 0, 1) := by decide +kernel
theorem dX12_lostLessons_100 : decode cX12_lostLessons 100 = .ok (.getfield 13, 3) := by decide +kernel
theorem dX12_lostLessons_103 : decode cX12_lostLessons 103 = .ok (.bipush 116, 2) := by decide +kernel
theorem dX12_lostLessons_105 : decode cX12_lostLessons 105 = .ok (.iload 5, 2) := by decide +kernel
theorem dX12_lostLessons_107 : decode cX12_lostLessons 107 = .ok (.iadd, 1) := by decide +kernel
theorem dX12_lostLessons_108 : decode cX12_lostLessons 108 = .ok (.iaload, 1) := by decide +kernel
theorem dX12_lostLessons_109 : decode cX12_lostLessons 109 = .ok (.iconst 4, 1) := by decide +kernel
theorem dX12_lostLessons_110 : decode cX12_lostLessons 110 = .ok (.idiv, 1) := by decide +kernel
theorem dX12_lostLessons_111 : decode cX12_lostLessons 111 = .ok (.iload 4, 2) := by decide +kernel
theorem dX12_lostLessons_113 : decode cX12_lostLessons 113 = .ok (.bipush 7, 2) := by decide +kernel
theorem dX12_lostLessons_115 : decode cX12_lostLessons 115 = .ok (.irem, 1) := by decide +kernel
theorem dX12_lostLessons_116 : decode cX12_lostLessons 116 = .ok (.if_icmp .ne 7, 3) := by decide +kernel
theorem dX12_lostLessons_119 : decode cX12_lostLessons 119 = .ok (.iconst 1, 1) := by decide +kernel
theorem dX12_lostLessons_120 : decode cX12_lostLessons 120 = .ok (.goto 4, 3) := by decide +kernel
theorem dX12_lostLessons_123 : decode cX12_lostLessons 123 = .ok (.iconst 0, 1) := by decide +kernel
theorem dX12_lostLessons_124 : decode cX12_lostLessons 124 = .ok (.iadd, 1) := by decide +kernel
theorem dX12_lostLessons_125 : decode cX12_lostLessons 125 = .ok (.istore_n 3, 1) := by decide +kernel
theorem dX12_lostLessons_126 : decode cX12_lostLessons 126 = .ok (.iinc 5 1, 3) := by decide +kernel
theorem dX12_lostLessons_129 : decode cX12_lostLessons 129 = .ok (.goto (-53), 3) := by decide +kernel
theorem dX12_lostLessons_132 : decode cX12_lostLessons 132 = .ok (.iinc 4 1, 3) := by decide +kernel
theorem dX12_lostLessons_135 : decode cX12_lostLessons 135 = .ok (.goto (-93), 3) := by decide +kernel
theorem dX12_lostLessons_138 : decode cX12_lostLessons 138 = .ok (.iload_n 3, 1) := by decide +kernel
theorem dX12_lostLessons_139 : decode cX12_lostLessons 139 = .ok (.ireturn, 1) := by decide +kernel
theorem dX12_bytesIn_0 : decode cX12_bytesIn 0 = .ok (.iconst 0, 1) := by decide +kernel
theorem dX12_bytesIn_1 : decode cX12_bytesIn 1 = .ok (.istore_n 1, 1) := by decide +kernel
theorem dX12_bytesIn_2 : decode cX12_bytesIn 2 = .ok (.iconst 0, 1) := by decide +kernel
theorem dX12_bytesIn_3 : decode cX12_bytesIn 3 = .ok (.istore_n 2, 1) := by decide +kernel
theorem dX12_bytesIn_4 : decode cX12_bytesIn 4 = .ok (.iload_n 2, 1) := by decide +kernel
theorem dX12_bytesIn_5 : decode cX12_bytesIn 5 = .ok (.bipush 32, 2) := by decide +kernel
theorem dX12_bytesIn_7 : decode cX12_bytesIn 7 = .ok (.if_icmp .ge 27, 3) := by decide +kernel
theorem dX12_bytesIn_10 : decode cX12_bytesIn 10 = .ok (.iload_n 1, 1) := by decide +kernel
theorem dX12_bytesIn_11 : decode cX12_bytesIn 11 = .ok (.iload_n 0, 1) := by decide +kernel
theorem dX12_bytesIn_12 : decode cX12_bytesIn 12 = .ok (.iload_n 2, 1) := by decide +kernel
theorem dX12_bytesIn_13 : decode cX12_bytesIn 13 = .ok (.ishr, 1) := by decide +kernel
theorem dX12_bytesIn_14 : decode cX12_bytesIn 14 = .ok (.sipush 255, 3) := by decide +kernel
theorem dX12_bytesIn_17 : decode cX12_bytesIn 17 = .ok (.iand, 1) := by decide +kernel
theorem dX12_bytesIn_18 : decode cX12_bytesIn 18 = .ok (.ifCond .ne 7, 3) := by decide +kernel
theorem dX12_bytesIn_21 : decode cX12_bytesIn 21 = .ok (.iconst 0, 1) := by decide +kernel
theorem dX12_bytesIn_22 : decode cX12_bytesIn 22 = .ok (.goto 4, 3) := by decide +kernel
theorem dX12_bytesIn_25 : decode cX12_bytesIn 25 = .ok (.iconst 1, 1) := by decide +kernel
theorem dX12_bytesIn_26 : decode cX12_bytesIn 26 = .ok (.iadd, 1) := by decide +kernel
theorem dX12_bytesIn_27 : decode cX12_bytesIn 27 = .ok (.istore_n 1, 1) := by decide +kernel
theorem dX12_bytesIn_28 : decode cX12_bytesIn 28 = .ok (.iinc 2 8, 3) := by decide +kernel
theorem dX12_bytesIn_31 : decode cX12_bytesIn 31 = .ok (.goto (-27), 3) := by decide +kernel
theorem dX12_bytesIn_34 : decode cX12_bytesIn 34 = .ok (.iload_n 1, 1) := by decide +kernel
theorem dX12_bytesIn_35 : decode cX12_bytesIn 35 = .ok (.ireturn, 1) := by decide +kernel
theorem dX12_takesBytes_0 : decode cX12_takesBytes 0 = .ok (.bipush 24, 2) := by decide +kernel
theorem dX12_takesBytes_2 : decode cX12_takesBytes 2 = .ok (.istore_n 2, 1) := by decide +kernel
theorem dX12_takesBytes_3 : decode cX12_takesBytes 3 = .ok (.iload_n 2, 1) := by decide +kernel
theorem dX12_takesBytes_4 : decode cX12_takesBytes 4 = .ok (.ifCond .lt 44, 3) := by decide +kernel
theorem dX12_takesBytes_7 : decode cX12_takesBytes 7 = .ok (.iload_n 1, 1) := by decide +kernel
theorem dX12_takesBytes_8 : decode cX12_takesBytes 8 = .ok (.iload_n 2, 1) := by decide +kernel
theorem dX12_takesBytes_9 : decode cX12_takesBytes 9 = .ok (.ishr, 1) := by decide +kernel
theorem dX12_takesBytes_10 : decode cX12_takesBytes 10 = .ok (.sipush 255, 3) := by decide +kernel
theorem dX12_takesBytes_13 : decode cX12_takesBytes 13 = .ok (.iand, 1) := by decide +kernel
theorem dX12_takesBytes_14 : decode cX12_takesBytes 14 = .ok (.istore_n 3, 1) := by decide +kernel
theorem dX12_takesBytes_15 : decode cX12_takesBytes 15 = .ok (.iload_n 3, 1) := by decide +kernel
theorem dX12_takesBytes_16 : decode cX12_takesBytes 16 = .ok (.ifCond .ne 6, 3) := by decide +kernel
theorem dX12_takesBytes_19 : decode cX12_takesBytes 19 = .ok (.goto 23, 3) := by decide +kernel
theorem dX12_takesBytes_22 : decode cX12_takesBytes 22 = .ok (.aload_n 0, 1) := by decide +kernel
theorem dX12_takesBytes_23 : decode cX12_takesBytes 23 = .ok (.getfield 76, 3) := by decide +kernel
theorem dX12_takesBytes_26 : decode cX12_takesBytes 26 = .ok (.aload_n 0, 1) := by decide +kernel
theorem dX12_takesBytes_27 : decode cX12_takesBytes 27 = .ok (.getfield 301, 3) := by decide +kernel
theorem dX12_takesBytes_30 : decode cX12_takesBytes 30 = .ok (.iload_n 3, 1) := by decide +kernel
theorem dX12_takesBytes_31 : decode cX12_takesBytes 31 = .ok (.iastore, 1) := by decide +kernel
theorem dX12_takesBytes_32 : decode cX12_takesBytes 32 = .ok (.aload_n 0, 1) := by decide +kernel
theorem dX12_takesBytes_33 : decode cX12_takesBytes 33 = .ok (.dup, 1) := by decide +kernel
theorem dX12_takesBytes_34 : decode cX12_takesBytes 34 = .ok (.getfield 301, 3) := by decide +kernel
theorem dX12_takesBytes_37 : decode cX12_takesBytes 37 = .ok (.iconst 1, 1) := by decide +kernel
theorem dX12_takesBytes_38 : decode cX12_takesBytes 38 = .ok (.iadd, 1) := by decide +kernel
theorem dX12_takesBytes_39 : decode cX12_takesBytes 39 = .ok (.putfield 301, 3) := by decide +kernel
theorem dX12_takesBytes_42 : decode cX12_takesBytes 42 = .ok (.iinc 2 (-8), 3) := by decide +kernel
theorem dX12_takesBytes_45 : decode cX12_takesBytes 45 = .ok (.goto (-42), 3) := by decide +kernel
theorem dX12_takesBytes_48 : decode cX12_takesBytes 48 = .ok (.return_, 1) := by decide +kernel
set_option maxRecDepth 20000 in
theorem ggX12_append_X12_bytesIn : GoodIn wsX12_append wsX12_bytesIn := goodIn_r _ [6] (by decide +kernel) (by decide +kernel)
set_option maxRecDepth 20000 in
theorem gX12_append_X12_bytesIn : GoodIn wsX12_append (va_wsS RX12 304 yX12_bytesIn wsX12_bytesIn) := goodIn_app (goodIn_of _ (by decide +kernel)) ggX12_append_X12_bytesIn
set_option maxRecDepth 20000 in
theorem ggX12_append_X12_fails : GoodIn wsX12_append wsX12_fails := goodIn_r _ [10, 1, 16, 17, 18, 19, 20, 21, 22, 23, 24, 25, 26, 27, 28, 29, 30, 31, 32, 33, 34, 35, 36, 37, 38, 39, 40, 41, 42, 43, 44, 45] (by decide +kernel) (by decide +kernel)
set_option maxRecDepth 20000 in
theorem gX12_append_X12_fails : GoodIn wsX12_append (wsV RX12 96 RX12 yX12_fails wsX12_fails) := goodIn_app (goodIn_of _ (by decide +kernel)) ggX12_append_X12_fails
set_option maxRecDepth 20000 in
theorem ggX12_append_X12_takesBytes : GoodIn wsX12_append wsX12_takesBytes := goodIn_r _ [14, 15, 2, 16, 17, 18, 19, 20, 21, 22, 23, 24, 25, 26, 27, 28, 29, 30, 31, 32, 33, 34, 35, 36, 37, 38, 39, 40, 41, 42, 43, 44, 45] (by decide +kernel) (by decide +kernel)
set_option maxRecDepth 20000 in
theorem gX12_append_X12_takesBytes : GoodIn wsX12_append (wsV RX12 307 RX12 yX12_takesBytes wsX12_takesBytes) := goodIn_app (goodIn_of _ (by decide +kernel)) ggX12_append_X12_takesBytes
theorem dX12_append_0 : decode cX12_append 0 = .ok (.aload_n 0, 1) := by decide +kernel
theorem dX12_append_1 : decode cX12_append 1 = .ok (.iconst 0, 1) := by decide +kernel
theorem dX12_append_2 : decode cX12_append 2 = .ok (.putfield 1, 3) := by decide +kernel
theorem dX12_append_5 : decode cX12_append 5 = .ok (.iload_n 1, 1) := by decide +kernel
theorem dX12_append_6 : decode cX12_append 6 = .ok (.invokestatic 304, 3) := by decide +kernel
theorem dX12_append_9 : decode cX12_append 9 = .ok (.iload_n 2, 1) := by decide +kernel
theorem dX12_append_10 : decode cX12_append 10 = .ok (.invokestatic 304, 3) := by decide +kernel
theorem dX12_append_13 : decode cX12_append 13 = .ok (.iadd, 1) := by decide +kernel
theorem dX12_append_14 : decode cX12_append 14 = .ok (.iload_n 3, 1) := by decide +kernel
theorem dX12_append_15 : decode cX12_append 15 = .ok (.invokestatic 304, 3) := by decide +kernel
theorem dX12_append_18 : decode cX12_append 18 = .ok (.iadd, 1) := by decide +kernel
theorem dX12_append_19 : decode cX12_append 19 = .ok (.iload 4, 2) := by decide +kernel
theorem dX12_append_21 : decode cX12_append 21 = .ok (.invokestatic 304, 3) := by decide +kernel
theorem dX12_append_24 : decode cX12_append 24 = .ok (.iadd, 1) := by decide +kernel
theorem dX12_append_25 : decode cX12_append 25 = .ok (.iload 5, 2) := by decide +kernel
theorem dX12_append_27 : decode cX12_append 27 = .ok (.invokestatic 304, 3) := by decide +kernel
theorem dX12_append_30 : decode cX12_append 30 = .ok (.iadd, 1) := by decide +kernel
theorem dX12_append_31 : decode cX12_append 31 = .ok (.istore 6, 2) := by decide +kernel
theorem dX12_append_33 : decode cX12_append 33 = .ok (.aload_n 0, 1) := by decide +kernel
theorem dX12_append_34 : decode cX12_append 34 = .ok (.aload_n 0, 1) := by decide +kernel
theorem dX12_append_35 : decode cX12_append 35 = .ok (.getfield 301, 3) := by decide +kernel
theorem dX12_append_38 : decode cX12_append 38 = .ok (.iload 6, 2) := by decide +kernel
theorem dX12_append_40 : decode cX12_append 40 = .ok (.iadd, 1) := by decide +kernel
theorem dX12_append_41 : decode cX12_append 41 = .ok (.bipush 100, 2) := by decide +kernel
theorem dX12_append_43 : decode cX12_append 43 = .ok (.if_icmp .gt 7, 3) := by decide +kernel
theorem dX12_append_46 : decode cX12_append 46 = .ok (.iconst 1, 1) := by decide +kernel
theorem dX12_append_47 : decode cX12_append 47 = .ok (.goto 4, 3) := by decide +kernel
theorem dX12_append_50 : decode cX12_append 50 = .ok (.iconst 0, 1) := by decide +kernel
theorem dX12_append_51 : decode cX12_append 51 = .ok (.iconst 1, 1) := by decide +kernel
theorem dX12_append_52 : decode cX12_append 52 = .ok (.invokevirtual 96, 3) := by decide +kernel
theorem dX12_append_55 : decode cX12_append 55 = .ok (.ifCond .eq 5, 3) := by decide +kernel
theorem dX12_append_58 : decode cX12_append 58 = .ok (.iconst 0, 1) := by decide +kernel
theorem dX12_append_59 : decode cX12_append 59 = .ok (.ireturn, 1) := by decide +kernel
theorem dX12_append_60 : decode cX12_append 60 = .ok (.aload_n 0, 1) := by decide +kernel
theorem dX12_append_61 : decode cX12_append 61 = .ok (.iload_n 1, 1) := by decide +kernel
theorem dX12_append_62 : decode cX12_append 62 = .ok (.invokevirtual 307, 3) := by decide +kernel
theorem dX12_append_65 : decode cX12_append 65 = .ok (.aload_n 0, 1) := by decide +kernel
theorem dX12_append_66 : decode cX12_append 66 = .ok (.iload_n 2, 1) := by decide +kernel
theorem dX12_append_67 : decode cX12_append 67 = .ok (.invokevirtual 307, 3) := by decide +kernel
theorem dX12_append_70 : decode cX12_append 70 = .ok (.aload_n 0, 1) := by decide +kernel
theorem dX12_append_71 : decode cX12_append 71 = .ok (.iload_n 3, 1) := by decide +kernel
theorem dX12_append_72 : decode cX12_append 72 = .ok (.invokevirtual 307, 3) := by decide +kernel
theorem dX12_append_75 : decode cX12_append 75 = .ok (.aload_n 0, 1) := by decide +kernel
theorem dX12_append_76 : decode cX12_append 76 = .ok (.iload 4, 2) := by decide +kernel
theorem dX12_append_78 : decode cX12_append 78 = .ok (.invokevirtual 307, 3) := by decide +kernel
theorem dX12_append_81 : decode cX12_append 81 = .ok (.aload_n 0, 1) := by decide +kernel
theorem dX12_append_82 : decode cX12_append 82 = .ok (.iload 5, 2) := by decide +kernel
theorem dX12_append_84 : decode cX12_append 84 = .ok (.invokevirtual 307, 3) := by decide +kernel
theorem dX12_append_87 : decode cX12_append 87 = .ok (.aload_n 0, 1) := by decide +kernel
theorem dX12_append_88 : decode cX12_append 88 = .ok (.getfield 301, 3) := by decide +kernel
theorem dX12_append_91 : decode cX12_append 91 = .ok (.ireturn, 1) := by decide +kernel
theorem dX12_clearTape_0 : decode cX12_clearTape 0 = .ok (.aload_n 0, 1) := by decide +kernel
theorem dX12_clearTape_1 : decode cX12_clearTape 1 = .ok (.iconst 0, 1) := by decide +kernel
theorem dX12_clearTape_2 : decode cX12_clearTape 2 = .ok (.putfield 1, 3) := by decide +kernel
theorem dX12_clearTape_5 : decode cX12_clearTape 5 = .ok (.aload_n 0, 1) := by decide +kernel
theorem dX12_clearTape_6 : decode cX12_clearTape 6 = .ok (.getfield 301, 3) := by decide +kernel
theorem dX12_clearTape_9 : decode cX12_clearTape 9 = .ok (.istore_n 1, 1) := by decide +kernel
theorem dX12_clearTape_10 : decode cX12_clearTape 10 = .ok (.aload_n 0, 1) := by decide +kernel
theorem dX12_clearTape_11 : decode cX12_clearTape 11 = .ok (.iconst 0, 1) := by decide +kernel
theorem dX12_clearTape_12 : decode cX12_clearTape 12 = .ok (.putfield 301, 3) := by decide +kernel
theorem dX12_clearTape_15 : decode cX12_clearTape 15 = .ok (.iload_n 1, 1) := by decide +kernel
theorem dX12_clearTape_16 : decode cX12_clearTape 16 = .ok (.ireturn, 1) := by decide +kernel
theorem dX12_dayNamed_0 : decode cX12_dayNamed 0 = .ok (.iload_n 0, 1) := by decide +kernel
theorem dX12_dayNamed_1 : decode cX12_dayNamed 1 = .ok (.bipush 109, 2) := by decide +kernel
theorem dX12_dayNamed_3 : decode cX12_dayNamed 3 = .ok (.if_icmp .ne 7, 3) := by decide +kernel
theorem dX12_dayNamed_6 : decode cX12_dayNamed 6 = .ok (.iconst 0, 1) := by decide +kernel
theorem dX12_dayNamed_7 : decode cX12_dayNamed 7 = .ok (.goto 44, 3) := by decide +kernel
theorem dX12_dayNamed_10 : decode cX12_dayNamed 10 = .ok (.iload_n 0, 1) := by decide +kernel
theorem dX12_dayNamed_11 : decode cX12_dayNamed 11 = .ok (.bipush 116, 2) := by decide +kernel
theorem dX12_dayNamed_13 : decode cX12_dayNamed 13 = .ok (.if_icmp .ne 7, 3) := by decide +kernel
theorem dX12_dayNamed_16 : decode cX12_dayNamed 16 = .ok (.iconst 1, 1) := by decide +kernel
theorem dX12_dayNamed_17 : decode cX12_dayNamed 17 = .ok (.goto 34, 3) := by decide +kernel
theorem dX12_dayNamed_20 : decode cX12_dayNamed 20 = .ok (.iload_n 0, 1) := by decide +kernel
theorem dX12_dayNamed_21 : decode cX12_dayNamed 21 = .ok (.bipush 119, 2) := by decide +kernel
theorem dX12_dayNamed_23 : decode cX12_dayNamed 23 = .ok (.if_icmp .ne 7, 3) := by decide +kernel
theorem dX12_dayNamed_26 : decode cX12_dayNamed 26 = .ok (.iconst 2, 1) := by decide +kernel
theorem dX12_dayNamed_27 : decode cX12_dayNamed 27 = .ok (.goto 24, 3) := by decide +kernel
theorem dX12_dayNamed_30 : decode cX12_dayNamed 30 = .ok (.iload_n 0, 1) := by decide +kernel
theorem dX12_dayNamed_31 : decode cX12_dayNamed 31 = .ok (.bipush 104, 2) := by decide +kernel
theorem dX12_dayNamed_33 : decode cX12_dayNamed 33 = .ok (.if_icmp .ne 7, 3) := by decide +kernel
theorem dX12_dayNamed_36 : decode cX12_dayNamed 36 = .ok (.iconst 3, 1) := by decide +kernel
theorem dX12_dayNamed_37 : decode cX12_dayNamed 37 = .ok (.goto 14, 3) := by decide +kernel
theorem dX12_dayNamed_40 : decode cX12_dayNamed 40 = .ok (.iload_n 0, 1) := by decide +kernel
theorem dX12_dayNamed_41 : decode cX12_dayNamed 41 = .ok (.bipush 102, 2) := by decide +kernel
theorem dX12_dayNamed_43 : decode cX12_dayNamed 43 = .ok (.if_icmp .ne 7, 3) := by decide +kernel
theorem dX12_dayNamed_46 : decode cX12_dayNamed 46 = .ok (.iconst 4, 1) := by decide +kernel
theorem dX12_dayNamed_47 : decode cX12_dayNamed 47 = .ok (.goto 4, 3) := by decide +kernel
theorem dX12_dayNamed_50 : decode cX12_dayNamed 50 = .ok (.iconst (-1), 1) := by decide +kernel
theorem dX12_dayNamed_51 : decode cX12_dayNamed 51 = .ok (.ireturn, 1) := by decide +kernel
theorem dX12_sign_0 : decode cX12_sign 0 = .ok (.iload_n 0, 1) := by decide +kernel
theorem dX12_sign_1 : decode cX12_sign 1 = .ok (.ifCond .ne 8, 3) := by decide +kernel
theorem dX12_sign_4 : decode cX12_sign 4 = .ok (.bipush 109, 2) := by decide +kernel
theorem dX12_sign_6 : decode cX12_sign 6 = .ok (.goto 35, 3) := by decide +kernel
theorem dX12_sign_9 : decode cX12_sign 9 = .ok (.iload_n 0, 1) := by decide +kernel
theorem dX12_sign_10 : decode cX12_sign 10 = .ok (.iconst 1, 1) := by decide +kernel
theorem dX12_sign_11 : decode cX12_sign 11 = .ok (.if_icmp .ne 8, 3) := by decide +kernel
theorem dX12_sign_14 : decode cX12_sign 14 = .ok (.bipush 116, 2) := by decide +kernel
theorem dX12_sign_16 : decode cX12_sign 16 = .ok (.goto 25, 3) := by decide +kernel
theorem dX12_sign_19 : decode cX12_sign 19 = .ok (.iload_n 0, 1) := by decide +kernel
theorem dX12_sign_20 : decode cX12_sign 20 = .ok (.iconst 2, 1) := by decide +kernel
theorem dX12_sign_21 : decode cX12_sign 21 = .ok (.if_icmp .ne 8, 3) := by decide +kernel
theorem dX12_sign_24 : decode cX12_sign 24 = .ok (.bipush 119, 2) := by decide +kernel
theorem dX12_sign_26 : decode cX12_sign 26 = .ok (.goto 15, 3) := by decide +kernel
theorem dX12_sign_29 : decode cX12_sign 29 = .ok (.iload_n 0, 1) := by decide +kernel
theorem dX12_sign_30 : decode cX12_sign 30 = .ok (.iconst 3, 1) := by decide +kernel
theorem dX12_sign_31 : decode cX12_sign 31 = .ok (.if_icmp .ne 8, 3) := by decide +kernel
theorem dX12_sign_34 : decode cX12_sign 34 = .ok (.bipush 104, 2) := by decide +kernel
theorem dX12_sign_36 : decode cX12_sign 36 = .ok (.goto 5, 3) := by decide +kernel
theorem dX12_sign_39 : decode cX12_sign 39 = .ok (.bipush 102, 2) := by decide +kernel
theorem dX12_sign_41 : decode cX12_sign 41 = .ok (.ireturn, 1) := by decide +kernel
set_option maxRecDepth 20000 in
theorem ggX12_readsTape_X12_many : GoodIn wsX12_readsTape wsX12_many := goodIn_r _ [9, 3, 16, 17, 18, 19, 20, 21, 22, 23, 24, 25, 26, 27, 28, 29, 30, 31, 32, 33, 34, 35, 36, 37, 38, 39, 40, 41, 42, 43, 44, 45] (by decide +kernel) (by decide +kernel)
set_option maxRecDepth 20000 in
theorem gX12_readsTape_X12_many : GoodIn wsX12_readsTape (wsV RX12 88 RX12 yX12_many wsX12_many) := goodIn_app (goodIn_of _ (by decide +kernel)) ggX12_readsTape_X12_many
set_option maxRecDepth 20000 in
theorem ggX12_readsTape_X12_in : GoodIn wsX12_readsTape wsX12_in := goodIn_r _ [12] (by decide +kernel) (by decide +kernel)
set_option maxRecDepth 20000 in
theorem gX12_readsTape_X12_in : GoodIn wsX12_readsTape (va_wsS RX12 92 yX12_in wsX12_in) := goodIn_app (goodIn_of _ (by decide +kernel)) ggX12_readsTape_X12_in
set_option maxRecDepth 20000 in
theorem ggX12_readsTape_X12_dayNamed : GoodIn wsX12_readsTape wsX12_dayNamed := goodIn_r _ [15] (by decide +kernel) (by decide +kernel)
set_option maxRecDepth 20000 in
theorem gX12_readsTape_X12_dayNamed : GoodIn wsX12_readsTape (va_wsS RX12 310 yX12_dayNamed wsX12_dayNamed) := goodIn_app (goodIn_of _ (by decide +kernel)) ggX12_readsTape_X12_dayNamed
theorem dX12_readsTape_0 : decode cX12_readsTape 0 = .ok (.iconst 0, 1) := by decide +kernel
theorem dX12_readsTape_1 : decode cX12_readsTape 1 = .ok (.istore_n 1, 1) := by decide +kernel
theorem dX12_readsTape_2 : decode cX12_readsTape 2 = .ok (.iconst 0, 1) := by decide +kernel
theorem dX12_readsTape_3 : decode cX12_readsTape 3 = .ok (.istore_n 2, 1) := by decide +kernel
theorem dX12_readsTape_4 : decode cX12_readsTape 4 = .ok (.iconst 0, 1) := by decide +kernel
theorem dX12_readsTape_5 : decode cX12_readsTape 5 = .ok (.istore_n 3, 1) := by decide +kernel
theorem dX12_readsTape_6 : decode cX12_readsTape 6 = .ok (.iconst 0, 1) := by decide +kernel
theorem dX12_readsTape_7 : decode cX12_readsTape 7 = .ok (.istore 4, 2) := by decide +kernel
theorem dX12_readsTape_9 : decode cX12_readsTape 9 = .ok (.iconst 0, 1) := by decide +kernel
theorem dX12_readsTape_10 : decode cX12_readsTape 10 = .ok (.istore 5, 2) := by decide +kernel
theorem dX12_readsTape_12 : decode cX12_readsTape 12 = .ok (.iload 5, 2) := by decide +kernel
theorem dX12_readsTape_14 : decode cX12_readsTape 14 = .ok (.aload_n 0, 1) := by decide +kernel
theorem dX12_readsTape_15 : decode cX12_readsTape 15 = .ok (.getfield 301, 3) := by decide +kernel
theorem dX12_readsTape_18 : decode cX12_readsTape 18 = .ok (.if_icmp .ge 167, 3) := by decide +kernel
theorem dX12_readsTape_21 : decode cX12_readsTape 21 = .ok (.aload_n 0, 1) := by decide +kernel
theorem dX12_readsTape_22 : decode cX12_readsTape 22 = .ok (.getfield 76, 3) := by decide +kernel
theorem dX12_readsTape_25 : decode cX12_readsTape 25 = .ok (.iload 5, 2) := by decide +kernel
theorem dX12_readsTape_27 : decode cX12_readsTape 27 = .ok (.iaload, 1) := by decide +kernel
theorem dX12_readsTape_28 : decode cX12_readsTape 28 = .ok (.istore 6, 2) := by decide +kernel
theorem dX12_readsTape_30 : decode cX12_readsTape 30 = .ok (.iload 6, 2) := by decide +kernel
theorem dX12_readsTape_32 : decode cX12_readsTape 32 = .ok (.bipush 32, 2) := by decide +kernel
theorem dX12_readsTape_34 : decode cX12_readsTape 34 = .ok (.if_icmp .eq 145, 3) := by decide +kernel
theorem dX12_readsTape_37 : decode cX12_readsTape 37 = .ok (.iload 6, 2) := by decide +kernel
theorem dX12_readsTape_39 : decode cX12_readsTape 39 = .ok (.bipush 10, 2) := by decide +kernel
theorem dX12_readsTape_41 : decode cX12_readsTape 41 = .ok (.if_icmp .ne 6, 3) := by decide +kernel
theorem dX12_readsTape_44 : decode cX12_readsTape 44 = .ok (.goto 135, 3) := by decide +kernel
theorem dX12_readsTape_47 : decode cX12_readsTape 47 = .ok (.iload 6, 2) := by decide +kernel
theorem dX12_readsTape_49 : decode cX12_readsTape 49 = .ok (.bipush 48, 2) := by decide +kernel
theorem dX12_readsTape_51 : decode cX12_readsTape 51 = .ok (.isub, 1) := by decide +kernel
theorem dX12_readsTape_52 : decode cX12_readsTape 52 = .ok (.istore 7, 2) := by decide +kernel
theorem dX12_readsTape_54 : decode cX12_readsTape 54 = .ok (.iload_n 2, 1) := by decide +kernel
theorem dX12_readsTape_55 : decode cX12_readsTape 55 = .ok (.ifCond .ne 43, 3) := by decide +kernel
theorem dX12_readsTape_58 : decode cX12_readsTape 58 = .ok (.iload 7, 2) := by decide +kernel
theorem dX12_readsTape_60 : decode cX12_readsTape 60 = .ok (.iconst 0, 1) := by decide +kernel
theorem dX12_readsTape_61 : decode cX12_readsTape 61 = .ok (.aload_n 0, 1) := by decide +kernel
theorem dX12_readsTape_62 : decode cX12_readsTape 62 = .ok (.invokevirtual 88, 3) := by decide +kernel
theorem dX12_readsTape_65 : decode cX12_readsTape 65 = .ok (.iconst 1, 1) := by decide +kernel
theorem dX12_readsTape_66 : decode cX12_readsTape 66 = .ok (.isub, 1) := by decide +kernel
theorem dX12_readsTape_67 : decode cX12_readsTape 67 = .ok (.invokestatic 92, 3) := by decide +kernel
theorem dX12_readsTape_70 : decode cX12_readsTape 70 = .ok (.ifCond .eq 13, 3) := by decide +kernel
theorem dX12_readsTape_73 : decode cX12_readsTape 73 = .ok (.iload_n 1, 1) := by decide +kernel
theorem dX12_readsTape_74 : decode cX12_readsTape 74 = .ok (.iload 7, 2) := by decide +kernel
theorem dX12_readsTape_76 : decode cX12_readsTape 76 = .ok (.ishr, 1) := by decide +kernel
theorem dX12_readsTape_77 : decode cX12_readsTape 77 = .ok (.iconst 1, 1) := by decide +kernel
theorem dX12_readsTape_78 : decode cX12_readsTape 78 = .ok (.iand, 1) := by decide +kernel
theorem dX12_readsTape_79 : decode cX12_readsTape 79 = .ok (.iconst 1, 1) := by decide +kernel
theorem dX12_readsTape_80 : decode cX12_readsTape 80 = .ok (.if_icmp .ne 6, 3) := by decide +kernel
theorem dX12_readsTape_83 : decode cX12_readsTape 83 = .ok (.iload 5, 2) := by decide +kernel
theorem dX12_readsTape_85 : decode cX12_readsTape 85 = .ok (.ireturn, 1) := by decide +kernel
theorem dX12_readsTape_86 : decode cX12_readsTape 86 = .ok (.iload 7, 2) := by decide +kernel
theorem dX12_readsTape_88 : decode cX12_readsTape 88 = .ok (.istore_n 3, 1) := by decide +kernel
theorem dX12_readsTape_89 : decode cX12_readsTape 89 = .ok (.iload_n 1, 1) := by decide +kernel
theorem dX12_readsTape_90 : decode cX12_readsTape 90 = .ok (.iconst 1, 1) := by decide +kernel
theorem dX12_readsTape_91 : decode cX12_readsTape 91 = .ok (.iload_n 3, 1) := by decide +kernel
theorem dX12_readsTape_92 : decode cX12_readsTape 92 = .ok (.ishl, 1) := by decide +kernel
theorem dX12_readsTape_93 : decode cX12_readsTape 93 = .ok (.ior, 1) := by decide +kernel
theorem dX12_readsTape_94 : decode cX12_readsTape 94 = .ok (.istore_n 1, 1) := by decide +kernel
theorem dX12_readsTape_95 : decode cX12_readsTape 95 = .ok (.goto 78, 3) := by decide +kernel
theorem dX12_readsTape_98 : decode cX12_readsTape 98 = .ok (.iload_n 2, 1) := by decide +kernel
theorem dX12_readsTape_99 : decode cX12_readsTape 99 = .ok (.iconst 1, 1) := by decide +kernel
theorem dX12_readsTape_100 : decode cX12_readsTape 100 = .ok (.if_icmp .ne 19, 3) := by decide +kernel
theorem dX12_readsTape_103 : decode cX12_readsTape 103 = .ok (.iload 6, 2) := by decide +kernel
theorem dX12_readsTape_105 : decode cX12_readsTape 105 = .ok (.invokestatic 310, 3) := by decide +kernel
theorem dX12_readsTape_108 : decode cX12_readsTape 108 = .ok (.istore 4, 2) := by decide +kernel
theorem dX12_readsTape_110 : decode cX12_readsTape 110 = .ok (.iload 4, 2) := by decide +kernel
theorem dX12_readsTape_112 : decode cX12_readsTape 112 = .ok (.iconst (-1), 1) := by decide +kernel
theorem dX12_readsTape_113 : decode cX12_readsTape 113 = .ok (.if_icmp .ne 60, 3) := by decide +kernel
theorem dX12_readsTape_116 : decode cX12_readsTape 116 = .ok (.iload 5, 2) := by decide +kernel
theorem dX12_readsTape_118 : decode cX12_readsTape 118 = .ok (.ireturn, 1) := by decide +kernel
theorem dX12_readsTape_119 : decode cX12_readsTape 119 = .ok (.iload_n 2, 1) := by decide +kernel
theorem dX12_readsTape_120 : decode cX12_readsTape 120 = .ok (.iconst 2, 1) := by decide +kernel
theorem dX12_readsTape_121 : decode cX12_readsTape 121 = .ok (.if_icmp .ne 42, 3) := by decide +kernel
theorem dX12_readsTape_124 : decode cX12_readsTape 124 = .ok (.iload 7, 2) := by decide +kernel
theorem dX12_readsTape_126 : decode cX12_readsTape 126 = .ok (.iconst 0, 1) := by decide +kernel
theorem dX12_readsTape_127 : decode cX12_readsTape 127 = .ok (.iconst 3, 1) := by decide +kernel
theorem dX12_readsTape_128 : decode cX12_readsTape 128 = .ok (.aload_n 0, 1) := by decide +kernel
theorem dX12_readsTape_129 : decode cX12_readsTape 129 = .ok (.getfield 13, 3) := by decide +kernel
theorem dX12_readsTape_132 : decode cX12_readsTape 132 = .ok (.bipush 36, 2) := by decide +kernel
theorem dX12_readsTape_134 : decode cX12_readsTape 134 = .ok (.iload_n 3, 1) := by decide +kernel
theorem dX12_readsTape_135 : decode cX12_readsTape 135 = .ok (.iadd, 1) := by decide +kernel
theorem dX12_readsTape_136 : decode cX12_readsTape 136 = .ok (.iaload, 1) := by decide +kernel
theorem dX12_readsTape_137 : decode cX12_readsTape 137 = .ok (.isub, 1) := by decide +kernel
theorem dX12_readsTape_138 : decode cX12_readsTape 138 = .ok (.invokestatic 92, 3) := by decide +kernel
theorem dX12_readsTape_141 : decode cX12_readsTape 141 = .ok (.ifCond .ne 6, 3) := by decide +kernel
theorem dX12_readsTape_144 : decode cX12_readsTape 144 = .ok (.iload 5, 2) := by decide +kernel
theorem dX12_readsTape_146 : decode cX12_readsTape 146 = .ok (.ireturn, 1) := by decide +kernel
theorem dX12_readsTape_147 : decode cX12_readsTape 147 = .ok (.aload_n 0, 1) := by decide +kernel
theorem dX12_readsTape_148 : decode cX12_readsTape 148 = .ok (.getfield 20, 3) := by decide +kernel
theorem dX12_readsTape_151 : decode cX12_readsTape 151 = .ok (.iload_n 3, 1) := by decide +kernel
theorem dX12_readsTape_152 : decode cX12_readsTape 152 = .ok (.iconst 4, 1) := by decide +kernel
theorem dX12_readsTape_153 : decode cX12_readsTape 153 = .ok (.iload 4, 2) := by decide +kernel
theorem dX12_readsTape_155 : decode cX12_readsTape 155 = .ok (.imul, 1) := by decide +kernel
theorem dX12_readsTape_156 : decode cX12_readsTape 156 = .ok (.iload 7, 2) := by decide +kernel
theorem dX12_readsTape_158 : decode cX12_readsTape 158 = .ok (.iadd, 1) := by decide +kernel
theorem dX12_readsTape_159 : decode cX12_readsTape 159 = .ok (.iastore, 1) := by decide +kernel
theorem dX12_readsTape_160 : decode cX12_readsTape 160 = .ok (.goto 13, 3) := by decide +kernel
theorem dX12_readsTape_163 : decode cX12_readsTape 163 = .ok (.iload 6, 2) := by decide +kernel
theorem dX12_readsTape_165 : decode cX12_readsTape 165 = .ok (.bipush 59, 2) := by decide +kernel
theorem dX12_readsTape_167 : decode cX12_readsTape 167 = .ok (.if_icmp .eq 6, 3) := by decide +kernel
theorem dX12_readsTape_170 : decode cX12_readsTape 170 = .ok (.iload 5, 2) := by decide +kernel
theorem dX12_readsTape_172 : decode cX12_readsTape 172 = .ok (.ireturn, 1) := by decide +kernel
theorem dX12_readsTape_173 : decode cX12_readsTape 173 = .ok (.iload_n 2, 1) := by decide +kernel
theorem dX12_readsTape_174 : decode cX12_readsTape 174 = .ok (.iconst 1, 1) := by decide +kernel
theorem dX12_readsTape_175 : decode cX12_readsTape 175 = .ok (.iadd, 1) := by decide +kernel
theorem dX12_readsTape_176 : decode cX12_readsTape 176 = .ok (.iconst 4, 1) := by decide +kernel
theorem dX12_readsTape_177 : decode cX12_readsTape 177 = .ok (.irem, 1) := by decide +kernel
theorem dX12_readsTape_178 : decode cX12_readsTape 178 = .ok (.istore_n 2, 1) := by decide +kernel
theorem dX12_readsTape_179 : decode cX12_readsTape 179 = .ok (.iinc 5 1, 3) := by decide +kernel
theorem dX12_readsTape_182 : decode cX12_readsTape 182 = .ok (.goto (-170), 3) := by decide +kernel
theorem dX12_readsTape_185 : decode cX12_readsTape 185 = .ok (.iload_n 2, 1) := by decide +kernel
theorem dX12_readsTape_186 : decode cX12_readsTape 186 = .ok (.ifCond .ne 19, 3) := by decide +kernel
theorem dX12_readsTape_189 : decode cX12_readsTape 189 = .ok (.iload_n 1, 1) := by decide +kernel
theorem dX12_readsTape_190 : decode cX12_readsTape 190 = .ok (.iconst 1, 1) := by decide +kernel
theorem dX12_readsTape_191 : decode cX12_readsTape 191 = .ok (.aload_n 0, 1) := by decide +kernel
theorem dX12_readsTape_192 : decode cX12_readsTape 192 = .ok (.invokevirtual 88, 3) := by decide +kernel
theorem dX12_readsTape_195 : decode cX12_readsTape 195 = .ok (.ishl, 1) := by decide +kernel
theorem dX12_readsTape_196 : decode cX12_readsTape 196 = .ok (.iconst 1, 1) := by decide +kernel
theorem dX12_readsTape_197 : decode cX12_readsTape 197 = .ok (.isub, 1) := by decide +kernel
theorem dX12_readsTape_198 : decode cX12_readsTape 198 = .ok (.if_icmp .ne 7, 3) := by decide +kernel
theorem dX12_readsTape_201 : decode cX12_readsTape 201 = .ok (.iconst (-1), 1) := by decide +kernel
theorem dX12_readsTape_202 : decode cX12_readsTape 202 = .ok (.goto 7, 3) := by decide +kernel
theorem dX12_readsTape_205 : decode cX12_readsTape 205 = .ok (.aload_n 0, 1) := by decide +kernel
theorem dX12_readsTape_206 : decode cX12_readsTape 206 = .ok (.getfield 301, 3) := by decide +kernel
theorem dX12_readsTape_209 : decode cX12_readsTape 209 = .ok (.ireturn, 1) := by decide +kernel
set_option maxRecDepth 20000 in
theorem ggX12_read_X12_readsTape : GoodIn wsX12_read wsX12_readsTape := goodIn_r _ [9, 4, 10, 11, 12, 13, 14, 15, 8, 16, 17, 18, 19, 20, 21, 22, 102, 103, 104, 105, 106, 107, 108, 109, 110, 111, 112, 113, 114, 115, 116, 117, 118, 119, 120, 121, 122, 123, 124, 125, 126, 127, 128, 129, 130, 131] (by decide +kernel) (by decide +kernel)
set_option maxRecDepth 20000 in
theorem gX12_read_X12_readsTape : GoodIn wsX12_read (wsV RX12 313 RX12 yX12_readsTape wsX12_readsTape) := goodIn_app (goodIn_of _ (by decide +kernel)) ggX12_read_X12_readsTape
set_option maxRecDepth 20000 in
theorem ggX12_read_X12_fails : GoodIn wsX12_read wsX12_fails := goodIn_r _ [26, 1, 102, 103, 104, 105, 106, 107, 108, 109, 110, 111, 112, 113, 114, 115, 116, 117, 118, 119, 120, 121, 122, 123, 124, 125, 126, 127, 128, 129, 130, 131] (by decide +kernel) (by decide +kernel)
set_option maxRecDepth 20000 in
theorem gX12_read_X12_fails : GoodIn wsX12_read (wsV RX12 96 RX12 yX12_fails wsX12_fails) := goodIn_app (goodIn_of _ (by decide +kernel)) ggX12_read_X12_fails
set_option maxRecDepth 20000 in
theorem ggX12_read_X12_isRight : GoodIn wsX12_read wsX12_isRight := goodIn_r _ [30, 13, 14, 15, 8, 16, 11, 31, 32, 33, 34, 12, 35, 36, 37, 38, 39, 40, 41, 42, 2, 43, 44, 45, 46, 47, 48, 49, 50, 51, 52, 53, 54, 55, 56, 57, 58, 59, 60, 61, 62, 63, 64, 65, 66, 67, 68, 69, 70, 102, 103, 104, 105, 106, 107, 108, 109, 110, 111, 112, 113, 114, 115, 116, 117, 118, 119, 120, 121, 122, 123, 124, 125, 126, 127, 128, 129, 130, 131] (by decide +kernel) (by decide +kernel)
set_option maxRecDepth 20000 in
theorem gX12_read_X12_isRight : GoodIn wsX12_read (wsV RX12 202 RX12 yX12_isRight wsX12_isRight) := goodIn_app (goodIn_of _ (by decide +kernel)) ggX12_read_X12_isRight
set_option maxRecDepth 20000 in
theorem ggX12_read_X12_puts : GoodIn wsX12_read wsX12_puts := goodIn_r _ [74, 11, 12, 75, 76, 77, 8, 78, 79, 80, 81, 13, 14, 15, 16, 102, 103, 104, 105, 106, 107, 108, 109, 110, 111, 112, 113, 114, 115, 116, 117, 118, 119, 120, 121, 122, 123, 124, 125, 126, 127, 128, 129, 130, 131] (by decide +kernel) (by decide +kernel)
set_option maxRecDepth 20000 in
theorem gX12_read_X12_puts : GoodIn wsX12_read (wsV RX12 176 RX12 yX12_puts wsX12_puts) := goodIn_app (goodIn_of _ (by decide +kernel)) ggX12_read_X12_puts
set_option maxRecDepth 20000 in
theorem ggX12_read_X12_costs : GoodIn wsX12_read wsX12_costs := goodIn_r _ [85, 11, 86, 87, 88, 8, 89, 90, 91, 92, 93, 13, 14, 15, 16, 94, 95, 96, 97, 51, 52, 53, 54, 12, 35, 36, 37, 38, 98, 99, 100, 101, 43, 44, 45, 46, 67, 68, 69, 70, 47, 48, 49, 50, 102, 103, 104, 105, 106, 107, 108, 109, 110, 111, 112, 113, 114, 115, 116, 117, 118, 119, 120, 121, 122, 123, 124, 125, 126, 127, 128, 129, 130, 131] (by decide +kernel) (by decide +kernel)
set_option maxRecDepth 20000 in
theorem gX12_read_X12_costs : GoodIn wsX12_read (wsV RX12 205 RX12 yX12_costs wsX12_costs) := goodIn_app (goodIn_of _ (by decide +kernel)) ggX12_read_X12_costs
theorem dX12_read_0 : decode cX12_read 0 = .ok (.aload_n 0, 1) := by decide +kernel
theorem dX12_read_1 : decode cX12_read 1 = .ok (.iconst 0, 1) := by decide +kernel
theorem dX12_read_2 : decode cX12_read 2 = .ok (.putfield 1, 3) := by decide +kernel
theorem dX12_read_5 : decode cX12_read 5 = .ok (.iconst 0, 1) := by decide +kernel
theorem dX12_read_6 : decode cX12_read 6 = .ok (.istore_n 1, 1) := by decide +kernel
theorem dX12_read_7 : decode cX12_read 7 = .ok (.iload_n 1, 1) := by decide +kernel
theorem dX12_read_8 : decode cX12_read 8 = .ok (.bipush 12, 2) := by decide +kernel
theorem dX12_read_10 : decode cX12_read 10 = .ok (.if_icmp .ge 16, 3) := by decide +kernel
theorem dX12_read_13 : decode cX12_read 13 = .ok (.aload_n 0, 1) := by decide +kernel
theorem dX12_read_14 : decode cX12_read 14 = .ok (.getfield 23, 3) := by decide +kernel
theorem dX12_read_17 : decode cX12_read 17 = .ok (.iload_n 1, 1) := by decide +kernel
theorem dX12_read_18 : decode cX12_read 18 = .ok (.iconst 0, 1) := by decide +kernel
theorem dX12_read_19 : decode cX12_read 19 = .ok (.bastore, 1) := by decide +kernel
theorem dX12_read_20 : decode cX12_read 20 = .ok (.iinc 1 1, 3) := by decide +kernel
theorem dX12_read_23 : decode cX12_read 23 = .ok (.goto (-16), 3) := by decide +kernel
theorem dX12_read_26 : decode cX12_read 26 = .ok (.aload_n 0, 1) := by decide +kernel
theorem dX12_read_27 : decode cX12_read 27 = .ok (.aload_n 0, 1) := by decide +kernel
theorem dX12_read_28 : decode cX12_read 28 = .ok (.invokevirtual 313, 3) := by decide +kernel
theorem dX12_read_31 : decode cX12_read 31 = .ok (.putfield 79, 3) := by decide +kernel
theorem dX12_read_34 : decode cX12_read 34 = .ok (.aload_n 0, 1) := by decide +kernel
theorem dX12_read_35 : decode cX12_read 35 = .ok (.iconst 0, 1) := by decide +kernel
theorem dX12_read_36 : decode cX12_read 36 = .ok (.putfield 301, 3) := by decide +kernel
theorem dX12_read_39 : decode cX12_read 39 = .ok (.aload_n 0, 1) := by decide +kernel
theorem dX12_read_40 : decode cX12_read 40 = .ok (.aload_n 0, 1) := by decide +kernel
theorem dX12_read_41 : decode cX12_read 41 = .ok (.getfield 79, 3) := by decide +kernel
theorem dX12_read_44 : decode cX12_read 44 = .ok (.iconst (-1), 1) := by decide +kernel
theorem dX12_read_45 : decode cX12_read 45 = .ok (.if_icmp .ne 7, 3) := by decide +kernel
theorem dX12_read_48 : decode cX12_read 48 = .ok (.iconst 1, 1) := by decide +kernel
theorem dX12_read_49 : decode cX12_read 49 = .ok (.goto 4, 3) := by decide +kernel
theorem dX12_read_52 : decode cX12_read 52 = .ok (.iconst 0, 1) := by decide +kernel
theorem dX12_read_53 : decode cX12_read 53 = .ok (.iconst 1, 1) := by decide +kernel
theorem dX12_read_54 : decode cX12_read 54 = .ok (.invokevirtual 96, 3) := by decide +kernel
theorem dX12_read_57 : decode cX12_read 57 = .ok (.ifCond .ne 15, 3) := by decide +kernel
theorem dX12_read_60 : decode cX12_read 60 = .ok (.aload_n 0, 1) := by decide +kernel
theorem dX12_read_61 : decode cX12_read 61 = .ok (.aload_n 0, 1) := by decide +kernel
theorem dX12_read_62 : decode cX12_read 62 = .ok (.invokevirtual 202, 3) := by decide +kernel
theorem dX12_read_65 : decode cX12_read 65 = .ok (.iconst 2, 1) := by decide +kernel
theorem dX12_read_66 : decode cX12_read 66 = .ok (.invokevirtual 96, 3) := by decide +kernel
theorem dX12_read_69 : decode cX12_read 69 = .ok (.ifCond .eq 5, 3) := by decide +kernel
theorem dX12_read_72 : decode cX12_read 72 = .ok (.iconst 0, 1) := by decide +kernel
theorem dX12_read_73 : decode cX12_read 73 = .ok (.ireturn, 1) := by decide +kernel
theorem dX12_read_74 : decode cX12_read 74 = .ok (.aload_n 0, 1) := by decide +kernel
theorem dX12_read_75 : decode cX12_read 75 = .ok (.invokevirtual 176, 3) := by decide +kernel
theorem dX12_read_78 : decode cX12_read 78 = .ok (.aload_n 0, 1) := by decide +kernel
theorem dX12_read_79 : decode cX12_read 79 = .ok (.invokevirtual 205, 3) := by decide +kernel
theorem dX12_read_82 : decode cX12_read 82 = .ok (.ireturn, 1) := by decide +kernel
theorem dX12_errorPosition_0 : decode cX12_errorPosition 0 = .ok (.aload_n 0, 1) := by decide +kernel
theorem dX12_errorPosition_1 : decode cX12_errorPosition 1 = .ok (.iconst 0, 1) := by decide +kernel
theorem dX12_errorPosition_2 : decode cX12_errorPosition 2 = .ok (.putfield 1, 3) := by decide +kernel
theorem dX12_errorPosition_5 : decode cX12_errorPosition 5 = .ok (.aload_n 0, 1) := by decide +kernel
theorem dX12_errorPosition_6 : decode cX12_errorPosition 6 = .ok (.getfield 79, 3) := by decide +kernel
theorem dX12_errorPosition_9 : decode cX12_errorPosition 9 = .ok (.ireturn, 1) := by decide +kernel
set_option maxRecDepth 20000 in
theorem ggX12_write_X12_noTable : GoodIn wsX12_write wsX12_noTable := goodIn_r _ [9, 3, 10, 11, 12, 8, 13, 1, 21, 22, 23, 24, 25, 26, 27, 28, 29, 30, 31, 32, 33, 34, 35, 36, 37, 38, 39, 40, 41, 42, 43, 44, 45, 46, 47, 48, 49, 50] (by decide +kernel) (by decide +kernel)
set_option maxRecDepth 20000 in
theorem gX12_write_X12_noTable : GoodIn wsX12_write (wsV RX12 179 RX12 yX12_noTable wsX12_noTable) := goodIn_app (goodIn_of _ (by decide +kernel)) ggX12_write_X12_noTable
set_option maxRecDepth 20000 in
theorem ggX12_write_X12_many : GoodIn wsX12_write wsX12_many := goodIn_r _ [17, 3, 21, 22, 23, 24, 25, 26, 27, 28, 29, 30, 31, 32, 33, 34, 35, 36, 37, 38, 39, 40, 41, 42, 43, 44, 45, 46, 47, 48, 49, 50] (by decide +kernel) (by decide +kernel)
set_option maxRecDepth 20000 in
theorem gX12_write_X12_many : GoodIn wsX12_write (wsV RX12 88 RX12 yX12_many wsX12_many) := goodIn_app (goodIn_of _ (by decide +kernel)) ggX12_write_X12_many
set_option maxRecDepth 20000 in
theorem ggX12_write_X12_sign : GoodIn wsX12_write wsX12_sign := goodIn_r _ [20] (by decide +kernel) (by decide +kernel)
set_option maxRecDepth 20000 in
theorem gX12_write_X12_sign : GoodIn wsX12_write (va_wsS RX12 316 yX12_sign wsX12_sign) := goodIn_app (goodIn_of _ (by decide +kernel)) ggX12_write_X12_sign
theorem dX12_write_0 : decode cX12_write 0 = .ok (.aload_n 0, 1) := by decide +kernel
theorem dX12_write_1 : decode cX12_write 1 = .ok (.iconst 0, 1) := by decide +kernel
theorem dX12_write_2 : decode cX12_write 2 = .ok (.putfield 1, 3) := by decide +kernel
theorem dX12_write_5 : decode cX12_write 5 = .ok (.aload_n 0, 1) := by decide +kernel
theorem dX12_write_6 : decode cX12_write 6 = .ok (.iconst 1, 1) := by decide +kernel
theorem dX12_write_7 : decode cX12_write 7 = .ok (.invokevirtual 179, 3) := by decide +kernel
theorem dX12_write_10 : decode cX12_write 10 = .ok (.ifCond .eq 5, 3) := by decide +kernel
theorem dX12_write_13 : decode cX12_write 13 = .ok (.iconst 0, 1) := by decide +kernel
theorem dX12_write_14 : decode cX12_write 14 = .ok (.ireturn, 1) := by decide +kernel
theorem dX12_write_15 : decode cX12_write 15 = .ok (.iconst 0, 1) := by decide +kernel
theorem dX12_write_16 : decode cX12_write 16 = .ok (.istore_n 1, 1) := by decide +kernel
theorem dX12_write_17 : decode cX12_write 17 = .ok (.iload_n 1, 1) := by decide +kernel
theorem dX12_write_18 : decode cX12_write 18 = .ok (.aload_n 0, 1) := by decide +kernel
theorem dX12_write_19 : decode cX12_write 19 = .ok (.invokevirtual 88, 3) := by decide +kernel
theorem dX12_write_22 : decode cX12_write 22 = .ok (.if_icmp .ge 81, 3) := by decide +kernel
theorem dX12_write_25 : decode cX12_write 25 = .ok (.aload_n 0, 1) := by decide +kernel
theorem dX12_write_26 : decode cX12_write 26 = .ok (.getfield 82, 3) := by decide +kernel
theorem dX12_write_29 : decode cX12_write 29 = .ok (.iconst 4, 1) := by decide +kernel
theorem dX12_write_30 : decode cX12_write 30 = .ok (.iload_n 1, 1) := by decide +kernel
theorem dX12_write_31 : decode cX12_write 31 = .ok (.imul, 1) := by decide +kernel
theorem dX12_write_32 : decode cX12_write 32 = .ok (.bipush 48, 2) := by decide +kernel
theorem dX12_write_34 : decode cX12_write 34 = .ok (.iload_n 1, 1) := by decide +kernel
theorem dX12_write_35 : decode cX12_write 35 = .ok (.iadd, 1) := by decide +kernel
theorem dX12_write_36 : decode cX12_write 36 = .ok (.iastore, 1) := by decide +kernel
theorem dX12_write_37 : decode cX12_write 37 = .ok (.aload_n 0, 1) := by decide +kernel
theorem dX12_write_38 : decode cX12_write 38 = .ok (.getfield 82, 3) := by decide +kernel
theorem dX12_write_41 : decode cX12_write 41 = .ok (.iconst 4, 1) := by decide +kernel
theorem dX12_write_42 : decode cX12_write 42 = .ok (.iload_n 1, 1) := by decide +kernel
theorem dX12_write_43 : decode cX12_write 43 = .ok (.imul, 1) := by decide +kernel
theorem dX12_write_44 : decode cX12_write 44 = .ok (.iconst 1, 1) := by decide +kernel
theorem dX12_write_45 : decode cX12_write 45 = .ok (.iadd, 1) := by decide +kernel
theorem dX12_write_46 : decode cX12_write 46 = .ok (.aload_n 0, 1) := by decide +kernel
theorem dX12_write_47 : decode cX12_write 47 = .ok (.getfield 13, 3) := by decide +kernel
theorem dX12_write_50 : decode cX12_write 50 = .ok (.bipush 116, 2) := by decide +kernel
theorem dX12_write_52 : decode cX12_write 52 = .ok (.iload_n 1, 1) := by decide +kernel
theorem dX12_write_53 : decode cX12_write 53 = .ok (.iadd, 1) := by decide +kernel
theorem dX12_write_54 : decode cX12_write 54 = .ok (.iaload, 1) := by decide +kernel
theorem dX12_write_55 : decode cX12_write 55 = .ok (.iconst 4, 1) := by decide +kernel
theorem dX12_write_56 : decode cX12_write 56 = .ok (.idiv, 1) := by decide +kernel
theorem dX12_write_57 : decode cX12_write 57 = .ok (.invokestatic 316, 3) := by decide +kernel
theorem dX12_write_60 : decode cX12_write 60 = .ok (.iastore, 1) := by decide +kernel
theorem dX12_write_61 : decode cX12_write 61 = .ok (.aload_n 0, 1) := by decide +kernel
theorem dX12_write_62 : decode cX12_write 62 = .ok (.getfield 82, 3) := by decide +kernel
theorem dX12_write_65 : decode cX12_write 65 = .ok (.iconst 4, 1) := by decide +kernel
theorem dX12_write_66 : decode cX12_write 66 = .ok (.iload_n 1, 1) := by decide +kernel
theorem dX12_write_67 : decode cX12_write 67 = .ok (.imul, 1) := by decide +kernel
theorem dX12_write_68 : decode cX12_write 68 = .ok (.iconst 2, 1) := by decide +kernel
theorem dX12_write_69 : decode cX12_write 69 = .ok (.iadd, 1) := by decide +kernel
theorem dX12_write_70 : decode cX12_write 70 = .ok (.bipush 48, 2) := by decide +kernel
theorem dX12_write_72 : decode cX12_write 72 = .ok (.aload_n 0, 1) := by decide +kernel
theorem dX12_write_73 : decode cX12_write 73 = .ok (.getfield 13, 3) := by decide +kernel
theorem dX12_write_76 : decode cX12_write 76 = .ok (.bipush 116, 2) := by decide +kernel
theorem dX12_write_78 : decode cX12_write 78 = .ok (.iload_n 1, 1) := by decide +kernel
theorem dX12_write_79 : decode cX12_write 79 = .ok (.iadd, 1) := by decide +kernel
theorem dX12_write_80 : decode cX12_write 80 = .ok (.iaload, 1) := by decide +kernel
theorem dX12_write_81 : decode cX12_write 81 = .ok (.iconst 4, 1) := by decide +kernel
theorem dX12_write_82 : decode cX12_write 82 = .ok (.irem, 1) := by decide +kernel
theorem dX12_write_83 : decode cX12_write 83 = .ok (.iadd, 1) := by decide +kernel
theorem dX12_write_84 : decode cX12_write 84 = .ok (.iastore, 1) := by decide +kernel
theorem dX12_write_85 : decode cX12_write 85 = .ok (.aload_n 0, 1) := by decide +kernel
theorem dX12_write_86 : decode cX12_write 86 = .ok (.getfield 82, 3) := by decide +kernel
theorem dX12_write_89 : decode cX12_write 89 = .ok (.iconst 4, 1) := by decide +kernel
theorem dX12_write_90 : decode cX12_write 90 = .ok (.iload_n 1, 1) := by decide +kernel
theorem dX12_write_91 : decode cX12_write 91 = .ok (.imul, 1) := by decide +kernel
theorem dX12_write_92 : decode cX12_write 92 = .ok (.iconst 3, 1) := by decide +kernel
theorem dX12_write_93 : decode cX12_write 93 = .ok (.iadd, 1) := by decide +kernel
theorem dX12_write_94 : decode cX12_write 94 = .ok (.bipush 59, 2) := by decide +kernel
theorem dX12_write_96 : decode cX12_write 96 = .ok (.iastore, 1) := by decide +kernel
theorem dX12_write_97 : decode cX12_write 97 = .ok (.iinc 1 1, 3) := by decide +kernel
theorem dX12_write_100 : decode cX12_write 100 = .ok (.goto (-83), 3) := by decide +kernel
theorem dX12_write_103 : decode cX12_write 103 = .ok (.aload_n 0, 1) := by decide +kernel
theorem dX12_write_104 : decode cX12_write 104 = .ok (.iconst 4, 1) := by decide +kernel
theorem dX12_write_105 : decode cX12_write 105 = .ok (.aload_n 0, 1) := by decide +kernel
theorem dX12_write_106 : decode cX12_write 106 = .ok (.invokevirtual 88, 3) := by decide +kernel
theorem dX12_write_109 : decode cX12_write 109 = .ok (.imul, 1) := by decide +kernel
theorem dX12_write_110 : decode cX12_write 110 = .ok (.putfield 319, 3) := by decide +kernel
theorem dX12_write_113 : decode cX12_write 113 = .ok (.aload_n 0, 1) := by decide +kernel
theorem dX12_write_114 : decode cX12_write 114 = .ok (.getfield 319, 3) := by decide +kernel
theorem dX12_write_117 : decode cX12_write 117 = .ok (.ireturn, 1) := by decide +kernel
set_option maxRecDepth 20000 in
theorem ggX12_writtenAt_X12_in : GoodIn wsX12_writtenAt wsX12_in := goodIn_r _ [7] (by decide +kernel) (by decide +kernel)
set_option maxRecDepth 20000 in
theorem gX12_writtenAt_X12_in : GoodIn wsX12_writtenAt (va_wsS RX12 92 yX12_in wsX12_in) := goodIn_app (goodIn_of _ (by decide +kernel)) ggX12_writtenAt_X12_in
set_option maxRecDepth 20000 in
theorem ggX12_writtenAt_X12_fails : GoodIn wsX12_writtenAt wsX12_fails := goodIn_r _ [11, 1, 12, 13, 14, 15, 16, 17, 18, 19, 20, 21, 22, 23, 24, 25, 26, 27, 28, 29, 30, 31, 32, 33, 34, 35, 36, 37, 38, 39, 40, 41] (by decide +kernel) (by decide +kernel)
set_option maxRecDepth 20000 in
theorem gX12_writtenAt_X12_fails : GoodIn wsX12_writtenAt (wsV RX12 96 RX12 yX12_fails wsX12_fails) := goodIn_app (goodIn_of _ (by decide +kernel)) ggX12_writtenAt_X12_fails
theorem dX12_writtenAt_0 : decode cX12_writtenAt 0 = .ok (.aload_n 0, 1) := by decide +kernel
theorem dX12_writtenAt_1 : decode cX12_writtenAt 1 = .ok (.iconst 0, 1) := by decide +kernel
theorem dX12_writtenAt_2 : decode cX12_writtenAt 2 = .ok (.putfield 1, 3) := by decide +kernel
theorem dX12_writtenAt_5 : decode cX12_writtenAt 5 = .ok (.aload_n 0, 1) := by decide +kernel
theorem dX12_writtenAt_6 : decode cX12_writtenAt 6 = .ok (.iload_n 1, 1) := by decide +kernel
theorem dX12_writtenAt_7 : decode cX12_writtenAt 7 = .ok (.iconst 0, 1) := by decide +kernel
theorem dX12_writtenAt_8 : decode cX12_writtenAt 8 = .ok (.aload_n 0, 1) := by decide +kernel
theorem dX12_writtenAt_9 : decode cX12_writtenAt 9 = .ok (.getfield 319, 3) := by decide +kernel
theorem dX12_writtenAt_12 : decode cX12_writtenAt 12 = .ok (.iconst 1, 1) := by decide +kernel
theorem dX12_writtenAt_13 : decode cX12_writtenAt 13 = .ok (.isub, 1) := by decide +kernel
theorem dX12_writtenAt_14 : decode cX12_writtenAt 14 = .ok (.invokestatic 92, 3) := by decide +kernel
theorem dX12_writtenAt_17 : decode cX12_writtenAt 17 = .ok (.iconst 1, 1) := by decide +kernel
theorem dX12_writtenAt_18 : decode cX12_writtenAt 18 = .ok (.invokevirtual 96, 3) := by decide +kernel
theorem dX12_writtenAt_21 : decode cX12_writtenAt 21 = .ok (.ifCond .eq 8, 3) := by decide +kernel
theorem dX12_writtenAt_24 : decode cX12_writtenAt 24 = .ok (.bipush 32, 2) := by decide +kernel
theorem dX12_writtenAt_26 : decode cX12_writtenAt 26 = .ok (.goto 10, 3) := by decide +kernel
theorem dX12_writtenAt_29 : decode cX12_writtenAt 29 = .ok (.aload_n 0, 1) := by decide +kernel
theorem dX12_writtenAt_30 : decode cX12_writtenAt 30 = .ok (.getfield 82, 3) := by decide +kernel
theorem dX12_writtenAt_33 : decode cX12_writtenAt 33 = .ok (.iload_n 1, 1) := by decide +kernel
theorem dX12_writtenAt_34 : decode cX12_writtenAt 34 = .ok (.iaload, 1) := by decide +kernel
theorem dX12_writtenAt_35 : decode cX12_writtenAt 35 = .ok (.i2c, 1) := by decide +kernel
theorem dX12_writtenAt_36 : decode cX12_writtenAt 36 = .ok (.ireturn, 1) := by decide +kernel
set_option maxRecDepth 20000 in
theorem ggX12_checksum_X12_many : GoodIn wsX12_checksum wsX12_many := goodIn_r _ [7, 2, 8, 9, 10, 11, 12, 13, 14, 15, 16, 17, 18, 19, 20, 21, 22, 23, 24, 25, 26, 27, 28, 29, 30, 31, 32, 33, 34, 35, 36, 37] (by decide +kernel) (by decide +kernel)
set_option maxRecDepth 20000 in
theorem gX12_checksum_X12_many : GoodIn wsX12_checksum (wsV RX12 88 RX12 yX12_many wsX12_many) := goodIn_app (goodIn_of _ (by decide +kernel)) ggX12_checksum_X12_many
theorem dX12_checksum_0 : decode cX12_checksum 0 = .ok (.aload_n 0, 1) := by decide +kernel
theorem dX12_checksum_1 : decode cX12_checksum 1 = .ok (.iconst 0, 1) := by decide +kernel
theorem dX12_checksum_2 : decode cX12_checksum 2 = .ok (.putfield 1, 3) := by decide +kernel
theorem dX12_checksum_5 : decode cX12_checksum 5 = .ok (.aload_n 0, 1) := by decide +kernel
theorem dX12_checksum_6 : decode cX12_checksum 6 = .ok (.getfield 13, 3) := by decide +kernel
theorem dX12_checksum_9 : decode cX12_checksum 9 = .ok (.bipush 127, 2) := by decide +kernel
theorem dX12_checksum_11 : decode cX12_checksum 11 = .ok (.iaload, 1) := by decide +kernel
theorem dX12_checksum_12 : decode cX12_checksum 12 = .ok (.ifCond .ne 5, 3) := by decide +kernel
theorem dX12_checksum_15 : decode cX12_checksum 15 = .ok (.iconst 0, 1) := by decide +kernel
theorem dX12_checksum_16 : decode cX12_checksum 16 = .ok (.ireturn, 1) := by decide +kernel
theorem dX12_checksum_17 : decode cX12_checksum 17 = .ok (.bipush 17, 2) := by decide +kernel
theorem dX12_checksum_19 : decode cX12_checksum 19 = .ok (.istore_n 1, 1) := by decide +kernel
theorem dX12_checksum_20 : decode cX12_checksum 20 = .ok (.iconst 0, 1) := by decide +kernel
theorem dX12_checksum_21 : decode cX12_checksum 21 = .ok (.istore_n 2, 1) := by decide +kernel
theorem dX12_checksum_22 : decode cX12_checksum 22 = .ok (.iload_n 2, 1) := by decide +kernel
theorem dX12_checksum_23 : decode cX12_checksum 23 = .ok (.aload_n 0, 1) := by decide +kernel
theorem dX12_checksum_24 : decode cX12_checksum 24 = .ok (.invokevirtual 88, 3) := by decide +kernel
theorem dX12_checksum_27 : decode cX12_checksum 27 = .ok (.if_icmp .ge 24, 3) := by decide +kernel
theorem dX12_checksum_30 : decode cX12_checksum 30 = .ok (.bipush 31, 2) := by decide +kernel
theorem dX12_checksum_32 : decode cX12_checksum 32 = .ok (.iload_n 1, 1) := by decide +kernel
theorem dX12_checksum_33 : decode cX12_checksum 33 = .ok (.imul, 1) := by decide +kernel
theorem dX12_checksum_34 : decode cX12_checksum 34 = .ok (.aload_n 0, 1) := by decide +kernel
theorem dX12_checksum_35 : decode cX12_checksum 35 = .ok (.getfield 13, 3) := by decide +kernel
theorem dX12_checksum_38 : decode cX12_checksum 38 = .ok (.bipush 116, 2) := by decide +kernel
theorem dX12_checksum_40 : decode cX12_checksum 40 = .ok (.iload_n 2, 1) := by decide +kernel
theorem dX12_checksum_41 : decode cX12_checksum 41 = .ok (.iadd, 1) := by decide +kernel
theorem dX12_checksum_42 : decode cX12_checksum 42 = .ok (.iaload, 1) := by decide +kernel
theorem dX12_checksum_43 : decode cX12_checksum 43 = .ok (.iadd, 1) := by decide +kernel
theorem dX12_checksum_44 : decode cX12_checksum 44 = .ok (.istore_n 1, 1) := by decide +kernel
theorem dX12_checksum_45 : decode cX12_checksum 45 = .ok (.iinc 2 1, 3) := by decide +kernel
theorem dX12_checksum_48 : decode cX12_checksum 48 = .ok (.goto (-26), 3) := by decide +kernel
theorem dX12_checksum_51 : decode cX12_checksum 51 = .ok (.iload_n 1, 1) := by decide +kernel
theorem dX12_checksum_52 : decode cX12_checksum 52 = .ok (.ireturn, 1) := by decide +kernel
set_option maxRecDepth 20000 in
theorem ggX12_meanSlot_X12_noTable : GoodIn wsX12_meanSlot wsX12_noTable := goodIn_r _ [7, 2, 8, 9, 10, 6, 11, 1, 16, 17, 18, 19, 20, 21, 22, 23, 24, 25, 26, 27, 28, 29, 30, 31, 32, 33, 34, 35, 36, 37, 38, 39, 40, 41, 42, 43, 44, 45] (by decide +kernel) (by decide +kernel)
set_option maxRecDepth 20000 in
theorem gX12_meanSlot_X12_noTable : GoodIn wsX12_meanSlot (wsV RX12 179 RX12 yX12_noTable wsX12_noTable) := goodIn_app (goodIn_of _ (by decide +kernel)) ggX12_meanSlot_X12_noTable
set_option maxRecDepth 20000 in
theorem ggX12_meanSlot_X12_many : GoodIn wsX12_meanSlot wsX12_many := goodIn_r _ [15, 2, 16, 17, 18, 19, 20, 21, 22, 23, 24, 25, 26, 27, 28, 29, 30, 31, 32, 33, 34, 35, 36, 37, 38, 39, 40, 41, 42, 43, 44, 45] (by decide +kernel) (by decide +kernel)
set_option maxRecDepth 20000 in
theorem gX12_meanSlot_X12_many : GoodIn wsX12_meanSlot (wsV RX12 88 RX12 yX12_many wsX12_many) := goodIn_app (goodIn_of _ (by decide +kernel)) ggX12_meanSlot_X12_many
theorem dX12_meanSlot_0 : decode cX12_meanSlot 0 = .ok (.aload_n 0, 1) := by decide +kernel
theorem dX12_meanSlot_1 : decode cX12_meanSlot 1 = .ok (.iconst 0, 1) := by decide +kernel
theorem dX12_meanSlot_2 : decode cX12_meanSlot 2 = .ok (.putfield 1, 3) := by decide +kernel
theorem dX12_meanSlot_5 : decode cX12_meanSlot 5 = .ok (.aload_n 0, 1) := by decide +kernel
theorem dX12_meanSlot_6 : decode cX12_meanSlot 6 = .ok (.iconst 1, 1) := by decide +kernel
theorem dX12_meanSlot_7 : decode cX12_meanSlot 7 = .ok (.invokevirtual 179, 3) := by decide +kernel
theorem dX12_meanSlot_10 : decode cX12_meanSlot 10 = .ok (.ifCond .ne 10, 3) := by decide +kernel
theorem dX12_meanSlot_13 : decode cX12_meanSlot 13 = .ok (.aload_n 0, 1) := by decide +kernel
theorem dX12_meanSlot_14 : decode cX12_meanSlot 14 = .ok (.invokevirtual 88, 3) := by decide +kernel
theorem dX12_meanSlot_17 : decode cX12_meanSlot 17 = .ok (.ifCond .ne 5, 3) := by decide +kernel
theorem dX12_meanSlot_20 : decode cX12_meanSlot 20 = .ok (.dconst 0, 1) := by decide +kernel
theorem dX12_meanSlot_21 : decode cX12_meanSlot 21 = .ok (.dreturn, 1) := by decide +kernel
theorem dX12_meanSlot_22 : decode cX12_meanSlot 22 = .ok (.iconst 0, 1) := by decide +kernel
theorem dX12_meanSlot_23 : decode cX12_meanSlot 23 = .ok (.istore_n 1, 1) := by decide +kernel
theorem dX12_meanSlot_24 : decode cX12_meanSlot 24 = .ok (.iconst 0, 1) := by decide +kernel
theorem dX12_meanSlot_25 : decode cX12_meanSlot 25 = .ok (.istore_n 2, 1) := by decide +kernel
theorem dX12_meanSlot_26 : decode cX12_meanSlot 26 = .ok (.iload_n 2, 1) := by decide +kernel
theorem dX12_meanSlot_27 : decode cX12_meanSlot 27 = .ok (.aload_n 0, 1) := by decide +kernel
theorem dX12_meanSlot_28 : decode cX12_meanSlot 28 = .ok (.invokevirtual 88, 3) := by decide +kernel
theorem dX12_meanSlot_31 : decode cX12_meanSlot 31 = .ok (.if_icmp .ge 21, 3) := by decide +kernel
theorem dX12_meanSlot_34 : decode cX12_meanSlot 34 = .ok (.iload_n 1, 1) := by decide +kernel
theorem dX12_meanSlot_35 : decode cX12_meanSlot 35 = .ok (.aload_n 0, 1) := by decide +kernel
theorem dX12_meanSlot_36 : decode cX12_meanSlot 36 = .ok (.getfield 13, 3) := by decide +kernel
theorem dX12_meanSlot_39 : decode cX12_meanSlot 39 = .ok (.bipush 116, 2) := by decide +kernel
theorem dX12_meanSlot_41 : decode cX12_meanSlot 41 = .ok (.iload_n 2, 1) := by decide +kernel
theorem dX12_meanSlot_42 : decode cX12_meanSlot 42 = .ok (.iadd, 1) := by decide +kernel
theorem dX12_meanSlot_43 : decode cX12_meanSlot 43 = .ok (.iaload, 1) := by decide +kernel
theorem dX12_meanSlot_44 : decode cX12_meanSlot 44 = .ok (.iadd, 1) := by decide +kernel
theorem dX12_meanSlot_45 : decode cX12_meanSlot 45 = .ok (.istore_n 1, 1) := by decide +kernel
theorem dX12_meanSlot_46 : decode cX12_meanSlot 46 = .ok (.iinc 2 1, 3) := by decide +kernel
theorem dX12_meanSlot_49 : decode cX12_meanSlot 49 = .ok (.goto (-23), 3) := by decide +kernel
theorem dX12_meanSlot_52 : decode cX12_meanSlot 52 = .ok (.iload_n 1, 1) := by decide +kernel
theorem dX12_meanSlot_53 : decode cX12_meanSlot 53 = .ok (.i2d, 1) := by decide +kernel
theorem dX12_meanSlot_54 : decode cX12_meanSlot 54 = .ok (.aload_n 0, 1) := by decide +kernel
theorem dX12_meanSlot_55 : decode cX12_meanSlot 55 = .ok (.invokevirtual 88, 3) := by decide +kernel
theorem dX12_meanSlot_58 : decode cX12_meanSlot 58 = .ok (.i2d, 1) := by decide +kernel
theorem dX12_meanSlot_59 : decode cX12_meanSlot 59 = .ok (.ddiv, 1) := by decide +kernel
theorem dX12_meanSlot_60 : decode cX12_meanSlot 60 = .ok (.dreturn, 1) := by decide +kernel
set_option maxRecDepth 20000 in
theorem ggX12_taken_X12_noTable : GoodIn wsX12_taken wsX12_noTable := goodIn_r _ [8, 2, 9, 10, 11, 7, 12, 1, 17, 18, 19, 20, 21, 22, 23, 24, 25, 26, 27, 28, 29, 30, 31, 32, 33, 34, 35, 36, 37, 38, 39, 40, 41, 42, 43, 44, 45, 46] (by decide +kernel) (by decide +kernel)
set_option maxRecDepth 20000 in
theorem gX12_taken_X12_noTable : GoodIn wsX12_taken (wsV RX12 179 RX12 yX12_noTable wsX12_noTable) := goodIn_app (goodIn_of _ (by decide +kernel)) ggX12_taken_X12_noTable
set_option maxRecDepth 20000 in
theorem ggX12_taken_X12_many : GoodIn wsX12_taken wsX12_many := goodIn_r _ [16, 2, 17, 18, 19, 20, 21, 22, 23, 24, 25, 26, 27, 28, 29, 30, 31, 32, 33, 34, 35, 36, 37, 38, 39, 40, 41, 42, 43, 44, 45, 46] (by decide +kernel) (by decide +kernel)
set_option maxRecDepth 20000 in
theorem gX12_taken_X12_many : GoodIn wsX12_taken (wsV RX12 88 RX12 yX12_many wsX12_many) := goodIn_app (goodIn_of _ (by decide +kernel)) ggX12_taken_X12_many
theorem dX12_taken_0 : decode cX12_taken 0 = .ok (.aload_n 0, 1) := by decide +kernel
theorem dX12_taken_1 : decode cX12_taken 1 = .ok (.iconst 0, 1) := by decide +kernel
theorem dX12_taken_2 : decode cX12_taken 2 = .ok (.putfield 1, 3) := by decide +kernel
theorem dX12_taken_5 : decode cX12_taken 5 = .ok (.aload_n 0, 1) := by decide +kernel
theorem dX12_taken_6 : decode cX12_taken 6 = .ok (.iconst 1, 1) := by decide +kernel
theorem dX12_taken_7 : decode cX12_taken 7 = .ok (.invokevirtual 179, 3) := by decide +kernel
theorem dX12_taken_10 : decode cX12_taken 10 = .ok (.ifCond .eq 5, 3) := by decide +kernel
theorem dX12_taken_13 : decode cX12_taken 13 = .ok (.fconst 0, 1) := by decide +kernel
theorem dX12_taken_14 : decode cX12_taken 14 = .ok (.freturn, 1) := by decide +kernel
theorem dX12_taken_15 : decode cX12_taken 15 = .ok (.iconst 0, 1) := by decide +kernel
theorem dX12_taken_16 : decode cX12_taken 16 = .ok (.istore_n 1, 1) := by decide +kernel
theorem dX12_taken_17 : decode cX12_taken 17 = .ok (.iconst 0, 1) := by decide +kernel
theorem dX12_taken_18 : decode cX12_taken 18 = .ok (.istore_n 2, 1) := by decide +kernel
theorem dX12_taken_19 : decode cX12_taken 19 = .ok (.iload_n 2, 1) := by decide +kernel
theorem dX12_taken_20 : decode cX12_taken 20 = .ok (.aload_n 0, 1) := by decide +kernel
theorem dX12_taken_21 : decode cX12_taken 21 = .ok (.invokevirtual 88, 3) := by decide +kernel
theorem dX12_taken_24 : decode cX12_taken 24 = .ok (.if_icmp .ge 23, 3) := by decide +kernel
theorem dX12_taken_27 : decode cX12_taken 27 = .ok (.iload_n 1, 1) := by decide +kernel
theorem dX12_taken_28 : decode cX12_taken 28 = .ok (.iconst 1, 1) := by decide +kernel
theorem dX12_taken_29 : decode cX12_taken 29 = .ok (.aload_n 0, 1) := by decide +kernel
theorem dX12_taken_30 : decode cX12_taken 30 = .ok (.getfield 13, 3) := by decide +kernel
theorem dX12_taken_33 : decode cX12_taken 33 = .ok (.bipush 36, 2) := by decide +kernel
theorem dX12_taken_35 : decode cX12_taken 35 = .ok (.iload_n 2, 1) := by decide +kernel
theorem dX12_taken_36 : decode cX12_taken 36 = .ok (.iadd, 1) := by decide +kernel
theorem dX12_taken_37 : decode cX12_taken 37 = .ok (.iaload, 1) := by decide +kernel
theorem dX12_taken_38 : decode cX12_taken 38 = .ok (.iadd, 1) := by decide +kernel
theorem dX12_taken_39 : decode cX12_taken 39 = .ok (.iadd, 1) := by decide +kernel
theorem dX12_taken_40 : decode cX12_taken 40 = .ok (.istore_n 1, 1) := by decide +kernel
theorem dX12_taken_41 : decode cX12_taken 41 = .ok (.iinc 2 1, 3) := by decide +kernel
theorem dX12_taken_44 : decode cX12_taken 44 = .ok (.goto (-25), 3) := by decide +kernel
theorem dX12_taken_47 : decode cX12_taken 47 = .ok (.iload_n 1, 1) := by decide +kernel
theorem dX12_taken_48 : decode cX12_taken 48 = .ok (.i2f, 1) := by decide +kernel
theorem dX12_taken_49 : decode cX12_taken 49 = .ok (.ldc_w 322, 3) := by decide +kernel
theorem dX12_taken_52 : decode cX12_taken 52 = .ok (.fdiv, 1) := by decide +kernel
theorem dX12_taken_53 : decode cX12_taken 53 = .ok (.freturn, 1) := by decide +kernel
theorem dX12_errors_0 : decode cX12_errors 0 = .ok (.aload_n 0, 1) := by decide +kernel
theorem dX12_errors_1 : decode cX12_errors 1 = .ok (.iconst 0, 1) := by decide +kernel
theorem dX12_errors_2 : decode cX12_errors 2 = .ok (.putfield 1, 3) := by decide +kernel
theorem dX12_errors_5 : decode cX12_errors 5 = .ok (.iconst 0, 1) := by decide +kernel
theorem dX12_errors_6 : decode cX12_errors 6 = .ok (.ireturn, 1) := by decide +kernel
theorem dJ6_bitCount_0f7a4_0 : decode cJ6_bitCount_0f7a4 0 = .ok (.iload_n 0, 1) := by decide +kernel
theorem dJ6_bitCount_0f7a4_1 : decode cJ6_bitCount_0f7a4 1 = .ok (.iload_n 0, 1) := by decide +kernel
theorem dJ6_bitCount_0f7a4_2 : decode cJ6_bitCount_0f7a4 2 = .ok (.iconst 1, 1) := by decide +kernel
theorem dJ6_bitCount_0f7a4_3 : decode cJ6_bitCount_0f7a4 3 = .ok (.iushr, 1) := by decide +kernel
theorem dJ6_bitCount_0f7a4_4 : decode cJ6_bitCount_0f7a4 4 = .ok (.ldc_w 265, 3) := by decide +kernel
theorem dJ6_bitCount_0f7a4_7 : decode cJ6_bitCount_0f7a4 7 = .ok (.iand, 1) := by decide +kernel
theorem dJ6_bitCount_0f7a4_8 : decode cJ6_bitCount_0f7a4 8 = .ok (.isub, 1) := by decide +kernel
theorem dJ6_bitCount_0f7a4_9 : decode cJ6_bitCount_0f7a4 9 = .ok (.istore_n 0, 1) := by decide +kernel
theorem dJ6_bitCount_0f7a4_10 : decode cJ6_bitCount_0f7a4 10 = .ok (.iload_n 0, 1) := by decide +kernel
theorem dJ6_bitCount_0f7a4_11 : decode cJ6_bitCount_0f7a4 11 = .ok (.ldc_w 266, 3) := by decide +kernel
theorem dJ6_bitCount_0f7a4_14 : decode cJ6_bitCount_0f7a4 14 = .ok (.iand, 1) := by decide +kernel
theorem dJ6_bitCount_0f7a4_15 : decode cJ6_bitCount_0f7a4 15 = .ok (.iload_n 0, 1) := by decide +kernel
theorem dJ6_bitCount_0f7a4_16 : decode cJ6_bitCount_0f7a4 16 = .ok (.iconst 2, 1) := by decide +kernel
theorem dJ6_bitCount_0f7a4_17 : decode cJ6_bitCount_0f7a4 17 = .ok (.iushr, 1) := by decide +kernel
theorem dJ6_bitCount_0f7a4_18 : decode cJ6_bitCount_0f7a4 18 = .ok (.ldc_w 266, 3) := by decide +kernel
theorem dJ6_bitCount_0f7a4_21 : decode cJ6_bitCount_0f7a4 21 = .ok (.iand, 1) := by decide +kernel
theorem dJ6_bitCount_0f7a4_22 : decode cJ6_bitCount_0f7a4 22 = .ok (.iadd, 1) := by decide +kernel
theorem dJ6_bitCount_0f7a4_23 : decode cJ6_bitCount_0f7a4 23 = .ok (.istore_n 0, 1) := by decide +kernel
theorem dJ6_bitCount_0f7a4_24 : decode cJ6_bitCount_0f7a4 24 = .ok (.iload_n 0, 1) := by decide +kernel
theorem dJ6_bitCount_0f7a4_25 : decode cJ6_bitCount_0f7a4 25 = .ok (.iload_n 0, 1) := by decide +kernel
theorem dJ6_bitCount_0f7a4_26 : decode cJ6_bitCount_0f7a4 26 = .ok (.iconst 4, 1) := by decide +kernel
theorem dJ6_bitCount_0f7a4_27 : decode cJ6_bitCount_0f7a4 27 = .ok (.iushr, 1) := by decide +kernel
theorem dJ6_bitCount_0f7a4_28 : decode cJ6_bitCount_0f7a4 28 = .ok (.iadd, 1) := by decide +kernel
theorem dJ6_bitCount_0f7a4_29 : decode cJ6_bitCount_0f7a4 29 = .ok (.ldc_w 267, 3) := by decide +kernel
theorem dJ6_bitCount_0f7a4_32 : decode cJ6_bitCount_0f7a4 32 = .ok (.iand, 1) := by decide +kernel
theorem dJ6_bitCount_0f7a4_33 : decode cJ6_bitCount_0f7a4 33 = .ok (.istore_n 0, 1) := by decide +kernel
theorem dJ6_bitCount_0f7a4_34 : decode cJ6_bitCount_0f7a4 34 = .ok (.iload_n 0, 1) := by decide +kernel
theorem dJ6_bitCount_0f7a4_35 : decode cJ6_bitCount_0f7a4 35 = .ok (.iload_n 0, 1) := by decide +kernel
theorem dJ6_bitCount_0f7a4_36 : decode cJ6_bitCount_0f7a4 36 = .ok (.bipush 8, 2) := by decide +kernel
theorem dJ6_bitCount_0f7a4_38 : decode cJ6_bitCount_0f7a4 38 = .ok (.iushr, 1) := by decide +kernel
theorem dJ6_bitCount_0f7a4_39 : decode cJ6_bitCount_0f7a4 39 = .ok (.iadd, 1) := by decide +kernel
theorem dJ6_bitCount_0f7a4_40 : decode cJ6_bitCount_0f7a4 40 = .ok (.istore_n 0, 1) := by decide +kernel
theorem dJ6_bitCount_0f7a4_41 : decode cJ6_bitCount_0f7a4 41 = .ok (.iload_n 0, 1) := by decide +kernel
theorem dJ6_bitCount_0f7a4_42 : decode cJ6_bitCount_0f7a4 42 = .ok (.iload_n 0, 1) := by decide +kernel
theorem dJ6_bitCount_0f7a4_43 : decode cJ6_bitCount_0f7a4 43 = .ok (.bipush 16, 2) := by decide +kernel
theorem dJ6_bitCount_0f7a4_45 : decode cJ6_bitCount_0f7a4 45 = .ok (.iushr, 1) := by decide +kernel
theorem dJ6_bitCount_0f7a4_46 : decode cJ6_bitCount_0f7a4 46 = .ok (.iadd, 1) := by decide +kernel
theorem dJ6_bitCount_0f7a4_47 : decode cJ6_bitCount_0f7a4 47 = .ok (.istore_n 0, 1) := by decide +kernel
theorem dJ6_bitCount_0f7a4_48 : decode cJ6_bitCount_0f7a4 48 = .ok (.iload_n 0, 1) := by decide +kernel
theorem dJ6_bitCount_0f7a4_49 : decode cJ6_bitCount_0f7a4 49 = .ok (.bipush 63, 2) := by decide +kernel
theorem dJ6_bitCount_0f7a4_51 : decode cJ6_bitCount_0f7a4 51 = .ok (.iand, 1) := by decide +kernel
theorem dJ6_bitCount_0f7a4_52 : decode cJ6_bitCount_0f7a4 52 = .ok (.ireturn, 1) := by decide +kernel
theorem dJ9_floorMod_7cf53_0 : decode cJ9_floorMod_7cf53 0 = .ok (.iload_n 0, 1) := by decide +kernel
theorem dJ9_floorMod_7cf53_1 : decode cJ9_floorMod_7cf53 1 = .ok (.iload_n 1, 1) := by decide +kernel
theorem dJ9_floorMod_7cf53_2 : decode cJ9_floorMod_7cf53 2 = .ok (.irem, 1) := by decide +kernel
theorem dJ9_floorMod_7cf53_3 : decode cJ9_floorMod_7cf53 3 = .ok (.istore_n 2, 1) := by decide +kernel
theorem dJ9_floorMod_7cf53_4 : decode cJ9_floorMod_7cf53 4 = .ok (.iload_n 0, 1) := by decide +kernel
theorem dJ9_floorMod_7cf53_5 : decode cJ9_floorMod_7cf53 5 = .ok (.iload_n 1, 1) := by decide +kernel
theorem dJ9_floorMod_7cf53_6 : decode cJ9_floorMod_7cf53 6 = .ok (.ixor, 1) := by decide +kernel
theorem dJ9_floorMod_7cf53_7 : decode cJ9_floorMod_7cf53 7 = .ok (.ifCond .ge 11, 3) := by decide +kernel
theorem dJ9_floorMod_7cf53_10 : decode cJ9_floorMod_7cf53 10 = .ok (.iload_n 2, 1) := by decide +kernel
theorem dJ9_floorMod_7cf53_11 : decode cJ9_floorMod_7cf53 11 = .ok (.ifCond .eq 7, 3) := by decide +kernel
theorem dJ9_floorMod_7cf53_14 : decode cJ9_floorMod_7cf53 14 = .ok (.iload_n 2, 1) := by decide +kernel
theorem dJ9_floorMod_7cf53_15 : decode cJ9_floorMod_7cf53 15 = .ok (.iload_n 1, 1) := by decide +kernel
theorem dJ9_floorMod_7cf53_16 : decode cJ9_floorMod_7cf53 16 = .ok (.iadd, 1) := by decide +kernel
theorem dJ9_floorMod_7cf53_17 : decode cJ9_floorMod_7cf53 17 = .ok (.ireturn, 1) := by decide +kernel
theorem dJ9_floorMod_7cf53_18 : decode cJ9_floorMod_7cf53 18 = .ok (.iload_n 2, 1) := by decide +kernel
theorem dJ9_floorMod_7cf53_19 : decode cJ9_floorMod_7cf53 19 = .ok (.ireturn, 1) := by decide +kernel
theorem dJ9_max_7cf53_0 : decode cJ9_max_7cf53 0 = .ok (.iload_n 0, 1) := by decide +kernel
theorem dJ9_max_7cf53_1 : decode cJ9_max_7cf53 1 = .ok (.iload_n 1, 1) := by decide +kernel
theorem dJ9_max_7cf53_2 : decode cJ9_max_7cf53 2 = .ok (.if_icmp .lt 7, 3) := by decide +kernel
theorem dJ9_max_7cf53_5 : decode cJ9_max_7cf53 5 = .ok (.iload_n 0, 1) := by decide +kernel
theorem dJ9_max_7cf53_6 : decode cJ9_max_7cf53 6 = .ok (.goto 4, 3) := by decide +kernel
theorem dJ9_max_7cf53_9 : decode cJ9_max_7cf53 9 = .ok (.iload_n 1, 1) := by decide +kernel
theorem dJ9_max_7cf53_10 : decode cJ9_max_7cf53 10 = .ok (.ireturn, 1) := by decide +kernel
theorem dJ9_min_7cf53_0 : decode cJ9_min_7cf53 0 = .ok (.iload_n 0, 1) := by decide +kernel
theorem dJ9_min_7cf53_1 : decode cJ9_min_7cf53 1 = .ok (.iload_n 1, 1) := by decide +kernel
theorem dJ9_min_7cf53_2 : decode cJ9_min_7cf53 2 = .ok (.if_icmp .gt 7, 3) := by decide +kernel
theorem dJ9_min_7cf53_5 : decode cJ9_min_7cf53 5 = .ok (.iload_n 0, 1) := by decide +kernel
theorem dJ9_min_7cf53_6 : decode cJ9_min_7cf53 6 = .ok (.goto 4, 3) := by decide +kernel
theorem dJ9_min_7cf53_9 : decode cJ9_min_7cf53 9 = .ok (.iload_n 1, 1) := by decide +kernel
theorem dJ9_min_7cf53_10 : decode cJ9_min_7cf53 10 = .ok (.ireturn, 1) := by decide +kernel
set_option maxRecDepth 20000 in
theorem ggJ0_charAt_5068e_J0_isLatin1_aae02 : GoodIn wsJ0_charAt_5068e wsJ0_isLatin1_aae02 := goodIn_r _ [6, 7, 8] (by decide +kernel) (by decide +kernel)
set_option maxRecDepth 20000 in
theorem gJ0_charAt_5068e_J0_isLatin1_aae02 : GoodIn wsJ0_charAt_5068e (wsV RJ0 492 RJ0 yJ0_isLatin1_aae02 wsJ0_isLatin1_aae02) := goodIn_app (goodIn_of _ (by decide +kernel)) ggJ0_charAt_5068e_J0_isLatin1_aae02
set_option maxRecDepth 20000 in
theorem ggJ0_charAt_5068e_J1_charAt_3b067 : GoodIn wsJ0_charAt_5068e wsJ1_charAt_3b067 := goodIn_r _ [12, 13, 14, 5, 15, 16, 17, 18, 19, 20] (by decide +kernel) (by decide +kernel)
set_option maxRecDepth 20000 in
theorem gJ0_charAt_5068e_J1_charAt_3b067 : GoodIn wsJ0_charAt_5068e (va_wsS RJ0 495 yJ1_charAt_3b067 wsJ1_charAt_3b067) := goodIn_app (goodIn_of _ (by decide +kernel)) ggJ0_charAt_5068e_J1_charAt_3b067
set_option maxRecDepth 20000 in
theorem ggJ0_charAt_5068e_J2_charAt_3b067 : GoodIn wsJ0_charAt_5068e wsJ2_charAt_3b067 := goodIn_r _ [24, 25, 26, 23, 27, 28, 29, 30, 31, 14, 5, 15, 16, 17, 18, 19, 20, 32, 33, 34, 35, 36, 37] (by decide +kernel) (by decide +kernel)
set_option maxRecDepth 20000 in
theorem gJ0_charAt_5068e_J2_charAt_3b067 : GoodIn wsJ0_charAt_5068e (va_wsS RJ0 498 yJ2_charAt_3b067 wsJ2_charAt_3b067) := goodIn_app (goodIn_of _ (by decide +kernel)) ggJ0_charAt_5068e_J2_charAt_3b067
theorem dJ0_charAt_5068e_0 : decode cJ0_charAt_5068e 0 = .ok (.aload_n 0, 1) := by decide +kernel
theorem dJ0_charAt_5068e_1 : decode cJ0_charAt_5068e 1 = .ok (.invokevirtual 492, 3) := by decide +kernel
theorem dJ0_charAt_5068e_4 : decode cJ0_charAt_5068e 4 = .ok (.ifCond .eq 12, 3) := by decide +kernel
theorem dJ0_charAt_5068e_7 : decode cJ0_charAt_5068e 7 = .ok (.aload_n 0, 1) := by decide +kernel
theorem dJ0_charAt_5068e_8 : decode cJ0_charAt_5068e 8 = .ok (.getfield 9, 3) := by decide +kernel
theorem dJ0_charAt_5068e_11 : decode cJ0_charAt_5068e 11 = .ok (.iload_n 1, 1) := by decide +kernel
theorem dJ0_charAt_5068e_12 : decode cJ0_charAt_5068e 12 = .ok (.invokestatic 495, 3) := by decide +kernel
theorem dJ0_charAt_5068e_15 : decode cJ0_charAt_5068e 15 = .ok (.ireturn, 1) := by decide +kernel
theorem dJ0_charAt_5068e_16 : decode cJ0_charAt_5068e 16 = .ok (.aload_n 0, 1) := by decide +kernel
theorem dJ0_charAt_5068e_17 : decode cJ0_charAt_5068e 17 = .ok (.getfield 9, 3) := by decide +kernel
theorem dJ0_charAt_5068e_20 : decode cJ0_charAt_5068e 20 = .ok (.iload_n 1, 1) := by decide +kernel
theorem dJ0_charAt_5068e_21 : decode cJ0_charAt_5068e 21 = .ok (.invokestatic 498, 3) := by decide +kernel
theorem dJ0_charAt_5068e_24 : decode cJ0_charAt_5068e 24 = .ok (.ireturn, 1) := by decide +kernel
theorem dJ0_isLatin1_aae02_0 : decode cJ0_isLatin1_aae02 0 = .ok (.getstatic 38, 3) := by decide +kernel
theorem dJ0_isLatin1_aae02_3 : decode cJ0_isLatin1_aae02 3 = .ok (.ifCond .eq 14, 3) := by decide +kernel
theorem dJ0_isLatin1_aae02_6 : decode cJ0_isLatin1_aae02 6 = .ok (.aload_n 0, 1) := by decide +kernel
theorem dJ0_isLatin1_aae02_7 : decode cJ0_isLatin1_aae02 7 = .ok (.getfield 15, 3) := by decide +kernel
theorem dJ0_isLatin1_aae02_10 : decode cJ0_isLatin1_aae02 10 = .ok (.ifCond .ne 7, 3) := by decide +kernel
theorem dJ0_isLatin1_aae02_13 : decode cJ0_isLatin1_aae02 13 = .ok (.iconst 1, 1) := by decide +kernel
theorem dJ0_isLatin1_aae02_14 : decode cJ0_isLatin1_aae02 14 = .ok (.goto 4, 3) := by decide +kernel
theorem dJ0_isLatin1_aae02_17 : decode cJ0_isLatin1_aae02 17 = .ok (.iconst 0, 1) := by decide +kernel
theorem dJ0_isLatin1_aae02_18 : decode cJ0_isLatin1_aae02 18 = .ok (.ireturn, 1) := by decide +kernel
set_option maxRecDepth 20000 in
theorem ggJ0_checkIndex_df160_J3_checkIndex_8e157 : GoodIn wsJ0_checkIndex_df160 wsJ3_checkIndex_8e157 := goodIn_r _ [5] (by decide +kernel) (by decide +kernel)
set_option maxRecDepth 20000 in
theorem gJ0_checkIndex_df160_J3_checkIndex_8e157 : GoodIn wsJ0_checkIndex_df160 (va_wsS RJ0 1059 yJ3_checkIndex_8e157 wsJ3_checkIndex_8e157) := goodIn_app (goodIn_of _ (by decide +kernel)) ggJ0_checkIndex_df160_J3_checkIndex_8e157
theorem dJ0_checkIndex_df160_0 : decode cJ0_checkIndex_df160 0 = .ok (.iload_n 0, 1) := by decide +kernel
theorem dJ0_checkIndex_df160_1 : decode cJ0_checkIndex_df160 1 = .ok (.iload_n 1, 1) := by decide +kernel
theorem dJ0_checkIndex_df160_2 : decode cJ0_checkIndex_df160 2 = .ok (.getstatic 1053, 3) := by decide +kernel
theorem dJ0_checkIndex_df160_5 : decode cJ0_checkIndex_df160 5 = .ok (.invokestatic 1059, 3) := by decide +kernel
theorem dJ0_checkIndex_df160_8 : decode cJ0_checkIndex_df160 8 = .ok (.pop, 1) := by decide +kernel
theorem dJ0_checkIndex_df160_9 : decode cJ0_checkIndex_df160 9 = .ok (.return_, 1) := by decide +kernel
set_option maxRecDepth 20000 in
theorem ggJ1_charAt_3b067_J0_checkIndex_df160 : GoodIn wsJ1_charAt_3b067 wsJ0_checkIndex_df160 := goodIn_r _ [4, 5, 6, 7, 8, 9] (by decide +kernel) (by decide +kernel)
set_option maxRecDepth 20000 in
theorem gJ1_charAt_3b067_J0_checkIndex_df160 : GoodIn wsJ1_charAt_3b067 (va_wsS RJ1 9 yJ0_checkIndex_df160 wsJ0_checkIndex_df160) := goodIn_app (goodIn_of _ (by decide +kernel)) ggJ1_charAt_3b067_J0_checkIndex_df160
theorem dJ1_charAt_3b067_0 : decode cJ1_charAt_3b067 0 = .ok (.iload_n 1, 1) := by decide +kernel
theorem dJ1_charAt_3b067_1 : decode cJ1_charAt_3b067 1 = .ok (.aload_n 0, 1) := by decide +kernel
theorem dJ1_charAt_3b067_2 : decode cJ1_charAt_3b067 2 = .ok (.arraylength, 1) := by decide +kernel
theorem dJ1_charAt_3b067_3 : decode cJ1_charAt_3b067 3 = .ok (.invokestatic 9, 3) := by decide +kernel
theorem dJ1_charAt_3b067_6 : decode cJ1_charAt_3b067 6 = .ok (.aload_n 0, 1) := by decide +kernel
theorem dJ1_charAt_3b067_7 : decode cJ1_charAt_3b067 7 = .ok (.iload_n 1, 1) := by decide +kernel
theorem dJ1_charAt_3b067_8 : decode cJ1_charAt_3b067 8 = .ok (.baload, 1) := by decide +kernel
theorem dJ1_charAt_3b067_9 : decode cJ1_charAt_3b067 9 = .ok (.sipush 255, 3) := by decide +kernel
theorem dJ1_charAt_3b067_12 : decode cJ1_charAt_3b067 12 = .ok (.iand, 1) := by decide +kernel
theorem dJ1_charAt_3b067_13 : decode cJ1_charAt_3b067 13 = .ok (.i2c, 1) := by decide +kernel
theorem dJ1_charAt_3b067_14 : decode cJ1_charAt_3b067 14 = .ok (.ireturn, 1) := by decide +kernel
set_option maxRecDepth 20000 in
theorem ggJ2_getChar_3b067_J2_length_9d52b : GoodIn wsJ2_getChar_3b067 wsJ2_length_9d52b := goodIn_r _ [7] (by decide +kernel) (by decide +kernel)
set_option maxRecDepth 20000 in
theorem gJ2_getChar_3b067_J2_length_9d52b : GoodIn wsJ2_getChar_3b067 (va_wsS RJ2 48 yJ2_length_9d52b wsJ2_length_9d52b) := goodIn_app (goodIn_of _ (by decide +kernel)) ggJ2_getChar_3b067_J2_length_9d52b
theorem dJ2_getChar_3b067_0 : decode cJ2_getChar_3b067 0 = .ok (.getstatic 44, 3) := by decide +kernel
theorem dJ2_getChar_3b067_3 : decode cJ2_getChar_3b067 3 = .ok (.ifCond .ne 25, 3) := by decide +kernel
theorem dJ2_getChar_3b067_6 : decode cJ2_getChar_3b067 6 = .ok (.iload_n 1, 1) := by decide +kernel
theorem dJ2_getChar_3b067_7 : decode cJ2_getChar_3b067 7 = .ok (.ifCond .lt 11, 3) := by decide +kernel
theorem dJ2_getChar_3b067_10 : decode cJ2_getChar_3b067 10 = .ok (.iload_n 1, 1) := by decide +kernel
theorem dJ2_getChar_3b067_11 : decode cJ2_getChar_3b067 11 = .ok (.aload_n 0, 1) := by decide +kernel
theorem dJ2_getChar_3b067_12 : decode cJ2_getChar_3b067 12 = .ok (.invokestatic 48, 3) := by decide +kernel
theorem dJ2_getChar_3b067_15 : decode cJ2_getChar_3b067 15 = .ok (.if_icmp .lt 13, 3) := by decide +kernel
theorem dJ2_getChar_3b067_18 : decode cJ2_getChar_3b067 18 = .ok (.new 52, 3) := by decide +kernel
theorem dJ2_getChar_3b067_21 : decode cJ2_getChar_3b067 21 = .ok (.dup, 1) := by decide +kernel
theorem dJ2_getChar_3b067_22 : decode cJ2_getChar_3b067 22 = .ok (.ldc 54, 2) := by decide +kernel
theorem dJ2_getChar_3b067_24 : decode cJ2_getChar_3b067 24 = .ok (.invokespecial 56, 3) := by decide +kernel
theorem dJ2_getChar_3b067_27 : decode cJ2_getChar_3b067 27 = .ok (.athrow, 1) := by decide +kernel
theorem dJ2_getChar_3b067_28 : decode cJ2_getChar_3b067 28 = .ok (.iload_n 1, 1) := by decide +kernel
theorem dJ2_getChar_3b067_29 : decode cJ2_getChar_3b067 29 = .ok (.iconst 1, 1) := by decide +kernel
theorem dJ2_getChar_3b067_30 : decode cJ2_getChar_3b067 30 = .ok (.ishl, 1) := by decide +kernel
theorem dJ2_getChar_3b067_31 : decode cJ2_getChar_3b067 31 = .ok (.istore_n 1, 1) := by decide +kernel
theorem dJ2_getChar_3b067_32 : decode cJ2_getChar_3b067 32 = .ok (.aload_n 0, 1) := by decide +kernel
theorem dJ2_getChar_3b067_33 : decode cJ2_getChar_3b067 33 = .ok (.iload_n 1, 1) := by decide +kernel
theorem dJ2_getChar_3b067_34 : decode cJ2_getChar_3b067 34 = .ok (.iinc 1 1, 3) := by decide +kernel
theorem dJ2_getChar_3b067_37 : decode cJ2_getChar_3b067 37 = .ok (.baload, 1) := by decide +kernel
theorem dJ2_getChar_3b067_38 : decode cJ2_getChar_3b067 38 = .ok (.sipush 255, 3) := by decide +kernel
theorem dJ2_getChar_3b067_41 : decode cJ2_getChar_3b067 41 = .ok (.iand, 1) := by decide +kernel
theorem dJ2_getChar_3b067_42 : decode cJ2_getChar_3b067 42 = .ok (.getstatic 59, 3) := by decide +kernel
theorem dJ2_getChar_3b067_45 : decode cJ2_getChar_3b067 45 = .ok (.ishl, 1) := by decide +kernel
theorem dJ2_getChar_3b067_46 : decode cJ2_getChar_3b067 46 = .ok (.aload_n 0, 1) := by decide +kernel
theorem dJ2_getChar_3b067_47 : decode cJ2_getChar_3b067 47 = .ok (.iload_n 1, 1) := by decide +kernel
theorem dJ2_getChar_3b067_48 : decode cJ2_getChar_3b067 48 = .ok (.baload, 1) := by decide +kernel
theorem dJ2_getChar_3b067_49 : decode cJ2_getChar_3b067 49 = .ok (.sipush 255, 3) := by decide +kernel
theorem dJ2_getChar_3b067_52 : decode cJ2_getChar_3b067 52 = .ok (.iand, 1) := by decide +kernel
theorem dJ2_getChar_3b067_53 : decode cJ2_getChar_3b067 53 = .ok (.getstatic 63, 3) := by decide +kernel
theorem dJ2_getChar_3b067_56 : decode cJ2_getChar_3b067 56 = .ok (.ishl, 1) := by decide +kernel
theorem dJ2_getChar_3b067_57 : decode cJ2_getChar_3b067 57 = .ok (.ior, 1) := by decide +kernel
theorem dJ2_getChar_3b067_58 : decode cJ2_getChar_3b067 58 = .ok (.i2c, 1) := by decide +kernel
theorem dJ2_getChar_3b067_59 : decode cJ2_getChar_3b067 59 = .ok (.ireturn, 1) := by decide +kernel
theorem dJ2_length_9d52b_0 : decode cJ2_length_9d52b 0 = .ok (.aload_n 0, 1) := by decide +kernel
theorem dJ2_length_9d52b_1 : decode cJ2_length_9d52b 1 = .ok (.arraylength, 1) := by decide +kernel
theorem dJ2_length_9d52b_2 : decode cJ2_length_9d52b 2 = .ok (.iconst 1, 1) := by decide +kernel
theorem dJ2_length_9d52b_3 : decode cJ2_length_9d52b 3 = .ok (.ishr, 1) := by decide +kernel
theorem dJ2_length_9d52b_4 : decode cJ2_length_9d52b 4 = .ok (.ireturn, 1) := by decide +kernel
set_option maxRecDepth 20000 in
theorem ggJ2_charAt_3b067_J2_checkIndex_2214a : GoodIn wsJ2_charAt_3b067 wsJ2_checkIndex_2214a := goodIn_r _ [4, 5, 6, 3, 7, 8, 9, 10, 11, 12, 13, 14, 15, 16] (by decide +kernel) (by decide +kernel)
set_option maxRecDepth 20000 in
theorem gJ2_charAt_3b067_J2_checkIndex_2214a : GoodIn wsJ2_charAt_3b067 (va_wsS RJ2 67 yJ2_checkIndex_2214a wsJ2_checkIndex_2214a) := goodIn_app (goodIn_of _ (by decide +kernel)) ggJ2_charAt_3b067_J2_checkIndex_2214a
set_option maxRecDepth 20000 in
theorem ggJ2_charAt_3b067_J2_getChar_3b067 : GoodIn wsJ2_charAt_3b067 wsJ2_getChar_3b067 := goodIn_r _ [19, 20, 21, 22, 5, 6, 3, 7] (by decide +kernel) (by decide +kernel)
set_option maxRecDepth 20000 in
theorem gJ2_charAt_3b067_J2_getChar_3b067 : GoodIn wsJ2_charAt_3b067 (va_wsS RJ2 71 yJ2_getChar_3b067 wsJ2_getChar_3b067) := goodIn_app (goodIn_of _ (by decide +kernel)) ggJ2_charAt_3b067_J2_getChar_3b067
theorem dJ2_charAt_3b067_0 : decode cJ2_charAt_3b067 0 = .ok (.iload_n 1, 1) := by decide +kernel
theorem dJ2_charAt_3b067_1 : decode cJ2_charAt_3b067 1 = .ok (.aload_n 0, 1) := by decide +kernel
theorem dJ2_charAt_3b067_2 : decode cJ2_charAt_3b067 2 = .ok (.invokestatic 67, 3) := by decide +kernel
theorem dJ2_charAt_3b067_5 : decode cJ2_charAt_3b067 5 = .ok (.aload_n 0, 1) := by decide +kernel
theorem dJ2_charAt_3b067_6 : decode cJ2_charAt_3b067 6 = .ok (.iload_n 1, 1) := by decide +kernel
theorem dJ2_charAt_3b067_7 : decode cJ2_charAt_3b067 7 = .ok (.invokestatic 71, 3) := by decide +kernel
theorem dJ2_charAt_3b067_10 : decode cJ2_charAt_3b067 10 = .ok (.ireturn, 1) := by decide +kernel
set_option maxRecDepth 20000 in
theorem ggJ2_checkIndex_2214a_J2_length_9d52b : GoodIn wsJ2_checkIndex_2214a wsJ2_length_9d52b := goodIn_r _ [4] (by decide +kernel) (by decide +kernel)
set_option maxRecDepth 20000 in
theorem gJ2_checkIndex_2214a_J2_length_9d52b : GoodIn wsJ2_checkIndex_2214a (va_wsS RJ2 48 yJ2_length_9d52b wsJ2_length_9d52b) := goodIn_app (goodIn_of _ (by decide +kernel)) ggJ2_checkIndex_2214a_J2_length_9d52b
set_option maxRecDepth 20000 in
theorem ggJ2_checkIndex_2214a_J0_checkIndex_df160 : GoodIn wsJ2_checkIndex_2214a wsJ0_checkIndex_df160 := goodIn_r _ [8, 9, 10, 11, 12, 13] (by decide +kernel) (by decide +kernel)
set_option maxRecDepth 20000 in
theorem gJ2_checkIndex_2214a_J0_checkIndex_df160 : GoodIn wsJ2_checkIndex_2214a (va_wsS RJ2 414 yJ0_checkIndex_df160 wsJ0_checkIndex_df160) := goodIn_app (goodIn_of _ (by decide +kernel)) ggJ2_checkIndex_2214a_J0_checkIndex_df160
theorem dJ2_checkIndex_2214a_0 : decode cJ2_checkIndex_2214a 0 = .ok (.iload_n 0, 1) := by decide +kernel
theorem dJ2_checkIndex_2214a_1 : decode cJ2_checkIndex_2214a 1 = .ok (.aload_n 1, 1) := by decide +kernel
theorem dJ2_checkIndex_2214a_2 : decode cJ2_checkIndex_2214a 2 = .ok (.invokestatic 48, 3) := by decide +kernel
theorem dJ2_checkIndex_2214a_5 : decode cJ2_checkIndex_2214a 5 = .ok (.invokestatic 414, 3) := by decide +kernel
theorem dJ2_checkIndex_2214a_8 : decode cJ2_checkIndex_2214a 8 = .ok (.return_, 1) := by decide +kernel
theorem dJ3_checkIndex_8e157_0 : decode cJ3_checkIndex_8e157 0 = .ok (.iload_n 0, 1) := by decide +kernel
theorem dJ3_checkIndex_8e157_1 : decode cJ3_checkIndex_8e157 1 = .ok (.ifCond .lt 8, 3) := by decide +kernel
theorem dJ3_checkIndex_8e157_4 : decode cJ3_checkIndex_8e157 4 = .ok (.iload_n 0, 1) := by decide +kernel
theorem dJ3_checkIndex_8e157_5 : decode cJ3_checkIndex_8e157 5 = .ok (.iload_n 1, 1) := by decide +kernel
theorem dJ3_checkIndex_8e157_6 : decode cJ3_checkIndex_8e157 6 = .ok (.if_icmp .lt 10, 3) := by decide +kernel
theorem dJ3_checkIndex_8e157_9 : decode cJ3_checkIndex_8e157 9 = .ok (.aload_n 2, 1) := by decide +kernel
theorem dJ3_checkIndex_8e157_10 : decode cJ3_checkIndex_8e157 10 = .ok (.iload_n 0, 1) := by decide +kernel
theorem dJ3_checkIndex_8e157_11 : decode cJ3_checkIndex_8e157 11 = .ok (.iload_n 1, 1) := by decide +kernel
theorem dJ3_checkIndex_8e157_12 : decode cJ3_checkIndex_8e157 12 = .ok (.invokestatic 95, 3) := by decide +kernel
theorem dJ3_checkIndex_8e157_15 : decode cJ3_checkIndex_8e157 15 = .ok (.athrow, 1) := by decide +kernel
theorem dJ3_checkIndex_8e157_16 : decode cJ3_checkIndex_8e157 16 = .ok (.iload_n 0, 1) := by decide +kernel
theorem dJ3_checkIndex_8e157_17 : decode cJ3_checkIndex_8e157 17 = .ok (.ireturn, 1) := by decide +kernel
set_option maxRecDepth 20000 in
theorem ggL_lesson_X11_lesson : GoodIn wsL_lesson wsX11_lesson := goodIn_ca (goodIn_ca (goodIn_r _ [7, 8, 9, 10, 11, 12, 13, 14, 15, 6, 16, 17, 18, 19, 20, 21, 22, 23, 24, 25, 26, 27, 28, 29, 30, 31, 32, 33, 34, 35, 36, 37, 38, 39, 40, 41, 42, 43, 44, 45, 46, 47, 48, 49, 50, 51, 52, 53, 54, 55, 56, 57, 58, 59, 60, 61, 62, 63, 64, 65, 66, 67, 68, 69, 70, 71, 72, 73, 74, 75, 76, 77, 78, 79, 80, 81, 82, 83, 84, 85, 86, 87, 88, 89, 90, 91, 92] (by decide +kernel) (by decide +kernel)) (goodIn_sub (fun _ h => List.mem_cons_of_mem _ (List.mem_append_left _ (List.mem_append_right _ h))) (by decide +kernel))) (goodIn_sub (fun _ h => List.mem_cons_of_mem _ (List.mem_append_right _ h)) (by decide +kernel))
set_option maxRecDepth 20000 in
theorem gL_lesson_X11_lesson : GoodIn wsL_lesson (wsV RL 7 RX11 yX11_lesson wsX11_lesson) := goodIn_app (goodIn_of _ (by decide +kernel)) ggL_lesson_X11_lesson
theorem dL_lesson_0 : decode cL_lesson 0 = .ok (.aload 6, 2) := by decide +kernel
theorem dL_lesson_2 : decode cL_lesson 2 = .ok (.iconst 0, 1) := by decide +kernel
theorem dL_lesson_3 : decode cL_lesson 3 = .ok (.aload_n 0, 1) := by decide +kernel
theorem dL_lesson_4 : decode cL_lesson 4 = .ok (.iload_n 1, 1) := by decide +kernel
theorem dL_lesson_5 : decode cL_lesson 5 = .ok (.iload_n 2, 1) := by decide +kernel
theorem dL_lesson_6 : decode cL_lesson 6 = .ok (.iload_n 3, 1) := by decide +kernel
theorem dL_lesson_7 : decode cL_lesson 7 = .ok (.iload 4, 2) := by decide +kernel
theorem dL_lesson_9 : decode cL_lesson 9 = .ok (.iload 5, 2) := by decide +kernel
theorem dL_lesson_11 : decode cL_lesson 11 = .ok (.invokevirtual 7, 3) := by decide +kernel
theorem dL_lesson_14 : decode cL_lesson 14 = .ok (.i2l, 1) := by decide +kernel
theorem dL_lesson_15 : decode cL_lesson 15 = .ok (.lastore, 1) := by decide +kernel
theorem dL_lesson_16 : decode cL_lesson 16 = .ok (.goto 11, 3) := by decide +kernel
theorem dL_lesson_19 : decode cL_lesson 19 = .ok (.astore 7, 2) := by decide +kernel
theorem dL_lesson_21 : decode cL_lesson 21 = .ok (.iconst 1, 1) := by decide +kernel
theorem dL_lesson_22 : decode cL_lesson 22 = .ok (.ireturn, 1) := by decide +kernel
theorem dL_lesson_23 : decode cL_lesson 23 = .ok (.astore 7, 2) := by decide +kernel
theorem dL_lesson_25 : decode cL_lesson 25 = .ok (.iconst 2, 1) := by decide +kernel
theorem dL_lesson_26 : decode cL_lesson 26 = .ok (.ireturn, 1) := by decide +kernel
theorem dL_lesson_27 : decode cL_lesson 27 = .ok (.iconst 0, 1) := by decide +kernel
theorem dL_lesson_28 : decode cL_lesson 28 = .ok (.ireturn, 1) := by decide +kernel
set_option maxRecDepth 20000 in
theorem ggL_dropLesson_X11_dropLesson : GoodIn wsL_dropLesson wsX11_dropLesson := goodIn_ca (goodIn_r _ [6, 7, 8, 9, 10, 5, 11, 12, 13, 14, 15, 16, 17, 18, 19, 20, 21, 22, 23, 24, 25, 26, 27, 28, 29, 30, 31, 32, 33, 34, 35, 36, 37, 38, 39, 40, 41, 42, 43, 44, 45, 46, 47, 48, 49, 50, 51, 52, 53, 54, 55, 56, 57, 58, 59, 60, 61, 62, 63, 64, 65, 66, 67, 68, 69, 70, 71, 72, 73, 74, 75, 76, 77, 78, 79, 80, 81, 82, 83, 84, 85, 86, 87, 88, 89, 90, 91, 92, 93, 94, 95, 96, 97, 98, 99, 100, 101, 102, 103] (by decide +kernel) (by decide +kernel)) (goodIn_sub (fun _ h => List.mem_cons_of_mem _ (List.mem_append_right _ h)) (by decide +kernel))
set_option maxRecDepth 20000 in
theorem gL_dropLesson_X11_dropLesson : GoodIn wsL_dropLesson (wsV RL 17 RX11 yX11_dropLesson wsX11_dropLesson) := goodIn_app (goodIn_of _ (by decide +kernel)) ggL_dropLesson_X11_dropLesson
theorem dL_dropLesson_0 : decode cL_dropLesson 0 = .ok (.aload_n 2, 1) := by decide +kernel
theorem dL_dropLesson_1 : decode cL_dropLesson 1 = .ok (.iconst 0, 1) := by decide +kernel
theorem dL_dropLesson_2 : decode cL_dropLesson 2 = .ok (.aload_n 0, 1) := by decide +kernel
theorem dL_dropLesson_3 : decode cL_dropLesson 3 = .ok (.iload_n 1, 1) := by decide +kernel
theorem dL_dropLesson_4 : decode cL_dropLesson 4 = .ok (.invokevirtual 17, 3) := by decide +kernel
theorem dL_dropLesson_7 : decode cL_dropLesson 7 = .ok (.i2l, 1) := by decide +kernel
theorem dL_dropLesson_8 : decode cL_dropLesson 8 = .ok (.lastore, 1) := by decide +kernel
theorem dL_dropLesson_9 : decode cL_dropLesson 9 = .ok (.goto 6, 3) := by decide +kernel
theorem dL_dropLesson_12 : decode cL_dropLesson 12 = .ok (.astore_n 3, 1) := by decide +kernel
theorem dL_dropLesson_13 : decode cL_dropLesson 13 = .ok (.iconst 1, 1) := by decide +kernel
theorem dL_dropLesson_14 : decode cL_dropLesson 14 = .ok (.ireturn, 1) := by decide +kernel
theorem dL_dropLesson_15 : decode cL_dropLesson 15 = .ok (.iconst 0, 1) := by decide +kernel
theorem dL_dropLesson_16 : decode cL_dropLesson 16 = .ok (.ireturn, 1) := by decide +kernel
set_option maxRecDepth 20000 in
theorem ggL_lessonOf_X11_lessonOf : GoodIn wsL_lessonOf wsX11_lessonOf := goodIn_ca (goodIn_ca (goodIn_r _ [7, 8, 9, 10, 11, 6, 12, 13, 14, 15, 16, 17, 18, 19, 20, 21, 22, 23, 24, 25, 26, 27, 28, 29, 30, 31, 32, 33, 34, 35, 36, 37, 38, 39, 40, 41, 42, 43, 44, 45, 46, 47] (by decide +kernel) (by decide +kernel)) (goodIn_sub (fun _ h => List.mem_cons_of_mem _ (List.mem_append_left _ (List.mem_append_right _ h))) (by decide +kernel))) (goodIn_sub (fun _ h => List.mem_cons_of_mem _ (List.mem_append_right _ h)) (by decide +kernel))
set_option maxRecDepth 20000 in
theorem gL_lessonOf_X11_lessonOf : GoodIn wsL_lessonOf (wsV RL 23 RX11 yX11_lessonOf wsX11_lessonOf) := goodIn_app (goodIn_of _ (by decide +kernel)) ggL_lessonOf_X11_lessonOf
theorem dL_lessonOf_0 : decode cL_lessonOf 0 = .ok (.aload_n 3, 1) := by decide +kernel
theorem dL_lessonOf_1 : decode cL_lessonOf 1 = .ok (.iconst 0, 1) := by decide +kernel
theorem dL_lessonOf_2 : decode cL_lessonOf 2 = .ok (.aload_n 0, 1) := by decide +kernel
theorem dL_lessonOf_3 : decode cL_lessonOf 3 = .ok (.iload_n 1, 1) := by decide +kernel
theorem dL_lessonOf_4 : decode cL_lessonOf 4 = .ok (.iload_n 2, 1) := by decide +kernel
theorem dL_lessonOf_5 : decode cL_lessonOf 5 = .ok (.invokevirtual 23, 3) := by decide +kernel
theorem dL_lessonOf_8 : decode cL_lessonOf 8 = .ok (.i2l, 1) := by decide +kernel
theorem dL_lessonOf_9 : decode cL_lessonOf 9 = .ok (.lastore, 1) := by decide +kernel
theorem dL_lessonOf_10 : decode cL_lessonOf 10 = .ok (.goto 11, 3) := by decide +kernel
theorem dL_lessonOf_13 : decode cL_lessonOf 13 = .ok (.astore 4, 2) := by decide +kernel
theorem dL_lessonOf_15 : decode cL_lessonOf 15 = .ok (.iconst 1, 1) := by decide +kernel
theorem dL_lessonOf_16 : decode cL_lessonOf 16 = .ok (.ireturn, 1) := by decide +kernel
theorem dL_lessonOf_17 : decode cL_lessonOf 17 = .ok (.astore 4, 2) := by decide +kernel
theorem dL_lessonOf_19 : decode cL_lessonOf 19 = .ok (.iconst 2, 1) := by decide +kernel
theorem dL_lessonOf_20 : decode cL_lessonOf 20 = .ok (.ireturn, 1) := by decide +kernel
theorem dL_lessonOf_21 : decode cL_lessonOf 21 = .ok (.iconst 0, 1) := by decide +kernel
theorem dL_lessonOf_22 : decode cL_lessonOf 22 = .ok (.ireturn, 1) := by decide +kernel
set_option maxRecDepth 20000 in
theorem ggL_setSubjects_X11_setSubjects : GoodIn wsL_setSubjects wsX11_setSubjects := goodIn_ca (goodIn_ca (goodIn_r _ [7, 8, 9, 10, 11, 12, 13, 6, 14, 15, 16, 17, 18, 19, 20, 21, 22, 23, 24, 25, 26, 27, 28, 29, 30, 31, 32, 33, 34, 35, 36, 37, 38, 39, 40, 41, 42, 43, 44, 45, 46, 47, 48, 49, 50, 51, 52, 53, 54, 55, 56, 57, 58, 59, 60, 61, 62, 63, 64, 65, 66, 67, 68, 69, 70, 71, 72, 73, 74, 75, 76, 77, 78, 79, 80, 81, 82, 83, 84, 85, 86, 87, 88, 89, 90, 91, 92, 93, 94, 95, 96, 97, 98, 99, 100] (by decide +kernel) (by decide +kernel)) (goodIn_sub (fun _ h => List.mem_cons_of_mem _ (List.mem_append_left _ (List.mem_append_right _ h))) (by decide +kernel))) (goodIn_sub (fun _ h => List.mem_cons_of_mem _ (List.mem_append_right _ h)) (by decide +kernel))
set_option maxRecDepth 20000 in
theorem gL_setSubjects_X11_setSubjects : GoodIn wsL_setSubjects (wsV RL 27 RX11 yX11_setSubjects wsX11_setSubjects) := goodIn_app (goodIn_of _ (by decide +kernel)) ggL_setSubjects_X11_setSubjects
theorem dL_setSubjects_0 : decode cL_setSubjects 0 = .ok (.aload_n 3, 1) := by decide +kernel
theorem dL_setSubjects_1 : decode cL_setSubjects 1 = .ok (.iconst 0, 1) := by decide +kernel
theorem dL_setSubjects_2 : decode cL_setSubjects 2 = .ok (.aload_n 0, 1) := by decide +kernel
theorem dL_setSubjects_3 : decode cL_setSubjects 3 = .ok (.iload_n 1, 1) := by decide +kernel
theorem dL_setSubjects_4 : decode cL_setSubjects 4 = .ok (.iload_n 2, 1) := by decide +kernel
theorem dL_setSubjects_5 : decode cL_setSubjects 5 = .ok (.invokevirtual 27, 3) := by decide +kernel
theorem dL_setSubjects_8 : decode cL_setSubjects 8 = .ok (.i2l, 1) := by decide +kernel
theorem dL_setSubjects_9 : decode cL_setSubjects 9 = .ok (.lastore, 1) := by decide +kernel
theorem dL_setSubjects_10 : decode cL_setSubjects 10 = .ok (.goto 11, 3) := by decide +kernel
theorem dL_setSubjects_13 : decode cL_setSubjects 13 = .ok (.astore 4, 2) := by decide +kernel
theorem dL_setSubjects_15 : decode cL_setSubjects 15 = .ok (.iconst 1, 1) := by decide +kernel
theorem dL_setSubjects_16 : decode cL_setSubjects 16 = .ok (.ireturn, 1) := by decide +kernel
theorem dL_setSubjects_17 : decode cL_setSubjects 17 = .ok (.astore 4, 2) := by decide +kernel
theorem dL_setSubjects_19 : decode cL_setSubjects 19 = .ok (.iconst 2, 1) := by decide +kernel
theorem dL_setSubjects_20 : decode cL_setSubjects 20 = .ok (.ireturn, 1) := by decide +kernel
theorem dL_setSubjects_21 : decode cL_setSubjects 21 = .ok (.iconst 0, 1) := by decide +kernel
theorem dL_setSubjects_22 : decode cL_setSubjects 22 = .ok (.ireturn, 1) := by decide +kernel
set_option maxRecDepth 20000 in
theorem ggL_setRooms_X11_setRooms : GoodIn wsL_setRooms wsX11_setRooms := goodIn_ca (goodIn_r _ [6, 7, 8, 9, 10, 5, 11, 12, 13, 14, 15, 16, 17, 18, 19, 20, 21, 22, 23, 24, 25, 26, 27, 28, 29, 30, 31, 32, 33, 34, 35, 36, 37, 38, 39, 40, 41, 42, 43, 44, 45, 46, 47, 48, 49, 50, 51, 52, 53, 54, 55, 56, 57, 58, 59, 60, 61, 62, 63, 64, 65, 66, 67, 68, 69, 70, 71, 72, 73, 74, 75, 76, 77, 78, 79, 80, 81] (by decide +kernel) (by decide +kernel)) (goodIn_sub (fun _ h => List.mem_cons_of_mem _ (List.mem_append_right _ h)) (by decide +kernel))
set_option maxRecDepth 20000 in
theorem gL_setRooms_X11_setRooms : GoodIn wsL_setRooms (wsV RL 30 RX11 yX11_setRooms wsX11_setRooms) := goodIn_app (goodIn_of _ (by decide +kernel)) ggL_setRooms_X11_setRooms
theorem dL_setRooms_0 : decode cL_setRooms 0 = .ok (.aload_n 3, 1) := by decide +kernel
theorem dL_setRooms_1 : decode cL_setRooms 1 = .ok (.iconst 0, 1) := by decide +kernel
theorem dL_setRooms_2 : decode cL_setRooms 2 = .ok (.aload_n 0, 1) := by decide +kernel
theorem dL_setRooms_3 : decode cL_setRooms 3 = .ok (.iload_n 1, 1) := by decide +kernel
theorem dL_setRooms_4 : decode cL_setRooms 4 = .ok (.iload_n 2, 1) := by decide +kernel
theorem dL_setRooms_5 : decode cL_setRooms 5 = .ok (.invokevirtual 30, 3) := by decide +kernel
theorem dL_setRooms_8 : decode cL_setRooms 8 = .ok (.i2l, 1) := by decide +kernel
theorem dL_setRooms_9 : decode cL_setRooms 9 = .ok (.lastore, 1) := by decide +kernel
theorem dL_setRooms_10 : decode cL_setRooms 10 = .ok (.goto 7, 3) := by decide +kernel
theorem dL_setRooms_13 : decode cL_setRooms 13 = .ok (.astore 4, 2) := by decide +kernel
theorem dL_setRooms_15 : decode cL_setRooms 15 = .ok (.iconst 1, 1) := by decide +kernel
theorem dL_setRooms_16 : decode cL_setRooms 16 = .ok (.ireturn, 1) := by decide +kernel
theorem dL_setRooms_17 : decode cL_setRooms 17 = .ok (.iconst 0, 1) := by decide +kernel
theorem dL_setRooms_18 : decode cL_setRooms 18 = .ok (.ireturn, 1) := by decide +kernel
set_option maxRecDepth 20000 in
theorem ggL_wish_X11_wish : GoodIn wsL_wish wsX11_wish := goodIn_ca (goodIn_ca (goodIn_ca (goodIn_r _ [8, 9, 10, 11, 12, 13, 14, 15, 16, 7, 17, 18, 19, 20, 21, 22, 23, 24, 25, 26, 27, 28, 29, 30, 31, 32, 33, 34, 35, 36, 37, 38, 39, 40, 41, 42, 43, 44, 45, 46, 47, 48, 49, 50, 51, 52, 53, 54, 55, 56, 57, 58, 59, 60, 61, 62, 63, 64, 65, 66, 67, 68, 69, 70, 71, 72, 73, 74, 75, 76, 77, 78, 79, 80, 81, 82, 83, 84, 85, 86, 87, 88, 89, 90, 91, 92, 93, 94, 95, 96, 97, 98, 99] (by decide +kernel) (by decide +kernel)) (goodIn_sub (fun _ h => List.mem_cons_of_mem _ (List.mem_append_left _ (List.mem_append_left _ (List.mem_append_right _ h)))) (by decide +kernel))) (goodIn_sub (fun _ h => List.mem_cons_of_mem _ (List.mem_append_left _ (List.mem_append_right _ h))) (by decide +kernel))) (goodIn_sub (fun _ h => List.mem_cons_of_mem _ (List.mem_append_right _ h)) (by decide +kernel))
set_option maxRecDepth 20000 in
theorem gL_wish_X11_wish : GoodIn wsL_wish (wsV RL 33 RX11 yX11_wish wsX11_wish) := goodIn_app (goodIn_of _ (by decide +kernel)) ggL_wish_X11_wish
theorem dL_wish_0 : decode cL_wish 0 = .ok (.aload 5, 2) := by decide +kernel
theorem dL_wish_2 : decode cL_wish 2 = .ok (.iconst 0, 1) := by decide +kernel
theorem dL_wish_3 : decode cL_wish 3 = .ok (.aload_n 0, 1) := by decide +kernel
theorem dL_wish_4 : decode cL_wish 4 = .ok (.iload_n 1, 1) := by decide +kernel
theorem dL_wish_5 : decode cL_wish 5 = .ok (.iload_n 2, 1) := by decide +kernel
theorem dL_wish_6 : decode cL_wish 6 = .ok (.iload_n 3, 1) := by decide +kernel
theorem dL_wish_7 : decode cL_wish 7 = .ok (.iload 4, 2) := by decide +kernel
theorem dL_wish_9 : decode cL_wish 9 = .ok (.invokevirtual 33, 3) := by decide +kernel
theorem dL_wish_12 : decode cL_wish 12 = .ok (.i2l, 1) := by decide +kernel
theorem dL_wish_13 : decode cL_wish 13 = .ok (.lastore, 1) := by decide +kernel
theorem dL_wish_14 : decode cL_wish 14 = .ok (.goto 15, 3) := by decide +kernel
theorem dL_wish_17 : decode cL_wish 17 = .ok (.astore 6, 2) := by decide +kernel
theorem dL_wish_19 : decode cL_wish 19 = .ok (.iconst 1, 1) := by decide +kernel
theorem dL_wish_20 : decode cL_wish 20 = .ok (.ireturn, 1) := by decide +kernel
theorem dL_wish_21 : decode cL_wish 21 = .ok (.astore 6, 2) := by decide +kernel
theorem dL_wish_23 : decode cL_wish 23 = .ok (.iconst 2, 1) := by decide +kernel
theorem dL_wish_24 : decode cL_wish 24 = .ok (.ireturn, 1) := by decide +kernel
theorem dL_wish_25 : decode cL_wish 25 = .ok (.astore 6, 2) := by decide +kernel
theorem dL_wish_27 : decode cL_wish 27 = .ok (.iconst 3, 1) := by decide +kernel
theorem dL_wish_28 : decode cL_wish 28 = .ok (.ireturn, 1) := by decide +kernel
theorem dL_wish_29 : decode cL_wish 29 = .ok (.iconst 0, 1) := by decide +kernel
theorem dL_wish_30 : decode cL_wish 30 = .ok (.ireturn, 1) := by decide +kernel
set_option maxRecDepth 20000 in
theorem ggL_dropWish_X11_dropWish : GoodIn wsL_dropWish wsX11_dropWish := goodIn_ca (goodIn_r _ [6, 7, 8, 9, 10, 5, 11, 12, 13, 14, 15, 16, 17, 18, 19, 20, 21, 22, 23, 24, 25, 26, 27, 28, 29, 30, 31, 32, 33, 34, 35, 36, 37, 38, 39, 40, 41, 42, 43, 44, 45, 46, 47, 48, 49, 50, 51, 52, 53, 54, 55, 56, 57, 58, 59, 60, 61, 62, 63, 64, 65, 66, 67, 68, 69, 70, 71, 72, 73, 74, 75, 76, 77, 78, 79, 80, 81, 82, 83] (by decide +kernel) (by decide +kernel)) (goodIn_sub (fun _ h => List.mem_cons_of_mem _ (List.mem_append_right _ h)) (by decide +kernel))
set_option maxRecDepth 20000 in
theorem gL_dropWish_X11_dropWish : GoodIn wsL_dropWish (wsV RL 37 RX11 yX11_dropWish wsX11_dropWish) := goodIn_app (goodIn_of _ (by decide +kernel)) ggL_dropWish_X11_dropWish
theorem dL_dropWish_0 : decode cL_dropWish 0 = .ok (.aload_n 2, 1) := by decide +kernel
theorem dL_dropWish_1 : decode cL_dropWish 1 = .ok (.iconst 0, 1) := by decide +kernel
theorem dL_dropWish_2 : decode cL_dropWish 2 = .ok (.aload_n 0, 1) := by decide +kernel
theorem dL_dropWish_3 : decode cL_dropWish 3 = .ok (.iload_n 1, 1) := by decide +kernel
theorem dL_dropWish_4 : decode cL_dropWish 4 = .ok (.invokevirtual 37, 3) := by decide +kernel
theorem dL_dropWish_7 : decode cL_dropWish 7 = .ok (.i2l, 1) := by decide +kernel
theorem dL_dropWish_8 : decode cL_dropWish 8 = .ok (.lastore, 1) := by decide +kernel
theorem dL_dropWish_9 : decode cL_dropWish 9 = .ok (.goto 6, 3) := by decide +kernel
theorem dL_dropWish_12 : decode cL_dropWish 12 = .ok (.astore_n 3, 1) := by decide +kernel
theorem dL_dropWish_13 : decode cL_dropWish 13 = .ok (.iconst 1, 1) := by decide +kernel
theorem dL_dropWish_14 : decode cL_dropWish 14 = .ok (.ireturn, 1) := by decide +kernel
theorem dL_dropWish_15 : decode cL_dropWish 15 = .ok (.iconst 0, 1) := by decide +kernel
theorem dL_dropWish_16 : decode cL_dropWish 16 = .ok (.ireturn, 1) := by decide +kernel
set_option maxRecDepth 20000 in
theorem ggL_wishOf_X11_wishOf : GoodIn wsL_wishOf wsX11_wishOf := goodIn_ca (goodIn_ca (goodIn_r _ [7, 8, 9, 10, 11, 6, 12, 13, 14, 15, 16, 17, 18, 19, 20, 21, 22, 23, 24, 25, 26, 27, 28, 29, 30, 31, 32, 33, 34, 35, 36, 37, 38, 39, 40, 41, 42, 43, 44, 45, 46, 47] (by decide +kernel) (by decide +kernel)) (goodIn_sub (fun _ h => List.mem_cons_of_mem _ (List.mem_append_left _ (List.mem_append_right _ h))) (by decide +kernel))) (goodIn_sub (fun _ h => List.mem_cons_of_mem _ (List.mem_append_right _ h)) (by decide +kernel))
set_option maxRecDepth 20000 in
theorem gL_wishOf_X11_wishOf : GoodIn wsL_wishOf (wsV RL 40 RX11 yX11_wishOf wsX11_wishOf) := goodIn_app (goodIn_of _ (by decide +kernel)) ggL_wishOf_X11_wishOf
theorem dL_wishOf_0 : decode cL_wishOf 0 = .ok (.aload_n 3, 1) := by decide +kernel
theorem dL_wishOf_1 : decode cL_wishOf 1 = .ok (.iconst 0, 1) := by decide +kernel
theorem dL_wishOf_2 : decode cL_wishOf 2 = .ok (.aload_n 0, 1) := by decide +kernel
theorem dL_wishOf_3 : decode cL_wishOf 3 = .ok (.iload_n 1, 1) := by decide +kernel
theorem dL_wishOf_4 : decode cL_wishOf 4 = .ok (.iload_n 2, 1) := by decide +kernel
theorem dL_wishOf_5 : decode cL_wishOf 5 = .ok (.invokevirtual 40, 3) := by decide +kernel
theorem dL_wishOf_8 : decode cL_wishOf 8 = .ok (.i2l, 1) := by decide +kernel
theorem dL_wishOf_9 : decode cL_wishOf 9 = .ok (.lastore, 1) := by decide +kernel
theorem dL_wishOf_10 : decode cL_wishOf 10 = .ok (.goto 11, 3) := by decide +kernel
theorem dL_wishOf_13 : decode cL_wishOf 13 = .ok (.astore 4, 2) := by decide +kernel
theorem dL_wishOf_15 : decode cL_wishOf 15 = .ok (.iconst 1, 1) := by decide +kernel
theorem dL_wishOf_16 : decode cL_wishOf 16 = .ok (.ireturn, 1) := by decide +kernel
theorem dL_wishOf_17 : decode cL_wishOf 17 = .ok (.astore 4, 2) := by decide +kernel
theorem dL_wishOf_19 : decode cL_wishOf 19 = .ok (.iconst 2, 1) := by decide +kernel
theorem dL_wishOf_20 : decode cL_wishOf 20 = .ok (.ireturn, 1) := by decide +kernel
theorem dL_wishOf_21 : decode cL_wishOf 21 = .ok (.iconst 0, 1) := by decide +kernel
theorem dL_wishOf_22 : decode cL_wishOf 22 = .ok (.ireturn, 1) := by decide +kernel
set_option maxRecDepth 20000 in
theorem ggL_proofAt_X11_proofAt : GoodIn wsL_proofAt wsX11_proofAt := goodIn_ca (goodIn_r _ [6, 7, 8, 9, 10, 11, 12, 13, 14, 15, 16, 17, 18, 19, 20, 21, 22, 23, 24, 25, 26, 27, 28, 29, 30] (by decide +kernel) (by decide +kernel)) (goodIn_sub (fun _ h => List.mem_cons_of_mem _ (List.mem_append_right _ h)) (by decide +kernel))
set_option maxRecDepth 20000 in
theorem gL_proofAt_X11_proofAt : GoodIn wsL_proofAt (wsV RL 43 RX11 yX11_proofAt wsX11_proofAt) := goodIn_app (goodIn_of _ (by decide +kernel)) ggL_proofAt_X11_proofAt
theorem dL_proofAt_0 : decode cL_proofAt 0 = .ok (.aload_n 2, 1) := by decide +kernel
theorem dL_proofAt_1 : decode cL_proofAt 1 = .ok (.iconst 0, 1) := by decide +kernel
theorem dL_proofAt_2 : decode cL_proofAt 2 = .ok (.aload_n 0, 1) := by decide +kernel
theorem dL_proofAt_3 : decode cL_proofAt 3 = .ok (.iload_n 1, 1) := by decide +kernel
theorem dL_proofAt_4 : decode cL_proofAt 4 = .ok (.invokevirtual 43, 3) := by decide +kernel
theorem dL_proofAt_7 : decode cL_proofAt 7 = .ok (.i2l, 1) := by decide +kernel
theorem dL_proofAt_8 : decode cL_proofAt 8 = .ok (.lastore, 1) := by decide +kernel
theorem dL_proofAt_9 : decode cL_proofAt 9 = .ok (.goto 6, 3) := by decide +kernel
theorem dL_proofAt_12 : decode cL_proofAt 12 = .ok (.astore_n 3, 1) := by decide +kernel
theorem dL_proofAt_13 : decode cL_proofAt 13 = .ok (.iconst 1, 1) := by decide +kernel
theorem dL_proofAt_14 : decode cL_proofAt 14 = .ok (.ireturn, 1) := by decide +kernel
theorem dL_proofAt_15 : decode cL_proofAt 15 = .ok (.iconst 0, 1) := by decide +kernel
theorem dL_proofAt_16 : decode cL_proofAt 16 = .ok (.ireturn, 1) := by decide +kernel
set_option maxRecDepth 20000 in
theorem ggL_slotOf_X11_slotOf : GoodIn wsL_slotOf wsX11_slotOf := goodIn_ca (goodIn_ca (goodIn_r _ [7, 8, 9, 10, 11, 12, 6, 13, 14, 15, 16, 17, 18, 19, 20, 21, 22, 23, 24, 25, 26, 27, 28, 29, 30, 31, 32, 33, 34, 35, 36, 37, 38, 39, 40, 41, 42, 43, 44] (by decide +kernel) (by decide +kernel)) (goodIn_sub (fun _ h => List.mem_cons_of_mem _ (List.mem_append_left _ (List.mem_append_right _ h))) (by decide +kernel))) (goodIn_sub (fun _ h => List.mem_cons_of_mem _ (List.mem_append_right _ h)) (by decide +kernel))
set_option maxRecDepth 20000 in
theorem gL_slotOf_X11_slotOf : GoodIn wsL_slotOf (wsV RL 46 RX11 yX11_slotOf wsX11_slotOf) := goodIn_app (goodIn_of _ (by decide +kernel)) ggL_slotOf_X11_slotOf
theorem dL_slotOf_0 : decode cL_slotOf 0 = .ok (.aload_n 2, 1) := by decide +kernel
theorem dL_slotOf_1 : decode cL_slotOf 1 = .ok (.iconst 0, 1) := by decide +kernel
theorem dL_slotOf_2 : decode cL_slotOf 2 = .ok (.aload_n 0, 1) := by decide +kernel
theorem dL_slotOf_3 : decode cL_slotOf 3 = .ok (.iload_n 1, 1) := by decide +kernel
theorem dL_slotOf_4 : decode cL_slotOf 4 = .ok (.invokevirtual 46, 3) := by decide +kernel
theorem dL_slotOf_7 : decode cL_slotOf 7 = .ok (.i2l, 1) := by decide +kernel
theorem dL_slotOf_8 : decode cL_slotOf 8 = .ok (.lastore, 1) := by decide +kernel
theorem dL_slotOf_9 : decode cL_slotOf 9 = .ok (.goto 9, 3) := by decide +kernel
theorem dL_slotOf_12 : decode cL_slotOf 12 = .ok (.astore_n 3, 1) := by decide +kernel
theorem dL_slotOf_13 : decode cL_slotOf 13 = .ok (.iconst 1, 1) := by decide +kernel
theorem dL_slotOf_14 : decode cL_slotOf 14 = .ok (.ireturn, 1) := by decide +kernel
theorem dL_slotOf_15 : decode cL_slotOf 15 = .ok (.astore_n 3, 1) := by decide +kernel
theorem dL_slotOf_16 : decode cL_slotOf 16 = .ok (.iconst 2, 1) := by decide +kernel
theorem dL_slotOf_17 : decode cL_slotOf 17 = .ok (.ireturn, 1) := by decide +kernel
theorem dL_slotOf_18 : decode cL_slotOf 18 = .ok (.iconst 0, 1) := by decide +kernel
theorem dL_slotOf_19 : decode cL_slotOf 19 = .ok (.ireturn, 1) := by decide +kernel
set_option maxRecDepth 20000 in
theorem ggL_lessonAt_X11_lessonAt : GoodIn wsL_lessonAt wsX11_lessonAt := goodIn_ca (goodIn_ca (goodIn_r _ [7, 8, 9, 10, 11, 12, 6, 13, 14, 15, 16, 17, 18, 19, 20, 21, 22, 23, 24, 25, 26, 27, 28, 29, 30, 31, 32, 33, 34, 35, 36, 37, 38, 39, 40, 41, 42, 43, 44, 45, 46, 47, 48, 49, 50, 51, 52, 53, 54, 55, 56, 57, 58, 59, 60] (by decide +kernel) (by decide +kernel)) (goodIn_sub (fun _ h => List.mem_cons_of_mem _ (List.mem_append_left _ (List.mem_append_right _ h))) (by decide +kernel))) (goodIn_sub (fun _ h => List.mem_cons_of_mem _ (List.mem_append_right _ h)) (by decide +kernel))
set_option maxRecDepth 20000 in
theorem gL_lessonAt_X11_lessonAt : GoodIn wsL_lessonAt (wsV RL 49 RX11 yX11_lessonAt wsX11_lessonAt) := goodIn_app (goodIn_of _ (by decide +kernel)) ggL_lessonAt_X11_lessonAt
theorem dL_lessonAt_0 : decode cL_lessonAt 0 = .ok (.aload 4, 2) := by decide +kernel
theorem dL_lessonAt_2 : decode cL_lessonAt 2 = .ok (.iconst 0, 1) := by decide +kernel
theorem dL_lessonAt_3 : decode cL_lessonAt 3 = .ok (.aload_n 0, 1) := by decide +kernel
theorem dL_lessonAt_4 : decode cL_lessonAt 4 = .ok (.iload_n 1, 1) := by decide +kernel
theorem dL_lessonAt_5 : decode cL_lessonAt 5 = .ok (.iload_n 2, 1) := by decide +kernel
theorem dL_lessonAt_6 : decode cL_lessonAt 6 = .ok (.iload_n 3, 1) := by decide +kernel
theorem dL_lessonAt_7 : decode cL_lessonAt 7 = .ok (.invokevirtual 49, 3) := by decide +kernel
theorem dL_lessonAt_10 : decode cL_lessonAt 10 = .ok (.i2l, 1) := by decide +kernel
theorem dL_lessonAt_11 : decode cL_lessonAt 11 = .ok (.lastore, 1) := by decide +kernel
theorem dL_lessonAt_12 : decode cL_lessonAt 12 = .ok (.goto 11, 3) := by decide +kernel
theorem dL_lessonAt_15 : decode cL_lessonAt 15 = .ok (.astore 5, 2) := by decide +kernel
theorem dL_lessonAt_17 : decode cL_lessonAt 17 = .ok (.iconst 1, 1) := by decide +kernel
theorem dL_lessonAt_18 : decode cL_lessonAt 18 = .ok (.ireturn, 1) := by decide +kernel
theorem dL_lessonAt_19 : decode cL_lessonAt 19 = .ok (.astore 5, 2) := by decide +kernel
theorem dL_lessonAt_21 : decode cL_lessonAt 21 = .ok (.iconst 2, 1) := by decide +kernel
theorem dL_lessonAt_22 : decode cL_lessonAt 22 = .ok (.ireturn, 1) := by decide +kernel
theorem dL_lessonAt_23 : decode cL_lessonAt 23 = .ok (.iconst 0, 1) := by decide +kernel
theorem dL_lessonAt_24 : decode cL_lessonAt 24 = .ok (.ireturn, 1) := by decide +kernel
set_option maxRecDepth 20000 in
theorem ggL_roomOf_X11_roomOf : GoodIn wsL_roomOf wsX11_roomOf := goodIn_ca (goodIn_ca (goodIn_r _ [7, 8, 9, 10, 11, 12, 13, 6, 14, 15, 16, 17, 18, 19, 20, 21, 22, 23, 24, 25, 26, 27, 28, 29, 30, 31, 32, 33, 34, 35, 36, 37, 38, 39, 40, 41, 42, 43, 44, 45, 46, 47, 48, 49, 50, 51, 52, 53, 54, 55, 56, 57, 58, 59, 60, 61, 62, 63, 64, 65, 66, 67, 68, 69, 70, 71, 72, 73, 74, 75, 76, 77, 78, 79, 80, 81, 82, 83, 84, 85, 86, 87, 88, 89, 90, 91, 92, 93, 94, 95, 96, 97, 98, 99, 100, 101, 102, 103, 104, 105, 106, 107, 108, 109, 110, 111, 112, 113, 114, 115, 116, 117] (by decide +kernel) (by decide +kernel)) (goodIn_sub (fun _ h => List.mem_cons_of_mem _ (List.mem_append_left _ (List.mem_append_right _ h))) (by decide +kernel))) (goodIn_sub (fun _ h => List.mem_cons_of_mem _ (List.mem_append_right _ h)) (by decide +kernel))
set_option maxRecDepth 20000 in
theorem gL_roomOf_X11_roomOf : GoodIn wsL_roomOf (wsV RL 53 RX11 yX11_roomOf wsX11_roomOf) := goodIn_app (goodIn_of _ (by decide +kernel)) ggL_roomOf_X11_roomOf
theorem dL_roomOf_0 : decode cL_roomOf 0 = .ok (.aload_n 2, 1) := by decide +kernel
theorem dL_roomOf_1 : decode cL_roomOf 1 = .ok (.iconst 0, 1) := by decide +kernel
theorem dL_roomOf_2 : decode cL_roomOf 2 = .ok (.aload_n 0, 1) := by decide +kernel
theorem dL_roomOf_3 : decode cL_roomOf 3 = .ok (.iload_n 1, 1) := by decide +kernel
theorem dL_roomOf_4 : decode cL_roomOf 4 = .ok (.invokevirtual 53, 3) := by decide +kernel
theorem dL_roomOf_7 : decode cL_roomOf 7 = .ok (.i2l, 1) := by decide +kernel
theorem dL_roomOf_8 : decode cL_roomOf 8 = .ok (.lastore, 1) := by decide +kernel
theorem dL_roomOf_9 : decode cL_roomOf 9 = .ok (.goto 9, 3) := by decide +kernel
theorem dL_roomOf_12 : decode cL_roomOf 12 = .ok (.astore_n 3, 1) := by decide +kernel
theorem dL_roomOf_13 : decode cL_roomOf 13 = .ok (.iconst 1, 1) := by decide +kernel
theorem dL_roomOf_14 : decode cL_roomOf 14 = .ok (.ireturn, 1) := by decide +kernel
theorem dL_roomOf_15 : decode cL_roomOf 15 = .ok (.astore_n 3, 1) := by decide +kernel
theorem dL_roomOf_16 : decode cL_roomOf 16 = .ok (.iconst 2, 1) := by decide +kernel
theorem dL_roomOf_17 : decode cL_roomOf 17 = .ok (.ireturn, 1) := by decide +kernel
theorem dL_roomOf_18 : decode cL_roomOf 18 = .ok (.iconst 0, 1) := by decide +kernel
theorem dL_roomOf_19 : decode cL_roomOf 19 = .ok (.ireturn, 1) := by decide +kernel
set_option maxRecDepth 20000 in
theorem ggL_choices_X11_choices : GoodIn wsL_choices wsX11_choices := goodIn_ca (goodIn_ca (goodIn_r _ [7, 8, 9, 10, 11, 12, 13, 6, 14, 15, 16, 17, 18, 19, 20, 21, 22, 23, 24, 25, 26, 27, 28, 29, 30, 31, 32, 33, 34, 35, 36, 37, 38, 39, 40, 41, 42, 43, 44, 45, 46, 47, 48, 49, 50, 51, 52, 53, 54, 55, 56, 57, 58, 59, 60, 61, 62, 63, 64, 65, 66, 67, 68, 69, 70, 71, 72, 73, 74, 75, 76, 77, 78, 79, 80, 81, 82, 83, 84, 85, 86, 87, 88, 89, 90, 91, 92, 93, 94, 95, 96, 97, 98, 99, 100, 101, 102, 103, 104, 105, 106, 107, 108, 109, 110, 111, 112, 113, 114, 115, 116, 117, 118, 119, 120, 121, 122, 123, 124, 125] (by decide +kernel) (by decide +kernel)) (goodIn_sub (fun _ h => List.mem_cons_of_mem _ (List.mem_append_left _ (List.mem_append_right _ h))) (by decide +kernel))) (goodIn_sub (fun _ h => List.mem_cons_of_mem _ (List.mem_append_right _ h)) (by decide +kernel))
set_option maxRecDepth 20000 in
theorem gL_choices_X11_choices : GoodIn wsL_choices (wsV RL 56 RX11 yX11_choices wsX11_choices) := goodIn_app (goodIn_of _ (by decide +kernel)) ggL_choices_X11_choices
theorem dL_choices_0 : decode cL_choices 0 = .ok (.aload_n 2, 1) := by decide +kernel
theorem dL_choices_1 : decode cL_choices 1 = .ok (.iconst 0, 1) := by decide +kernel
theorem dL_choices_2 : decode cL_choices 2 = .ok (.aload_n 0, 1) := by decide +kernel
theorem dL_choices_3 : decode cL_choices 3 = .ok (.iload_n 1, 1) := by decide +kernel
theorem dL_choices_4 : decode cL_choices 4 = .ok (.invokevirtual 56, 3) := by decide +kernel
theorem dL_choices_7 : decode cL_choices 7 = .ok (.i2l, 1) := by decide +kernel
theorem dL_choices_8 : decode cL_choices 8 = .ok (.lastore, 1) := by decide +kernel
theorem dL_choices_9 : decode cL_choices 9 = .ok (.goto 9, 3) := by decide +kernel
theorem dL_choices_12 : decode cL_choices 12 = .ok (.astore_n 3, 1) := by decide +kernel
theorem dL_choices_13 : decode cL_choices 13 = .ok (.iconst 1, 1) := by decide +kernel
theorem dL_choices_14 : decode cL_choices 14 = .ok (.ireturn, 1) := by decide +kernel
theorem dL_choices_15 : decode cL_choices 15 = .ok (.astore_n 3, 1) := by decide +kernel
theorem dL_choices_16 : decode cL_choices 16 = .ok (.iconst 2, 1) := by decide +kernel
theorem dL_choices_17 : decode cL_choices 17 = .ok (.ireturn, 1) := by decide +kernel
theorem dL_choices_18 : decode cL_choices 18 = .ok (.iconst 0, 1) := by decide +kernel
theorem dL_choices_19 : decode cL_choices 19 = .ok (.ireturn, 1) := by decide +kernel
set_option maxRecDepth 20000 in
theorem ggL_move_X11_move : GoodIn wsL_move wsX11_move := goodIn_ca (goodIn_ca (goodIn_ca (goodIn_r _ [8, 9, 10, 11, 12, 13, 14, 15, 16, 17, 7, 18, 19, 20, 21, 22, 23, 24, 25, 26, 27, 28, 29, 30, 31, 32, 33, 34, 35, 36, 37, 38, 39, 40, 41, 42, 43, 44, 45, 46, 47, 48, 49, 50, 51, 52, 53, 54, 55, 56, 57, 58, 59, 60, 61, 62, 63, 64, 65, 66, 67, 68, 69, 70, 71, 72, 73, 74, 75, 76, 77, 78, 79, 80, 81, 82, 83, 84, 85, 86, 87, 88, 89, 90, 91, 92, 93, 94, 95, 96, 97, 98, 99, 100, 101, 102, 103, 104, 105, 106, 107, 108, 109, 110, 111, 112, 113, 114, 115, 116, 117, 118, 119, 120, 121, 122, 123, 124, 125, 126, 127, 128, 129, 130, 131, 132, 133, 134, 135, 136, 137, 138, 139, 140, 141, 142, 143, 144, 145, 146, 147, 148, 149, 150, 151, 152, 153, 154, 155, 156, 157, 158, 159, 160, 161, 162, 163, 164, 165, 166, 167, 168, 169, 170, 171, 172, 173, 174, 175, 176, 177, 178, 179, 180, 181, 182, 183, 184, 185, 186, 187, 188, 189, 190, 191, 192, 193, 194, 195, 196, 197, 198, 199, 200, 201, 202, 203, 204, 205, 206, 207, 208, 209, 210] (by decide +kernel) (by decide +kernel)) (goodIn_sub (fun _ h => List.mem_cons_of_mem _ (List.mem_append_left _ (List.mem_append_left _ (List.mem_append_right _ h)))) (by decide +kernel))) (goodIn_sub (fun _ h => List.mem_cons_of_mem _ (List.mem_append_left _ (List.mem_append_right _ h))) (by decide +kernel))) (goodIn_sub (fun _ h => List.mem_cons_of_mem _ (List.mem_append_right _ h)) (by decide +kernel))
set_option maxRecDepth 20000 in
theorem gL_move_X11_move : GoodIn wsL_move (wsV RL 59 RX11 yX11_move wsX11_move) := goodIn_app (goodIn_of _ (by decide +kernel)) ggL_move_X11_move
theorem dL_move_0 : decode cL_move 0 = .ok (.aload_n 3, 1) := by decide +kernel
theorem dL_move_1 : decode cL_move 1 = .ok (.iconst 0, 1) := by decide +kernel
theorem dL_move_2 : decode cL_move 2 = .ok (.aload_n 0, 1) := by decide +kernel
theorem dL_move_3 : decode cL_move 3 = .ok (.iload_n 1, 1) := by decide +kernel
theorem dL_move_4 : decode cL_move 4 = .ok (.iload_n 2, 1) := by decide +kernel
theorem dL_move_5 : decode cL_move 5 = .ok (.invokevirtual 59, 3) := by decide +kernel
theorem dL_move_8 : decode cL_move 8 = .ok (.i2l, 1) := by decide +kernel
theorem dL_move_9 : decode cL_move 9 = .ok (.lastore, 1) := by decide +kernel
theorem dL_move_10 : decode cL_move 10 = .ok (.goto 15, 3) := by decide +kernel
theorem dL_move_13 : decode cL_move 13 = .ok (.astore 4, 2) := by decide +kernel
theorem dL_move_15 : decode cL_move 15 = .ok (.iconst 1, 1) := by decide +kernel
theorem dL_move_16 : decode cL_move 16 = .ok (.ireturn, 1) := by decide +kernel
theorem dL_move_17 : decode cL_move 17 = .ok (.astore 4, 2) := by decide +kernel
theorem dL_move_19 : decode cL_move 19 = .ok (.iconst 2, 1) := by decide +kernel
theorem dL_move_20 : decode cL_move 20 = .ok (.ireturn, 1) := by decide +kernel
theorem dL_move_21 : decode cL_move 21 = .ok (.astore 4, 2) := by decide +kernel
theorem dL_move_23 : decode cL_move 23 = .ok (.iconst 3, 1) := by decide +kernel
theorem dL_move_24 : decode cL_move 24 = .ok (.ireturn, 1) := by decide +kernel
theorem dL_move_25 : decode cL_move 25 = .ok (.iconst 0, 1) := by decide +kernel
theorem dL_move_26 : decode cL_move 26 = .ok (.ireturn, 1) := by decide +kernel
set_option maxRecDepth 20000 in
theorem ggL_holds_X11_holds : GoodIn wsL_holds wsX11_holds := goodIn_ca (goodIn_ca (goodIn_r _ [7, 8, 9, 10, 11, 12, 6, 13, 14, 15, 16, 17, 18, 19, 20, 21, 22, 23, 24, 25, 26, 27, 28, 29, 30, 31, 32, 33, 34, 35, 36, 37, 38, 39, 40, 41, 42, 43, 44, 45, 46, 47, 48, 49, 50, 51, 52, 53, 54, 55, 56, 57, 58, 59, 60, 61, 62, 63, 64, 65, 66, 67, 68] (by decide +kernel) (by decide +kernel)) (goodIn_sub (fun _ h => List.mem_cons_of_mem _ (List.mem_append_left _ (List.mem_append_right _ h))) (by decide +kernel))) (goodIn_sub (fun _ h => List.mem_cons_of_mem _ (List.mem_append_right _ h)) (by decide +kernel))
set_option maxRecDepth 20000 in
theorem gL_holds_X11_holds : GoodIn wsL_holds (wsV RL 62 RX11 yX11_holds wsX11_holds) := goodIn_app (goodIn_of _ (by decide +kernel)) ggL_holds_X11_holds
theorem dL_holds_0 : decode cL_holds 0 = .ok (.aload_n 2, 1) := by decide +kernel
theorem dL_holds_1 : decode cL_holds 1 = .ok (.iconst 0, 1) := by decide +kernel
theorem dL_holds_2 : decode cL_holds 2 = .ok (.aload_n 0, 1) := by decide +kernel
theorem dL_holds_3 : decode cL_holds 3 = .ok (.iload_n 1, 1) := by decide +kernel
theorem dL_holds_4 : decode cL_holds 4 = .ok (.invokevirtual 62, 3) := by decide +kernel
theorem dL_holds_7 : decode cL_holds 7 = .ok (.ifCond .eq 7, 3) := by decide +kernel
theorem dL_holds_10 : decode cL_holds 10 = .ok (.lconst 1, 1) := by decide +kernel
theorem dL_holds_11 : decode cL_holds 11 = .ok (.goto 4, 3) := by decide +kernel
theorem dL_holds_14 : decode cL_holds 14 = .ok (.lconst 0, 1) := by decide +kernel
theorem dL_holds_15 : decode cL_holds 15 = .ok (.lastore, 1) := by decide +kernel
theorem dL_holds_16 : decode cL_holds 16 = .ok (.goto 9, 3) := by decide +kernel
theorem dL_holds_19 : decode cL_holds 19 = .ok (.astore_n 3, 1) := by decide +kernel
theorem dL_holds_20 : decode cL_holds 20 = .ok (.iconst 1, 1) := by decide +kernel
theorem dL_holds_21 : decode cL_holds 21 = .ok (.ireturn, 1) := by decide +kernel
theorem dL_holds_22 : decode cL_holds 22 = .ok (.astore_n 3, 1) := by decide +kernel
theorem dL_holds_23 : decode cL_holds 23 = .ok (.iconst 2, 1) := by decide +kernel
theorem dL_holds_24 : decode cL_holds 24 = .ok (.ireturn, 1) := by decide +kernel
theorem dL_holds_25 : decode cL_holds 25 = .ok (.iconst 0, 1) := by decide +kernel
theorem dL_holds_26 : decode cL_holds 26 = .ok (.ireturn, 1) := by decide +kernel
set_option maxRecDepth 20000 in
theorem ggL_cost_X11_cost : GoodIn wsL_cost wsX11_cost := goodIn_ca (goodIn_r _ [6, 7, 8, 9, 10, 11, 12, 5, 13, 14, 15, 16, 17, 18, 19, 20, 21, 22, 23, 24, 25, 26, 27, 28, 29, 30, 31, 32, 33, 34, 35, 36, 37, 38, 39, 40, 41, 42, 43, 44, 45, 46, 47, 48, 49, 50, 51, 52, 53, 54, 55, 56, 57, 58, 59, 60, 61, 62, 63, 64, 65, 66, 67, 68, 69, 70, 71, 72, 73, 74, 75, 76, 77, 78, 79, 80, 81, 82, 83, 84, 85, 86] (by decide +kernel) (by decide +kernel)) (goodIn_sub (fun _ h => List.mem_cons_of_mem _ (List.mem_append_right _ h)) (by decide +kernel))
set_option maxRecDepth 20000 in
theorem gL_cost_X11_cost : GoodIn wsL_cost (wsV RL 66 RX11 yX11_cost wsX11_cost) := goodIn_app (goodIn_of _ (by decide +kernel)) ggL_cost_X11_cost
theorem dL_cost_0 : decode cL_cost 0 = .ok (.aload_n 1, 1) := by decide +kernel
theorem dL_cost_1 : decode cL_cost 1 = .ok (.iconst 0, 1) := by decide +kernel
theorem dL_cost_2 : decode cL_cost 2 = .ok (.aload_n 0, 1) := by decide +kernel
theorem dL_cost_3 : decode cL_cost 3 = .ok (.invokevirtual 66, 3) := by decide +kernel
theorem dL_cost_6 : decode cL_cost 6 = .ok (.i2l, 1) := by decide +kernel
theorem dL_cost_7 : decode cL_cost 7 = .ok (.lastore, 1) := by decide +kernel
theorem dL_cost_8 : decode cL_cost 8 = .ok (.goto 6, 3) := by decide +kernel
theorem dL_cost_11 : decode cL_cost 11 = .ok (.astore_n 2, 1) := by decide +kernel
theorem dL_cost_12 : decode cL_cost 12 = .ok (.iconst 1, 1) := by decide +kernel
theorem dL_cost_13 : decode cL_cost 13 = .ok (.ireturn, 1) := by decide +kernel
theorem dL_cost_14 : decode cL_cost 14 = .ok (.iconst 0, 1) := by decide +kernel
theorem dL_cost_15 : decode cL_cost 15 = .ok (.ireturn, 1) := by decide +kernel
set_option maxRecDepth 20000 in
theorem ggL_gaps_X11_gaps : GoodIn wsL_gaps wsX11_gaps := goodIn_ca (goodIn_ca (goodIn_r _ [7, 8, 9, 10, 11, 12, 13, 6, 14, 15, 16, 17, 18, 19, 20, 21, 22, 23, 24, 25, 26, 27, 28, 29, 30, 31, 32, 33, 34, 35, 36, 37, 38, 39, 40, 41, 42, 43, 44, 45, 46, 47, 48, 49, 50, 51, 52, 53, 54, 55, 56, 57, 58, 59, 60, 61, 62, 63, 64, 65, 66, 67, 68, 69, 70, 71, 72, 73, 74, 75, 76, 77, 78, 79, 80, 81, 82, 83] (by decide +kernel) (by decide +kernel)) (goodIn_sub (fun _ h => List.mem_cons_of_mem _ (List.mem_append_left _ (List.mem_append_right _ h))) (by decide +kernel))) (goodIn_sub (fun _ h => List.mem_cons_of_mem _ (List.mem_append_right _ h)) (by decide +kernel))
set_option maxRecDepth 20000 in
theorem gL_gaps_X11_gaps : GoodIn wsL_gaps (wsV RL 70 RX11 yX11_gaps wsX11_gaps) := goodIn_app (goodIn_of _ (by decide +kernel)) ggL_gaps_X11_gaps
theorem dL_gaps_0 : decode cL_gaps 0 = .ok (.aload_n 3, 1) := by decide +kernel
theorem dL_gaps_1 : decode cL_gaps 1 = .ok (.iconst 0, 1) := by decide +kernel
theorem dL_gaps_2 : decode cL_gaps 2 = .ok (.aload_n 0, 1) := by decide +kernel
theorem dL_gaps_3 : decode cL_gaps 3 = .ok (.iload_n 1, 1) := by decide +kernel
theorem dL_gaps_4 : decode cL_gaps 4 = .ok (.iload_n 2, 1) := by decide +kernel
theorem dL_gaps_5 : decode cL_gaps 5 = .ok (.invokevirtual 70, 3) := by decide +kernel
theorem dL_gaps_8 : decode cL_gaps 8 = .ok (.i2l, 1) := by decide +kernel
theorem dL_gaps_9 : decode cL_gaps 9 = .ok (.lastore, 1) := by decide +kernel
theorem dL_gaps_10 : decode cL_gaps 10 = .ok (.goto 11, 3) := by decide +kernel
theorem dL_gaps_13 : decode cL_gaps 13 = .ok (.astore 4, 2) := by decide +kernel
theorem dL_gaps_15 : decode cL_gaps 15 = .ok (.iconst 1, 1) := by decide +kernel
theorem dL_gaps_16 : decode cL_gaps 16 = .ok (.ireturn, 1) := by decide +kernel
theorem dL_gaps_17 : decode cL_gaps 17 = .ok (.astore 4, 2) := by decide +kernel
theorem dL_gaps_19 : decode cL_gaps 19 = .ok (.iconst 2, 1) := by decide +kernel
theorem dL_gaps_20 : decode cL_gaps 20 = .ok (.ireturn, 1) := by decide +kernel
theorem dL_gaps_21 : decode cL_gaps 21 = .ok (.iconst 0, 1) := by decide +kernel
theorem dL_gaps_22 : decode cL_gaps 22 = .ok (.ireturn, 1) := by decide +kernel
set_option maxRecDepth 20000 in
theorem ggL_improve_X11_improve : GoodIn wsL_improve wsX11_improve := goodIn_ca (goodIn_r _ [6, 7, 8, 9, 10, 11, 12, 13, 5, 14, 15, 16, 17, 18, 19, 20, 21, 22, 23, 24, 25, 26, 27, 28, 29, 30, 31, 32, 33, 34, 35, 36, 37, 38, 39, 40, 41, 42, 43, 44, 45, 46, 47, 48, 49, 50, 51, 52, 53, 54, 55, 56, 57, 58, 59, 60, 61, 62, 63, 64, 65, 66, 67, 68, 69, 70, 71, 72, 73, 74, 75, 76, 77, 78, 79, 80, 81, 82, 83, 84, 85, 86, 87, 88, 89, 90, 91, 92, 93, 94, 95, 96, 97, 98, 99, 100, 101, 102, 103, 104, 105, 106, 107, 108, 109, 110, 111, 112, 113, 114, 115, 116, 117, 118, 119, 120, 121, 122, 123, 124, 125, 126, 127, 128, 129, 130, 131, 132, 133, 134, 135, 136, 137, 138, 139, 140, 141, 142, 143, 144, 145, 146, 147, 148, 149, 150, 151, 152, 153, 154, 155, 156, 157, 158, 159, 160, 161, 162, 163, 164, 165, 166, 167, 168, 169, 170, 171, 172, 173, 174, 175, 176, 177, 178, 179, 180, 181, 182, 183, 184, 185, 186, 187, 188, 189, 190, 191, 192, 193, 194, 195, 196, 197, 198, 199, 200, 201, 202, 203, 204, 205, 206, 207, 208, 209, 210, 211, 212, 213, 214, 215, 216, 217, 218, 219, 220, 221, 222, 223, 224, 225, 226, 227] (by decide +kernel) (by decide +kernel)) (goodIn_sub (fun _ h => List.mem_cons_of_mem _ (List.mem_append_right _ h)) (by decide +kernel))
set_option maxRecDepth 20000 in
theorem gL_improve_X11_improve : GoodIn wsL_improve (wsV RL 74 RX11 yX11_improve wsX11_improve) := goodIn_app (goodIn_of _ (by decide +kernel)) ggL_improve_X11_improve
theorem dL_improve_0 : decode cL_improve 0 = .ok (.aload_n 1, 1) := by decide +kernel
theorem dL_improve_1 : decode cL_improve 1 = .ok (.iconst 0, 1) := by decide +kernel
theorem dL_improve_2 : decode cL_improve 2 = .ok (.aload_n 0, 1) := by decide +kernel
theorem dL_improve_3 : decode cL_improve 3 = .ok (.invokevirtual 74, 3) := by decide +kernel
theorem dL_improve_6 : decode cL_improve 6 = .ok (.i2l, 1) := by decide +kernel
theorem dL_improve_7 : decode cL_improve 7 = .ok (.lastore, 1) := by decide +kernel
theorem dL_improve_8 : decode cL_improve 8 = .ok (.goto 6, 3) := by decide +kernel
theorem dL_improve_11 : decode cL_improve 11 = .ok (.astore_n 2, 1) := by decide +kernel
theorem dL_improve_12 : decode cL_improve 12 = .ok (.iconst 1, 1) := by decide +kernel
theorem dL_improve_13 : decode cL_improve 13 = .ok (.ireturn, 1) := by decide +kernel
theorem dL_improve_14 : decode cL_improve 14 = .ok (.iconst 0, 1) := by decide +kernel
theorem dL_improve_15 : decode cL_improve 15 = .ok (.ireturn, 1) := by decide +kernel
set_option maxRecDepth 20000 in
theorem ggL_colour_X11_colour : GoodIn wsL_colour wsX11_colour := goodIn_ca (goodIn_r _ [6, 7, 8, 9, 10, 11, 12, 5, 13, 14, 15, 16, 17, 18, 19, 20, 21, 22, 23, 24, 25, 26, 27, 28, 29, 30, 31, 32, 33, 34, 35, 36, 37, 38, 39, 40, 41, 42, 43, 44, 45, 46, 47, 48, 49, 50, 51, 52, 53, 54, 55, 56, 57, 58, 59, 60, 61, 62, 63, 64, 65, 66, 67, 68, 69, 70, 71, 72, 73, 74, 75, 76, 77, 78] (by decide +kernel) (by decide +kernel)) (goodIn_sub (fun _ h => List.mem_cons_of_mem _ (List.mem_append_right _ h)) (by decide +kernel))
set_option maxRecDepth 20000 in
theorem gL_colour_X11_colour : GoodIn wsL_colour (wsV RL 77 RX11 yX11_colour wsX11_colour) := goodIn_app (goodIn_of _ (by decide +kernel)) ggL_colour_X11_colour
theorem dL_colour_0 : decode cL_colour 0 = .ok (.aload_n 2, 1) := by decide +kernel
theorem dL_colour_1 : decode cL_colour 1 = .ok (.iconst 0, 1) := by decide +kernel
theorem dL_colour_2 : decode cL_colour 2 = .ok (.aload_n 0, 1) := by decide +kernel
theorem dL_colour_3 : decode cL_colour 3 = .ok (.iload_n 1, 1) := by decide +kernel
theorem dL_colour_4 : decode cL_colour 4 = .ok (.invokevirtual 77, 3) := by decide +kernel
theorem dL_colour_7 : decode cL_colour 7 = .ok (.i2l, 1) := by decide +kernel
theorem dL_colour_8 : decode cL_colour 8 = .ok (.lastore, 1) := by decide +kernel
theorem dL_colour_9 : decode cL_colour 9 = .ok (.goto 6, 3) := by decide +kernel
theorem dL_colour_12 : decode cL_colour 12 = .ok (.astore_n 3, 1) := by decide +kernel
theorem dL_colour_13 : decode cL_colour 13 = .ok (.iconst 1, 1) := by decide +kernel
theorem dL_colour_14 : decode cL_colour 14 = .ok (.ireturn, 1) := by decide +kernel
theorem dL_colour_15 : decode cL_colour 15 = .ok (.iconst 0, 1) := by decide +kernel
theorem dL_colour_16 : decode cL_colour 16 = .ok (.ireturn, 1) := by decide +kernel
set_option maxRecDepth 20000 in
theorem ggL_setIll_X11_setIll : GoodIn wsL_setIll wsX11_setIll := goodIn_ca (goodIn_r _ [6, 7, 8, 9, 10, 5, 11, 12, 13, 14, 15, 16, 17, 18, 19, 20, 21, 22, 23, 24, 25, 26, 27, 28, 29, 30, 31, 32, 33, 34, 35, 36, 37, 38, 39, 40, 41, 42, 43, 44, 45, 46, 47, 48, 49, 50, 51, 52, 53, 54, 55, 56, 57, 58, 59, 60, 61, 62, 63, 64, 65, 66, 67, 68, 69, 70, 71, 72, 73, 74, 75, 76, 77, 78, 79, 80, 81] (by decide +kernel) (by decide +kernel)) (goodIn_sub (fun _ h => List.mem_cons_of_mem _ (List.mem_append_right _ h)) (by decide +kernel))
set_option maxRecDepth 20000 in
theorem gL_setIll_X11_setIll : GoodIn wsL_setIll (wsV RL 80 RX11 yX11_setIll wsX11_setIll) := goodIn_app (goodIn_of _ (by decide +kernel)) ggL_setIll_X11_setIll
theorem dL_setIll_0 : decode cL_setIll 0 = .ok (.aload 4, 2) := by decide +kernel
theorem dL_setIll_2 : decode cL_setIll 2 = .ok (.iconst 0, 1) := by decide +kernel
theorem dL_setIll_3 : decode cL_setIll 3 = .ok (.aload_n 0, 1) := by decide +kernel
theorem dL_setIll_4 : decode cL_setIll 4 = .ok (.iload_n 1, 1) := by decide +kernel
theorem dL_setIll_5 : decode cL_setIll 5 = .ok (.iload_n 2, 1) := by decide +kernel
theorem dL_setIll_6 : decode cL_setIll 6 = .ok (.iload_n 3, 1) := by decide +kernel
theorem dL_setIll_7 : decode cL_setIll 7 = .ok (.invokevirtual 80, 3) := by decide +kernel
theorem dL_setIll_10 : decode cL_setIll 10 = .ok (.ifCond .eq 7, 3) := by decide +kernel
theorem dL_setIll_13 : decode cL_setIll 13 = .ok (.lconst 1, 1) := by decide +kernel
theorem dL_setIll_14 : decode cL_setIll 14 = .ok (.goto 4, 3) := by decide +kernel
theorem dL_setIll_17 : decode cL_setIll 17 = .ok (.lconst 0, 1) := by decide +kernel
theorem dL_setIll_18 : decode cL_setIll 18 = .ok (.lastore, 1) := by decide +kernel
theorem dL_setIll_19 : decode cL_setIll 19 = .ok (.goto 7, 3) := by decide +kernel
theorem dL_setIll_22 : decode cL_setIll 22 = .ok (.astore 5, 2) := by decide +kernel
theorem dL_setIll_24 : decode cL_setIll 24 = .ok (.iconst 1, 1) := by decide +kernel
theorem dL_setIll_25 : decode cL_setIll 25 = .ok (.ireturn, 1) := by decide +kernel
theorem dL_setIll_26 : decode cL_setIll 26 = .ok (.iconst 0, 1) := by decide +kernel
theorem dL_setIll_27 : decode cL_setIll 27 = .ok (.ireturn, 1) := by decide +kernel
set_option maxRecDepth 20000 in
theorem ggL_ill_X11_ill : GoodIn wsL_ill wsX11_ill := goodIn_ca (goodIn_ca (goodIn_r _ [7, 8, 9, 10, 11, 12, 13, 14, 6, 15, 16, 17, 18, 19, 20, 21, 22, 23, 24, 25, 26, 27, 28, 29, 30, 31, 32, 33, 34, 35, 36, 37, 38, 39, 40, 41, 42, 43, 44, 45, 46, 47, 48, 49, 50, 51, 52, 53, 54, 55, 56, 57, 58, 59, 60, 61, 62, 63, 64, 65, 66, 67, 68, 69, 70, 71, 72, 73, 74, 75, 76, 77, 78, 79, 80, 81, 82, 83, 84, 85, 86, 87, 88, 89, 90, 91, 92, 93, 94, 95, 96, 97, 98, 99, 100, 101, 102, 103, 104, 105, 106, 107, 108, 109, 110, 111, 112, 113, 114, 115, 116, 117, 118] (by decide +kernel) (by decide +kernel)) (goodIn_sub (fun _ h => List.mem_cons_of_mem _ (List.mem_append_left _ (List.mem_append_right _ h))) (by decide +kernel))) (goodIn_sub (fun _ h => List.mem_cons_of_mem _ (List.mem_append_right _ h)) (by decide +kernel))
set_option maxRecDepth 20000 in
theorem gL_ill_X11_ill : GoodIn wsL_ill (wsV RL 84 RX11 yX11_ill wsX11_ill) := goodIn_app (goodIn_of _ (by decide +kernel)) ggL_ill_X11_ill
theorem dL_ill_0 : decode cL_ill 0 = .ok (.aload_n 3, 1) := by decide +kernel
theorem dL_ill_1 : decode cL_ill 1 = .ok (.iconst 0, 1) := by decide +kernel
theorem dL_ill_2 : decode cL_ill 2 = .ok (.aload_n 0, 1) := by decide +kernel
theorem dL_ill_3 : decode cL_ill 3 = .ok (.iload_n 1, 1) := by decide +kernel
theorem dL_ill_4 : decode cL_ill 4 = .ok (.iload_n 2, 1) := by decide +kernel
theorem dL_ill_5 : decode cL_ill 5 = .ok (.invokevirtual 84, 3) := by decide +kernel
theorem dL_ill_8 : decode cL_ill 8 = .ok (.i2l, 1) := by decide +kernel
theorem dL_ill_9 : decode cL_ill 9 = .ok (.lastore, 1) := by decide +kernel
theorem dL_ill_10 : decode cL_ill 10 = .ok (.goto 11, 3) := by decide +kernel
theorem dL_ill_13 : decode cL_ill 13 = .ok (.astore 4, 2) := by decide +kernel
theorem dL_ill_15 : decode cL_ill 15 = .ok (.iconst 1, 1) := by decide +kernel
theorem dL_ill_16 : decode cL_ill 16 = .ok (.ireturn, 1) := by decide +kernel
theorem dL_ill_17 : decode cL_ill 17 = .ok (.astore 4, 2) := by decide +kernel
theorem dL_ill_19 : decode cL_ill 19 = .ok (.iconst 2, 1) := by decide +kernel
theorem dL_ill_20 : decode cL_ill 20 = .ok (.ireturn, 1) := by decide +kernel
theorem dL_ill_21 : decode cL_ill 21 = .ok (.iconst 0, 1) := by decide +kernel
theorem dL_ill_22 : decode cL_ill 22 = .ok (.ireturn, 1) := by decide +kernel
set_option maxRecDepth 20000 in
theorem ggL_substitute_X11_substitute : GoodIn wsL_substitute wsX11_substitute := goodIn_ca (goodIn_ca (goodIn_ca (goodIn_r _ [8, 9, 10, 11, 12, 13, 14, 7, 15, 16, 17, 18, 19, 20, 21, 22, 23, 24, 25, 26, 27, 28, 29, 30, 31, 32, 33, 34, 35, 36, 37, 38, 39, 40, 41, 42, 43, 44, 45, 46, 47, 48, 49, 50, 51, 52, 53, 54, 55, 56, 57, 58, 59, 60, 61, 62, 63, 64, 65, 66, 67, 68, 69, 70, 71, 72, 73, 74, 75, 76, 77, 78, 79, 80, 81, 82, 83, 84, 85, 86, 87, 88, 89, 90, 91, 92, 93, 94, 95, 96, 97, 98, 99, 100, 101, 102, 103, 104, 105, 106, 107, 108, 109, 110, 111, 112, 113, 114, 115, 116, 117, 118] (by decide +kernel) (by decide +kernel)) (goodIn_sub (fun _ h => List.mem_cons_of_mem _ (List.mem_append_left _ (List.mem_append_left _ (List.mem_append_right _ h)))) (by decide +kernel))) (goodIn_sub (fun _ h => List.mem_cons_of_mem _ (List.mem_append_left _ (List.mem_append_right _ h))) (by decide +kernel))) (goodIn_sub (fun _ h => List.mem_cons_of_mem _ (List.mem_append_right _ h)) (by decide +kernel))
set_option maxRecDepth 20000 in
theorem gL_substitute_X11_substitute : GoodIn wsL_substitute (wsV RL 88 RX11 yX11_substitute wsX11_substitute) := goodIn_app (goodIn_of _ (by decide +kernel)) ggL_substitute_X11_substitute
theorem dL_substitute_0 : decode cL_substitute 0 = .ok (.aload_n 3, 1) := by decide +kernel
theorem dL_substitute_1 : decode cL_substitute 1 = .ok (.iconst 0, 1) := by decide +kernel
theorem dL_substitute_2 : decode cL_substitute 2 = .ok (.aload_n 0, 1) := by decide +kernel
theorem dL_substitute_3 : decode cL_substitute 3 = .ok (.iload_n 1, 1) := by decide +kernel
theorem dL_substitute_4 : decode cL_substitute 4 = .ok (.iload_n 2, 1) := by decide +kernel
theorem dL_substitute_5 : decode cL_substitute 5 = .ok (.invokevirtual 88, 3) := by decide +kernel
theorem dL_substitute_8 : decode cL_substitute 8 = .ok (.i2l, 1) := by decide +kernel
theorem dL_substitute_9 : decode cL_substitute 9 = .ok (.lastore, 1) := by decide +kernel
theorem dL_substitute_10 : decode cL_substitute 10 = .ok (.goto 15, 3) := by decide +kernel
theorem dL_substitute_13 : decode cL_substitute 13 = .ok (.astore 4, 2) := by decide +kernel
theorem dL_substitute_15 : decode cL_substitute 15 = .ok (.iconst 1, 1) := by decide +kernel
theorem dL_substitute_16 : decode cL_substitute 16 = .ok (.ireturn, 1) := by decide +kernel
theorem dL_substitute_17 : decode cL_substitute 17 = .ok (.astore 4, 2) := by decide +kernel
theorem dL_substitute_19 : decode cL_substitute 19 = .ok (.iconst 2, 1) := by decide +kernel
theorem dL_substitute_20 : decode cL_substitute 20 = .ok (.ireturn, 1) := by decide +kernel
theorem dL_substitute_21 : decode cL_substitute 21 = .ok (.astore 4, 2) := by decide +kernel
theorem dL_substitute_23 : decode cL_substitute 23 = .ok (.iconst 3, 1) := by decide +kernel
theorem dL_substitute_24 : decode cL_substitute 24 = .ok (.ireturn, 1) := by decide +kernel
theorem dL_substitute_25 : decode cL_substitute 25 = .ok (.iconst 0, 1) := by decide +kernel
theorem dL_substitute_26 : decode cL_substitute 26 = .ok (.ireturn, 1) := by decide +kernel
set_option maxRecDepth 20000 in
theorem ggL_takes_X11_takes : GoodIn wsL_takes wsX11_takes := goodIn_ca (goodIn_ca (goodIn_r _ [7, 8, 9, 10, 11, 12, 13, 6, 14, 15, 16, 17, 18, 19, 20, 21, 22, 23, 24, 25, 26, 27, 28, 29, 30, 31, 32, 33, 34, 35, 36, 37, 38, 39, 40, 41, 42, 43, 44, 45, 46, 47, 48, 49, 50, 51, 52, 53, 54, 55, 56, 57, 58, 59, 60, 61, 62, 63, 64, 65, 66, 67, 68, 69, 70, 71, 72, 73, 74, 75, 76, 77, 78, 79, 80, 81, 82, 83, 84, 85, 86, 87, 88, 89, 90, 91, 92, 93, 94, 95, 96, 97, 98, 99, 100, 101, 102, 103, 104, 105, 106, 107, 108, 109, 110] (by decide +kernel) (by decide +kernel)) (goodIn_sub (fun _ h => List.mem_cons_of_mem _ (List.mem_append_left _ (List.mem_append_right _ h))) (by decide +kernel))) (goodIn_sub (fun _ h => List.mem_cons_of_mem _ (List.mem_append_right _ h)) (by decide +kernel))
set_option maxRecDepth 20000 in
theorem gL_takes_X11_takes : GoodIn wsL_takes (wsV RL 91 RX11 yX11_takes wsX11_takes) := goodIn_app (goodIn_of _ (by decide +kernel)) ggL_takes_X11_takes
theorem dL_takes_0 : decode cL_takes 0 = .ok (.aload_n 2, 1) := by decide +kernel
theorem dL_takes_1 : decode cL_takes 1 = .ok (.iconst 0, 1) := by decide +kernel
theorem dL_takes_2 : decode cL_takes 2 = .ok (.aload_n 0, 1) := by decide +kernel
theorem dL_takes_3 : decode cL_takes 3 = .ok (.iload_n 1, 1) := by decide +kernel
theorem dL_takes_4 : decode cL_takes 4 = .ok (.invokevirtual 91, 3) := by decide +kernel
theorem dL_takes_7 : decode cL_takes 7 = .ok (.i2l, 1) := by decide +kernel
theorem dL_takes_8 : decode cL_takes 8 = .ok (.lastore, 1) := by decide +kernel
theorem dL_takes_9 : decode cL_takes 9 = .ok (.goto 9, 3) := by decide +kernel
theorem dL_takes_12 : decode cL_takes 12 = .ok (.astore_n 3, 1) := by decide +kernel
theorem dL_takes_13 : decode cL_takes 13 = .ok (.iconst 1, 1) := by decide +kernel
theorem dL_takes_14 : decode cL_takes 14 = .ok (.ireturn, 1) := by decide +kernel
theorem dL_takes_15 : decode cL_takes 15 = .ok (.astore_n 3, 1) := by decide +kernel
theorem dL_takes_16 : decode cL_takes 16 = .ok (.iconst 2, 1) := by decide +kernel
theorem dL_takes_17 : decode cL_takes 17 = .ok (.ireturn, 1) := by decide +kernel
theorem dL_takes_18 : decode cL_takes 18 = .ok (.iconst 0, 1) := by decide +kernel
theorem dL_takes_19 : decode cL_takes 19 = .ok (.ireturn, 1) := by decide +kernel
set_option maxRecDepth 20000 in
theorem ggL_setApart_X11_setApart : GoodIn wsL_setApart wsX11_setApart := goodIn_ca (goodIn_r _ [6, 7, 8, 9, 10, 11, 12, 5, 13, 14, 15, 16, 17, 18, 19, 20, 21, 22, 23, 24, 25, 26, 27, 28, 29, 30, 31, 32, 33, 34, 35, 36, 37, 38, 39, 40, 41, 42, 43, 44, 45, 46, 47, 48, 49, 50, 51, 52, 53, 54, 55, 56, 57, 58, 59, 60, 61, 62, 63, 64, 65, 66, 67, 68, 69, 70, 71, 72, 73, 74, 75, 76, 77, 78, 79, 80, 81] (by decide +kernel) (by decide +kernel)) (goodIn_sub (fun _ h => List.mem_cons_of_mem _ (List.mem_append_right _ h)) (by decide +kernel))
set_option maxRecDepth 20000 in
theorem gL_setApart_X11_setApart : GoodIn wsL_setApart (wsV RL 94 RX11 yX11_setApart wsX11_setApart) := goodIn_app (goodIn_of _ (by decide +kernel)) ggL_setApart_X11_setApart
theorem dL_setApart_0 : decode cL_setApart 0 = .ok (.aload 4, 2) := by decide +kernel
theorem dL_setApart_2 : decode cL_setApart 2 = .ok (.iconst 0, 1) := by decide +kernel
theorem dL_setApart_3 : decode cL_setApart 3 = .ok (.aload_n 0, 1) := by decide +kernel
theorem dL_setApart_4 : decode cL_setApart 4 = .ok (.iload_n 1, 1) := by decide +kernel
theorem dL_setApart_5 : decode cL_setApart 5 = .ok (.iload_n 2, 1) := by decide +kernel
theorem dL_setApart_6 : decode cL_setApart 6 = .ok (.iload_n 3, 1) := by decide +kernel
theorem dL_setApart_7 : decode cL_setApart 7 = .ok (.invokevirtual 94, 3) := by decide +kernel
theorem dL_setApart_10 : decode cL_setApart 10 = .ok (.ifCond .eq 7, 3) := by decide +kernel
theorem dL_setApart_13 : decode cL_setApart 13 = .ok (.lconst 1, 1) := by decide +kernel
theorem dL_setApart_14 : decode cL_setApart 14 = .ok (.goto 4, 3) := by decide +kernel
theorem dL_setApart_17 : decode cL_setApart 17 = .ok (.lconst 0, 1) := by decide +kernel
theorem dL_setApart_18 : decode cL_setApart 18 = .ok (.lastore, 1) := by decide +kernel
theorem dL_setApart_19 : decode cL_setApart 19 = .ok (.goto 7, 3) := by decide +kernel
theorem dL_setApart_22 : decode cL_setApart 22 = .ok (.astore 5, 2) := by decide +kernel
theorem dL_setApart_24 : decode cL_setApart 24 = .ok (.iconst 1, 1) := by decide +kernel
theorem dL_setApart_25 : decode cL_setApart 25 = .ok (.ireturn, 1) := by decide +kernel
theorem dL_setApart_26 : decode cL_setApart 26 = .ok (.iconst 0, 1) := by decide +kernel
theorem dL_setApart_27 : decode cL_setApart 27 = .ok (.ireturn, 1) := by decide +kernel
set_option maxRecDepth 20000 in
theorem ggL_examDay_X11_examDay : GoodIn wsL_examDay wsX11_examDay := goodIn_ca (goodIn_r _ [6, 7, 8, 9, 10, 11, 12, 5, 13, 14, 15, 16, 17, 18, 19, 20, 21, 22, 23, 24, 25, 26, 27, 28, 29, 30, 31, 32, 33, 34, 35, 36, 37, 38, 39, 40, 41, 42, 43, 44, 45, 46, 47, 48, 49, 50, 51, 52, 53, 54, 55] (by decide +kernel) (by decide +kernel)) (goodIn_sub (fun _ h => List.mem_cons_of_mem _ (List.mem_append_right _ h)) (by decide +kernel))
set_option maxRecDepth 20000 in
theorem gL_examDay_X11_examDay : GoodIn wsL_examDay (wsV RL 97 RX11 yX11_examDay wsX11_examDay) := goodIn_app (goodIn_of _ (by decide +kernel)) ggL_examDay_X11_examDay
theorem dL_examDay_0 : decode cL_examDay 0 = .ok (.aload_n 2, 1) := by decide +kernel
theorem dL_examDay_1 : decode cL_examDay 1 = .ok (.iconst 0, 1) := by decide +kernel
theorem dL_examDay_2 : decode cL_examDay 2 = .ok (.aload_n 0, 1) := by decide +kernel
theorem dL_examDay_3 : decode cL_examDay 3 = .ok (.iload_n 1, 1) := by decide +kernel
theorem dL_examDay_4 : decode cL_examDay 4 = .ok (.invokevirtual 97, 3) := by decide +kernel
theorem dL_examDay_7 : decode cL_examDay 7 = .ok (.i2l, 1) := by decide +kernel
theorem dL_examDay_8 : decode cL_examDay 8 = .ok (.lastore, 1) := by decide +kernel
theorem dL_examDay_9 : decode cL_examDay 9 = .ok (.goto 6, 3) := by decide +kernel
theorem dL_examDay_12 : decode cL_examDay 12 = .ok (.astore_n 3, 1) := by decide +kernel
theorem dL_examDay_13 : decode cL_examDay 13 = .ok (.iconst 1, 1) := by decide +kernel
theorem dL_examDay_14 : decode cL_examDay 14 = .ok (.ireturn, 1) := by decide +kernel
theorem dL_examDay_15 : decode cL_examDay 15 = .ok (.iconst 0, 1) := by decide +kernel
theorem dL_examDay_16 : decode cL_examDay 16 = .ok (.ireturn, 1) := by decide +kernel
set_option maxRecDepth 20000 in
theorem ggL_setBells_X11_setBells : GoodIn wsL_setBells wsX11_setBells := goodIn_ca (goodIn_r _ [6, 7, 8, 9, 10, 5, 11, 12, 13, 14, 15, 16, 17, 18, 19, 20, 21, 22, 23, 24, 25, 26, 27, 28, 29, 30, 31, 32, 33, 34, 35, 36, 37, 38, 39, 40, 41, 42, 43] (by decide +kernel) (by decide +kernel)) (goodIn_sub (fun _ h => List.mem_cons_of_mem _ (List.mem_append_right _ h)) (by decide +kernel))
set_option maxRecDepth 20000 in
theorem gL_setBells_X11_setBells : GoodIn wsL_setBells (wsV RL 100 RX11 yX11_setBells wsX11_setBells) := goodIn_app (goodIn_of _ (by decide +kernel)) ggL_setBells_X11_setBells
theorem dL_setBells_0 : decode cL_setBells 0 = .ok (.aload 5, 2) := by decide +kernel
theorem dL_setBells_2 : decode cL_setBells 2 = .ok (.iconst 0, 1) := by decide +kernel
theorem dL_setBells_3 : decode cL_setBells 3 = .ok (.aload_n 0, 1) := by decide +kernel
theorem dL_setBells_4 : decode cL_setBells 4 = .ok (.iload_n 1, 1) := by decide +kernel
theorem dL_setBells_5 : decode cL_setBells 5 = .ok (.iload_n 2, 1) := by decide +kernel
theorem dL_setBells_6 : decode cL_setBells 6 = .ok (.iload_n 3, 1) := by decide +kernel
theorem dL_setBells_7 : decode cL_setBells 7 = .ok (.iload 4, 2) := by decide +kernel
theorem dL_setBells_9 : decode cL_setBells 9 = .ok (.invokevirtual 100, 3) := by decide +kernel
theorem dL_setBells_12 : decode cL_setBells 12 = .ok (.i2l, 1) := by decide +kernel
theorem dL_setBells_13 : decode cL_setBells 13 = .ok (.lastore, 1) := by decide +kernel
theorem dL_setBells_14 : decode cL_setBells 14 = .ok (.goto 7, 3) := by decide +kernel
theorem dL_setBells_17 : decode cL_setBells 17 = .ok (.astore 6, 2) := by decide +kernel
theorem dL_setBells_19 : decode cL_setBells 19 = .ok (.iconst 1, 1) := by decide +kernel
theorem dL_setBells_20 : decode cL_setBells 20 = .ok (.ireturn, 1) := by decide +kernel
theorem dL_setBells_21 : decode cL_setBells 21 = .ok (.iconst 0, 1) := by decide +kernel
theorem dL_setBells_22 : decode cL_setBells 22 = .ok (.ireturn, 1) := by decide +kernel
set_option maxRecDepth 20000 in
theorem ggL_bell_X11_bell : GoodIn wsL_bell wsX11_bell := goodIn_ca (goodIn_r _ [6, 7, 8, 9, 10, 5, 11, 12, 13, 14, 15, 16, 17, 18, 19, 20, 21, 22, 23, 24, 25, 26, 27, 28, 29, 30, 31, 32, 33, 34, 35, 36, 37, 38, 39] (by decide +kernel) (by decide +kernel)) (goodIn_sub (fun _ h => List.mem_cons_of_mem _ (List.mem_append_right _ h)) (by decide +kernel))
set_option maxRecDepth 20000 in
theorem gL_bell_X11_bell : GoodIn wsL_bell (wsV RL 103 RX11 yX11_bell wsX11_bell) := goodIn_app (goodIn_of _ (by decide +kernel)) ggL_bell_X11_bell
theorem dL_bell_0 : decode cL_bell 0 = .ok (.aload_n 3, 1) := by decide +kernel
theorem dL_bell_1 : decode cL_bell 1 = .ok (.iconst 0, 1) := by decide +kernel
theorem dL_bell_2 : decode cL_bell 2 = .ok (.aload_n 0, 1) := by decide +kernel
theorem dL_bell_3 : decode cL_bell 3 = .ok (.iload_n 1, 1) := by decide +kernel
theorem dL_bell_4 : decode cL_bell 4 = .ok (.iload_n 2, 1) := by decide +kernel
theorem dL_bell_5 : decode cL_bell 5 = .ok (.invokevirtual 103, 3) := by decide +kernel
theorem dL_bell_8 : decode cL_bell 8 = .ok (.i2l, 1) := by decide +kernel
theorem dL_bell_9 : decode cL_bell 9 = .ok (.lastore, 1) := by decide +kernel
theorem dL_bell_10 : decode cL_bell 10 = .ok (.goto 7, 3) := by decide +kernel
theorem dL_bell_13 : decode cL_bell 13 = .ok (.astore 4, 2) := by decide +kernel
theorem dL_bell_15 : decode cL_bell 15 = .ok (.iconst 1, 1) := by decide +kernel
theorem dL_bell_16 : decode cL_bell 16 = .ok (.ireturn, 1) := by decide +kernel
theorem dL_bell_17 : decode cL_bell 17 = .ok (.iconst 0, 1) := by decide +kernel
theorem dL_bell_18 : decode cL_bell 18 = .ok (.ireturn, 1) := by decide +kernel
set_option maxRecDepth 20000 in
theorem ggL_slotAt_X11_slotAt : GoodIn wsL_slotAt wsX11_slotAt := goodIn_ca (goodIn_r _ [6, 7, 8, 9, 10, 5, 11, 12, 13, 14, 15, 16, 17, 18, 19, 20, 21, 22, 23, 24, 25, 26, 27, 28, 29, 30, 31, 32, 33, 34, 35, 36, 37, 38, 39] (by decide +kernel) (by decide +kernel)) (goodIn_sub (fun _ h => List.mem_cons_of_mem _ (List.mem_append_right _ h)) (by decide +kernel))
set_option maxRecDepth 20000 in
theorem gL_slotAt_X11_slotAt : GoodIn wsL_slotAt (wsV RL 106 RX11 yX11_slotAt wsX11_slotAt) := goodIn_app (goodIn_of _ (by decide +kernel)) ggL_slotAt_X11_slotAt
theorem dL_slotAt_0 : decode cL_slotAt 0 = .ok (.aload_n 3, 1) := by decide +kernel
theorem dL_slotAt_1 : decode cL_slotAt 1 = .ok (.iconst 0, 1) := by decide +kernel
theorem dL_slotAt_2 : decode cL_slotAt 2 = .ok (.aload_n 0, 1) := by decide +kernel
theorem dL_slotAt_3 : decode cL_slotAt 3 = .ok (.iload_n 1, 1) := by decide +kernel
theorem dL_slotAt_4 : decode cL_slotAt 4 = .ok (.iload_n 2, 1) := by decide +kernel
theorem dL_slotAt_5 : decode cL_slotAt 5 = .ok (.invokevirtual 106, 3) := by decide +kernel
theorem dL_slotAt_8 : decode cL_slotAt 8 = .ok (.i2l, 1) := by decide +kernel
theorem dL_slotAt_9 : decode cL_slotAt 9 = .ok (.lastore, 1) := by decide +kernel
theorem dL_slotAt_10 : decode cL_slotAt 10 = .ok (.goto 7, 3) := by decide +kernel
theorem dL_slotAt_13 : decode cL_slotAt 13 = .ok (.astore 4, 2) := by decide +kernel
theorem dL_slotAt_15 : decode cL_slotAt 15 = .ok (.iconst 1, 1) := by decide +kernel
theorem dL_slotAt_16 : decode cL_slotAt 16 = .ok (.ireturn, 1) := by decide +kernel
theorem dL_slotAt_17 : decode cL_slotAt 17 = .ok (.iconst 0, 1) := by decide +kernel
theorem dL_slotAt_18 : decode cL_slotAt 18 = .ok (.ireturn, 1) := by decide +kernel
set_option maxRecDepth 20000 in
theorem ggL_setYear_X11_setYear : GoodIn wsL_setYear wsX11_setYear := goodIn_ca (goodIn_r _ [6, 7, 8, 9, 10, 11, 12, 5, 13, 14, 15, 16, 17, 18, 19, 20, 21, 22, 23, 24, 25, 26, 27, 28, 29, 30, 31, 32, 33, 34, 35, 36, 37, 38, 39, 40, 41, 42, 43, 44, 45, 46, 47, 48, 49, 50, 51, 52, 53, 54, 55, 56, 57, 58, 59, 60, 61, 62, 63] (by decide +kernel) (by decide +kernel)) (goodIn_sub (fun _ h => List.mem_cons_of_mem _ (List.mem_append_right _ h)) (by decide +kernel))
set_option maxRecDepth 20000 in
theorem gL_setYear_X11_setYear : GoodIn wsL_setYear (wsV RL 109 RX11 yX11_setYear wsX11_setYear) := goodIn_app (goodIn_of _ (by decide +kernel)) ggL_setYear_X11_setYear
theorem dL_setYear_0 : decode cL_setYear 0 = .ok (.aload_n 2, 1) := by decide +kernel
theorem dL_setYear_1 : decode cL_setYear 1 = .ok (.iconst 0, 1) := by decide +kernel
theorem dL_setYear_2 : decode cL_setYear 2 = .ok (.aload_n 0, 1) := by decide +kernel
theorem dL_setYear_3 : decode cL_setYear 3 = .ok (.iload_n 1, 1) := by decide +kernel
theorem dL_setYear_4 : decode cL_setYear 4 = .ok (.invokevirtual 109, 3) := by decide +kernel
theorem dL_setYear_7 : decode cL_setYear 7 = .ok (.i2l, 1) := by decide +kernel
theorem dL_setYear_8 : decode cL_setYear 8 = .ok (.lastore, 1) := by decide +kernel
theorem dL_setYear_9 : decode cL_setYear 9 = .ok (.goto 6, 3) := by decide +kernel
theorem dL_setYear_12 : decode cL_setYear 12 = .ok (.astore_n 3, 1) := by decide +kernel
theorem dL_setYear_13 : decode cL_setYear 13 = .ok (.iconst 1, 1) := by decide +kernel
theorem dL_setYear_14 : decode cL_setYear 14 = .ok (.ireturn, 1) := by decide +kernel
theorem dL_setYear_15 : decode cL_setYear 15 = .ok (.iconst 0, 1) := by decide +kernel
theorem dL_setYear_16 : decode cL_setYear 16 = .ok (.ireturn, 1) := by decide +kernel
set_option maxRecDepth 20000 in
theorem ggL_holiday_X11_holiday : GoodIn wsL_holiday wsX11_holiday := goodIn_ca (goodIn_ca (goodIn_r _ [7, 8, 9, 10, 11, 12, 13, 14, 15, 16, 6, 17, 18, 19, 20, 21, 22, 23, 24, 25, 26, 27, 28, 29, 30, 31, 32, 33, 34, 35, 36, 37, 38, 39, 40, 41, 42, 43, 44, 45, 46, 47, 48, 49, 50, 51, 52, 53, 54, 55, 56, 57] (by decide +kernel) (by decide +kernel)) (goodIn_sub (fun _ h => List.mem_cons_of_mem _ (List.mem_append_left _ (List.mem_append_right _ h))) (by decide +kernel))) (goodIn_sub (fun _ h => List.mem_cons_of_mem _ (List.mem_append_right _ h)) (by decide +kernel))
set_option maxRecDepth 20000 in
theorem gL_holiday_X11_holiday : GoodIn wsL_holiday (wsV RL 112 RX11 yX11_holiday wsX11_holiday) := goodIn_app (goodIn_of _ (by decide +kernel)) ggL_holiday_X11_holiday
theorem dL_holiday_0 : decode cL_holiday 0 = .ok (.aload_n 3, 1) := by decide +kernel
theorem dL_holiday_1 : decode cL_holiday 1 = .ok (.iconst 0, 1) := by decide +kernel
theorem dL_holiday_2 : decode cL_holiday 2 = .ok (.aload_n 0, 1) := by decide +kernel
theorem dL_holiday_3 : decode cL_holiday 3 = .ok (.iload_n 1, 1) := by decide +kernel
theorem dL_holiday_4 : decode cL_holiday 4 = .ok (.iload_n 2, 1) := by decide +kernel
theorem dL_holiday_5 : decode cL_holiday 5 = .ok (.invokevirtual 112, 3) := by decide +kernel
theorem dL_holiday_8 : decode cL_holiday 8 = .ok (.i2l, 1) := by decide +kernel
theorem dL_holiday_9 : decode cL_holiday 9 = .ok (.lastore, 1) := by decide +kernel
theorem dL_holiday_10 : decode cL_holiday 10 = .ok (.goto 11, 3) := by decide +kernel
theorem dL_holiday_13 : decode cL_holiday 13 = .ok (.astore 4, 2) := by decide +kernel
theorem dL_holiday_15 : decode cL_holiday 15 = .ok (.iconst 1, 1) := by decide +kernel
theorem dL_holiday_16 : decode cL_holiday 16 = .ok (.ireturn, 1) := by decide +kernel
theorem dL_holiday_17 : decode cL_holiday 17 = .ok (.astore 4, 2) := by decide +kernel
theorem dL_holiday_19 : decode cL_holiday 19 = .ok (.iconst 2, 1) := by decide +kernel
theorem dL_holiday_20 : decode cL_holiday 20 = .ok (.ireturn, 1) := by decide +kernel
theorem dL_holiday_21 : decode cL_holiday 21 = .ok (.iconst 0, 1) := by decide +kernel
theorem dL_holiday_22 : decode cL_holiday 22 = .ok (.ireturn, 1) := by decide +kernel
set_option maxRecDepth 20000 in
theorem ggL_dateOf_X11_dateOf : GoodIn wsL_dateOf wsX11_dateOf := goodIn_ca (goodIn_r _ [6, 7, 8, 9, 10, 11, 12, 13, 14, 15, 16, 17, 18, 19, 20, 21, 22, 23, 24, 25, 26, 27, 28, 29, 30, 31, 32, 33, 34, 35, 36, 37, 38] (by decide +kernel) (by decide +kernel)) (goodIn_sub (fun _ h => List.mem_cons_of_mem _ (List.mem_append_right _ h)) (by decide +kernel))
set_option maxRecDepth 20000 in
theorem gL_dateOf_X11_dateOf : GoodIn wsL_dateOf (wsV RL 115 RX11 yX11_dateOf wsX11_dateOf) := goodIn_app (goodIn_of _ (by decide +kernel)) ggL_dateOf_X11_dateOf
theorem dL_dateOf_0 : decode cL_dateOf 0 = .ok (.aload_n 2, 1) := by decide +kernel
theorem dL_dateOf_1 : decode cL_dateOf 1 = .ok (.iconst 0, 1) := by decide +kernel
theorem dL_dateOf_2 : decode cL_dateOf 2 = .ok (.aload_n 0, 1) := by decide +kernel
theorem dL_dateOf_3 : decode cL_dateOf 3 = .ok (.iload_n 1, 1) := by decide +kernel
theorem dL_dateOf_4 : decode cL_dateOf 4 = .ok (.invokevirtual 115, 3) := by decide +kernel
theorem dL_dateOf_7 : decode cL_dateOf 7 = .ok (.i2l, 1) := by decide +kernel
theorem dL_dateOf_8 : decode cL_dateOf 8 = .ok (.lastore, 1) := by decide +kernel
theorem dL_dateOf_9 : decode cL_dateOf 9 = .ok (.goto 6, 3) := by decide +kernel
theorem dL_dateOf_12 : decode cL_dateOf 12 = .ok (.astore_n 3, 1) := by decide +kernel
theorem dL_dateOf_13 : decode cL_dateOf 13 = .ok (.iconst 1, 1) := by decide +kernel
theorem dL_dateOf_14 : decode cL_dateOf 14 = .ok (.ireturn, 1) := by decide +kernel
theorem dL_dateOf_15 : decode cL_dateOf 15 = .ok (.iconst 0, 1) := by decide +kernel
theorem dL_dateOf_16 : decode cL_dateOf 16 = .ok (.ireturn, 1) := by decide +kernel
set_option maxRecDepth 20000 in
theorem ggL_numberOf_X11_numberOf : GoodIn wsL_numberOf wsX11_numberOf := goodIn_ca (goodIn_r _ [6, 7, 8, 9, 10, 11, 5, 12, 13, 14, 15, 16, 17, 18, 19, 20, 21, 22, 23, 24, 25, 26, 27, 28, 29, 30, 31, 32, 33, 34, 35, 36, 37, 38, 39, 40, 41, 42, 43, 44, 45, 46, 47, 48, 49, 50, 51, 52, 53] (by decide +kernel) (by decide +kernel)) (goodIn_sub (fun _ h => List.mem_cons_of_mem _ (List.mem_append_right _ h)) (by decide +kernel))
set_option maxRecDepth 20000 in
theorem gL_numberOf_X11_numberOf : GoodIn wsL_numberOf (wsV RL 118 RX11 yX11_numberOf wsX11_numberOf) := goodIn_app (goodIn_of _ (by decide +kernel)) ggL_numberOf_X11_numberOf
theorem dL_numberOf_0 : decode cL_numberOf 0 = .ok (.aload_n 2, 1) := by decide +kernel
theorem dL_numberOf_1 : decode cL_numberOf 1 = .ok (.iconst 0, 1) := by decide +kernel
theorem dL_numberOf_2 : decode cL_numberOf 2 = .ok (.aload_n 0, 1) := by decide +kernel
theorem dL_numberOf_3 : decode cL_numberOf 3 = .ok (.iload_n 1, 1) := by decide +kernel
theorem dL_numberOf_4 : decode cL_numberOf 4 = .ok (.invokevirtual 118, 3) := by decide +kernel
theorem dL_numberOf_7 : decode cL_numberOf 7 = .ok (.i2l, 1) := by decide +kernel
theorem dL_numberOf_8 : decode cL_numberOf 8 = .ok (.lastore, 1) := by decide +kernel
theorem dL_numberOf_9 : decode cL_numberOf 9 = .ok (.goto 6, 3) := by decide +kernel
theorem dL_numberOf_12 : decode cL_numberOf 12 = .ok (.astore_n 3, 1) := by decide +kernel
theorem dL_numberOf_13 : decode cL_numberOf 13 = .ok (.iconst 1, 1) := by decide +kernel
theorem dL_numberOf_14 : decode cL_numberOf 14 = .ok (.ireturn, 1) := by decide +kernel
theorem dL_numberOf_15 : decode cL_numberOf 15 = .ok (.iconst 0, 1) := by decide +kernel
theorem dL_numberOf_16 : decode cL_numberOf 16 = .ok (.ireturn, 1) := by decide +kernel
set_option maxRecDepth 20000 in
theorem ggL_nextDay_X11_nextDay : GoodIn wsL_nextDay wsX11_nextDay := goodIn_ca (goodIn_r _ [6, 7, 8, 9, 10, 11, 12, 13, 14, 15, 5, 16, 17, 18, 19, 20, 21, 22, 23, 24, 25, 26, 27, 28, 29, 30, 31, 32, 33, 34, 35, 36, 37, 38, 39, 40, 41, 42, 43, 44, 45, 46, 47, 48, 49, 50, 51, 52, 53, 54, 55, 56, 57, 58] (by decide +kernel) (by decide +kernel)) (goodIn_sub (fun _ h => List.mem_cons_of_mem _ (List.mem_append_right _ h)) (by decide +kernel))
set_option maxRecDepth 20000 in
theorem gL_nextDay_X11_nextDay : GoodIn wsL_nextDay (wsV RL 121 RX11 yX11_nextDay wsX11_nextDay) := goodIn_app (goodIn_of _ (by decide +kernel)) ggL_nextDay_X11_nextDay
theorem dL_nextDay_0 : decode cL_nextDay 0 = .ok (.aload_n 2, 1) := by decide +kernel
theorem dL_nextDay_1 : decode cL_nextDay 1 = .ok (.iconst 0, 1) := by decide +kernel
theorem dL_nextDay_2 : decode cL_nextDay 2 = .ok (.aload_n 0, 1) := by decide +kernel
theorem dL_nextDay_3 : decode cL_nextDay 3 = .ok (.iload_n 1, 1) := by decide +kernel
theorem dL_nextDay_4 : decode cL_nextDay 4 = .ok (.invokevirtual 121, 3) := by decide +kernel
theorem dL_nextDay_7 : decode cL_nextDay 7 = .ok (.i2l, 1) := by decide +kernel
theorem dL_nextDay_8 : decode cL_nextDay 8 = .ok (.lastore, 1) := by decide +kernel
theorem dL_nextDay_9 : decode cL_nextDay 9 = .ok (.goto 6, 3) := by decide +kernel
theorem dL_nextDay_12 : decode cL_nextDay 12 = .ok (.astore_n 3, 1) := by decide +kernel
theorem dL_nextDay_13 : decode cL_nextDay 13 = .ok (.iconst 1, 1) := by decide +kernel
theorem dL_nextDay_14 : decode cL_nextDay 14 = .ok (.ireturn, 1) := by decide +kernel
theorem dL_nextDay_15 : decode cL_nextDay 15 = .ok (.iconst 0, 1) := by decide +kernel
theorem dL_nextDay_16 : decode cL_nextDay 16 = .ok (.ireturn, 1) := by decide +kernel
set_option maxRecDepth 20000 in
theorem ggL_weekOf_X11_weekOf : GoodIn wsL_weekOf wsX11_weekOf := goodIn_ca (goodIn_r _ [6, 7, 8, 9, 10, 11, 5, 12, 13, 14, 15, 16, 17, 18, 19, 20, 21, 22, 23, 24, 25, 26, 27, 28, 29, 30, 31, 32, 33, 34, 35, 36, 37, 38, 39, 40, 41, 42, 43, 44, 45, 46, 47, 48, 49, 50, 51, 52, 53, 54, 55, 56, 57, 58, 59, 60, 61, 62, 63, 64, 65, 66, 67, 68, 69] (by decide +kernel) (by decide +kernel)) (goodIn_sub (fun _ h => List.mem_cons_of_mem _ (List.mem_append_right _ h)) (by decide +kernel))
set_option maxRecDepth 20000 in
theorem gL_weekOf_X11_weekOf : GoodIn wsL_weekOf (wsV RL 124 RX11 yX11_weekOf wsX11_weekOf) := goodIn_app (goodIn_of _ (by decide +kernel)) ggL_weekOf_X11_weekOf
theorem dL_weekOf_0 : decode cL_weekOf 0 = .ok (.aload_n 3, 1) := by decide +kernel
theorem dL_weekOf_1 : decode cL_weekOf 1 = .ok (.iconst 0, 1) := by decide +kernel
theorem dL_weekOf_2 : decode cL_weekOf 2 = .ok (.aload_n 0, 1) := by decide +kernel
theorem dL_weekOf_3 : decode cL_weekOf 3 = .ok (.iload_n 1, 1) := by decide +kernel
theorem dL_weekOf_4 : decode cL_weekOf 4 = .ok (.iload_n 2, 1) := by decide +kernel
theorem dL_weekOf_5 : decode cL_weekOf 5 = .ok (.invokevirtual 124, 3) := by decide +kernel
theorem dL_weekOf_8 : decode cL_weekOf 8 = .ok (.i2l, 1) := by decide +kernel
theorem dL_weekOf_9 : decode cL_weekOf 9 = .ok (.lastore, 1) := by decide +kernel
theorem dL_weekOf_10 : decode cL_weekOf 10 = .ok (.goto 7, 3) := by decide +kernel
theorem dL_weekOf_13 : decode cL_weekOf 13 = .ok (.astore 4, 2) := by decide +kernel
theorem dL_weekOf_15 : decode cL_weekOf 15 = .ok (.iconst 1, 1) := by decide +kernel
theorem dL_weekOf_16 : decode cL_weekOf 16 = .ok (.ireturn, 1) := by decide +kernel
theorem dL_weekOf_17 : decode cL_weekOf 17 = .ok (.iconst 0, 1) := by decide +kernel
theorem dL_weekOf_18 : decode cL_weekOf 18 = .ok (.ireturn, 1) := by decide +kernel
set_option maxRecDepth 20000 in
theorem ggL_dayOfWeek_X11_dayOfWeek : GoodIn wsL_dayOfWeek wsX11_dayOfWeek := goodIn_ca (goodIn_r _ [6, 7, 8, 9, 10, 5, 11, 12, 13, 14, 15, 16, 17, 18, 19, 20, 21, 22, 23, 24, 25, 26, 27, 28, 29, 30, 31, 32, 33, 34, 35, 36, 37, 38, 39, 40, 41, 42, 43, 44, 45, 46, 47] (by decide +kernel) (by decide +kernel)) (goodIn_sub (fun _ h => List.mem_cons_of_mem _ (List.mem_append_right _ h)) (by decide +kernel))
set_option maxRecDepth 20000 in
theorem gL_dayOfWeek_X11_dayOfWeek : GoodIn wsL_dayOfWeek (wsV RL 127 RX11 yX11_dayOfWeek wsX11_dayOfWeek) := goodIn_app (goodIn_of _ (by decide +kernel)) ggL_dayOfWeek_X11_dayOfWeek
theorem dL_dayOfWeek_0 : decode cL_dayOfWeek 0 = .ok (.aload_n 2, 1) := by decide +kernel
theorem dL_dayOfWeek_1 : decode cL_dayOfWeek 1 = .ok (.iconst 0, 1) := by decide +kernel
theorem dL_dayOfWeek_2 : decode cL_dayOfWeek 2 = .ok (.aload_n 0, 1) := by decide +kernel
theorem dL_dayOfWeek_3 : decode cL_dayOfWeek 3 = .ok (.iload_n 1, 1) := by decide +kernel
theorem dL_dayOfWeek_4 : decode cL_dayOfWeek 4 = .ok (.invokevirtual 127, 3) := by decide +kernel
theorem dL_dayOfWeek_7 : decode cL_dayOfWeek 7 = .ok (.i2l, 1) := by decide +kernel
theorem dL_dayOfWeek_8 : decode cL_dayOfWeek 8 = .ok (.lastore, 1) := by decide +kernel
theorem dL_dayOfWeek_9 : decode cL_dayOfWeek 9 = .ok (.goto 6, 3) := by decide +kernel
theorem dL_dayOfWeek_12 : decode cL_dayOfWeek 12 = .ok (.astore_n 3, 1) := by decide +kernel
theorem dL_dayOfWeek_13 : decode cL_dayOfWeek 13 = .ok (.iconst 1, 1) := by decide +kernel
theorem dL_dayOfWeek_14 : decode cL_dayOfWeek 14 = .ok (.ireturn, 1) := by decide +kernel
theorem dL_dayOfWeek_15 : decode cL_dayOfWeek 15 = .ok (.iconst 0, 1) := by decide +kernel
theorem dL_dayOfWeek_16 : decode cL_dayOfWeek 16 = .ok (.ireturn, 1) := by decide +kernel
set_option maxRecDepth 20000 in
theorem ggL_later_X11_later : GoodIn wsL_later wsX11_later := goodIn_ca (goodIn_r _ [6, 7, 8, 9, 10, 5, 11, 12, 13, 14, 15, 16, 17, 18, 19, 20, 21, 22, 23, 24, 25, 26, 27, 28, 29, 30, 31, 32, 33, 34, 35, 36, 37, 38, 39, 40, 41, 42, 43, 44, 45, 46, 47, 48, 49] (by decide +kernel) (by decide +kernel)) (goodIn_sub (fun _ h => List.mem_cons_of_mem _ (List.mem_append_right _ h)) (by decide +kernel))
set_option maxRecDepth 20000 in
theorem gL_later_X11_later : GoodIn wsL_later (wsV RL 130 RX11 yX11_later wsX11_later) := goodIn_app (goodIn_of _ (by decide +kernel)) ggL_later_X11_later
theorem dL_later_0 : decode cL_later 0 = .ok (.aload_n 3, 1) := by decide +kernel
theorem dL_later_1 : decode cL_later 1 = .ok (.iconst 0, 1) := by decide +kernel
theorem dL_later_2 : decode cL_later 2 = .ok (.aload_n 0, 1) := by decide +kernel
theorem dL_later_3 : decode cL_later 3 = .ok (.iload_n 1, 1) := by decide +kernel
theorem dL_later_4 : decode cL_later 4 = .ok (.iload_n 2, 1) := by decide +kernel
theorem dL_later_5 : decode cL_later 5 = .ok (.invokevirtual 130, 3) := by decide +kernel
theorem dL_later_8 : decode cL_later 8 = .ok (.i2l, 1) := by decide +kernel
theorem dL_later_9 : decode cL_later 9 = .ok (.lastore, 1) := by decide +kernel
theorem dL_later_10 : decode cL_later 10 = .ok (.goto 7, 3) := by decide +kernel
theorem dL_later_13 : decode cL_later 13 = .ok (.astore 4, 2) := by decide +kernel
theorem dL_later_15 : decode cL_later 15 = .ok (.iconst 1, 1) := by decide +kernel
theorem dL_later_16 : decode cL_later 16 = .ok (.ireturn, 1) := by decide +kernel
theorem dL_later_17 : decode cL_later 17 = .ok (.iconst 0, 1) := by decide +kernel
theorem dL_later_18 : decode cL_later 18 = .ok (.ireturn, 1) := by decide +kernel
set_option maxRecDepth 20000 in
theorem ggL_lostLessons_X11_lostLessons : GoodIn wsL_lostLessons wsX11_lostLessons := goodIn_ca (goodIn_ca (goodIn_r _ [7, 8, 9, 10, 11, 12, 13, 6, 14, 15, 16, 17, 18, 19, 20, 21, 22, 23, 24, 25, 26, 27, 28, 29, 30, 31, 32, 33, 34, 35, 36, 37, 38, 39, 40, 41, 42, 43, 44, 45, 46, 47, 48, 49, 50, 51, 52, 53, 54, 55, 56, 57, 58, 59, 60, 61, 62] (by decide +kernel) (by decide +kernel)) (goodIn_sub (fun _ h => List.mem_cons_of_mem _ (List.mem_append_left _ (List.mem_append_right _ h))) (by decide +kernel))) (goodIn_sub (fun _ h => List.mem_cons_of_mem _ (List.mem_append_right _ h)) (by decide +kernel))
set_option maxRecDepth 20000 in
theorem gL_lostLessons_X11_lostLessons : GoodIn wsL_lostLessons (wsV RL 133 RX11 yX11_lostLessons wsX11_lostLessons) := goodIn_app (goodIn_of _ (by decide +kernel)) ggL_lostLessons_X11_lostLessons
theorem dL_lostLessons_0 : decode cL_lostLessons 0 = .ok (.aload_n 2, 1) := by decide +kernel
theorem dL_lostLessons_1 : decode cL_lostLessons 1 = .ok (.iconst 0, 1) := by decide +kernel
theorem dL_lostLessons_2 : decode cL_lostLessons 2 = .ok (.aload_n 0, 1) := by decide +kernel
theorem dL_lostLessons_3 : decode cL_lostLessons 3 = .ok (.iload_n 1, 1) := by decide +kernel
theorem dL_lostLessons_4 : decode cL_lostLessons 4 = .ok (.invokevirtual 133, 3) := by decide +kernel
theorem dL_lostLessons_7 : decode cL_lostLessons 7 = .ok (.i2l, 1) := by decide +kernel
theorem dL_lostLessons_8 : decode cL_lostLessons 8 = .ok (.lastore, 1) := by decide +kernel
theorem dL_lostLessons_9 : decode cL_lostLessons 9 = .ok (.goto 9, 3) := by decide +kernel
theorem dL_lostLessons_12 : decode cL_lostLessons 12 = .ok (.astore_n 3, 1) := by decide +kernel
theorem dL_lostLessons_13 : decode cL_lostLessons 13 = .ok (.iconst 1, 1) := by decide +kernel
theorem dL_lostLessons_14 : decode cL_lostLessons 14 = .ok (.ireturn, 1) := by decide +kernel
theorem dL_lostLessons_15 : decode cL_lostLessons 15 = .ok (.astore_n 3, 1) := by decide +kernel
theorem dL_lostLessons_16 : decode cL_lostLessons 16 = .ok (.iconst 2, 1) := by decide +kernel
theorem dL_lostLessons_17 : decode cL_lostLessons 17 = .ok (.ireturn, 1) := by decide +kernel
theorem dL_lostLessons_18 : decode cL_lostLessons 18 = .ok (.iconst 0, 1) := by decide +kernel
theorem dL_lostLessons_19 : decode cL_lostLessons 19 = .ok (.ireturn, 1) := by decide +kernel
set_option maxRecDepth 20000 in
theorem ggL_append_X11_append : GoodIn wsL_append wsX11_append := goodIn_ca (goodIn_r _ [6, 7, 8, 9, 10, 11, 12, 13, 14, 15, 16, 17, 18, 19, 20, 21, 22, 23, 24, 25, 26, 27, 28, 29, 30, 31, 32, 33, 34, 35, 36, 37, 38, 39, 40] (by decide +kernel) (by decide +kernel)) (goodIn_sub (fun _ h => List.mem_cons_of_mem _ (List.mem_append_right _ h)) (by decide +kernel))
set_option maxRecDepth 20000 in
theorem gL_append_X11_append : GoodIn wsL_append (wsV RL 136 RX11 yX11_append wsX11_append) := goodIn_app (goodIn_of _ (by decide +kernel)) ggL_append_X11_append
theorem dL_append_0 : decode cL_append 0 = .ok (.aload 6, 2) := by decide +kernel
theorem dL_append_2 : decode cL_append 2 = .ok (.iconst 0, 1) := by decide +kernel
theorem dL_append_3 : decode cL_append 3 = .ok (.aload_n 0, 1) := by decide +kernel
theorem dL_append_4 : decode cL_append 4 = .ok (.iload_n 1, 1) := by decide +kernel
theorem dL_append_5 : decode cL_append 5 = .ok (.iload_n 2, 1) := by decide +kernel
theorem dL_append_6 : decode cL_append 6 = .ok (.iload_n 3, 1) := by decide +kernel
theorem dL_append_7 : decode cL_append 7 = .ok (.iload 4, 2) := by decide +kernel
theorem dL_append_9 : decode cL_append 9 = .ok (.iload 5, 2) := by decide +kernel
theorem dL_append_11 : decode cL_append 11 = .ok (.invokevirtual 136, 3) := by decide +kernel
theorem dL_append_14 : decode cL_append 14 = .ok (.i2l, 1) := by decide +kernel
theorem dL_append_15 : decode cL_append 15 = .ok (.lastore, 1) := by decide +kernel
theorem dL_append_16 : decode cL_append 16 = .ok (.goto 7, 3) := by decide +kernel
theorem dL_append_19 : decode cL_append 19 = .ok (.astore 7, 2) := by decide +kernel
theorem dL_append_21 : decode cL_append 21 = .ok (.iconst 1, 1) := by decide +kernel
theorem dL_append_22 : decode cL_append 22 = .ok (.ireturn, 1) := by decide +kernel
theorem dL_append_23 : decode cL_append 23 = .ok (.iconst 0, 1) := by decide +kernel
theorem dL_append_24 : decode cL_append 24 = .ok (.ireturn, 1) := by decide +kernel
set_option maxRecDepth 20000 in
theorem ggL_read_X11_read : GoodIn wsL_read wsX11_read := goodIn_ca (goodIn_ca (goodIn_r _ [7, 8, 9, 10, 11, 12, 13, 14, 15, 16, 17, 18, 19, 20, 21, 22, 23, 24, 25, 26, 27, 28, 29, 30, 31, 32, 33, 34, 35, 36, 37, 38, 39, 40, 41, 42, 43, 44, 45, 46, 47, 48, 49, 50, 51, 52, 53, 54, 55, 56, 57, 58, 59, 60, 61, 62, 63, 64, 65, 66, 67, 68, 69, 70, 71, 72, 73, 74, 75, 76, 77, 78, 79, 80, 81, 82, 83, 84, 85, 86, 87, 88, 89, 90, 91, 92, 93, 94, 95, 96, 97, 98, 99, 100, 101, 102, 103, 104, 105, 106, 107, 108, 109, 110, 111, 112, 113, 114, 115, 116, 117, 118, 119, 120, 121, 122, 123, 124, 125, 126, 127, 128, 129, 130, 131, 132, 133, 134, 135, 136, 137, 138, 139, 140, 141, 142, 143, 144, 145, 146, 147, 148, 149, 150, 151, 152, 153, 154, 155, 156, 157, 158, 159, 160, 161, 162, 163, 164, 165, 166, 167, 168, 6, 169, 170, 171, 172, 173, 174, 175, 176, 177, 178, 179, 180, 181, 182, 183, 184, 185, 186, 187, 188, 189, 190, 191, 192, 193, 194, 195, 196, 197, 198, 199, 200, 201, 202, 203, 204, 205, 206, 207, 208, 209, 210, 211, 212, 213, 214, 215, 216, 217, 218, 219, 220, 221, 222, 223, 224, 225, 226, 227, 228, 229, 230, 231, 232, 233, 234, 235, 236, 237, 238, 239, 240, 241, 242, 243, 244, 245, 246, 247, 248, 249, 250, 251, 252, 253, 254, 255, 256, 257, 258, 259, 260, 261, 262, 263, 264, 265, 266, 267, 268, 269, 270, 271, 272, 273, 274, 275, 276, 277, 278, 279, 280, 281, 282, 283, 284] (by decide +kernel) (by decide +kernel)) (goodIn_sub (fun _ h => List.mem_cons_of_mem _ (List.mem_append_left _ (List.mem_append_right _ h))) (by decide +kernel))) (goodIn_sub (fun _ h => List.mem_cons_of_mem _ (List.mem_append_right _ h)) (by decide +kernel))
set_option maxRecDepth 20000 in
theorem gL_read_X11_read : GoodIn wsL_read (wsV RL 140 RX11 yX11_read wsX11_read) := goodIn_app (goodIn_of _ (by decide +kernel)) ggL_read_X11_read
theorem dL_read_0 : decode cL_read 0 = .ok (.aload_n 1, 1) := by decide +kernel
theorem dL_read_1 : decode cL_read 1 = .ok (.iconst 0, 1) := by decide +kernel
theorem dL_read_2 : decode cL_read 2 = .ok (.aload_n 0, 1) := by decide +kernel
theorem dL_read_3 : decode cL_read 3 = .ok (.invokevirtual 140, 3) := by decide +kernel
theorem dL_read_6 : decode cL_read 6 = .ok (.i2l, 1) := by decide +kernel
theorem dL_read_7 : decode cL_read 7 = .ok (.lastore, 1) := by decide +kernel
theorem dL_read_8 : decode cL_read 8 = .ok (.goto 9, 3) := by decide +kernel
theorem dL_read_11 : decode cL_read 11 = .ok (.astore_n 2, 1) := by decide +kernel
theorem dL_read_12 : decode cL_read 12 = .ok (.iconst 1, 1) := by decide +kernel
theorem dL_read_13 : decode cL_read 13 = .ok (.ireturn, 1) := by decide +kernel
theorem dL_read_14 : decode cL_read 14 = .ok (.astore_n 2, 1) := by decide +kernel
theorem dL_read_15 : decode cL_read 15 = .ok (.iconst 2, 1) := by decide +kernel
theorem dL_read_16 : decode cL_read 16 = .ok (.ireturn, 1) := by decide +kernel
theorem dL_read_17 : decode cL_read 17 = .ok (.iconst 0, 1) := by decide +kernel
theorem dL_read_18 : decode cL_read 18 = .ok (.ireturn, 1) := by decide +kernel
set_option maxRecDepth 20000 in
theorem ggL_write_X11_write : GoodIn wsL_write wsX11_write := goodIn_ca (goodIn_r _ [6, 7, 8, 9, 10, 11, 5, 12, 13, 14, 15, 16, 17, 18, 19, 20, 21, 22, 23, 24, 25, 26, 27, 28, 29, 30, 31, 32, 33, 34, 35, 36, 37, 38, 39, 40, 41, 42, 43, 44, 45, 46, 47, 48, 49, 50, 51, 52, 53, 54, 55, 56, 57, 58, 59, 60, 61, 62, 63, 64, 65, 66, 67, 68, 69, 70, 71, 72, 73, 74, 75, 76, 77, 78, 79, 80, 81, 82, 83, 84, 85, 86, 87, 88, 89, 90, 91, 92, 93, 94, 95, 96, 97, 98] (by decide +kernel) (by decide +kernel)) (goodIn_sub (fun _ h => List.mem_cons_of_mem _ (List.mem_append_right _ h)) (by decide +kernel))
set_option maxRecDepth 20000 in
theorem gL_write_X11_write : GoodIn wsL_write (wsV RL 143 RX11 yX11_write wsX11_write) := goodIn_app (goodIn_of _ (by decide +kernel)) ggL_write_X11_write
theorem dL_write_0 : decode cL_write 0 = .ok (.aload_n 1, 1) := by decide +kernel
theorem dL_write_1 : decode cL_write 1 = .ok (.iconst 0, 1) := by decide +kernel
theorem dL_write_2 : decode cL_write 2 = .ok (.aload_n 0, 1) := by decide +kernel
theorem dL_write_3 : decode cL_write 3 = .ok (.invokevirtual 143, 3) := by decide +kernel
theorem dL_write_6 : decode cL_write 6 = .ok (.i2l, 1) := by decide +kernel
theorem dL_write_7 : decode cL_write 7 = .ok (.lastore, 1) := by decide +kernel
theorem dL_write_8 : decode cL_write 8 = .ok (.goto 6, 3) := by decide +kernel
theorem dL_write_11 : decode cL_write 11 = .ok (.astore_n 2, 1) := by decide +kernel
theorem dL_write_12 : decode cL_write 12 = .ok (.iconst 1, 1) := by decide +kernel
theorem dL_write_13 : decode cL_write 13 = .ok (.ireturn, 1) := by decide +kernel
theorem dL_write_14 : decode cL_write 14 = .ok (.iconst 0, 1) := by decide +kernel
theorem dL_write_15 : decode cL_write 15 = .ok (.ireturn, 1) := by decide +kernel
set_option maxRecDepth 20000 in
theorem ggL_writtenAt_X11_writtenAt : GoodIn wsL_writtenAt wsX11_writtenAt := goodIn_ca (goodIn_r _ [6, 7, 8, 9, 10, 11, 12, 13, 14, 15, 16, 17, 18, 19, 20, 21, 22, 23, 24, 25, 26, 27, 28, 29, 30] (by decide +kernel) (by decide +kernel)) (goodIn_sub (fun _ h => List.mem_cons_of_mem _ (List.mem_append_right _ h)) (by decide +kernel))
set_option maxRecDepth 20000 in
theorem gL_writtenAt_X11_writtenAt : GoodIn wsL_writtenAt (wsV RL 146 RX11 yX11_writtenAt wsX11_writtenAt) := goodIn_app (goodIn_of _ (by decide +kernel)) ggL_writtenAt_X11_writtenAt
theorem dL_writtenAt_0 : decode cL_writtenAt 0 = .ok (.aload_n 2, 1) := by decide +kernel
theorem dL_writtenAt_1 : decode cL_writtenAt 1 = .ok (.iconst 0, 1) := by decide +kernel
theorem dL_writtenAt_2 : decode cL_writtenAt 2 = .ok (.aload_n 0, 1) := by decide +kernel
theorem dL_writtenAt_3 : decode cL_writtenAt 3 = .ok (.iload_n 1, 1) := by decide +kernel
theorem dL_writtenAt_4 : decode cL_writtenAt 4 = .ok (.invokevirtual 146, 3) := by decide +kernel
theorem dL_writtenAt_7 : decode cL_writtenAt 7 = .ok (.i2l, 1) := by decide +kernel
theorem dL_writtenAt_8 : decode cL_writtenAt 8 = .ok (.lastore, 1) := by decide +kernel
theorem dL_writtenAt_9 : decode cL_writtenAt 9 = .ok (.goto 6, 3) := by decide +kernel
theorem dL_writtenAt_12 : decode cL_writtenAt 12 = .ok (.astore_n 3, 1) := by decide +kernel
theorem dL_writtenAt_13 : decode cL_writtenAt 13 = .ok (.iconst 1, 1) := by decide +kernel
theorem dL_writtenAt_14 : decode cL_writtenAt 14 = .ok (.ireturn, 1) := by decide +kernel
theorem dL_writtenAt_15 : decode cL_writtenAt 15 = .ok (.iconst 0, 1) := by decide +kernel
theorem dL_writtenAt_16 : decode cL_writtenAt 16 = .ok (.ireturn, 1) := by decide +kernel
set_option maxRecDepth 20000 in
theorem ggL_meanSlot_X11_meanSlot : GoodIn wsL_meanSlot wsX11_meanSlot := goodIn_ca (goodIn_r _ [6, 7, 8, 9, 10, 11, 5, 12, 13, 14, 15, 16, 17, 18, 19, 20, 21, 22, 23, 24, 25, 26, 27, 28, 29, 30, 31, 32, 33, 34, 35, 36, 37] (by decide +kernel) (by decide +kernel)) (goodIn_sub (fun _ h => List.mem_cons_of_mem _ (List.mem_append_right _ h)) (by decide +kernel))
set_option maxRecDepth 20000 in
theorem gL_meanSlot_X11_meanSlot : GoodIn wsL_meanSlot (wsV RL 150 RX11 yX11_meanSlot wsX11_meanSlot) := goodIn_app (goodIn_of _ (by decide +kernel)) ggL_meanSlot_X11_meanSlot
theorem dL_meanSlot_0 : decode cL_meanSlot 0 = .ok (.aload_n 1, 1) := by decide +kernel
theorem dL_meanSlot_1 : decode cL_meanSlot 1 = .ok (.iconst 0, 1) := by decide +kernel
theorem dL_meanSlot_2 : decode cL_meanSlot 2 = .ok (.aload_n 0, 1) := by decide +kernel
theorem dL_meanSlot_3 : decode cL_meanSlot 3 = .ok (.invokevirtual 150, 3) := by decide +kernel
theorem dL_meanSlot_6 : decode cL_meanSlot 6 = .ok (.dastore, 1) := by decide +kernel
theorem dL_meanSlot_7 : decode cL_meanSlot 7 = .ok (.goto 6, 3) := by decide +kernel
theorem dL_meanSlot_10 : decode cL_meanSlot 10 = .ok (.astore_n 2, 1) := by decide +kernel
theorem dL_meanSlot_11 : decode cL_meanSlot 11 = .ok (.iconst 1, 1) := by decide +kernel
theorem dL_meanSlot_12 : decode cL_meanSlot 12 = .ok (.ireturn, 1) := by decide +kernel
theorem dL_meanSlot_13 : decode cL_meanSlot 13 = .ok (.iconst 0, 1) := by decide +kernel
theorem dL_meanSlot_14 : decode cL_meanSlot 14 = .ok (.ireturn, 1) := by decide +kernel
set_option maxRecDepth 20000 in
theorem ggL_taken_X11_taken : GoodIn wsL_taken wsX11_taken := goodIn_ca (goodIn_r _ [6, 7, 8, 9, 10, 11, 5, 12, 13, 14, 15, 16, 17, 18, 19, 20, 21, 22, 23, 24, 25, 26, 27, 28, 29, 30, 31, 32, 33, 34, 35, 36, 37, 38, 39, 40, 41] (by decide +kernel) (by decide +kernel)) (goodIn_sub (fun _ h => List.mem_cons_of_mem _ (List.mem_append_right _ h)) (by decide +kernel))
set_option maxRecDepth 20000 in
theorem gL_taken_X11_taken : GoodIn wsL_taken (wsV RL 154 RX11 yX11_taken wsX11_taken) := goodIn_app (goodIn_of _ (by decide +kernel)) ggL_taken_X11_taken
theorem dL_taken_0 : decode cL_taken 0 = .ok (.aload_n 1, 1) := by decide +kernel
theorem dL_taken_1 : decode cL_taken 1 = .ok (.iconst 0, 1) := by decide +kernel
theorem dL_taken_2 : decode cL_taken 2 = .ok (.aload_n 0, 1) := by decide +kernel
theorem dL_taken_3 : decode cL_taken 3 = .ok (.invokevirtual 154, 3) := by decide +kernel
theorem dL_taken_6 : decode cL_taken 6 = .ok (.f2d, 1) := by decide +kernel
theorem dL_taken_7 : decode cL_taken 7 = .ok (.dastore, 1) := by decide +kernel
theorem dL_taken_8 : decode cL_taken 8 = .ok (.goto 6, 3) := by decide +kernel
theorem dL_taken_11 : decode cL_taken 11 = .ok (.astore_n 2, 1) := by decide +kernel
theorem dL_taken_12 : decode cL_taken 12 = .ok (.iconst 1, 1) := by decide +kernel
theorem dL_taken_13 : decode cL_taken 13 = .ok (.ireturn, 1) := by decide +kernel
theorem dL_taken_14 : decode cL_taken 14 = .ok (.iconst 0, 1) := by decide +kernel
theorem dL_taken_15 : decode cL_taken 15 = .ok (.ireturn, 1) := by decide +kernel
set_option maxRecDepth 20000 in
theorem ggL_law_X11_init : GoodIn wsL_law wsX11_init := goodIn_r _ [10, 11, 12, 13, 14, 15, 16, 17, 18, 19, 20, 21, 22, 23, 24, 25, 26, 27, 28, 29, 30, 31, 32, 33, 34, 35, 36, 37, 38, 39, 40, 41, 42, 43, 44, 45, 46, 47, 48, 49, 50, 51, 52, 53, 54, 55, 56, 57, 58, 59, 60, 61, 62, 63, 64, 65, 66, 67, 68, 69, 70, 71, 72, 73, 74, 75, 76, 77, 78, 79, 80, 81, 82, 83, 84, 85, 86, 87, 88, 89, 90, 91, 92, 93, 94, 95, 96, 97, 98, 99, 100, 101, 102, 103, 104, 105, 106, 107, 108, 109, 110, 111, 112, 113, 114, 115, 116, 117, 118, 119, 120, 121, 122, 123, 124, 125, 126, 127, 128, 129, 130, 131, 132, 1665, 1666, 1624, 1625, 1626, 1627, 1628, 1629, 1630, 1631, 1632, 1633, 1634, 1667, 1668, 1669, 1670, 1671, 1672, 1673, 1674, 1675, 1676, 1677, 1678, 1679, 1680, 1681, 1682, 1683, 1684, 1685, 1686, 1687, 1688, 1689, 1690, 1691, 1692, 1693, 1694, 1695, 1696, 1697, 1698, 1699, 1700, 1701, 1702, 1703, 1704, 1705, 1706, 1707, 1708, 1709, 1710, 1711, 1712, 1713] (by decide +kernel) (by decide +kernel)
set_option maxRecDepth 20000 in
theorem gL_law_X11_init : GoodIn wsL_law (wsX11_init) := ggL_law_X11_init
set_option maxRecDepth 20000 in
theorem ggL_law_X12_init : GoodIn wsL_law wsX12_init := goodIn_r _ [135, 136, 12, 13, 62, 137, 138, 139, 122, 140, 141, 142, 143, 144, 145, 146, 147, 148, 149, 150, 151, 152, 153, 154, 155, 156, 157, 158, 159, 160, 1635, 1636, 1637, 1638, 1639, 1640, 1641, 1642, 1643, 1644, 1645, 1646, 1647, 1648, 1649, 1650, 1651, 1652, 1653, 1654, 1655, 1656, 1657, 1658, 1659, 1660, 1661, 1662, 1663, 1664] (by decide +kernel) (by decide +kernel)
set_option maxRecDepth 20000 in
theorem gL_law_X12_init : GoodIn wsL_law (wsX12_init) := ggL_law_X12_init
set_option maxRecDepth 20000 in
theorem ggL_law_L_lesson : GoodIn wsL_law wsL_lesson := goodIn_ca (goodIn_ca (goodIn_r _ [164, 165, 166, 167, 168, 169, 2, 170, 171, 172, 173, 174, 17, 175, 176, 177, 178, 179, 180, 181, 182, 183, 184, 185, 16, 186, 63, 187, 188, 189, 190, 191, 192, 193, 194, 21, 29, 195, 196, 197, 20, 198, 199, 68, 200, 201, 202, 203, 204, 205, 206, 207, 208, 209, 210, 211, 212, 213, 28, 214, 90, 215, 216, 217, 218, 219, 220, 221, 222, 1624, 1625, 1626, 1627, 1628, 1629, 1630, 1631, 1632, 1633, 1634, 1665, 1666, 1667, 1668, 1669, 1682, 1683, 1684, 1685, 1686, 1687, 1688, 1689] (by decide +kernel) (by decide +kernel)) (goodIn_sub (fun _ h => List.mem_append_left _ (List.mem_append_left _ (List.mem_append_right _ h))) (by decide +kernel))) (goodIn_sub (fun _ h => List.mem_append_left _ (List.mem_append_right _ h)) (by decide +kernel))
set_option maxRecDepth 20000 in
theorem gL_law_L_lesson : GoodIn wsL_law (va_wsS RL 162 yL_lesson wsL_lesson) := goodIn_app (goodIn_of _ (by decide +kernel)) ggL_law_L_lesson
set_option maxRecDepth 20000 in
theorem ggL_law_X12_lesson : GoodIn wsL_law wsX12_lesson := goodIn_r _ [226, 227, 137, 228, 229, 5, 230, 231, 232, 233, 234, 235, 236, 237, 238, 239, 240, 241, 242, 243, 138, 142, 1635, 1636, 1637, 1638, 1639, 1640, 1641, 1642, 1643, 1644, 1645, 1646, 1647, 1648, 1649, 1650, 1651, 1652, 1653, 1654, 1655, 1656, 1657, 1658, 1659, 1660, 1661, 1662, 1663, 1664] (by decide +kernel) (by decide +kernel)
set_option maxRecDepth 20000 in
theorem gL_law_X12_lesson : GoodIn wsL_law (wsV RL 167 RX12 yX12_lesson wsX12_lesson) := goodIn_app (goodIn_of _ (by decide +kernel)) ggL_law_X12_lesson
set_option maxRecDepth 20000 in
theorem ggL_law_X12_thrown : GoodIn wsL_law wsX12_thrown := goodIn_r _ [247, 227, 1635, 1636, 1637, 1638, 1639, 1640, 1641, 1642, 1643, 1644, 1645, 1646, 1647, 1648, 1649, 1650, 1651, 1652, 1653, 1654, 1655, 1656, 1657, 1658, 1659, 1660, 1661, 1662, 1663, 1664] (by decide +kernel) (by decide +kernel)
set_option maxRecDepth 20000 in
theorem gL_law_X12_thrown : GoodIn wsL_law (wsV RL 168 RX12 yX12_thrown wsX12_thrown) := goodIn_app (goodIn_of _ (by decide +kernel)) ggL_law_X12_thrown
set_option maxRecDepth 20000 in
theorem ggL_law_L_dropLesson : GoodIn wsL_law wsL_dropLesson := goodIn_ca (goodIn_r _ [250, 251, 252, 253, 254, 2, 255, 17, 256, 257, 258, 259, 260, 261, 187, 188, 189, 16, 190, 63, 191, 192, 193, 194, 21, 29, 195, 196, 197, 20, 198, 199, 68, 200, 201, 202, 203, 204, 205, 206, 207, 208, 209, 210, 211, 212, 213, 28, 214, 90, 215, 216, 217, 218, 262, 263, 264, 265, 266, 267, 268, 269, 270, 271, 272, 273, 274, 275, 276, 277, 278, 279, 280, 281, 282, 283, 284, 285, 286, 287, 1624, 1625, 1626, 1627, 1628, 1629, 1630, 1631, 1632, 1633, 1634, 1665, 1666, 1667, 1668, 1669, 1682, 1683, 1684, 1685, 1686, 1687, 1688, 1689] (by decide +kernel) (by decide +kernel)) (goodIn_sub (fun _ h => List.mem_append_right _ h) (by decide +kernel))
set_option maxRecDepth 20000 in
theorem gL_law_L_dropLesson : GoodIn wsL_law (va_wsS RL 171 yL_dropLesson wsL_dropLesson) := goodIn_app (goodIn_of _ (by decide +kernel)) ggL_law_L_dropLesson
set_option maxRecDepth 20000 in
theorem ggL_law_X12_dropLesson : GoodIn wsL_law wsX12_dropLesson := goodIn_r _ [291, 227, 137, 292, 293, 294, 5, 295, 235, 236, 237, 238, 228, 229, 230, 231, 232, 233, 234, 239, 240, 241, 242, 243, 138, 142, 296, 297, 298, 299, 300, 301, 302, 303, 304, 305, 306, 307, 308, 309, 310, 311, 1635, 1636, 1637, 1638, 1639, 1640, 1641, 1642, 1643, 1644, 1645, 1646, 1647, 1648, 1649, 1650, 1651, 1652, 1653, 1654, 1655, 1656, 1657, 1658, 1659, 1660, 1661, 1662, 1663, 1664] (by decide +kernel) (by decide +kernel)
set_option maxRecDepth 20000 in
theorem gL_law_X12_dropLesson : GoodIn wsL_law (wsV RL 174 RX12 yX12_dropLesson wsX12_dropLesson) := goodIn_app (goodIn_of _ (by decide +kernel)) ggL_law_X12_dropLesson
set_option maxRecDepth 20000 in
theorem ggL_law_L_lessonOf : GoodIn wsL_law wsL_lessonOf := goodIn_ca (goodIn_ca (goodIn_r _ [314, 251, 165, 315, 316, 317, 2, 318, 17, 256, 257, 258, 259, 260, 261, 187, 188, 189, 16, 190, 63, 175, 176, 177, 178, 179, 180, 181, 182, 171, 172, 319, 320, 321, 322, 1624, 1625, 1626, 1627, 1628, 1629, 1630, 1631, 1632, 1633, 1634, 1665, 1666] (by decide +kernel) (by decide +kernel)) (goodIn_sub (fun _ h => List.mem_append_right _ h) (by decide +kernel))) (goodIn_sub (fun _ h => List.mem_append_left _ (List.mem_append_left _ (List.mem_append_right _ h))) (by decide +kernel))
set_option maxRecDepth 20000 in
theorem gL_law_L_lessonOf : GoodIn wsL_law (va_wsS RL 175 yL_lessonOf wsL_lessonOf) := goodIn_app (goodIn_of _ (by decide +kernel)) ggL_law_L_lessonOf
set_option maxRecDepth 20000 in
theorem ggL_law_X12_lessonOf : GoodIn wsL_law wsX12_lessonOf := goodIn_r _ [326, 227, 137, 292, 293, 294, 5, 295, 235, 236, 237, 238, 228, 229, 230, 231, 232, 233, 234, 1635, 1636, 1637, 1638, 1639, 1640, 1641, 1642, 1643, 1644, 1645, 1646, 1647, 1648, 1649, 1650, 1651, 1652, 1653, 1654, 1655, 1656, 1657, 1658, 1659, 1660, 1661, 1662, 1663, 1664] (by decide +kernel) (by decide +kernel)
set_option maxRecDepth 20000 in
theorem gL_law_X12_lessonOf : GoodIn wsL_law (wsV RL 178 RX12 yX12_lessonOf wsX12_lessonOf) := goodIn_app (goodIn_of _ (by decide +kernel)) ggL_law_X12_lessonOf
set_option maxRecDepth 20000 in
theorem ggL_law_X11_lessons : GoodIn wsL_law wsX11_lessons := goodIn_r _ [330, 17, 187, 188, 189, 16, 190, 63, 1624, 1625, 1626, 1627, 1628, 1629, 1630, 1631, 1632, 1633, 1634, 1665, 1666] (by decide +kernel) (by decide +kernel)
set_option maxRecDepth 20000 in
theorem gL_law_X11_lessons : GoodIn wsL_law (wsV RL 179 RX11 yX11_lessons wsX11_lessons) := goodIn_app (goodIn_of _ (by decide +kernel)) ggL_law_X11_lessons
set_option maxRecDepth 20000 in
theorem ggL_law_X12_lessons : GoodIn wsL_law wsX12_lessons := goodIn_r _ [334, 227, 235, 236, 237, 5, 238, 137, 1635, 1636, 1637, 1638, 1639, 1640, 1641, 1642, 1643, 1644, 1645, 1646, 1647, 1648, 1649, 1650, 1651, 1652, 1653, 1654, 1655, 1656, 1657, 1658, 1659, 1660, 1661, 1662, 1663, 1664] (by decide +kernel) (by decide +kernel)
set_option maxRecDepth 20000 in
theorem gL_law_X12_lessons : GoodIn wsL_law (wsV RL 182 RX12 yX12_lessons wsX12_lessons) := goodIn_app (goodIn_of _ (by decide +kernel)) ggL_law_X12_lessons
set_option maxRecDepth 20000 in
theorem ggL_law_L_setSubjects : GoodIn wsL_law wsL_setSubjects := goodIn_ca (goodIn_ca (goodIn_r _ [337, 165, 166, 338, 339, 340, 2, 341, 173, 174, 17, 175, 176, 177, 178, 179, 180, 181, 182, 171, 172, 342, 343, 344, 16, 345, 287, 188, 189, 190, 63, 346, 347, 348, 349, 350, 320, 321, 322, 191, 192, 193, 194, 21, 29, 195, 196, 197, 20, 198, 199, 68, 200, 201, 202, 203, 204, 205, 206, 207, 208, 209, 210, 211, 212, 213, 28, 214, 90, 215, 216, 217, 218, 351, 352, 353, 354, 1624, 1625, 1626, 1627, 1628, 1629, 1630, 1631, 1632, 1633, 1634, 1665, 1666, 1667, 1668, 1669, 1682, 1683, 1684, 1685, 1686, 1687, 1688, 1689] (by decide +kernel) (by decide +kernel)) (goodIn_sub (fun _ h => List.mem_append_left _ (List.mem_append_right _ h)) (by decide +kernel))) (goodIn_sub (fun _ h => List.mem_append_left _ (List.mem_append_left _ (List.mem_append_right _ h))) (by decide +kernel))
set_option maxRecDepth 20000 in
theorem gL_law_L_setSubjects : GoodIn wsL_law (va_wsS RL 183 yL_setSubjects wsL_setSubjects) := goodIn_app (goodIn_of _ (by decide +kernel)) ggL_law_L_setSubjects
set_option maxRecDepth 20000 in
theorem ggL_law_X12_setSubjects : GoodIn wsL_law wsX12_setSubjects := goodIn_r _ [358, 227, 137, 359, 360, 361, 5, 362, 228, 229, 230, 231, 232, 233, 234, 235, 236, 237, 238, 239, 240, 241, 242, 243, 138, 142, 1635, 1636, 1637, 1638, 1639, 1640, 1641, 1642, 1643, 1644, 1645, 1646, 1647, 1648, 1649, 1650, 1651, 1652, 1653, 1654, 1655, 1656, 1657, 1658, 1659, 1660, 1661, 1662, 1663, 1664] (by decide +kernel) (by decide +kernel)
set_option maxRecDepth 20000 in
theorem gL_law_X12_setSubjects : GoodIn wsL_law (wsV RL 185 RX12 yX12_setSubjects wsX12_setSubjects) := goodIn_app (goodIn_of _ (by decide +kernel)) ggL_law_X12_setSubjects
set_option maxRecDepth 20000 in
theorem ggL_law_L_setRooms : GoodIn wsL_law wsL_setRooms := goodIn_ca (goodIn_r _ [365, 165, 366, 367, 368, 2, 369, 17, 175, 176, 177, 178, 179, 180, 181, 182, 171, 172, 191, 192, 193, 194, 21, 29, 195, 196, 197, 20, 198, 199, 68, 200, 201, 202, 203, 204, 205, 206, 207, 208, 209, 210, 211, 212, 213, 28, 214, 90, 215, 216, 217, 16, 218, 63, 370, 371, 372, 373, 1624, 1625, 1626, 1627, 1628, 1629, 1630, 1631, 1632, 1633, 1634, 1665, 1666, 1667, 1668, 1669, 1682, 1683, 1684, 1685, 1686, 1687, 1688, 1689] (by decide +kernel) (by decide +kernel)) (goodIn_sub (fun _ h => List.mem_append_left _ (List.mem_append_left _ (List.mem_append_right _ h))) (by decide +kernel))
set_option maxRecDepth 20000 in
theorem gL_law_L_setRooms : GoodIn wsL_law (va_wsS RL 186 yL_setRooms wsL_setRooms) := goodIn_app (goodIn_of _ (by decide +kernel)) ggL_law_L_setRooms
set_option maxRecDepth 20000 in
theorem ggL_law_X12_setRooms : GoodIn wsL_law wsX12_setRooms := goodIn_r _ [377, 227, 137, 228, 229, 5, 230, 231, 232, 233, 234, 239, 240, 241, 242, 243, 138, 142, 1635, 1636, 1637, 1638, 1639, 1640, 1641, 1642, 1643, 1644, 1645, 1646, 1647, 1648, 1649, 1650, 1651, 1652, 1653, 1654, 1655, 1656, 1657, 1658, 1659, 1660, 1661, 1662, 1663, 1664] (by decide +kernel) (by decide +kernel)
set_option maxRecDepth 20000 in
theorem gL_law_X12_setRooms : GoodIn wsL_law (wsV RL 188 RX12 yX12_setRooms wsX12_setRooms) := goodIn_app (goodIn_of _ (by decide +kernel)) ggL_law_X12_setRooms
set_option maxRecDepth 20000 in
theorem ggL_law_L_wish : GoodIn wsL_law wsL_wish := goodIn_ca (goodIn_ca (goodIn_ca (goodIn_r _ [380, 165, 251, 166, 381, 382, 383, 2, 384, 171, 172, 173, 174, 17, 175, 176, 177, 178, 179, 180, 181, 182, 256, 257, 258, 259, 260, 261, 187, 188, 189, 16, 190, 63, 385, 268, 269, 270, 191, 192, 193, 194, 21, 29, 195, 196, 197, 20, 198, 199, 68, 200, 201, 202, 203, 204, 205, 206, 207, 208, 209, 210, 211, 212, 213, 28, 214, 90, 215, 216, 217, 218, 386, 387, 388, 389, 1624, 1625, 1626, 1627, 1628, 1629, 1630, 1631, 1632, 1633, 1634, 1665, 1666, 1667, 1668, 1669, 1682, 1683, 1684, 1685, 1686, 1687, 1688, 1689] (by decide +kernel) (by decide +kernel)) (goodIn_sub (fun _ h => List.mem_append_left _ (List.mem_append_left _ (List.mem_append_right _ h))) (by decide +kernel))) (goodIn_sub (fun _ h => List.mem_append_left _ (List.mem_append_right _ h)) (by decide +kernel))) (goodIn_sub (fun _ h => List.mem_append_right _ h) (by decide +kernel))
set_option maxRecDepth 20000 in
theorem gL_law_L_wish : GoodIn wsL_law (va_wsS RL 189 yL_wish wsL_wish) := goodIn_app (goodIn_of _ (by decide +kernel)) ggL_law_L_wish
set_option maxRecDepth 20000 in
theorem ggL_law_X12_wish : GoodIn wsL_law wsX12_wish := goodIn_r _ [393, 227, 137, 228, 229, 5, 230, 231, 232, 233, 234, 300, 301, 302, 303, 296, 297, 298, 299, 292, 293, 294, 295, 235, 236, 237, 238, 239, 240, 241, 242, 243, 138, 142, 1635, 1636, 1637, 1638, 1639, 1640, 1641, 1642, 1643, 1644, 1645, 1646, 1647, 1648, 1649, 1650, 1651, 1652, 1653, 1654, 1655, 1656, 1657, 1658, 1659, 1660, 1661, 1662, 1663, 1664] (by decide +kernel) (by decide +kernel)
set_option maxRecDepth 20000 in
theorem gL_law_X12_wish : GoodIn wsL_law (wsV RL 192 RX12 yX12_wish wsX12_wish) := goodIn_app (goodIn_of _ (by decide +kernel)) ggL_law_X12_wish
set_option maxRecDepth 20000 in
theorem ggL_law_L_dropWish : GoodIn wsL_law wsL_dropWish := goodIn_ca (goodIn_r _ [396, 251, 397, 398, 399, 2, 400, 17, 401, 402, 403, 404, 260, 261, 385, 268, 269, 16, 270, 63, 191, 192, 193, 194, 21, 29, 195, 196, 197, 20, 198, 199, 68, 200, 201, 202, 203, 204, 205, 206, 207, 208, 209, 210, 211, 212, 213, 28, 214, 90, 215, 216, 217, 218, 405, 280, 281, 282, 266, 267, 1624, 1625, 1626, 1627, 1628, 1629, 1630, 1631, 1632, 1633, 1634, 1665, 1666, 1667, 1668, 1669, 1682, 1683, 1684, 1685, 1686, 1687, 1688, 1689] (by decide +kernel) (by decide +kernel)) (goodIn_sub (fun _ h => List.mem_append_right _ h) (by decide +kernel))
set_option maxRecDepth 20000 in
theorem gL_law_L_dropWish : GoodIn wsL_law (va_wsS RL 193 yL_dropWish wsL_dropWish) := goodIn_app (goodIn_of _ (by decide +kernel)) ggL_law_L_dropWish
set_option maxRecDepth 20000 in
theorem ggL_law_X12_dropWish : GoodIn wsL_law wsX12_dropWish := goodIn_r _ [409, 227, 137, 410, 411, 412, 5, 413, 228, 229, 230, 231, 232, 233, 234, 239, 240, 241, 242, 243, 138, 142, 304, 305, 306, 307, 308, 309, 310, 311, 1635, 1636, 1637, 1638, 1639, 1640, 1641, 1642, 1643, 1644, 1645, 1646, 1647, 1648, 1649, 1650, 1651, 1652, 1653, 1654, 1655, 1656, 1657, 1658, 1659, 1660, 1661, 1662, 1663, 1664] (by decide +kernel) (by decide +kernel)
set_option maxRecDepth 20000 in
theorem gL_law_X12_dropWish : GoodIn wsL_law (wsV RL 195 RX12 yX12_dropWish wsX12_dropWish) := goodIn_app (goodIn_of _ (by decide +kernel)) ggL_law_X12_dropWish
set_option maxRecDepth 20000 in
theorem ggL_law_L_wishOf : GoodIn wsL_law wsL_wishOf := goodIn_ca (goodIn_ca (goodIn_r _ [416, 251, 165, 417, 418, 419, 2, 420, 17, 401, 402, 403, 404, 260, 261, 385, 268, 269, 16, 270, 63, 175, 176, 177, 178, 179, 180, 181, 182, 171, 172, 421, 276, 277, 278, 1624, 1625, 1626, 1627, 1628, 1629, 1630, 1631, 1632, 1633, 1634, 1665, 1666] (by decide +kernel) (by decide +kernel)) (goodIn_sub (fun _ h => List.mem_append_right _ h) (by decide +kernel))) (goodIn_sub (fun _ h => List.mem_append_left _ (List.mem_append_left _ (List.mem_append_right _ h))) (by decide +kernel))
set_option maxRecDepth 20000 in
theorem gL_law_L_wishOf : GoodIn wsL_law (va_wsS RL 196 yL_wishOf wsL_wishOf) := goodIn_app (goodIn_of _ (by decide +kernel)) ggL_law_L_wishOf
set_option maxRecDepth 20000 in
theorem ggL_law_X12_wishOf : GoodIn wsL_law wsX12_wishOf := goodIn_r _ [425, 227, 137, 410, 411, 412, 5, 413, 228, 229, 230, 231, 232, 233, 234, 1635, 1636, 1637, 1638, 1639, 1640, 1641, 1642, 1643, 1644, 1645, 1646, 1647, 1648, 1649, 1650, 1651, 1652, 1653, 1654, 1655, 1656, 1657, 1658, 1659, 1660, 1661, 1662, 1663, 1664] (by decide +kernel) (by decide +kernel)
set_option maxRecDepth 20000 in
theorem gL_law_X12_wishOf : GoodIn wsL_law (wsV RL 198 RX12 yX12_wishOf wsX12_wishOf) := goodIn_app (goodIn_of _ (by decide +kernel)) ggL_law_X12_wishOf
set_option maxRecDepth 20000 in
theorem ggL_law_X11_wishes : GoodIn wsL_law wsX11_wishes := goodIn_r _ [429, 17, 385, 268, 269, 16, 270, 63, 1624, 1625, 1626, 1627, 1628, 1629, 1630, 1631, 1632, 1633, 1634, 1665, 1666] (by decide +kernel) (by decide +kernel)
set_option maxRecDepth 20000 in
theorem gL_law_X11_wishes : GoodIn wsL_law (wsV RL 199 RX11 yX11_wishes wsX11_wishes) := goodIn_app (goodIn_of _ (by decide +kernel)) ggL_law_X11_wishes
set_option maxRecDepth 20000 in
theorem ggL_law_X12_wishes : GoodIn wsL_law wsX12_wishes := goodIn_r _ [433, 227, 137, 1635, 1636, 1637, 1638, 1639, 1640, 1641, 1642, 1643, 1644, 1645, 1646, 1647, 1648, 1649, 1650, 1651, 1652, 1653, 1654, 1655, 1656, 1657, 1658, 1659, 1660, 1661, 1662, 1663, 1664] (by decide +kernel) (by decide +kernel)
set_option maxRecDepth 20000 in
theorem gL_law_X12_wishes : GoodIn wsL_law (wsV RL 202 RX12 yX12_wishes wsX12_wishes) := goodIn_app (goodIn_of _ (by decide +kernel)) ggL_law_X12_wishes
set_option maxRecDepth 20000 in
theorem ggL_law_X11_find : GoodIn wsL_law wsX11_find := goodIn_r _ [437, 29, 17, 438, 439, 440, 441, 28, 442, 87, 443, 444, 88, 445, 446, 447, 16, 448, 267, 268, 269, 270, 63, 275, 276, 277, 278, 449, 450, 451, 24, 452, 453, 454, 188, 189, 190, 455, 456, 457, 458, 81, 73, 74, 72, 459, 460, 75, 76, 77, 78, 79, 80, 461, 320, 321, 322, 462, 463, 464, 465, 466, 467, 468, 469, 470, 471, 472, 473, 474, 475, 476, 347, 348, 349, 477, 478, 479, 480, 481, 93, 92, 482, 202, 203, 204, 483, 484, 485, 486, 487, 488, 489, 490, 91, 491, 492, 493, 494, 495, 496, 497, 498, 499, 500, 501, 502, 503, 504, 505, 506, 507, 508, 509, 510, 511, 512, 513, 514, 515, 516, 517, 518, 519, 520, 521, 522, 523, 524, 90, 89, 525, 191, 192, 193, 2, 194, 21, 195, 196, 197, 20, 198, 199, 68, 200, 201, 205, 206, 207, 208, 209, 210, 211, 212, 213, 214, 526, 527, 528, 529, 64, 266, 1624, 1625, 1626, 1627, 1628, 1629, 1630, 1631, 1632, 1633, 1634, 1682, 1683, 1684, 1685, 1686, 1687, 1688, 1689, 1670, 1671, 1672, 1673, 1674, 1675, 1676, 1677, 1678, 1679, 1680, 1681, 1665, 1666, 1667, 1668, 1669] (by decide +kernel) (by decide +kernel)
set_option maxRecDepth 20000 in
theorem gL_law_X11_find : GoodIn wsL_law (wsV RL 203 RX11 yX11_find wsX11_find) := goodIn_app (goodIn_of _ (by decide +kernel)) ggL_law_X11_find
set_option maxRecDepth 20000 in
theorem ggL_law_X12_find : GoodIn wsL_law wsX12_find := goodIn_r _ [533, 227, 140, 137, 142, 143, 534, 535, 536, 5, 537, 139, 141, 538, 539, 540, 541, 235, 236, 237, 238, 542, 543, 544, 545, 546, 547, 548, 549, 550, 551, 552, 553, 554, 555, 556, 557, 558, 559, 560, 561, 562, 563, 564, 565, 300, 301, 302, 303, 566, 567, 568, 569, 570, 571, 572, 573, 574, 575, 576, 577, 578, 579, 580, 581, 582, 583, 584, 585, 586, 587, 588, 589, 590, 591, 592, 593, 594, 595, 596, 239, 240, 241, 242, 243, 138, 1635, 1636, 1637, 1638, 1639, 1640, 1641, 1642, 1643, 1644, 1645, 1646, 1647, 1648, 1649, 1650, 1651, 1652, 1653, 1654, 1655, 1656, 1657, 1658, 1659, 1660, 1661, 1662, 1663, 1664] (by decide +kernel) (by decide +kernel)
set_option maxRecDepth 20000 in
theorem gL_law_X12_find : GoodIn wsL_law (wsV RL 207 RX12 yX12_find wsX12_find) := goodIn_app (goodIn_of _ (by decide +kernel)) ggL_law_X12_find
set_option maxRecDepth 20000 in
theorem ggL_law_X11_proof : GoodIn wsL_law wsX11_proof := goodIn_r _ [600, 29, 601, 1624, 1625, 1626, 1627, 1628, 1629, 1630, 1631, 1632, 1633, 1634, 1682, 1683, 1684, 1685, 1686, 1687, 1688, 1689] (by decide +kernel) (by decide +kernel)
set_option maxRecDepth 20000 in
theorem gL_law_X11_proof : GoodIn wsL_law (wsV RL 208 RX11 yX11_proof wsX11_proof) := goodIn_app (goodIn_of _ (by decide +kernel)) ggL_law_X11_proof
set_option maxRecDepth 20000 in
theorem ggL_law_X12_proof : GoodIn wsL_law wsX12_proof := goodIn_r _ [605, 227, 142, 1635, 1636, 1637, 1638, 1639, 1640, 1641, 1642, 1643, 1644, 1645, 1646, 1647, 1648, 1649, 1650, 1651, 1652, 1653, 1654, 1655, 1656, 1657, 1658, 1659, 1660, 1661, 1662, 1663, 1664] (by decide +kernel) (by decide +kernel)
set_option maxRecDepth 20000 in
theorem gL_law_X12_proof : GoodIn wsL_law (wsV RL 211 RX12 yX12_proof wsX12_proof) := goodIn_app (goodIn_of _ (by decide +kernel)) ggL_law_X12_proof
set_option maxRecDepth 20000 in
theorem ggL_law_L_proofAt : GoodIn wsL_law wsL_proofAt := goodIn_ca (goodIn_r _ [608, 251, 609, 610, 611, 2, 612, 260, 261, 29, 601, 613, 1624, 1625, 1626, 1627, 1628, 1629, 1630, 1631, 1632, 1633, 1634, 1682, 1683, 1684, 1685, 1686, 1687, 1688, 1689] (by decide +kernel) (by decide +kernel)) (goodIn_sub (fun _ h => List.mem_append_right _ h) (by decide +kernel))
set_option maxRecDepth 20000 in
theorem gL_law_L_proofAt : GoodIn wsL_law (va_wsS RL 212 yL_proofAt wsL_proofAt) := goodIn_app (goodIn_of _ (by decide +kernel)) ggL_law_L_proofAt
set_option maxRecDepth 20000 in
theorem ggL_law_X12_proofAt : GoodIn wsL_law wsX12_proofAt := goodIn_r _ [617, 227, 142, 143, 228, 229, 5, 230, 231, 232, 233, 234, 1635, 1636, 1637, 1638, 1639, 1640, 1641, 1642, 1643, 1644, 1645, 1646, 1647, 1648, 1649, 1650, 1651, 1652, 1653, 1654, 1655, 1656, 1657, 1658, 1659, 1660, 1661, 1662, 1663, 1664] (by decide +kernel) (by decide +kernel)
set_option maxRecDepth 20000 in
theorem gL_law_X12_proofAt : GoodIn wsL_law (wsV RL 214 RX12 yX12_proofAt wsX12_proofAt) := goodIn_app (goodIn_of _ (by decide +kernel)) ggL_law_X12_proofAt
set_option maxRecDepth 20000 in
theorem ggL_law_L_slotOf : GoodIn wsL_law wsL_slotOf := goodIn_ca (goodIn_ca (goodIn_r _ [620, 251, 166, 621, 622, 623, 2, 624, 17, 625, 256, 257, 258, 259, 260, 261, 187, 188, 189, 16, 190, 63, 626, 627, 628, 629, 173, 174, 630, 631, 632, 633, 1624, 1625, 1626, 1627, 1628, 1629, 1630, 1631, 1632, 1633, 1634, 1665, 1666] (by decide +kernel) (by decide +kernel)) (goodIn_sub (fun _ h => List.mem_append_right _ h) (by decide +kernel))) (goodIn_sub (fun _ h => List.mem_append_left _ (List.mem_append_right _ h)) (by decide +kernel))
set_option maxRecDepth 20000 in
theorem gL_law_L_slotOf : GoodIn wsL_law (va_wsS RL 215 yL_slotOf wsL_slotOf) := goodIn_app (goodIn_of _ (by decide +kernel)) ggL_law_L_slotOf
set_option maxRecDepth 20000 in
theorem ggL_law_X12_slotOf : GoodIn wsL_law wsX12_slotOf := goodIn_r _ [637, 227, 137, 292, 293, 294, 5, 295, 235, 236, 237, 238, 228, 229, 230, 231, 232, 233, 234, 638, 639, 640, 641, 1635, 1636, 1637, 1638, 1639, 1640, 1641, 1642, 1643, 1644, 1645, 1646, 1647, 1648, 1649, 1650, 1651, 1652, 1653, 1654, 1655, 1656, 1657, 1658, 1659, 1660, 1661, 1662, 1663, 1664] (by decide +kernel) (by decide +kernel)
set_option maxRecDepth 20000 in
theorem gL_law_X12_slotOf : GoodIn wsL_law (wsV RL 217 RX12 yX12_slotOf wsX12_slotOf) := goodIn_app (goodIn_of _ (by decide +kernel)) ggL_law_X12_slotOf
set_option maxRecDepth 20000 in
theorem ggL_law_L_lessonAt : GoodIn wsL_law wsL_lessonAt := goodIn_ca (goodIn_ca (goodIn_r _ [644, 165, 166, 645, 646, 647, 2, 648, 17, 625, 649, 650, 651, 652, 175, 176, 177, 178, 179, 180, 181, 182, 171, 172, 626, 627, 628, 629, 173, 174, 630, 631, 632, 16, 633, 63, 187, 188, 189, 190, 653, 347, 348, 349, 654, 655, 656, 657, 1624, 1625, 1626, 1627, 1628, 1629, 1630, 1631, 1632, 1633, 1634, 1665, 1666] (by decide +kernel) (by decide +kernel)) (goodIn_sub (fun _ h => List.mem_append_left _ (List.mem_append_left _ (List.mem_append_right _ h))) (by decide +kernel))) (goodIn_sub (fun _ h => List.mem_append_left _ (List.mem_append_right _ h)) (by decide +kernel))
set_option maxRecDepth 20000 in
theorem gL_law_L_lessonAt : GoodIn wsL_law (va_wsS RL 218 yL_lessonAt wsL_lessonAt) := goodIn_app (goodIn_of _ (by decide +kernel)) ggL_law_L_lessonAt
set_option maxRecDepth 20000 in
theorem ggL_law_X12_lessonAt : GoodIn wsL_law wsX12_lessonAt := goodIn_r _ [661, 227, 662, 663, 664, 5, 665, 228, 229, 230, 231, 232, 233, 234, 638, 639, 640, 641, 137, 666, 667, 668, 669, 139, 140, 235, 236, 237, 238, 670, 671, 672, 673, 674, 675, 676, 677, 570, 571, 572, 573, 562, 563, 564, 565, 1635, 1636, 1637, 1638, 1639, 1640, 1641, 1642, 1643, 1644, 1645, 1646, 1647, 1648, 1649, 1650, 1651, 1652, 1653, 1654, 1655, 1656, 1657, 1658, 1659, 1660, 1661, 1662, 1663, 1664] (by decide +kernel) (by decide +kernel)
set_option maxRecDepth 20000 in
theorem gL_law_X12_lessonAt : GoodIn wsL_law (wsV RL 221 RX12 yX12_lessonAt wsX12_lessonAt) := goodIn_app (goodIn_of _ (by decide +kernel)) ggL_law_X12_lessonAt
set_option maxRecDepth 20000 in
theorem ggL_law_L_roomOf : GoodIn wsL_law wsL_roomOf := goodIn_ca (goodIn_ca (goodIn_r _ [680, 251, 166, 681, 682, 683, 2, 684, 25, 17, 625, 256, 257, 258, 259, 260, 261, 187, 188, 189, 16, 190, 63, 626, 627, 628, 629, 173, 174, 630, 631, 632, 633, 685, 450, 451, 24, 452, 453, 454, 455, 456, 457, 458, 81, 73, 74, 72, 459, 460, 75, 76, 77, 78, 79, 80, 461, 320, 321, 322, 462, 463, 464, 465, 466, 467, 468, 469, 470, 268, 269, 270, 471, 276, 277, 278, 472, 473, 474, 475, 476, 347, 348, 349, 686, 687, 688, 689, 82, 690, 691, 692, 693, 1624, 1625, 1626, 1627, 1628, 1629, 1630, 1631, 1632, 1633, 1634, 1665, 1666, 1670, 1671, 1672, 1673, 1674, 1675, 1676, 1677, 1678, 1679, 1680, 1681] (by decide +kernel) (by decide +kernel)) (goodIn_sub (fun _ h => List.mem_append_right _ h) (by decide +kernel))) (goodIn_sub (fun _ h => List.mem_append_left _ (List.mem_append_right _ h)) (by decide +kernel))
set_option maxRecDepth 20000 in
theorem gL_law_L_roomOf : GoodIn wsL_law (va_wsS RL 222 yL_roomOf wsL_roomOf) := goodIn_app (goodIn_of _ (by decide +kernel)) ggL_law_L_roomOf
set_option maxRecDepth 20000 in
theorem ggL_law_X12_roomOf : GoodIn wsL_law wsX12_roomOf := goodIn_r _ [697, 227, 144, 292, 293, 294, 5, 295, 235, 236, 237, 238, 137, 228, 229, 230, 231, 232, 233, 234, 638, 639, 640, 641, 666, 667, 668, 669, 139, 140, 698, 699, 700, 701, 702, 703, 704, 705, 578, 579, 580, 581, 570, 571, 572, 573, 562, 563, 564, 565, 1635, 1636, 1637, 1638, 1639, 1640, 1641, 1642, 1643, 1644, 1645, 1646, 1647, 1648, 1649, 1650, 1651, 1652, 1653, 1654, 1655, 1656, 1657, 1658, 1659, 1660, 1661, 1662, 1663, 1664] (by decide +kernel) (by decide +kernel)
set_option maxRecDepth 20000 in
theorem gL_law_X12_roomOf : GoodIn wsL_law (wsV RL 224 RX12 yX12_roomOf wsX12_roomOf) := goodIn_app (goodIn_of _ (by decide +kernel)) ggL_law_X12_roomOf
set_option maxRecDepth 20000 in
theorem ggL_law_L_choices : GoodIn wsL_law wsL_choices := goodIn_ca (goodIn_ca (goodIn_r _ [708, 251, 166, 709, 710, 711, 2, 712, 25, 17, 625, 256, 257, 258, 259, 260, 261, 187, 188, 189, 16, 190, 63, 626, 627, 628, 629, 173, 174, 630, 631, 632, 633, 713, 446, 447, 448, 267, 268, 269, 270, 275, 276, 277, 278, 685, 450, 451, 24, 452, 453, 454, 455, 456, 457, 458, 81, 73, 74, 72, 459, 460, 75, 76, 77, 78, 79, 80, 461, 320, 321, 322, 462, 463, 464, 465, 466, 467, 468, 469, 470, 471, 472, 473, 474, 475, 476, 347, 348, 349, 714, 518, 519, 520, 715, 716, 717, 718, 719, 720, 721, 1624, 1625, 1626, 1627, 1628, 1629, 1630, 1631, 1632, 1633, 1634, 1665, 1666, 1670, 1671, 1672, 1673, 1674, 1675, 1676, 1677, 1678, 1679, 1680, 1681] (by decide +kernel) (by decide +kernel)) (goodIn_sub (fun _ h => List.mem_append_right _ h) (by decide +kernel))) (goodIn_sub (fun _ h => List.mem_append_left _ (List.mem_append_right _ h)) (by decide +kernel))
set_option maxRecDepth 20000 in
theorem gL_law_L_choices : GoodIn wsL_law (va_wsS RL 225 yL_choices wsL_choices) := goodIn_app (goodIn_of _ (by decide +kernel)) ggL_law_L_choices
set_option maxRecDepth 20000 in
theorem ggL_law_X12_choices : GoodIn wsL_law wsX12_choices := goodIn_r _ [725, 227, 139, 137, 292, 293, 294, 5, 295, 235, 236, 237, 238, 228, 229, 230, 231, 232, 233, 234, 638, 639, 640, 641, 666, 667, 668, 669, 140, 726, 727, 728, 729, 558, 559, 560, 561, 562, 563, 564, 565, 546, 547, 548, 549, 300, 301, 302, 303, 566, 567, 568, 569, 570, 571, 572, 573, 586, 587, 588, 589, 574, 575, 576, 577, 578, 579, 580, 581, 582, 583, 584, 585, 1635, 1636, 1637, 1638, 1639, 1640, 1641, 1642, 1643, 1644, 1645, 1646, 1647, 1648, 1649, 1650, 1651, 1652, 1653, 1654, 1655, 1656, 1657, 1658, 1659, 1660, 1661, 1662, 1663, 1664] (by decide +kernel) (by decide +kernel)
set_option maxRecDepth 20000 in
theorem gL_law_X12_choices : GoodIn wsL_law (wsV RL 227 RX12 yX12_choices wsX12_choices) := goodIn_app (goodIn_of _ (by decide +kernel)) ggL_law_X12_choices
set_option maxRecDepth 20000 in
theorem ggL_law_L_move : GoodIn wsL_law wsL_move := goodIn_ca (goodIn_ca (goodIn_ca (goodIn_r _ [732, 251, 165, 166, 733, 734, 735, 2, 736, 173, 174, 25, 17, 625, 33, 256, 257, 258, 259, 260, 261, 187, 188, 189, 16, 190, 63, 175, 176, 177, 178, 179, 180, 181, 182, 171, 172, 626, 627, 628, 629, 630, 631, 632, 633, 713, 446, 447, 448, 267, 268, 269, 270, 275, 276, 277, 278, 685, 450, 451, 24, 452, 453, 454, 455, 456, 457, 458, 81, 73, 74, 72, 459, 460, 75, 76, 77, 78, 79, 80, 461, 320, 321, 322, 462, 463, 464, 465, 466, 467, 468, 469, 470, 471, 472, 473, 474, 475, 476, 347, 348, 349, 714, 518, 519, 520, 191, 192, 193, 194, 21, 29, 195, 196, 197, 20, 198, 199, 68, 200, 201, 202, 203, 204, 205, 206, 207, 208, 209, 210, 211, 212, 213, 28, 214, 90, 737, 738, 739, 32, 740, 741, 742, 743, 744, 287, 346, 745, 655, 656, 657, 746, 747, 748, 749, 750, 751, 752, 753, 754, 755, 756, 716, 717, 718, 719, 720, 721, 757, 758, 759, 760, 761, 762, 763, 1624, 1625, 1626, 1627, 1628, 1629, 1630, 1631, 1632, 1633, 1634, 1665, 1666, 1670, 1671, 1672, 1673, 1674, 1675, 1676, 1677, 1678, 1679, 1680, 1681, 1667, 1668, 1669, 1682, 1683, 1684, 1685, 1686, 1687, 1688, 1689] (by decide +kernel) (by decide +kernel)) (goodIn_sub (fun _ h => List.mem_append_left _ (List.mem_append_right _ h)) (by decide +kernel))) (goodIn_sub (fun _ h => List.mem_append_right _ h) (by decide +kernel))) (goodIn_sub (fun _ h => List.mem_append_left _ (List.mem_append_left _ (List.mem_append_right _ h))) (by decide +kernel))
set_option maxRecDepth 20000 in
theorem gL_law_L_move : GoodIn wsL_law (va_wsS RL 228 yL_move wsL_move) := goodIn_app (goodIn_of _ (by decide +kernel)) ggL_law_L_move
set_option maxRecDepth 20000 in
theorem ggL_law_X12_move : GoodIn wsL_law wsX12_move := goodIn_r _ [767, 227, 139, 292, 293, 294, 5, 295, 235, 236, 237, 238, 137, 228, 229, 230, 231, 232, 233, 234, 638, 639, 640, 641, 666, 667, 668, 669, 140, 726, 727, 728, 729, 558, 559, 560, 561, 562, 563, 564, 565, 546, 547, 548, 549, 300, 301, 302, 303, 566, 567, 568, 569, 570, 571, 572, 573, 586, 587, 588, 589, 574, 575, 576, 577, 578, 579, 580, 581, 582, 583, 584, 585, 593, 594, 595, 596, 239, 240, 241, 242, 243, 138, 142, 768, 769, 770, 771, 772, 773, 774, 775, 670, 671, 672, 673, 674, 675, 676, 677, 776, 777, 778, 779, 1635, 1636, 1637, 1638, 1639, 1640, 1641, 1642, 1643, 1644, 1645, 1646, 1647, 1648, 1649, 1650, 1651, 1652, 1653, 1654, 1655, 1656, 1657, 1658, 1659, 1660, 1661, 1662, 1663, 1664] (by decide +kernel) (by decide +kernel)
set_option maxRecDepth 20000 in
theorem gL_law_X12_move : GoodIn wsL_law (wsV RL 230 RX12 yX12_move wsX12_move) := goodIn_app (goodIn_of _ (by decide +kernel)) ggL_law_X12_move
set_option maxRecDepth 20000 in
theorem ggL_law_L_holds : GoodIn wsL_law wsL_holds := goodIn_ca (goodIn_ca (goodIn_r _ [782, 251, 166, 783, 784, 785, 2, 786, 17, 625, 401, 402, 403, 404, 260, 261, 385, 268, 269, 16, 270, 63, 626, 627, 628, 629, 173, 174, 630, 631, 632, 633, 787, 760, 761, 762, 275, 276, 277, 278, 763, 742, 743, 744, 287, 188, 189, 190, 346, 347, 348, 349, 745, 655, 656, 657, 1624, 1625, 1626, 1627, 1628, 1629, 1630, 1631, 1632, 1633, 1634, 1665, 1666] (by decide +kernel) (by decide +kernel)) (goodIn_sub (fun _ h => List.mem_append_right _ h) (by decide +kernel))) (goodIn_sub (fun _ h => List.mem_append_left _ (List.mem_append_right _ h)) (by decide +kernel))
set_option maxRecDepth 20000 in
theorem gL_law_L_holds : GoodIn wsL_law (va_wsS RL 231 yL_holds wsL_holds) := goodIn_app (goodIn_of _ (by decide +kernel)) ggL_law_L_holds
set_option maxRecDepth 20000 in
theorem ggL_law_X12_holds : GoodIn wsL_law wsX12_holds := goodIn_r _ [791, 227, 410, 411, 412, 5, 413, 137, 228, 229, 230, 231, 232, 233, 234, 638, 639, 640, 641, 666, 667, 668, 669, 139, 140, 235, 236, 237, 238, 776, 777, 778, 779, 300, 301, 302, 303, 582, 583, 584, 585, 566, 567, 568, 569, 570, 571, 572, 573, 562, 563, 564, 565, 1635, 1636, 1637, 1638, 1639, 1640, 1641, 1642, 1643, 1644, 1645, 1646, 1647, 1648, 1649, 1650, 1651, 1652, 1653, 1654, 1655, 1656, 1657, 1658, 1659, 1660, 1661, 1662, 1663, 1664] (by decide +kernel) (by decide +kernel)
set_option maxRecDepth 20000 in
theorem gL_law_X12_holds : GoodIn wsL_law (wsV RL 233 RX12 yX12_holds wsX12_holds) := goodIn_app (goodIn_of _ (by decide +kernel)) ggL_law_X12_holds
set_option maxRecDepth 20000 in
theorem ggL_law_L_cost : GoodIn wsL_law wsL_cost := goodIn_ca (goodIn_r _ [794, 166, 795, 796, 797, 2, 798, 33, 17, 625, 626, 627, 628, 629, 173, 174, 630, 631, 632, 16, 633, 63, 737, 738, 739, 32, 740, 741, 742, 743, 744, 287, 188, 189, 190, 346, 347, 348, 349, 745, 655, 656, 657, 746, 747, 748, 749, 750, 751, 752, 753, 754, 755, 756, 716, 717, 718, 719, 720, 721, 757, 268, 269, 270, 758, 276, 277, 278, 759, 760, 761, 762, 275, 763, 1624, 1625, 1626, 1627, 1628, 1629, 1630, 1631, 1632, 1633, 1634, 1665, 1666] (by decide +kernel) (by decide +kernel)) (goodIn_sub (fun _ h => List.mem_append_left _ (List.mem_append_right _ h)) (by decide +kernel))
set_option maxRecDepth 20000 in
theorem gL_law_L_cost : GoodIn wsL_law (va_wsS RL 234 yL_cost wsL_cost) := goodIn_app (goodIn_of _ (by decide +kernel)) ggL_law_L_cost
set_option maxRecDepth 20000 in
theorem ggL_law_X12_cost : GoodIn wsL_law wsX12_cost := goodIn_r _ [802, 227, 638, 639, 640, 5, 641, 137, 231, 232, 233, 234, 666, 667, 668, 669, 139, 140, 235, 236, 237, 238, 768, 769, 770, 771, 772, 773, 774, 775, 670, 671, 672, 673, 674, 675, 676, 677, 570, 571, 572, 573, 562, 563, 564, 565, 776, 777, 778, 779, 300, 301, 302, 303, 582, 583, 584, 585, 566, 567, 568, 569, 1635, 1636, 1637, 1638, 1639, 1640, 1641, 1642, 1643, 1644, 1645, 1646, 1647, 1648, 1649, 1650, 1651, 1652, 1653, 1654, 1655, 1656, 1657, 1658, 1659, 1660, 1661, 1662, 1663, 1664] (by decide +kernel) (by decide +kernel)
set_option maxRecDepth 20000 in
theorem gL_law_X12_cost : GoodIn wsL_law (wsV RL 237 RX12 yX12_cost wsX12_cost) := goodIn_app (goodIn_of _ (by decide +kernel)) ggL_law_X12_cost
set_option maxRecDepth 20000 in
theorem ggL_law_L_gaps : GoodIn wsL_law wsL_gaps := goodIn_ca (goodIn_ca (goodIn_r _ [805, 165, 166, 806, 807, 808, 2, 809, 33, 17, 625, 649, 650, 651, 652, 175, 176, 177, 178, 179, 180, 181, 182, 171, 172, 626, 627, 628, 629, 173, 174, 630, 631, 632, 16, 633, 63, 810, 742, 743, 744, 287, 188, 189, 190, 346, 347, 348, 349, 745, 655, 656, 657, 811, 747, 748, 32, 749, 750, 751, 752, 753, 754, 755, 756, 716, 717, 718, 719, 720, 721, 1624, 1625, 1626, 1627, 1628, 1629, 1630, 1631, 1632, 1633, 1634, 1665, 1666] (by decide +kernel) (by decide +kernel)) (goodIn_sub (fun _ h => List.mem_append_left _ (List.mem_append_left _ (List.mem_append_right _ h))) (by decide +kernel))) (goodIn_sub (fun _ h => List.mem_append_left _ (List.mem_append_right _ h)) (by decide +kernel))
set_option maxRecDepth 20000 in
theorem gL_law_L_gaps : GoodIn wsL_law (va_wsS RL 238 yL_gaps wsL_gaps) := goodIn_app (goodIn_of _ (by decide +kernel)) ggL_law_L_gaps
set_option maxRecDepth 20000 in
theorem ggL_law_X12_gaps : GoodIn wsL_law wsX12_gaps := goodIn_r _ [815, 227, 662, 663, 664, 5, 665, 228, 229, 230, 231, 232, 233, 234, 638, 639, 640, 641, 137, 666, 667, 668, 669, 139, 140, 235, 236, 237, 238, 772, 773, 774, 775, 670, 671, 672, 673, 674, 675, 676, 677, 570, 571, 572, 573, 562, 563, 564, 565, 1635, 1636, 1637, 1638, 1639, 1640, 1641, 1642, 1643, 1644, 1645, 1646, 1647, 1648, 1649, 1650, 1651, 1652, 1653, 1654, 1655, 1656, 1657, 1658, 1659, 1660, 1661, 1662, 1663, 1664] (by decide +kernel) (by decide +kernel)
set_option maxRecDepth 20000 in
theorem gL_law_X12_gaps : GoodIn wsL_law (wsV RL 241 RX12 yX12_gaps wsX12_gaps) := goodIn_app (goodIn_of _ (by decide +kernel)) ggL_law_X12_gaps
set_option maxRecDepth 20000 in
theorem ggL_law_L_improve : GoodIn wsL_law wsL_improve := goodIn_ca (goodIn_r _ [818, 166, 819, 820, 821, 2, 822, 25, 17, 33, 823, 626, 627, 628, 629, 173, 174, 630, 631, 632, 16, 633, 63, 713, 446, 447, 448, 267, 268, 269, 270, 275, 276, 277, 278, 685, 450, 451, 24, 452, 453, 454, 188, 189, 190, 455, 456, 457, 458, 81, 73, 74, 72, 459, 460, 75, 76, 77, 78, 79, 80, 461, 320, 321, 322, 462, 463, 464, 465, 466, 467, 468, 469, 470, 471, 472, 473, 474, 475, 476, 347, 348, 349, 824, 825, 826, 32, 827, 828, 829, 98, 830, 202, 203, 204, 831, 832, 738, 739, 740, 741, 742, 743, 744, 287, 346, 745, 655, 656, 657, 746, 747, 748, 749, 750, 751, 752, 753, 754, 755, 756, 716, 717, 718, 719, 720, 721, 757, 758, 759, 760, 761, 762, 763, 833, 834, 835, 836, 837, 518, 519, 520, 838, 839, 840, 841, 97, 842, 843, 844, 845, 846, 847, 848, 849, 850, 191, 192, 193, 194, 21, 29, 195, 196, 197, 20, 198, 199, 68, 200, 201, 205, 206, 207, 208, 209, 210, 211, 212, 213, 28, 214, 90, 526, 527, 528, 529, 64, 266, 1624, 1625, 1626, 1627, 1628, 1629, 1630, 1631, 1632, 1633, 1634, 1690, 1691, 1692, 1665, 1666, 1670, 1671, 1672, 1673, 1674, 1675, 1676, 1677, 1678, 1679, 1680, 1681, 1667, 1668, 1669, 1682, 1683, 1684, 1685, 1686, 1687, 1688, 1689] (by decide +kernel) (by decide +kernel)) (goodIn_sub (fun _ h => List.mem_append_left _ (List.mem_append_right _ h)) (by decide +kernel))
set_option maxRecDepth 20000 in
theorem gL_law_L_improve : GoodIn wsL_law (va_wsS RL 242 yL_improve wsL_improve) := goodIn_app (goodIn_of _ (by decide +kernel)) ggL_law_L_improve
set_option maxRecDepth 20000 in
theorem ggL_law_X12_improve : GoodIn wsL_law wsX12_improve := goodIn_r _ [854, 227, 139, 137, 638, 639, 640, 5, 641, 231, 232, 233, 234, 666, 667, 668, 669, 140, 235, 236, 237, 238, 768, 769, 770, 771, 772, 773, 774, 775, 670, 671, 672, 673, 674, 675, 676, 677, 570, 571, 572, 573, 562, 563, 564, 565, 776, 777, 778, 779, 300, 301, 302, 303, 582, 583, 584, 585, 566, 567, 568, 569, 726, 727, 728, 729, 558, 559, 560, 561, 546, 547, 548, 549, 586, 587, 588, 589, 574, 575, 576, 577, 578, 579, 580, 581, 593, 594, 595, 596, 239, 240, 241, 242, 243, 138, 142, 1635, 1636, 1637, 1638, 1639, 1640, 1641, 1642, 1643, 1644, 1645, 1646, 1647, 1648, 1649, 1650, 1651, 1652, 1653, 1654, 1655, 1656, 1657, 1658, 1659, 1660, 1661, 1662, 1663, 1664] (by decide +kernel) (by decide +kernel)
set_option maxRecDepth 20000 in
theorem gL_law_X12_improve : GoodIn wsL_law (wsV RL 244 RX12 yX12_improve wsX12_improve) := goodIn_app (goodIn_of _ (by decide +kernel)) ggL_law_X12_improve
set_option maxRecDepth 20000 in
theorem ggL_law_X11_most : GoodIn wsL_law wsX11_most := goodIn_r _ [858, 37, 17, 859, 860, 861, 36, 862, 863, 864, 209, 865, 866, 867, 868, 869, 870, 188, 189, 16, 190, 63, 871, 347, 348, 349, 1624, 1625, 1626, 1627, 1628, 1629, 1630, 1631, 1632, 1633, 1634, 1665, 1666] (by decide +kernel) (by decide +kernel)
set_option maxRecDepth 20000 in
theorem gL_law_X11_most : GoodIn wsL_law (wsV RL 245 RX11 yX11_most wsX11_most) := goodIn_app (goodIn_of _ (by decide +kernel)) ggL_law_X11_most
set_option maxRecDepth 20000 in
theorem ggL_law_X12_most : GoodIn wsL_law wsX12_most := goodIn_r _ [875, 227, 876, 877, 878, 5, 879, 235, 236, 237, 238, 137, 674, 675, 676, 677, 1635, 1636, 1637, 1638, 1639, 1640, 1641, 1642, 1643, 1644, 1645, 1646, 1647, 1648, 1649, 1650, 1651, 1652, 1653, 1654, 1655, 1656, 1657, 1658, 1659, 1660, 1661, 1662, 1663, 1664] (by decide +kernel) (by decide +kernel)
set_option maxRecDepth 20000 in
theorem gL_law_X12_most : GoodIn wsL_law (wsV RL 248 RX12 yX12_most wsX12_most) := goodIn_app (goodIn_of _ (by decide +kernel)) ggL_law_X12_most
set_option maxRecDepth 20000 in
theorem ggL_law_L_colour : GoodIn wsL_law wsL_colour := goodIn_ca (goodIn_r _ [882, 251, 883, 884, 885, 2, 886, 37, 17, 887, 256, 257, 258, 259, 260, 261, 187, 188, 189, 16, 190, 63, 888, 889, 890, 36, 891, 102, 892, 860, 861, 862, 863, 864, 209, 865, 866, 867, 868, 869, 870, 871, 347, 348, 349, 893, 894, 895, 896, 897, 320, 321, 322, 898, 899, 900, 901, 902, 903, 904, 905, 906, 907, 908, 909, 1624, 1625, 1626, 1627, 1628, 1629, 1630, 1631, 1632, 1633, 1634, 1693, 1665, 1666] (by decide +kernel) (by decide +kernel)) (goodIn_sub (fun _ h => List.mem_append_right _ h) (by decide +kernel))
set_option maxRecDepth 20000 in
theorem gL_law_L_colour : GoodIn wsL_law (va_wsS RL 249 yL_colour wsL_colour) := goodIn_app (goodIn_of _ (by decide +kernel)) ggL_law_L_colour
set_option maxRecDepth 20000 in
theorem ggL_law_X12_colour : GoodIn wsL_law wsX12_colour := goodIn_r _ [913, 227, 145, 292, 293, 294, 5, 295, 235, 236, 237, 238, 137, 228, 229, 230, 231, 232, 233, 234, 914, 915, 916, 917, 146, 876, 877, 878, 879, 674, 675, 676, 677, 918, 919, 920, 921, 922, 923, 924, 925, 1635, 1636, 1637, 1638, 1639, 1640, 1641, 1642, 1643, 1644, 1645, 1646, 1647, 1648, 1649, 1650, 1651, 1652, 1653, 1654, 1655, 1656, 1657, 1658, 1659, 1660, 1661, 1662, 1663, 1664] (by decide +kernel) (by decide +kernel)
set_option maxRecDepth 20000 in
theorem gL_law_X12_colour : GoodIn wsL_law (wsV RL 251 RX12 yX12_colour wsX12_colour) := goodIn_app (goodIn_of _ (by decide +kernel)) ggL_law_X12_colour
set_option maxRecDepth 20000 in
theorem ggL_law_L_setIll : GoodIn wsL_law wsL_setIll := goodIn_ca (goodIn_r _ [928, 165, 929, 930, 931, 2, 932, 17, 175, 176, 177, 178, 179, 180, 181, 182, 171, 172, 191, 192, 193, 194, 21, 29, 195, 196, 197, 20, 198, 199, 68, 200, 201, 202, 203, 204, 205, 206, 207, 208, 209, 210, 211, 212, 213, 28, 214, 90, 933, 934, 935, 16, 936, 937, 938, 939, 940, 63, 1624, 1625, 1626, 1627, 1628, 1629, 1630, 1631, 1632, 1633, 1634, 1665, 1666, 1667, 1668, 1669, 1682, 1683, 1684, 1685, 1686, 1687, 1688, 1689] (by decide +kernel) (by decide +kernel)) (goodIn_sub (fun _ h => List.mem_append_left _ (List.mem_append_left _ (List.mem_append_right _ h))) (by decide +kernel))
set_option maxRecDepth 20000 in
theorem gL_law_L_setIll : GoodIn wsL_law (va_wsS RL 252 yL_setIll wsL_setIll) := goodIn_app (goodIn_of _ (by decide +kernel)) ggL_law_L_setIll
set_option maxRecDepth 20000 in
theorem ggL_law_X12_setIll : GoodIn wsL_law wsX12_setIll := goodIn_r _ [944, 227, 137, 359, 360, 361, 5, 362, 228, 229, 230, 231, 232, 233, 234, 239, 240, 241, 242, 243, 138, 142, 945, 946, 947, 948, 1635, 1636, 1637, 1638, 1639, 1640, 1641, 1642, 1643, 1644, 1645, 1646, 1647, 1648, 1649, 1650, 1651, 1652, 1653, 1654, 1655, 1656, 1657, 1658, 1659, 1660, 1661, 1662, 1663, 1664] (by decide +kernel) (by decide +kernel)
set_option maxRecDepth 20000 in
theorem gL_law_X12_setIll : GoodIn wsL_law (wsV RL 255 RX12 yX12_setIll wsX12_setIll) := goodIn_app (goodIn_of _ (by decide +kernel)) ggL_law_X12_setIll
set_option maxRecDepth 20000 in
theorem ggL_law_L_ill : GoodIn wsL_law wsL_ill := goodIn_ca (goodIn_ca (goodIn_r _ [951, 165, 166, 952, 953, 954, 2, 955, 41, 17, 956, 957, 175, 176, 177, 178, 179, 180, 181, 182, 171, 172, 626, 627, 628, 629, 173, 174, 630, 631, 632, 16, 633, 63, 958, 959, 960, 40, 961, 962, 963, 107, 964, 106, 965, 966, 967, 968, 969, 970, 742, 743, 744, 287, 188, 189, 190, 346, 347, 348, 349, 745, 655, 656, 657, 971, 972, 973, 974, 975, 976, 977, 320, 321, 322, 978, 979, 980, 981, 982, 184, 185, 186, 983, 984, 985, 986, 864, 209, 865, 987, 988, 989, 990, 715, 716, 717, 718, 719, 720, 721, 1624, 1625, 1626, 1627, 1628, 1629, 1630, 1631, 1632, 1633, 1634, 1694, 1695, 1696, 1697, 1698, 1665, 1666] (by decide +kernel) (by decide +kernel)) (goodIn_sub (fun _ h => List.mem_append_left _ (List.mem_append_left _ (List.mem_append_right _ h))) (by decide +kernel))) (goodIn_sub (fun _ h => List.mem_append_left _ (List.mem_append_right _ h)) (by decide +kernel))
set_option maxRecDepth 20000 in
theorem gL_law_L_ill : GoodIn wsL_law (va_wsS RL 256 yL_ill wsL_ill) := goodIn_app (goodIn_of _ (by decide +kernel)) ggL_law_L_ill
set_option maxRecDepth 20000 in
theorem ggL_law_X12_ill : GoodIn wsL_law wsX12_ill := goodIn_r _ [994, 227, 995, 996, 228, 229, 5, 230, 231, 232, 233, 234, 638, 639, 640, 641, 137, 666, 667, 668, 669, 139, 140, 235, 236, 237, 238, 997, 998, 999, 1000, 147, 148, 149, 570, 571, 572, 573, 562, 563, 564, 565, 945, 946, 947, 948, 1001, 1002, 1003, 1004, 1005, 1006, 1007, 1008, 670, 671, 672, 673, 674, 675, 676, 677, 1635, 1636, 1637, 1638, 1639, 1640, 1641, 1642, 1643, 1644, 1645, 1646, 1647, 1648, 1649, 1650, 1651, 1652, 1653, 1654, 1655, 1656, 1657, 1658, 1659, 1660, 1661, 1662, 1663, 1664] (by decide +kernel) (by decide +kernel)
set_option maxRecDepth 20000 in
theorem gL_law_X12_ill : GoodIn wsL_law (wsV RL 259 RX12 yX12_ill wsX12_ill) := goodIn_app (goodIn_of _ (by decide +kernel)) ggL_law_X12_ill
set_option maxRecDepth 20000 in
theorem ggL_law_L_substitute : GoodIn wsL_law wsL_substitute := goodIn_ca (goodIn_ca (goodIn_ca (goodIn_r _ [1011, 251, 165, 166, 1012, 1013, 1014, 2, 1015, 41, 17, 1016, 256, 257, 258, 259, 260, 261, 187, 188, 189, 16, 190, 63, 175, 176, 177, 178, 179, 180, 181, 182, 171, 172, 626, 627, 628, 629, 173, 174, 630, 631, 632, 633, 958, 959, 960, 40, 961, 962, 963, 107, 964, 106, 965, 966, 967, 968, 969, 970, 742, 743, 744, 287, 346, 347, 348, 349, 745, 655, 656, 657, 971, 972, 973, 974, 975, 976, 977, 320, 321, 322, 978, 979, 980, 981, 982, 184, 185, 186, 983, 984, 985, 986, 864, 209, 865, 987, 988, 989, 990, 1624, 1625, 1626, 1627, 1628, 1629, 1630, 1631, 1632, 1633, 1634, 1694, 1695, 1696, 1697, 1698, 1665, 1666] (by decide +kernel) (by decide +kernel)) (goodIn_sub (fun _ h => List.mem_append_right _ h) (by decide +kernel))) (goodIn_sub (fun _ h => List.mem_append_left _ (List.mem_append_left _ (List.mem_append_right _ h))) (by decide +kernel))) (goodIn_sub (fun _ h => List.mem_append_left _ (List.mem_append_right _ h)) (by decide +kernel))
set_option maxRecDepth 20000 in
theorem gL_law_L_substitute : GoodIn wsL_law (va_wsS RL 260 yL_substitute wsL_substitute) := goodIn_app (goodIn_of _ (by decide +kernel)) ggL_law_L_substitute
set_option maxRecDepth 20000 in
theorem ggL_law_X12_substitute : GoodIn wsL_law wsX12_substitute := goodIn_r _ [1020, 227, 995, 147, 149, 292, 293, 294, 5, 295, 235, 236, 237, 238, 137, 228, 229, 230, 231, 232, 233, 234, 638, 639, 640, 641, 666, 667, 668, 669, 139, 140, 997, 998, 999, 1000, 996, 148, 570, 571, 572, 573, 562, 563, 564, 565, 945, 946, 947, 948, 1001, 1002, 1003, 1004, 1005, 1006, 1007, 1008, 670, 671, 672, 673, 674, 675, 676, 677, 1635, 1636, 1637, 1638, 1639, 1640, 1641, 1642, 1643, 1644, 1645, 1646, 1647, 1648, 1649, 1650, 1651, 1652, 1653, 1654, 1655, 1656, 1657, 1658, 1659, 1660, 1661, 1662, 1663, 1664] (by decide +kernel) (by decide +kernel)
set_option maxRecDepth 20000 in
theorem gL_law_X12_substitute : GoodIn wsL_law (wsV RL 262 RX12 yX12_substitute wsX12_substitute) := goodIn_app (goodIn_of _ (by decide +kernel)) ggL_law_X12_substitute
set_option maxRecDepth 20000 in
theorem ggL_law_L_takes : GoodIn wsL_law wsL_takes := goodIn_ca (goodIn_ca (goodIn_r _ [1023, 165, 166, 1024, 1025, 1026, 2, 1027, 41, 17, 1028, 175, 176, 177, 178, 179, 180, 181, 182, 171, 172, 626, 627, 628, 629, 173, 174, 630, 631, 632, 16, 633, 63, 958, 959, 960, 40, 961, 962, 963, 107, 964, 106, 965, 966, 967, 968, 969, 970, 742, 743, 744, 287, 188, 189, 190, 346, 347, 348, 349, 745, 655, 656, 657, 971, 972, 973, 974, 975, 976, 977, 320, 321, 322, 978, 979, 980, 981, 982, 184, 185, 186, 983, 984, 985, 986, 864, 209, 865, 987, 988, 989, 990, 1624, 1625, 1626, 1627, 1628, 1629, 1630, 1631, 1632, 1633, 1634, 1694, 1695, 1696, 1697, 1698, 1665, 1666] (by decide +kernel) (by decide +kernel)) (goodIn_sub (fun _ h => List.mem_append_left _ (List.mem_append_left _ (List.mem_append_right _ h))) (by decide +kernel))) (goodIn_sub (fun _ h => List.mem_append_left _ (List.mem_append_right _ h)) (by decide +kernel))
set_option maxRecDepth 20000 in
theorem gL_law_L_takes : GoodIn wsL_law (va_wsS RL 263 yL_takes wsL_takes) := goodIn_app (goodIn_of _ (by decide +kernel)) ggL_law_L_takes
set_option maxRecDepth 20000 in
theorem ggL_law_X12_takes : GoodIn wsL_law wsX12_takes := goodIn_r _ [1032, 227, 995, 149, 359, 360, 361, 5, 362, 228, 229, 230, 231, 232, 233, 234, 638, 639, 640, 641, 137, 666, 667, 668, 669, 139, 140, 235, 236, 237, 238, 997, 998, 999, 1000, 147, 996, 148, 570, 571, 572, 573, 562, 563, 564, 565, 945, 946, 947, 948, 1001, 1002, 1003, 1004, 1005, 1006, 1007, 1008, 670, 671, 672, 673, 674, 675, 676, 677, 1635, 1636, 1637, 1638, 1639, 1640, 1641, 1642, 1643, 1644, 1645, 1646, 1647, 1648, 1649, 1650, 1651, 1652, 1653, 1654, 1655, 1656, 1657, 1658, 1659, 1660, 1661, 1662, 1663, 1664] (by decide +kernel) (by decide +kernel)
set_option maxRecDepth 20000 in
theorem gL_law_X12_takes : GoodIn wsL_law (wsV RL 265 RX12 yX12_takes wsX12_takes) := goodIn_app (goodIn_of _ (by decide +kernel)) ggL_law_X12_takes
set_option maxRecDepth 20000 in
theorem ggL_law_L_setApart : GoodIn wsL_law wsL_setApart := goodIn_ca (goodIn_r _ [1035, 165, 1036, 1037, 1038, 2, 1039, 171, 172, 17, 175, 176, 177, 178, 179, 180, 181, 182, 191, 192, 193, 194, 21, 29, 195, 196, 197, 20, 198, 199, 68, 200, 201, 202, 203, 204, 205, 206, 207, 208, 209, 210, 211, 212, 213, 28, 214, 90, 1040, 1041, 1042, 16, 1043, 937, 938, 939, 940, 63, 1624, 1625, 1626, 1627, 1628, 1629, 1630, 1631, 1632, 1633, 1634, 1665, 1666, 1667, 1668, 1669, 1682, 1683, 1684, 1685, 1686, 1687, 1688, 1689] (by decide +kernel) (by decide +kernel)) (goodIn_sub (fun _ h => List.mem_append_left _ (List.mem_append_left _ (List.mem_append_right _ h))) (by decide +kernel))
set_option maxRecDepth 20000 in
theorem gL_law_L_setApart : GoodIn wsL_law (va_wsS RL 266 yL_setApart wsL_setApart) := goodIn_app (goodIn_of _ (by decide +kernel)) ggL_law_L_setApart
set_option maxRecDepth 20000 in
theorem ggL_law_X12_setApart : GoodIn wsL_law wsX12_setApart := goodIn_r _ [1047, 227, 137, 228, 229, 5, 230, 231, 232, 233, 234, 239, 240, 241, 242, 243, 138, 142, 1048, 1049, 1050, 1051, 1635, 1636, 1637, 1638, 1639, 1640, 1641, 1642, 1643, 1644, 1645, 1646, 1647, 1648, 1649, 1650, 1651, 1652, 1653, 1654, 1655, 1656, 1657, 1658, 1659, 1660, 1661, 1662, 1663, 1664] (by decide +kernel) (by decide +kernel)
set_option maxRecDepth 20000 in
theorem gL_law_X12_setApart : GoodIn wsL_law (wsV RL 268 RX12 yX12_setApart wsX12_setApart) := goodIn_app (goodIn_of _ (by decide +kernel)) ggL_law_X12_setApart
set_option maxRecDepth 20000 in
theorem ggL_law_X11_daysNeeded : GoodIn wsL_law wsX11_daysNeeded := goodIn_r _ [1055, 45, 17, 1056, 1057, 1058, 44, 1059, 111, 1060, 1061, 1062, 1063, 864, 209, 865, 1064, 1065, 1066, 1067, 1068, 1069, 16, 1070, 63, 1624, 1625, 1626, 1627, 1628, 1629, 1630, 1631, 1632, 1633, 1634, 1699, 1665, 1666] (by decide +kernel) (by decide +kernel)
set_option maxRecDepth 20000 in
theorem gL_law_X11_daysNeeded : GoodIn wsL_law (wsV RL 269 RX11 yX11_daysNeeded wsX11_daysNeeded) := goodIn_app (goodIn_of _ (by decide +kernel)) ggL_law_X11_daysNeeded
set_option maxRecDepth 20000 in
theorem ggL_law_X12_daysNeeded : GoodIn wsL_law wsX12_daysNeeded := goodIn_r _ [1074, 227, 1075, 1076, 1077, 5, 1078, 1079, 1080, 1081, 1082, 150, 1083, 1084, 1085, 1086, 1048, 1049, 1050, 1051, 137, 1635, 1636, 1637, 1638, 1639, 1640, 1641, 1642, 1643, 1644, 1645, 1646, 1647, 1648, 1649, 1650, 1651, 1652, 1653, 1654, 1655, 1656, 1657, 1658, 1659, 1660, 1661, 1662, 1663, 1664] (by decide +kernel) (by decide +kernel)
set_option maxRecDepth 20000 in
theorem gL_law_X12_daysNeeded : GoodIn wsL_law (wsV RL 272 RX12 yX12_daysNeeded wsX12_daysNeeded) := goodIn_app (goodIn_of _ (by decide +kernel)) ggL_law_X12_daysNeeded
set_option maxRecDepth 20000 in
theorem ggL_law_L_examDay : GoodIn wsL_law wsL_examDay := goodIn_ca (goodIn_r _ [1089, 165, 1090, 1091, 1092, 2, 1093, 45, 17, 1094, 175, 176, 177, 178, 179, 180, 181, 182, 171, 172, 1056, 1057, 1058, 44, 1059, 111, 1060, 1061, 1062, 1063, 864, 209, 865, 1064, 1065, 1066, 1067, 1068, 1069, 16, 1070, 63, 1624, 1625, 1626, 1627, 1628, 1629, 1630, 1631, 1632, 1633, 1634, 1699, 1665, 1666] (by decide +kernel) (by decide +kernel)) (goodIn_sub (fun _ h => List.mem_append_left _ (List.mem_append_left _ (List.mem_append_right _ h))) (by decide +kernel))
set_option maxRecDepth 20000 in
theorem gL_law_L_examDay : GoodIn wsL_law (va_wsS RL 273 yL_examDay wsL_examDay) := goodIn_app (goodIn_of _ (by decide +kernel)) ggL_law_L_examDay
set_option maxRecDepth 20000 in
theorem ggL_law_X12_examDay : GoodIn wsL_law wsX12_examDay := goodIn_r _ [1098, 227, 150, 228, 229, 5, 230, 231, 232, 233, 234, 1075, 1076, 1077, 1078, 1079, 1080, 1081, 1082, 1083, 1084, 1085, 1086, 1048, 1049, 1050, 1051, 137, 1635, 1636, 1637, 1638, 1639, 1640, 1641, 1642, 1643, 1644, 1645, 1646, 1647, 1648, 1649, 1650, 1651, 1652, 1653, 1654, 1655, 1656, 1657, 1658, 1659, 1660, 1661, 1662, 1663, 1664] (by decide +kernel) (by decide +kernel)
set_option maxRecDepth 20000 in
theorem gL_law_X12_examDay : GoodIn wsL_law (wsV RL 275 RX12 yX12_examDay wsX12_examDay) := goodIn_app (goodIn_of _ (by decide +kernel)) ggL_law_X12_examDay
set_option maxRecDepth 20000 in
theorem ggL_law_X11_group : GoodIn wsL_law wsX11_group := goodIn_r _ [1102, 45, 17, 1103, 1104, 1105, 44, 1106, 1107, 716, 717, 718, 719, 720, 721, 1108, 1109, 1110, 1111, 1067, 1068, 1069, 16, 1070, 63, 1624, 1625, 1626, 1627, 1628, 1629, 1630, 1631, 1632, 1633, 1634, 1665, 1666] (by decide +kernel) (by decide +kernel)
set_option maxRecDepth 20000 in
theorem gL_law_X11_group : GoodIn wsL_law (wsV RL 276 RX11 yX11_group wsX11_group) := goodIn_app (goodIn_of _ (by decide +kernel)) ggL_law_X11_group
set_option maxRecDepth 20000 in
theorem ggL_law_X12_group : GoodIn wsL_law wsX12_group := goodIn_r _ [1115, 227, 1048, 1049, 1050, 5, 1051, 137, 1635, 1636, 1637, 1638, 1639, 1640, 1641, 1642, 1643, 1644, 1645, 1646, 1647, 1648, 1649, 1650, 1651, 1652, 1653, 1654, 1655, 1656, 1657, 1658, 1659, 1660, 1661, 1662, 1663, 1664] (by decide +kernel) (by decide +kernel)
set_option maxRecDepth 20000 in
theorem gL_law_X12_group : GoodIn wsL_law (wsV RL 279 RX12 yX12_group wsX12_group) := goodIn_app (goodIn_of _ (by decide +kernel)) ggL_law_X12_group
set_option maxRecDepth 20000 in
theorem ggL_law_L_setBells : GoodIn wsL_law wsL_setBells := goodIn_ca (goodIn_r _ [1118, 165, 1119, 1120, 1121, 2, 1122, 49, 175, 176, 177, 178, 179, 180, 181, 182, 171, 172, 1123, 1124, 1125, 48, 1126, 116, 117, 118, 1127, 1128, 1129, 1130, 1624, 1625, 1626, 1627, 1628, 1629, 1630, 1631, 1632, 1633, 1634, 1700, 1701, 1702] (by decide +kernel) (by decide +kernel)) (goodIn_sub (fun _ h => List.mem_append_left _ (List.mem_append_left _ (List.mem_append_right _ h))) (by decide +kernel))
set_option maxRecDepth 20000 in
theorem gL_law_L_setBells : GoodIn wsL_law (va_wsS RL 280 yL_setBells wsL_setBells) := goodIn_app (goodIn_of _ (by decide +kernel)) ggL_law_L_setBells
set_option maxRecDepth 20000 in
theorem ggL_law_X12_setBells : GoodIn wsL_law wsX12_setBells := goodIn_r _ [1134, 227, 151, 152, 153, 228, 229, 5, 230, 231, 232, 233, 234, 1135, 1136, 1137, 1138, 1635, 1636, 1637, 1638, 1639, 1640, 1641, 1642, 1643, 1644, 1645, 1646, 1647, 1648, 1649, 1650, 1651, 1652, 1653, 1654, 1655, 1656, 1657, 1658, 1659, 1660, 1661, 1662, 1663, 1664] (by decide +kernel) (by decide +kernel)
set_option maxRecDepth 20000 in
theorem gL_law_X12_setBells : GoodIn wsL_law (wsV RL 282 RX12 yX12_setBells wsX12_setBells) := goodIn_app (goodIn_of _ (by decide +kernel)) ggL_law_X12_setBells
set_option maxRecDepth 20000 in
theorem ggL_law_L_bell : GoodIn wsL_law wsL_bell := goodIn_ca (goodIn_r _ [1141, 165, 1142, 1143, 1144, 2, 1145, 49, 175, 176, 177, 178, 179, 180, 181, 182, 171, 172, 1127, 1128, 1129, 48, 1130, 116, 117, 118, 1624, 1625, 1626, 1627, 1628, 1629, 1630, 1631, 1632, 1633, 1634, 1700, 1701, 1702] (by decide +kernel) (by decide +kernel)) (goodIn_sub (fun _ h => List.mem_append_left _ (List.mem_append_left _ (List.mem_append_right _ h))) (by decide +kernel))
set_option maxRecDepth 20000 in
theorem gL_law_L_bell : GoodIn wsL_law (va_wsS RL 283 yL_bell wsL_bell) := goodIn_app (goodIn_of _ (by decide +kernel)) ggL_law_L_bell
set_option maxRecDepth 20000 in
theorem ggL_law_X12_bell : GoodIn wsL_law wsX12_bell := goodIn_r _ [1149, 227, 228, 229, 5, 230, 231, 232, 233, 234, 1135, 1136, 1137, 1138, 151, 152, 153, 1635, 1636, 1637, 1638, 1639, 1640, 1641, 1642, 1643, 1644, 1645, 1646, 1647, 1648, 1649, 1650, 1651, 1652, 1653, 1654, 1655, 1656, 1657, 1658, 1659, 1660, 1661, 1662, 1663, 1664] (by decide +kernel) (by decide +kernel)
set_option maxRecDepth 20000 in
theorem gL_law_X12_bell : GoodIn wsL_law (wsV RL 285 RX12 yX12_bell wsX12_bell) := goodIn_app (goodIn_of _ (by decide +kernel)) ggL_law_X12_bell
set_option maxRecDepth 20000 in
theorem ggL_law_L_slotAt : GoodIn wsL_law wsL_slotAt := goodIn_ca (goodIn_r _ [1152, 165, 1153, 1154, 1155, 2, 1156, 49, 175, 176, 177, 178, 179, 180, 181, 182, 171, 172, 1127, 1128, 1129, 48, 1130, 116, 117, 118, 1624, 1625, 1626, 1627, 1628, 1629, 1630, 1631, 1632, 1633, 1634, 1700, 1701, 1702] (by decide +kernel) (by decide +kernel)) (goodIn_sub (fun _ h => List.mem_append_left _ (List.mem_append_left _ (List.mem_append_right _ h))) (by decide +kernel))
set_option maxRecDepth 20000 in
theorem gL_law_L_slotAt : GoodIn wsL_law (va_wsS RL 286 yL_slotAt wsL_slotAt) := goodIn_app (goodIn_of _ (by decide +kernel)) ggL_law_L_slotAt
set_option maxRecDepth 20000 in
theorem ggL_law_X12_slotAt : GoodIn wsL_law wsX12_slotAt := goodIn_r _ [1160, 227, 228, 229, 5, 230, 231, 232, 233, 234, 1135, 1136, 1137, 1138, 151, 152, 153, 1635, 1636, 1637, 1638, 1639, 1640, 1641, 1642, 1643, 1644, 1645, 1646, 1647, 1648, 1649, 1650, 1651, 1652, 1653, 1654, 1655, 1656, 1657, 1658, 1659, 1660, 1661, 1662, 1663, 1664] (by decide +kernel) (by decide +kernel)
set_option maxRecDepth 20000 in
theorem gL_law_X12_slotAt : GoodIn wsL_law (wsV RL 288 RX12 yX12_slotAt wsX12_slotAt) := goodIn_app (goodIn_of _ (by decide +kernel)) ggL_law_X12_slotAt
set_option maxRecDepth 20000 in
theorem ggL_law_L_setYear : GoodIn wsL_law wsL_setYear := goodIn_ca (goodIn_r _ [1163, 165, 1164, 1165, 1166, 2, 1167, 171, 172, 53, 1168, 1169, 1170, 1171, 1172, 1173, 1174, 52, 1175, 1176, 1177, 1178, 1179, 1180, 1181, 1182, 1183, 1184, 1185, 1186, 1187, 1188, 1189, 1190, 1191, 1192, 1193, 1194, 1195, 1196, 1197, 124, 1198, 123, 1199, 1200, 1201, 1202, 1203, 1204, 1624, 1625, 1626, 1627, 1628, 1629, 1630, 1631, 1632, 1633, 1634, 1703, 1704, 1705] (by decide +kernel) (by decide +kernel)) (goodIn_sub (fun _ h => List.mem_append_left _ (List.mem_append_left _ (List.mem_append_right _ h))) (by decide +kernel))
set_option maxRecDepth 20000 in
theorem gL_law_L_setYear : GoodIn wsL_law (va_wsS RL 289 yL_setYear wsL_setYear) := goodIn_app (goodIn_of _ (by decide +kernel)) ggL_law_L_setYear
set_option maxRecDepth 20000 in
theorem ggL_law_X12_setYear : GoodIn wsL_law wsX12_setYear := goodIn_r _ [1208, 227, 155, 1209, 1210, 1211, 1212, 5, 1213, 1214, 1215, 1216, 1217, 1218, 228, 229, 230, 1219, 1220, 1221, 1222, 1223, 1224, 231, 232, 233, 234, 1225, 1226, 1227, 1635, 1636, 1637, 1638, 1639, 1640, 1641, 1642, 1643, 1644, 1645, 1646, 1647, 1648, 1649, 1650, 1651, 1652, 1653, 1654, 1655, 1656, 1657, 1658, 1659, 1660, 1661, 1662, 1663, 1664] (by decide +kernel) (by decide +kernel)
set_option maxRecDepth 20000 in
theorem gL_law_X12_setYear : GoodIn wsL_law (wsV RL 291 RX12 yX12_setYear wsX12_setYear) := goodIn_app (goodIn_of _ (by decide +kernel)) ggL_law_X12_setYear
set_option maxRecDepth 20000 in
theorem ggL_law_L_holiday : GoodIn wsL_law wsL_holiday := goodIn_ca (goodIn_ca (goodIn_r _ [1230, 165, 166, 1231, 1232, 1233, 2, 1234, 171, 172, 173, 174, 53, 1235, 1168, 1169, 1170, 1171, 1172, 1173, 1174, 52, 1175, 1176, 1177, 1178, 1179, 1180, 1181, 1182, 1183, 1184, 1185, 1236, 1237, 1238, 1239, 124, 1240, 864, 209, 865, 123, 1198, 1624, 1625, 1626, 1627, 1628, 1629, 1630, 1631, 1632, 1633, 1634, 1703, 1704, 1705] (by decide +kernel) (by decide +kernel)) (goodIn_sub (fun _ h => List.mem_append_left _ (List.mem_append_left _ (List.mem_append_right _ h))) (by decide +kernel))) (goodIn_sub (fun _ h => List.mem_append_left _ (List.mem_append_right _ h)) (by decide +kernel))
set_option maxRecDepth 20000 in
theorem gL_law_L_holiday : GoodIn wsL_law (va_wsS RL 292 yL_holiday wsL_holiday) := goodIn_app (goodIn_of _ (by decide +kernel)) ggL_law_L_holiday
set_option maxRecDepth 20000 in
theorem ggL_law_X12_holiday : GoodIn wsL_law wsX12_holiday := goodIn_r _ [1244, 227, 1209, 156, 157, 1210, 1211, 1212, 5, 1213, 1214, 1215, 1216, 1217, 1218, 228, 229, 230, 1219, 1220, 1221, 1222, 1223, 1224, 231, 232, 233, 234, 1225, 1226, 1227, 1635, 1636, 1637, 1638, 1639, 1640, 1641, 1642, 1643, 1644, 1645, 1646, 1647, 1648, 1649, 1650, 1651, 1652, 1653, 1654, 1655, 1656, 1657, 1658, 1659, 1660, 1661, 1662, 1663, 1664] (by decide +kernel) (by decide +kernel)
set_option maxRecDepth 20000 in
theorem gL_law_X12_holiday : GoodIn wsL_law (wsV RL 294 RX12 yX12_holiday wsX12_holiday) := goodIn_app (goodIn_of _ (by decide +kernel)) ggL_law_X12_holiday
set_option maxRecDepth 20000 in
theorem ggL_law_X11_schoolDays : GoodIn wsL_law wsX11_schoolDays := goodIn_r _ [1248, 53, 1249, 1250, 1251, 52, 1252, 1253, 1254, 1255, 1256, 123, 1624, 1625, 1626, 1627, 1628, 1629, 1630, 1631, 1632, 1633, 1634, 1703, 1704, 1705] (by decide +kernel) (by decide +kernel)
set_option maxRecDepth 20000 in
theorem gL_law_X11_schoolDays : GoodIn wsL_law (wsV RL 295 RX11 yX11_schoolDays wsX11_schoolDays) := goodIn_app (goodIn_of _ (by decide +kernel)) ggL_law_X11_schoolDays
set_option maxRecDepth 20000 in
theorem ggL_law_X12_schoolDays : GoodIn wsL_law wsX12_schoolDays := goodIn_r _ [1260, 227, 155, 1225, 1226, 5, 1227, 1222, 1223, 1224, 1219, 1220, 1221, 1261, 1262, 1263, 1264, 1265, 1266, 1267, 1268, 228, 229, 230, 1269, 1270, 1271, 1272, 1273, 1274, 1275, 1276, 1209, 156, 157, 1635, 1636, 1637, 1638, 1639, 1640, 1641, 1642, 1643, 1644, 1645, 1646, 1647, 1648, 1649, 1650, 1651, 1652, 1653, 1654, 1655, 1656, 1657, 1658, 1659, 1660, 1661, 1662, 1663, 1664] (by decide +kernel) (by decide +kernel)
set_option maxRecDepth 20000 in
theorem gL_law_X12_schoolDays : GoodIn wsL_law (wsV RL 298 RX12 yX12_schoolDays wsX12_schoolDays) := goodIn_app (goodIn_of _ (by decide +kernel)) ggL_law_X12_schoolDays
set_option maxRecDepth 20000 in
theorem ggL_law_L_dateOf : GoodIn wsL_law wsL_dateOf := goodIn_ca (goodIn_r _ [1279, 251, 1280, 1281, 1282, 2, 1283, 260, 261, 53, 1284, 1285, 1254, 1255, 52, 1256, 123, 1286, 1200, 1201, 1202, 1185, 1184, 1203, 1204, 1624, 1625, 1626, 1627, 1628, 1629, 1630, 1631, 1632, 1633, 1634, 1703, 1704, 1705] (by decide +kernel) (by decide +kernel)) (goodIn_sub (fun _ h => List.mem_append_right _ h) (by decide +kernel))
set_option maxRecDepth 20000 in
theorem gL_law_L_dateOf : GoodIn wsL_law (va_wsS RL 299 yL_dateOf wsL_dateOf) := goodIn_app (goodIn_of _ (by decide +kernel)) ggL_law_L_dateOf
set_option maxRecDepth 20000 in
theorem ggL_law_X12_dateOf : GoodIn wsL_law wsX12_dateOf := goodIn_r _ [1290, 227, 155, 1225, 1226, 5, 1227, 1222, 1223, 1224, 1219, 1220, 1221, 1261, 1262, 1263, 1264, 1265, 1266, 1267, 1268, 228, 229, 230, 1269, 1270, 1271, 1272, 1273, 1274, 1275, 1276, 1209, 156, 157, 231, 232, 233, 234, 1291, 1292, 1293, 1635, 1636, 1637, 1638, 1639, 1640, 1641, 1642, 1643, 1644, 1645, 1646, 1647, 1648, 1649, 1650, 1651, 1652, 1653, 1654, 1655, 1656, 1657, 1658, 1659, 1660, 1661, 1662, 1663, 1664] (by decide +kernel) (by decide +kernel)
set_option maxRecDepth 20000 in
theorem gL_law_X12_dateOf : GoodIn wsL_law (wsV RL 301 RX12 yX12_dateOf wsX12_dateOf) := goodIn_app (goodIn_of _ (by decide +kernel)) ggL_law_X12_dateOf
set_option maxRecDepth 20000 in
theorem ggL_law_L_numberOf : GoodIn wsL_law wsL_numberOf := goodIn_ca (goodIn_r _ [1296, 165, 1297, 1298, 1299, 2, 1300, 53, 1284, 1168, 1169, 1170, 1171, 171, 172, 1172, 1173, 1174, 52, 1175, 1176, 1177, 1178, 1179, 1180, 1181, 1182, 1183, 1184, 1185, 1285, 1254, 1255, 1256, 123, 1249, 1250, 1251, 1252, 1253, 1624, 1625, 1626, 1627, 1628, 1629, 1630, 1631, 1632, 1633, 1634, 1703, 1704, 1705] (by decide +kernel) (by decide +kernel)) (goodIn_sub (fun _ h => List.mem_append_left _ (List.mem_append_left _ (List.mem_append_right _ h))) (by decide +kernel))
set_option maxRecDepth 20000 in
theorem gL_law_L_numberOf : GoodIn wsL_law (va_wsS RL 302 yL_numberOf wsL_numberOf) := goodIn_app (goodIn_of _ (by decide +kernel)) ggL_law_L_numberOf
set_option maxRecDepth 20000 in
theorem ggL_law_X12_numberOf : GoodIn wsL_law wsX12_numberOf := goodIn_r _ [1304, 227, 1210, 1211, 1212, 5, 1213, 1214, 1215, 1216, 1217, 1218, 228, 229, 230, 1219, 1220, 1221, 1222, 1223, 1224, 231, 232, 233, 234, 1225, 1226, 1227, 1269, 1270, 1271, 1272, 1265, 1266, 1267, 1268, 155, 1273, 1274, 1275, 1276, 1209, 156, 157, 1261, 1262, 1263, 1264, 1635, 1636, 1637, 1638, 1639, 1640, 1641, 1642, 1643, 1644, 1645, 1646, 1647, 1648, 1649, 1650, 1651, 1652, 1653, 1654, 1655, 1656, 1657, 1658, 1659, 1660, 1661, 1662, 1663, 1664] (by decide +kernel) (by decide +kernel)
set_option maxRecDepth 20000 in
theorem gL_law_X12_numberOf : GoodIn wsL_law (wsV RL 304 RX12 yX12_numberOf wsX12_numberOf) := goodIn_app (goodIn_of _ (by decide +kernel)) ggL_law_X12_numberOf
set_option maxRecDepth 20000 in
theorem ggL_law_L_nextDay : GoodIn wsL_law wsL_nextDay := goodIn_ca (goodIn_r _ [1307, 165, 1308, 1309, 1310, 2, 1311, 53, 1284, 1312, 864, 209, 865, 1168, 1169, 1170, 1171, 171, 172, 1172, 1173, 1174, 52, 1175, 1176, 1177, 1178, 1179, 1180, 1181, 1182, 1183, 1184, 1185, 1285, 1254, 1255, 1256, 123, 1286, 1200, 1201, 1202, 1203, 1204, 1624, 1625, 1626, 1627, 1628, 1629, 1630, 1631, 1632, 1633, 1634, 1703, 1704, 1705] (by decide +kernel) (by decide +kernel)) (goodIn_sub (fun _ h => List.mem_append_left _ (List.mem_append_left _ (List.mem_append_right _ h))) (by decide +kernel))
set_option maxRecDepth 20000 in
theorem gL_law_L_nextDay : GoodIn wsL_law (va_wsS RL 305 yL_nextDay wsL_nextDay) := goodIn_app (goodIn_of _ (by decide +kernel)) ggL_law_L_nextDay
set_option maxRecDepth 20000 in
theorem ggL_law_X12_nextDay : GoodIn wsL_law wsX12_nextDay := goodIn_r _ [1316, 227, 155, 1210, 1211, 1212, 5, 1213, 1214, 1215, 1216, 1217, 1218, 228, 229, 230, 1219, 1220, 1221, 1222, 1223, 1224, 231, 232, 233, 234, 1225, 1226, 1227, 1269, 1270, 1271, 1272, 1265, 1266, 1267, 1268, 1273, 1274, 1275, 1276, 1209, 156, 157, 1291, 1292, 1293, 1635, 1636, 1637, 1638, 1639, 1640, 1641, 1642, 1643, 1644, 1645, 1646, 1647, 1648, 1649, 1650, 1651, 1652, 1653, 1654, 1655, 1656, 1657, 1658, 1659, 1660, 1661, 1662, 1663, 1664] (by decide +kernel) (by decide +kernel)
set_option maxRecDepth 20000 in
theorem gL_law_X12_nextDay : GoodIn wsL_law (wsV RL 307 RX12 yX12_nextDay wsX12_nextDay) := goodIn_app (goodIn_of _ (by decide +kernel)) ggL_law_X12_nextDay
set_option maxRecDepth 20000 in
theorem ggL_law_L_weekOf : GoodIn wsL_law wsL_weekOf := goodIn_ca (goodIn_r _ [1319, 165, 1320, 1321, 1322, 2, 1323, 53, 1284, 1168, 1169, 1170, 1171, 171, 172, 1172, 1173, 1174, 52, 1175, 1176, 1177, 1178, 1179, 1180, 1181, 1182, 1183, 1184, 1185, 175, 176, 177, 178, 179, 180, 181, 182, 1324, 1325, 1326, 1327, 1328, 1329, 1330, 1331, 1332, 1250, 1251, 1252, 1253, 1254, 1255, 1256, 123, 1249, 1624, 1625, 1626, 1627, 1628, 1629, 1630, 1631, 1632, 1633, 1634, 1703, 1704, 1705] (by decide +kernel) (by decide +kernel)) (goodIn_sub (fun _ h => List.mem_append_left _ (List.mem_append_left _ (List.mem_append_right _ h))) (by decide +kernel))
set_option maxRecDepth 20000 in
theorem gL_law_L_weekOf : GoodIn wsL_law (va_wsS RL 308 yL_weekOf wsL_weekOf) := goodIn_app (goodIn_of _ (by decide +kernel)) ggL_law_L_weekOf
set_option maxRecDepth 20000 in
theorem ggL_law_X12_weekOf : GoodIn wsL_law wsX12_weekOf := goodIn_r _ [1336, 227, 155, 1210, 1211, 1212, 5, 1213, 1214, 1215, 1216, 1217, 1218, 228, 229, 230, 1219, 1220, 1221, 1222, 1223, 1224, 231, 232, 233, 234, 1225, 1226, 1227, 1265, 1266, 1267, 1268, 1337, 1338, 1339, 1340, 1269, 1270, 1271, 1272, 1273, 1274, 1275, 1276, 1209, 156, 157, 1635, 1636, 1637, 1638, 1639, 1640, 1641, 1642, 1643, 1644, 1645, 1646, 1647, 1648, 1649, 1650, 1651, 1652, 1653, 1654, 1655, 1656, 1657, 1658, 1659, 1660, 1661, 1662, 1663, 1664] (by decide +kernel) (by decide +kernel)
set_option maxRecDepth 20000 in
theorem gL_law_X12_weekOf : GoodIn wsL_law (wsV RL 310 RX12 yX12_weekOf wsX12_weekOf) := goodIn_app (goodIn_of _ (by decide +kernel)) ggL_law_X12_weekOf
set_option maxRecDepth 20000 in
theorem ggL_law_L_dayOfWeek : GoodIn wsL_law wsL_dayOfWeek := goodIn_ca (goodIn_r _ [1343, 165, 1344, 1345, 1346, 2, 1347, 53, 1168, 1169, 1170, 1171, 171, 172, 1172, 1173, 1174, 52, 1175, 1176, 1177, 1178, 1179, 1180, 1181, 1182, 1183, 1184, 1185, 1186, 1187, 1188, 1189, 1190, 1191, 1192, 1193, 1624, 1625, 1626, 1627, 1628, 1629, 1630, 1631, 1632, 1633, 1634] (by decide +kernel) (by decide +kernel)) (goodIn_sub (fun _ h => List.mem_append_left _ (List.mem_append_left _ (List.mem_append_right _ h))) (by decide +kernel))
set_option maxRecDepth 20000 in
theorem gL_law_L_dayOfWeek : GoodIn wsL_law (va_wsS RL 311 yL_dayOfWeek wsL_dayOfWeek) := goodIn_app (goodIn_of _ (by decide +kernel)) ggL_law_L_dayOfWeek
set_option maxRecDepth 20000 in
theorem ggL_law_X12_dayOfWeek : GoodIn wsL_law wsX12_dayOfWeek := goodIn_r _ [1351, 227, 1210, 1211, 1212, 5, 1213, 1214, 1215, 1216, 1217, 1218, 228, 229, 230, 1219, 1220, 1221, 1222, 1223, 1224, 231, 232, 233, 234, 1225, 1226, 1227, 1635, 1636, 1637, 1638, 1639, 1640, 1641, 1642, 1643, 1644, 1645, 1646, 1647, 1648, 1649, 1650, 1651, 1652, 1653, 1654, 1655, 1656, 1657, 1658, 1659, 1660, 1661, 1662, 1663, 1664] (by decide +kernel) (by decide +kernel)
set_option maxRecDepth 20000 in
theorem gL_law_X12_dayOfWeek : GoodIn wsL_law (wsV RL 313 RX12 yX12_dayOfWeek wsX12_dayOfWeek) := goodIn_app (goodIn_of _ (by decide +kernel)) ggL_law_X12_dayOfWeek
set_option maxRecDepth 20000 in
theorem ggL_law_L_later : GoodIn wsL_law wsL_later := goodIn_ca (goodIn_r _ [1354, 165, 1355, 1356, 1357, 2, 1358, 53, 1168, 1169, 1170, 1171, 171, 172, 1172, 1173, 1174, 52, 1175, 1176, 1177, 1178, 1179, 1180, 1181, 1182, 1183, 1184, 1185, 179, 180, 181, 182, 1286, 1200, 1201, 1202, 1203, 1204, 1624, 1625, 1626, 1627, 1628, 1629, 1630, 1631, 1632, 1633, 1634] (by decide +kernel) (by decide +kernel)) (goodIn_sub (fun _ h => List.mem_append_left _ (List.mem_append_left _ (List.mem_append_right _ h))) (by decide +kernel))
set_option maxRecDepth 20000 in
theorem gL_law_L_later : GoodIn wsL_law (va_wsS RL 314 yL_later wsL_later) := goodIn_app (goodIn_of _ (by decide +kernel)) ggL_law_L_later
set_option maxRecDepth 20000 in
theorem ggL_law_X12_later : GoodIn wsL_law wsX12_later := goodIn_r _ [1362, 227, 1210, 1211, 1212, 5, 1213, 1214, 1215, 1216, 1217, 1218, 228, 229, 230, 1219, 1220, 1221, 1222, 1223, 1224, 231, 232, 233, 234, 1225, 1226, 1227, 1291, 1292, 1293, 1635, 1636, 1637, 1638, 1639, 1640, 1641, 1642, 1643, 1644, 1645, 1646, 1647, 1648, 1649, 1650, 1651, 1652, 1653, 1654, 1655, 1656, 1657, 1658, 1659, 1660, 1661, 1662, 1663, 1664] (by decide +kernel) (by decide +kernel)
set_option maxRecDepth 20000 in
theorem gL_law_X12_later : GoodIn wsL_law (wsV RL 316 RX12 yX12_later wsX12_later) := goodIn_app (goodIn_of _ (by decide +kernel)) ggL_law_X12_later
set_option maxRecDepth 20000 in
theorem ggL_law_L_lostLessons : GoodIn wsL_law wsL_lostLessons := goodIn_ca (goodIn_ca (goodIn_r _ [1365, 165, 166, 1366, 1367, 1368, 2, 1369, 17, 53, 625, 175, 176, 177, 178, 179, 180, 181, 182, 171, 172, 626, 627, 628, 629, 173, 174, 630, 631, 632, 16, 633, 63, 187, 188, 189, 190, 653, 347, 348, 349, 1370, 1371, 1372, 52, 1373, 123, 1624, 1625, 1626, 1627, 1628, 1629, 1630, 1631, 1632, 1633, 1634, 1665, 1666, 1703, 1704, 1705] (by decide +kernel) (by decide +kernel)) (goodIn_sub (fun _ h => List.mem_append_left _ (List.mem_append_left _ (List.mem_append_right _ h))) (by decide +kernel))) (goodIn_sub (fun _ h => List.mem_append_left _ (List.mem_append_right _ h)) (by decide +kernel))
set_option maxRecDepth 20000 in
theorem gL_law_L_lostLessons : GoodIn wsL_law (va_wsS RL 317 yL_lostLessons wsL_lostLessons) := goodIn_app (goodIn_of _ (by decide +kernel)) ggL_law_L_lostLessons
set_option maxRecDepth 20000 in
theorem ggL_law_X12_lostLessons : GoodIn wsL_law wsX12_lostLessons := goodIn_r _ [1377, 227, 155, 137, 228, 229, 5, 230, 231, 232, 233, 234, 638, 639, 640, 641, 1225, 1226, 1227, 1222, 1223, 1224, 1219, 1220, 1221, 1273, 1274, 1275, 1276, 1209, 156, 157, 235, 236, 237, 238, 1635, 1636, 1637, 1638, 1639, 1640, 1641, 1642, 1643, 1644, 1645, 1646, 1647, 1648, 1649, 1650, 1651, 1652, 1653, 1654, 1655, 1656, 1657, 1658, 1659, 1660, 1661, 1662, 1663, 1664] (by decide +kernel) (by decide +kernel)
set_option maxRecDepth 20000 in
theorem gL_law_X12_lostLessons : GoodIn wsL_law (wsV RL 319 RX12 yX12_lostLessons wsX12_lostLessons) := goodIn_app (goodIn_of _ (by decide +kernel)) ggL_law_X12_lostLessons
set_option maxRecDepth 20000 in
theorem ggL_law_L_append : GoodIn wsL_law wsL_append := goodIn_ca (goodIn_r _ [1380, 166, 1381, 1382, 1383, 2, 1384, 173, 174, 57, 1385, 1386, 1387, 1388, 56, 1389, 1390, 1391, 1392, 1393, 1394, 132, 1624, 1625, 1626, 1627, 1628, 1629, 1630, 1631, 1632, 1633, 1634, 1706, 1707, 1708, 1709, 1710, 1711, 1712, 1713] (by decide +kernel) (by decide +kernel)) (goodIn_sub (fun _ h => List.mem_append_left _ (List.mem_append_right _ h)) (by decide +kernel))
set_option maxRecDepth 20000 in
theorem gL_law_L_append : GoodIn wsL_law (va_wsS RL 320 yL_append wsL_append) := goodIn_app (goodIn_of _ (by decide +kernel)) ggL_law_L_append
set_option maxRecDepth 20000 in
theorem ggL_law_X12_append : GoodIn wsL_law wsX12_append := goodIn_r _ [1398, 227, 1399, 1400, 1401, 5, 1402, 231, 232, 233, 234, 1403, 1404, 1405, 1406, 158, 1635, 1636, 1637, 1638, 1639, 1640, 1641, 1642, 1643, 1644, 1645, 1646, 1647, 1648, 1649, 1650, 1651, 1652, 1653, 1654, 1655, 1656, 1657, 1658, 1659, 1660, 1661, 1662, 1663, 1664] (by decide +kernel) (by decide +kernel)
set_option maxRecDepth 20000 in
theorem gL_law_X12_append : GoodIn wsL_law (wsV RL 323 RX12 yX12_append wsX12_append) := goodIn_app (goodIn_of _ (by decide +kernel)) ggL_law_X12_append
set_option maxRecDepth 20000 in
theorem ggL_law_X11_clearTape : GoodIn wsL_law wsX11_clearTape := goodIn_r _ [1410, 57, 1411, 1412, 1413, 56, 1414, 1394, 1624, 1625, 1626, 1627, 1628, 1629, 1630, 1631, 1632, 1633, 1634, 1706, 1707, 1708, 1709, 1710, 1711, 1712, 1713] (by decide +kernel) (by decide +kernel)
set_option maxRecDepth 20000 in
theorem gL_law_X11_clearTape : GoodIn wsL_law (wsV RL 324 RX11 yX11_clearTape wsX11_clearTape) := goodIn_app (goodIn_of _ (by decide +kernel)) ggL_law_X11_clearTape
set_option maxRecDepth 20000 in
theorem ggL_law_X12_clearTape : GoodIn wsL_law wsX12_clearTape := goodIn_r _ [1418, 227, 1399, 1635, 1636, 1637, 1638, 1639, 1640, 1641, 1642, 1643, 1644, 1645, 1646, 1647, 1648, 1649, 1650, 1651, 1652, 1653, 1654, 1655, 1656, 1657, 1658, 1659, 1660, 1661, 1662, 1663, 1664] (by decide +kernel) (by decide +kernel)
set_option maxRecDepth 20000 in
theorem gL_law_X12_clearTape : GoodIn wsL_law (wsV RL 327 RX12 yX12_clearTape wsX12_clearTape) := goodIn_app (goodIn_of _ (by decide +kernel)) ggL_law_X12_clearTape
set_option maxRecDepth 20000 in
theorem ggL_law_L_read : GoodIn wsL_law wsL_read := goodIn_ca (goodIn_ca (goodIn_r _ [1421, 165, 166, 1422, 1423, 1424, 2, 1425, 171, 172, 173, 174, 57, 17, 25, 1426, 33, 625, 1427, 1428, 1429, 56, 1430, 1431, 131, 1394, 132, 1432, 1433, 1434, 1435, 1436, 1437, 1438, 1439, 1440, 1441, 188, 189, 16, 190, 63, 1442, 1443, 1444, 1445, 128, 1446, 1447, 1448, 1449, 1450, 1451, 1452, 1453, 1454, 1455, 1456, 1457, 1458, 1459, 1460, 1461, 1462, 1463, 1464, 1465, 1466, 1467, 1468, 1469, 1470, 1471, 1472, 1473, 1474, 1475, 1476, 1477, 1478, 1479, 1480, 1481, 1482, 1483, 1484, 1485, 1486, 1487, 1488, 1489, 1490, 1491, 1492, 1493, 1494, 1495, 320, 321, 322, 1411, 1412, 1413, 1414, 713, 446, 447, 448, 267, 268, 269, 270, 275, 276, 277, 278, 685, 450, 451, 24, 452, 453, 454, 455, 456, 457, 458, 81, 73, 74, 72, 459, 460, 75, 76, 77, 78, 79, 80, 461, 462, 463, 464, 465, 466, 467, 468, 469, 470, 471, 472, 473, 474, 475, 476, 347, 348, 349, 1496, 847, 848, 849, 850, 518, 519, 520, 191, 192, 193, 194, 21, 29, 195, 196, 197, 20, 198, 199, 68, 200, 201, 202, 203, 204, 205, 206, 207, 208, 209, 210, 211, 212, 213, 28, 214, 90, 526, 527, 528, 529, 64, 266, 737, 738, 739, 32, 740, 741, 742, 743, 744, 287, 346, 745, 655, 656, 657, 746, 747, 748, 749, 750, 751, 752, 753, 754, 755, 756, 716, 717, 718, 719, 720, 721, 757, 758, 759, 760, 761, 762, 763, 1624, 1625, 1626, 1627, 1628, 1629, 1630, 1631, 1632, 1633, 1634, 1706, 1707, 1708, 1709, 1710, 1711, 1712, 1713, 1665, 1666, 1670, 1671, 1672, 1673, 1674, 1675, 1676, 1677, 1678, 1679, 1680, 1681, 1667, 1668, 1669, 1682, 1683, 1684, 1685, 1686, 1687, 1688, 1689] (by decide +kernel) (by decide +kernel)) (goodIn_sub (fun _ h => List.mem_append_left _ (List.mem_append_left _ (List.mem_append_right _ h))) (by decide +kernel))) (goodIn_sub (fun _ h => List.mem_append_left _ (List.mem_append_right _ h)) (by decide +kernel))
set_option maxRecDepth 20000 in
theorem gL_law_L_read : GoodIn wsL_law (va_wsS RL 328 yL_read wsL_read) := goodIn_app (goodIn_of _ (by decide +kernel)) ggL_law_L_read
set_option maxRecDepth 20000 in
theorem ggL_law_X12_read : GoodIn wsL_law wsX12_read := goodIn_r _ [1500, 227, 140, 159, 1399, 1501, 1502, 1503, 5, 1504, 158, 137, 139, 235, 236, 237, 238, 228, 229, 230, 1505, 1506, 1507, 231, 232, 233, 234, 726, 727, 728, 729, 558, 559, 560, 561, 562, 563, 564, 565, 546, 547, 548, 549, 300, 301, 302, 303, 566, 567, 568, 569, 570, 571, 572, 573, 586, 587, 588, 589, 574, 575, 576, 577, 578, 579, 580, 581, 582, 583, 584, 585, 593, 594, 595, 596, 239, 240, 241, 242, 243, 138, 142, 768, 769, 770, 771, 772, 773, 774, 775, 670, 671, 672, 673, 674, 675, 676, 677, 776, 777, 778, 779, 1635, 1636, 1637, 1638, 1639, 1640, 1641, 1642, 1643, 1644, 1645, 1646, 1647, 1648, 1649, 1650, 1651, 1652, 1653, 1654, 1655, 1656, 1657, 1658, 1659, 1660, 1661, 1662, 1663, 1664] (by decide +kernel) (by decide +kernel)
set_option maxRecDepth 20000 in
theorem gL_law_X12_read : GoodIn wsL_law (wsV RL 330 RX12 yX12_read wsX12_read) := goodIn_app (goodIn_of _ (by decide +kernel)) ggL_law_X12_read
set_option maxRecDepth 20000 in
theorem ggL_law_X11_errorPosition : GoodIn wsL_law wsX11_errorPosition := goodIn_r _ [1511, 57, 1512, 1624, 1625, 1626, 1627, 1628, 1629, 1630, 1631, 1632, 1633, 1634, 1706, 1707, 1708, 1709, 1710, 1711, 1712, 1713] (by decide +kernel) (by decide +kernel)
set_option maxRecDepth 20000 in
theorem gL_law_X11_errorPosition : GoodIn wsL_law (wsV RL 331 RX11 yX11_errorPosition wsX11_errorPosition) := goodIn_app (goodIn_of _ (by decide +kernel)) ggL_law_X11_errorPosition
set_option maxRecDepth 20000 in
theorem ggL_law_X12_errorPosition : GoodIn wsL_law wsX12_errorPosition := goodIn_r _ [1516, 227, 159, 1635, 1636, 1637, 1638, 1639, 1640, 1641, 1642, 1643, 1644, 1645, 1646, 1647, 1648, 1649, 1650, 1651, 1652, 1653, 1654, 1655, 1656, 1657, 1658, 1659, 1660, 1661, 1662, 1663, 1664] (by decide +kernel) (by decide +kernel)
set_option maxRecDepth 20000 in
theorem gL_law_X12_errorPosition : GoodIn wsL_law (wsV RL 334 RX12 yX12_errorPosition wsX12_errorPosition) := goodIn_app (goodIn_of _ (by decide +kernel)) ggL_law_X12_errorPosition
set_option maxRecDepth 20000 in
theorem ggL_law_L_write : GoodIn wsL_law wsL_write := goodIn_ca (goodIn_r _ [1519, 166, 1520, 1521, 1522, 2, 1523, 57, 17, 626, 627, 628, 629, 173, 174, 630, 631, 632, 16, 633, 63, 1524, 1525, 1526, 56, 1527, 1528, 1529, 130, 1441, 188, 189, 190, 1446, 1447, 1448, 1449, 1450, 1451, 1452, 1453, 1454, 1455, 1456, 1457, 1458, 1459, 1460, 1461, 1462, 1463, 1464, 1465, 1466, 1467, 1468, 1469, 1470, 1471, 1472, 1473, 1474, 1475, 1476, 1477, 1478, 1479, 1480, 1481, 1482, 1483, 1484, 1485, 1486, 1487, 1488, 1489, 1490, 1624, 1625, 1626, 1627, 1628, 1629, 1630, 1631, 1632, 1633, 1634, 1665, 1666, 1706, 1707, 1708, 1709, 1710, 1711, 1712, 1713] (by decide +kernel) (by decide +kernel)) (goodIn_sub (fun _ h => List.mem_append_left _ (List.mem_append_right _ h)) (by decide +kernel))
set_option maxRecDepth 20000 in
theorem gL_law_L_write : GoodIn wsL_law (va_wsS RL 335 yL_write wsL_write) := goodIn_app (goodIn_of _ (by decide +kernel)) ggL_law_L_write
set_option maxRecDepth 20000 in
theorem ggL_law_X12_write : GoodIn wsL_law wsX12_write := goodIn_r _ [1533, 227, 160, 137, 1534, 638, 639, 640, 5, 641, 231, 232, 233, 234, 235, 236, 237, 238, 1535, 1536, 1537, 1635, 1636, 1637, 1638, 1639, 1640, 1641, 1642, 1643, 1644, 1645, 1646, 1647, 1648, 1649, 1650, 1651, 1652, 1653, 1654, 1655, 1656, 1657, 1658, 1659, 1660, 1661, 1662, 1663, 1664] (by decide +kernel) (by decide +kernel)
set_option maxRecDepth 20000 in
theorem gL_law_X12_write : GoodIn wsL_law (wsV RL 337 RX12 yX12_write wsX12_write) := goodIn_app (goodIn_of _ (by decide +kernel)) ggL_law_X12_write
set_option maxRecDepth 20000 in
theorem ggL_law_L_writtenAt : GoodIn wsL_law wsL_writtenAt := goodIn_ca (goodIn_r _ [1540, 251, 1541, 1542, 1543, 2, 1544, 260, 261, 57, 1545, 1546, 1624, 1625, 1626, 1627, 1628, 1629, 1630, 1631, 1632, 1633, 1634, 1706, 1707, 1708, 1709, 1710, 1711, 1712, 1713] (by decide +kernel) (by decide +kernel)) (goodIn_sub (fun _ h => List.mem_append_right _ h) (by decide +kernel))
set_option maxRecDepth 20000 in
theorem gL_law_L_writtenAt : GoodIn wsL_law (va_wsS RL 338 yL_writtenAt wsL_writtenAt) := goodIn_app (goodIn_of _ (by decide +kernel)) ggL_law_L_writtenAt
set_option maxRecDepth 20000 in
theorem ggL_law_X12_writtenAt : GoodIn wsL_law wsX12_writtenAt := goodIn_r _ [1550, 227, 1534, 160, 228, 229, 5, 230, 231, 232, 233, 234, 1635, 1636, 1637, 1638, 1639, 1640, 1641, 1642, 1643, 1644, 1645, 1646, 1647, 1648, 1649, 1650, 1651, 1652, 1653, 1654, 1655, 1656, 1657, 1658, 1659, 1660, 1661, 1662, 1663, 1664] (by decide +kernel) (by decide +kernel)
set_option maxRecDepth 20000 in
theorem gL_law_X12_writtenAt : GoodIn wsL_law (wsV RL 340 RX12 yX12_writtenAt wsX12_writtenAt) := goodIn_app (goodIn_of _ (by decide +kernel)) ggL_law_X12_writtenAt
set_option maxRecDepth 20000 in
theorem ggL_law_X11_undo : GoodIn wsL_law wsX11_undo := goodIn_r _ [1554, 21, 1555, 29, 17, 211, 212, 213, 28, 214, 90, 1556, 1557, 1558, 20, 1559, 200, 206, 68, 199, 201, 202, 203, 204, 205, 1624, 1625, 1626, 1627, 1628, 1629, 1630, 1631, 1632, 1633, 1634, 1667, 1668, 1669, 1682, 1683, 1684, 1685, 1686, 1687, 1688, 1689, 1665, 1666] (by decide +kernel) (by decide +kernel)
set_option maxRecDepth 20000 in
theorem gL_law_X11_undo : GoodIn wsL_law (wsV RL 341 RX11 yX11_undo wsX11_undo) := goodIn_app (goodIn_of _ (by decide +kernel)) ggL_law_X11_undo
set_option maxRecDepth 20000 in
theorem ggL_law_X12_undo : GoodIn wsL_law wsX12_undo := goodIn_r _ [1563, 227, 243, 137, 138, 142, 1635, 1636, 1637, 1638, 1639, 1640, 1641, 1642, 1643, 1644, 1645, 1646, 1647, 1648, 1649, 1650, 1651, 1652, 1653, 1654, 1655, 1656, 1657, 1658, 1659, 1660, 1661, 1662, 1663, 1664] (by decide +kernel) (by decide +kernel)
set_option maxRecDepth 20000 in
theorem gL_law_X12_undo : GoodIn wsL_law (wsV RL 344 RX12 yX12_undo wsX12_undo) := goodIn_app (goodIn_of _ (by decide +kernel)) ggL_law_X12_undo
set_option maxRecDepth 20000 in
theorem ggL_law_X11_checksum : GoodIn wsL_law wsX11_checksum := goodIn_r _ [1567, 17, 625, 630, 631, 632, 16, 633, 63, 187, 188, 189, 190, 1624, 1625, 1626, 1627, 1628, 1629, 1630, 1631, 1632, 1633, 1634, 1665, 1666] (by decide +kernel) (by decide +kernel)
set_option maxRecDepth 20000 in
theorem gL_law_X11_checksum : GoodIn wsL_law (wsV RL 345 RX11 yX11_checksum wsX11_checksum) := goodIn_app (goodIn_of _ (by decide +kernel)) ggL_law_X11_checksum
set_option maxRecDepth 20000 in
theorem ggL_law_X12_checksum : GoodIn wsL_law wsX12_checksum := goodIn_r _ [1571, 227, 137, 235, 236, 237, 5, 238, 1635, 1636, 1637, 1638, 1639, 1640, 1641, 1642, 1643, 1644, 1645, 1646, 1647, 1648, 1649, 1650, 1651, 1652, 1653, 1654, 1655, 1656, 1657, 1658, 1659, 1660, 1661, 1662, 1663, 1664] (by decide +kernel) (by decide +kernel)
set_option maxRecDepth 20000 in
theorem gL_law_X12_checksum : GoodIn wsL_law (wsV RL 348 RX12 yX12_checksum wsX12_checksum) := goodIn_app (goodIn_of _ (by decide +kernel)) ggL_law_X12_checksum
set_option maxRecDepth 20000 in
theorem ggL_law_L_meanSlot : GoodIn wsL_law wsL_meanSlot := goodIn_ca (goodIn_r _ [1574, 166, 1575, 1576, 1577, 2, 1578, 17, 625, 626, 627, 628, 629, 173, 174, 630, 631, 632, 16, 633, 63, 187, 188, 189, 190, 1624, 1625, 1626, 1627, 1628, 1629, 1630, 1631, 1632, 1633, 1634, 1665, 1666] (by decide +kernel) (by decide +kernel)) (goodIn_sub (fun _ h => List.mem_append_left _ (List.mem_append_right _ h)) (by decide +kernel))
set_option maxRecDepth 20000 in
theorem gL_law_L_meanSlot : GoodIn wsL_law (va_wsS RL 349 yL_meanSlot wsL_meanSlot) := goodIn_app (goodIn_of _ (by decide +kernel)) ggL_law_L_meanSlot
set_option maxRecDepth 20000 in
theorem ggL_law_X12_meanSlot : GoodIn wsL_law wsX12_meanSlot := goodIn_r _ [1582, 227, 137, 638, 639, 640, 5, 641, 231, 232, 233, 234, 235, 236, 237, 238, 1635, 1636, 1637, 1638, 1639, 1640, 1641, 1642, 1643, 1644, 1645, 1646, 1647, 1648, 1649, 1650, 1651, 1652, 1653, 1654, 1655, 1656, 1657, 1658, 1659, 1660, 1661, 1662, 1663, 1664] (by decide +kernel) (by decide +kernel)
set_option maxRecDepth 20000 in
theorem gL_law_X12_meanSlot : GoodIn wsL_law (wsV RL 352 RX12 yX12_meanSlot wsX12_meanSlot) := goodIn_app (goodIn_of _ (by decide +kernel)) ggL_law_X12_meanSlot
set_option maxRecDepth 20000 in
theorem ggL_law_L_taken : GoodIn wsL_law wsL_taken := goodIn_ca (goodIn_r _ [1585, 166, 1586, 1587, 1588, 2, 1589, 17, 1590, 626, 627, 628, 629, 173, 174, 630, 631, 632, 16, 633, 63, 187, 188, 189, 190, 319, 320, 321, 322, 1624, 1625, 1626, 1627, 1628, 1629, 1630, 1631, 1632, 1633, 1634, 1665, 1666] (by decide +kernel) (by decide +kernel)) (goodIn_sub (fun _ h => List.mem_append_left _ (List.mem_append_right _ h)) (by decide +kernel))
set_option maxRecDepth 20000 in
theorem gL_law_L_taken : GoodIn wsL_law (va_wsS RL 353 yL_taken wsL_taken) := goodIn_app (goodIn_of _ (by decide +kernel)) ggL_law_L_taken
set_option maxRecDepth 20000 in
theorem ggL_law_X12_taken : GoodIn wsL_law wsX12_taken := goodIn_r _ [1594, 227, 137, 1595, 638, 639, 640, 5, 641, 231, 232, 233, 234, 235, 236, 237, 238, 1635, 1636, 1637, 1638, 1639, 1640, 1641, 1642, 1643, 1644, 1645, 1646, 1647, 1648, 1649, 1650, 1651, 1652, 1653, 1654, 1655, 1656, 1657, 1658, 1659, 1660, 1661, 1662, 1663, 1664] (by decide +kernel) (by decide +kernel)
set_option maxRecDepth 20000 in
theorem gL_law_X12_taken : GoodIn wsL_law (wsV RL 355 RX12 yX12_taken wsX12_taken) := goodIn_app (goodIn_of _ (by decide +kernel)) ggL_law_X12_taken
set_option maxRecDepth 20000 in
theorem ggL_law_X11_errors : GoodIn wsL_law wsX11_errors := goodIn_r _ [1599, 37, 17, 45, 25, 29, 438, 625, 41, 1600, 1601, 1602, 36, 1603, 102, 1604, 889, 890, 891, 892, 860, 861, 862, 863, 864, 209, 865, 866, 867, 868, 869, 870, 188, 189, 16, 190, 63, 871, 347, 348, 349, 893, 894, 895, 896, 897, 320, 321, 322, 898, 899, 900, 901, 902, 903, 904, 905, 906, 907, 908, 909, 1605, 1606, 1607, 44, 1608, 111, 1609, 1057, 1058, 1059, 1060, 1061, 1062, 1063, 1064, 1065, 1066, 1067, 1068, 1069, 1070, 1610, 1104, 1105, 1106, 1107, 716, 717, 718, 719, 720, 721, 1108, 1109, 1110, 1111, 630, 631, 632, 633, 713, 446, 447, 448, 267, 268, 269, 270, 275, 276, 277, 278, 685, 450, 451, 24, 452, 453, 454, 455, 456, 457, 458, 81, 73, 74, 72, 459, 460, 75, 76, 77, 78, 79, 80, 461, 462, 463, 464, 465, 466, 467, 468, 469, 470, 471, 472, 473, 474, 475, 476, 439, 440, 441, 28, 442, 87, 443, 444, 88, 445, 449, 477, 478, 479, 480, 481, 93, 92, 482, 202, 203, 204, 483, 484, 485, 486, 487, 488, 489, 490, 91, 491, 492, 493, 494, 495, 496, 497, 498, 499, 500, 501, 502, 503, 504, 505, 506, 507, 508, 509, 510, 511, 512, 513, 514, 515, 516, 517, 518, 519, 520, 1611, 1612, 1613, 1614, 64, 287, 1496, 847, 848, 849, 850, 1615, 1616, 1617, 40, 1618, 962, 107, 963, 1619, 959, 960, 961, 964, 106, 965, 966, 967, 968, 969, 970, 742, 743, 744, 346, 745, 655, 656, 657, 971, 972, 973, 974, 975, 976, 977, 978, 979, 980, 981, 982, 184, 185, 186, 983, 984, 985, 986, 987, 988, 989, 990, 1624, 1625, 1626, 1627, 1628, 1629, 1630, 1631, 1632, 1633, 1634, 1682, 1683, 1684, 1685, 1686, 1687, 1688, 1689, 1665, 1666, 1693, 1699, 1670, 1671, 1672, 1673, 1674, 1675, 1676, 1677, 1678, 1679, 1680, 1681, 1694, 1695, 1696, 1697, 1698] (by decide +kernel) (by decide +kernel)
set_option maxRecDepth 20000 in
theorem gL_law_X11_errors : GoodIn wsL_law (wsV RL 356 RX11 yX11_errors wsX11_errors) := goodIn_app (goodIn_of _ (by decide +kernel)) ggL_law_X11_errors
set_option maxRecDepth 20000 in
theorem ggL_law_X12_errors : GoodIn wsL_law wsX12_errors := goodIn_r _ [1623, 227, 1635, 1636, 1637, 1638, 1639, 1640, 1641, 1642, 1643, 1644, 1645, 1646, 1647, 1648, 1649, 1650, 1651, 1652, 1653, 1654, 1655, 1656, 1657, 1658, 1659, 1660, 1661, 1662, 1663, 1664] (by decide +kernel) (by decide +kernel)
set_option maxRecDepth 20000 in
theorem gL_law_X12_errors : GoodIn wsL_law (wsV RL 359 RX12 yX12_errors wsX12_errors) := goodIn_app (goodIn_of _ (by decide +kernel)) ggL_law_X12_errors
theorem dL_law_0 : decode cL_law 0 = .ok (.new 8, 3) := by decide +kernel
theorem dL_law_3 : decode cL_law 3 = .ok (.dup, 1) := by decide +kernel
theorem dL_law_4 : decode cL_law 4 = .ok (.invokespecial 158, 3) := by decide +kernel
theorem dL_law_7 : decode cL_law 7 = .ok (.astore_n 1, 1) := by decide +kernel
theorem dL_law_8 : decode cL_law 8 = .ok (.new 159, 3) := by decide +kernel
theorem dL_law_11 : decode cL_law 11 = .ok (.dup, 1) := by decide +kernel
theorem dL_law_12 : decode cL_law 12 = .ok (.invokespecial 161, 3) := by decide +kernel
theorem dL_law_15 : decode cL_law 15 = .ok (.astore_n 2, 1) := by decide +kernel
theorem dL_law_16 : decode cL_law 16 = .ok (.iconst 1, 1) := by decide +kernel
theorem dL_law_17 : decode cL_law 17 = .ok (.newarray .long, 2) := by decide +kernel
theorem dL_law_19 : decode cL_law 19 = .ok (.astore_n 3, 1) := by decide +kernel
theorem dL_law_20 : decode cL_law 20 = .ok (.iconst 1, 1) := by decide +kernel
theorem dL_law_21 : decode cL_law 21 = .ok (.newarray .double, 2) := by decide +kernel
theorem dL_law_23 : decode cL_law 23 = .ok (.astore 4, 2) := by decide +kernel
theorem dL_law_25 : decode cL_law 25 = .ok (.iconst 0, 1) := by decide +kernel
theorem dL_law_26 : decode cL_law 26 = .ok (.istore 5, 2) := by decide +kernel
theorem dL_law_28 : decode cL_law 28 = .ok (.iload 5, 2) := by decide +kernel
theorem dL_law_30 : decode cL_law 30 = .ok (.aload_n 0, 1) := by decide +kernel
theorem dL_law_31 : decode cL_law 31 = .ok (.arraylength, 1) := by decide +kernel
theorem dL_law_32 : decode cL_law 32 = .ok (.bipush 6, 2) := by decide +kernel
theorem dL_law_34 : decode cL_law 34 = .ok (.isub, 1) := by decide +kernel
theorem dL_law_35 : decode cL_law 35 = .ok (.if_icmp .gt 3332, 3) := by decide +kernel
theorem dL_law_38 : decode cL_law 38 = .ok (.aload_n 0, 1) := by decide +kernel
theorem dL_law_39 : decode cL_law 39 = .ok (.iload 5, 2) := by decide +kernel
theorem dL_law_41 : decode cL_law 41 = .ok (.iaload, 1) := by decide +kernel
theorem dL_law_42 : decode cL_law 42 = .ok (.bipush 63, 2) := by decide +kernel
theorem dL_law_44 : decode cL_law 44 = .ok (.iand, 1) := by decide +kernel
theorem dL_law_45 : decode cL_law 45 = .ok (.tableswitch 3316 0 55 #[239, 359, 415, 483, 496, 564, 632, 724, 780, 848, 861, 874, 887, 943, 999, 1095, 1151, 1207, 1275, 1338, 1382, 1466, 1510, 1523, 1579, 1682, 1766, 1834, 1890, 1993, 2006, 2062, 2075, 2167, 2251, 2319, 2375, 2443, 2456, 2512, 2568, 2624, 2692, 2748, 2816, 2872, 2976, 2989, 3033, 3046, 3090, 3146, 3159, 3172, 3237, 3303], 239) := by decide +kernel
theorem dL_law_284 : decode cL_law 284 = .ok (.aload_n 1, 1) := by decide +kernel
theorem dL_law_285 : decode cL_law 285 = .ok (.aload_n 0, 1) := by decide +kernel
theorem dL_law_286 : decode cL_law 286 = .ok (.iload 5, 2) := by decide +kernel
theorem dL_law_288 : decode cL_law 288 = .ok (.iconst 1, 1) := by decide +kernel
theorem dL_law_289 : decode cL_law 289 = .ok (.iadd, 1) := by decide +kernel
theorem dL_law_290 : decode cL_law 290 = .ok (.iaload, 1) := by decide +kernel
theorem dL_law_291 : decode cL_law 291 = .ok (.aload_n 0, 1) := by decide +kernel
theorem dL_law_292 : decode cL_law 292 = .ok (.iload 5, 2) := by decide +kernel
theorem dL_law_294 : decode cL_law 294 = .ok (.iconst 2, 1) := by decide +kernel
theorem dL_law_295 : decode cL_law 295 = .ok (.iadd, 1) := by decide +kernel
theorem dL_law_296 : decode cL_law 296 = .ok (.iaload, 1) := by decide +kernel
theorem dL_law_297 : decode cL_law 297 = .ok (.aload_n 0, 1) := by decide +kernel
theorem dL_law_298 : decode cL_law 298 = .ok (.iload 5, 2) := by decide +kernel
theorem dL_law_300 : decode cL_law 300 = .ok (.iconst 3, 1) := by decide +kernel
theorem dL_law_301 : decode cL_law 301 = .ok (.iadd, 1) := by decide +kernel
theorem dL_law_302 : decode cL_law 302 = .ok (.iaload, 1) := by decide +kernel
theorem dL_law_303 : decode cL_law 303 = .ok (.aload_n 0, 1) := by decide +kernel
theorem dL_law_304 : decode cL_law 304 = .ok (.iload 5, 2) := by decide +kernel
theorem dL_law_306 : decode cL_law 306 = .ok (.iconst 4, 1) := by decide +kernel
theorem dL_law_307 : decode cL_law 307 = .ok (.iadd, 1) := by decide +kernel
theorem dL_law_308 : decode cL_law 308 = .ok (.iaload, 1) := by decide +kernel
theorem dL_law_309 : decode cL_law 309 = .ok (.aload_n 0, 1) := by decide +kernel
theorem dL_law_310 : decode cL_law 310 = .ok (.iload 5, 2) := by decide +kernel
theorem dL_law_312 : decode cL_law 312 = .ok (.iconst 5, 1) := by decide +kernel
theorem dL_law_313 : decode cL_law 313 = .ok (.iadd, 1) := by decide +kernel
theorem dL_law_314 : decode cL_law 314 = .ok (.iaload, 1) := by decide +kernel
theorem dL_law_315 : decode cL_law 315 = .ok (.ifCond .eq 7, 3) := by decide +kernel
theorem dL_law_318 : decode cL_law 318 = .ok (.iconst 1, 1) := by decide +kernel
theorem dL_law_319 : decode cL_law 319 = .ok (.goto 4, 3) := by decide +kernel
theorem dL_law_322 : decode cL_law 322 = .ok (.iconst 0, 1) := by decide +kernel
theorem dL_law_323 : decode cL_law 323 = .ok (.aload_n 3, 1) := by decide +kernel
theorem dL_law_324 : decode cL_law 324 = .ok (.invokestatic 162, 3) := by decide +kernel
theorem dL_law_327 : decode cL_law 327 = .ok (.istore 6, 2) := by decide +kernel
theorem dL_law_329 : decode cL_law 329 = .ok (.aload_n 2, 1) := by decide +kernel
theorem dL_law_330 : decode cL_law 330 = .ok (.aload_n 0, 1) := by decide +kernel
theorem dL_law_331 : decode cL_law 331 = .ok (.iload 5, 2) := by decide +kernel
theorem dL_law_333 : decode cL_law 333 = .ok (.iconst 1, 1) := by decide +kernel
theorem dL_law_334 : decode cL_law 334 = .ok (.iadd, 1) := by decide +kernel
theorem dL_law_335 : decode cL_law 335 = .ok (.iaload, 1) := by decide +kernel
theorem dL_law_336 : decode cL_law 336 = .ok (.aload_n 0, 1) := by decide +kernel
theorem dL_law_337 : decode cL_law 337 = .ok (.iload 5, 2) := by decide +kernel
theorem dL_law_339 : decode cL_law 339 = .ok (.iconst 2, 1) := by decide +kernel
theorem dL_law_340 : decode cL_law 340 = .ok (.iadd, 1) := by decide +kernel
theorem dL_law_341 : decode cL_law 341 = .ok (.iaload, 1) := by decide +kernel
theorem dL_law_342 : decode cL_law 342 = .ok (.aload_n 0, 1) := by decide +kernel
theorem dL_law_343 : decode cL_law 343 = .ok (.iload 5, 2) := by decide +kernel
theorem dL_law_345 : decode cL_law 345 = .ok (.iconst 3, 1) := by decide +kernel
theorem dL_law_346 : decode cL_law 346 = .ok (.iadd, 1) := by decide +kernel
theorem dL_law_347 : decode cL_law 347 = .ok (.iaload, 1) := by decide +kernel
theorem dL_law_348 : decode cL_law 348 = .ok (.aload_n 0, 1) := by decide +kernel
theorem dL_law_349 : decode cL_law 349 = .ok (.iload 5, 2) := by decide +kernel
theorem dL_law_351 : decode cL_law 351 = .ok (.iconst 4, 1) := by decide +kernel
theorem dL_law_352 : decode cL_law 352 = .ok (.iadd, 1) := by decide +kernel
theorem dL_law_353 : decode cL_law 353 = .ok (.iaload, 1) := by decide +kernel
theorem dL_law_354 : decode cL_law 354 = .ok (.aload_n 0, 1) := by decide +kernel
theorem dL_law_355 : decode cL_law 355 = .ok (.iload 5, 2) := by decide +kernel
theorem dL_law_357 : decode cL_law 357 = .ok (.iconst 5, 1) := by decide +kernel
theorem dL_law_358 : decode cL_law 358 = .ok (.iadd, 1) := by decide +kernel
theorem dL_law_359 : decode cL_law 359 = .ok (.iaload, 1) := by decide +kernel
theorem dL_law_360 : decode cL_law 360 = .ok (.ifCond .eq 7, 3) := by decide +kernel
theorem dL_law_363 : decode cL_law 363 = .ok (.iconst 1, 1) := by decide +kernel
theorem dL_law_364 : decode cL_law 364 = .ok (.goto 4, 3) := by decide +kernel
theorem dL_law_367 : decode cL_law 367 = .ok (.iconst 0, 1) := by decide +kernel
theorem dL_law_368 : decode cL_law 368 = .ok (.invokevirtual 167, 3) := by decide +kernel
theorem dL_law_371 : decode cL_law 371 = .ok (.istore 7, 2) := by decide +kernel
theorem dL_law_373 : decode cL_law 373 = .ok (.aload_n 2, 1) := by decide +kernel
theorem dL_law_374 : decode cL_law 374 = .ok (.invokevirtual 168, 3) := by decide +kernel
theorem dL_law_377 : decode cL_law 377 = .ok (.iload 6, 2) := by decide +kernel
theorem dL_law_379 : decode cL_law 379 = .ok (.if_icmp .eq 5, 3) := by decide +kernel
theorem dL_law_382 : decode cL_law 382 = .ok (.iconst 0, 1) := by decide +kernel
theorem dL_law_383 : decode cL_law 383 = .ok (.ireturn, 1) := by decide +kernel
theorem dL_law_384 : decode cL_law 384 = .ok (.iload 6, 2) := by decide +kernel
theorem dL_law_386 : decode cL_law 386 = .ok (.ifCond .ne 15, 3) := by decide +kernel
theorem dL_law_389 : decode cL_law 389 = .ok (.aload_n 3, 1) := by decide +kernel
theorem dL_law_390 : decode cL_law 390 = .ok (.iconst 0, 1) := by decide +kernel
theorem dL_law_391 : decode cL_law 391 = .ok (.laload, 1) := by decide +kernel
theorem dL_law_392 : decode cL_law 392 = .ok (.iload 7, 2) := by decide +kernel
theorem dL_law_394 : decode cL_law 394 = .ok (.i2l, 1) := by decide +kernel
theorem dL_law_395 : decode cL_law 395 = .ok (.lcmp, 1) := by decide +kernel
theorem dL_law_396 : decode cL_law 396 = .ok (.ifCond .eq 5, 3) := by decide +kernel
theorem dL_law_399 : decode cL_law 399 = .ok (.iconst 0, 1) := by decide +kernel
theorem dL_law_400 : decode cL_law 400 = .ok (.ireturn, 1) := by decide +kernel
theorem dL_law_401 : decode cL_law 401 = .ok (.goto 2960, 3) := by decide +kernel
theorem dL_law_404 : decode cL_law 404 = .ok (.aload_n 1, 1) := by decide +kernel
theorem dL_law_405 : decode cL_law 405 = .ok (.aload_n 0, 1) := by decide +kernel
theorem dL_law_406 : decode cL_law 406 = .ok (.iload 5, 2) := by decide +kernel
theorem dL_law_408 : decode cL_law 408 = .ok (.iconst 1, 1) := by decide +kernel
theorem dL_law_409 : decode cL_law 409 = .ok (.iadd, 1) := by decide +kernel
theorem dL_law_410 : decode cL_law 410 = .ok (.iaload, 1) := by decide +kernel
theorem dL_law_411 : decode cL_law 411 = .ok (.aload_n 3, 1) := by decide +kernel
theorem dL_law_412 : decode cL_law 412 = .ok (.invokestatic 171, 3) := by decide +kernel
theorem dL_law_415 : decode cL_law 415 = .ok (.istore 6, 2) := by decide +kernel
theorem dL_law_417 : decode cL_law 417 = .ok (.aload_n 2, 1) := by decide +kernel
theorem dL_law_418 : decode cL_law 418 = .ok (.aload_n 0, 1) := by decide +kernel
theorem dL_law_419 : decode cL_law 419 = .ok (.iload 5, 2) := by decide +kernel
theorem dL_law_421 : decode cL_law 421 = .ok (.iconst 1, 1) := by decide +kernel
theorem dL_law_422 : decode cL_law 422 = .ok (.iadd, 1) := by decide +kernel
theorem dL_law_423 : decode cL_law 423 = .ok (.iaload, 1) := by decide +kernel
theorem dL_law_424 : decode cL_law 424 = .ok (.invokevirtual 174, 3) := by decide +kernel
theorem dL_law_427 : decode cL_law 427 = .ok (.istore 7, 2) := by decide +kernel
theorem dL_law_429 : decode cL_law 429 = .ok (.aload_n 2, 1) := by decide +kernel
theorem dL_law_430 : decode cL_law 430 = .ok (.invokevirtual 168, 3) := by decide +kernel
theorem dL_law_433 : decode cL_law 433 = .ok (.iload 6, 2) := by decide +kernel
theorem dL_law_435 : decode cL_law 435 = .ok (.if_icmp .eq 5, 3) := by decide +kernel
theorem dL_law_438 : decode cL_law 438 = .ok (.iconst 0, 1) := by decide +kernel
theorem dL_law_439 : decode cL_law 439 = .ok (.ireturn, 1) := by decide +kernel
theorem dL_law_440 : decode cL_law 440 = .ok (.iload 6, 2) := by decide +kernel
theorem dL_law_442 : decode cL_law 442 = .ok (.ifCond .ne 15, 3) := by decide +kernel
theorem dL_law_445 : decode cL_law 445 = .ok (.aload_n 3, 1) := by decide +kernel
theorem dL_law_446 : decode cL_law 446 = .ok (.iconst 0, 1) := by decide +kernel
theorem dL_law_447 : decode cL_law 447 = .ok (.laload, 1) := by decide +kernel
theorem dL_law_448 : decode cL_law 448 = .ok (.iload 7, 2) := by decide +kernel
theorem dL_law_450 : decode cL_law 450 = .ok (.i2l, 1) := by decide +kernel
theorem dL_law_451 : decode cL_law 451 = .ok (.lcmp, 1) := by decide +kernel
theorem dL_law_452 : decode cL_law 452 = .ok (.ifCond .eq 5, 3) := by decide +kernel
theorem dL_law_455 : decode cL_law 455 = .ok (.iconst 0, 1) := by decide +kernel
theorem dL_law_456 : decode cL_law 456 = .ok (.ireturn, 1) := by decide +kernel
theorem dL_law_457 : decode cL_law 457 = .ok (.goto 2904, 3) := by decide +kernel
theorem dL_law_460 : decode cL_law 460 = .ok (.aload_n 1, 1) := by decide +kernel
theorem dL_law_461 : decode cL_law 461 = .ok (.aload_n 0, 1) := by decide +kernel
theorem dL_law_462 : decode cL_law 462 = .ok (.iload 5, 2) := by decide +kernel
theorem dL_law_464 : decode cL_law 464 = .ok (.iconst 1, 1) := by decide +kernel
theorem dL_law_465 : decode cL_law 465 = .ok (.iadd, 1) := by decide +kernel
theorem dL_law_466 : decode cL_law 466 = .ok (.iaload, 1) := by decide +kernel
theorem dL_law_467 : decode cL_law 467 = .ok (.aload_n 0, 1) := by decide +kernel
theorem dL_law_468 : decode cL_law 468 = .ok (.iload 5, 2) := by decide +kernel
theorem dL_law_470 : decode cL_law 470 = .ok (.iconst 2, 1) := by decide +kernel
theorem dL_law_471 : decode cL_law 471 = .ok (.iadd, 1) := by decide +kernel
theorem dL_law_472 : decode cL_law 472 = .ok (.iaload, 1) := by decide +kernel
theorem dL_law_473 : decode cL_law 473 = .ok (.aload_n 3, 1) := by decide +kernel
theorem dL_law_474 : decode cL_law 474 = .ok (.invokestatic 175, 3) := by decide +kernel
theorem dL_law_477 : decode cL_law 477 = .ok (.istore 6, 2) := by decide +kernel
theorem dL_law_479 : decode cL_law 479 = .ok (.aload_n 2, 1) := by decide +kernel
theorem dL_law_480 : decode cL_law 480 = .ok (.aload_n 0, 1) := by decide +kernel
theorem dL_law_481 : decode cL_law 481 = .ok (.iload 5, 2) := by decide +kernel
theorem dL_law_483 : decode cL_law 483 = .ok (.iconst 1, 1) := by decide +kernel
theorem dL_law_484 : decode cL_law 484 = .ok (.iadd, 1) := by decide +kernel
theorem dL_law_485 : decode cL_law 485 = .ok (.iaload, 1) := by decide +kernel
theorem dL_law_486 : decode cL_law 486 = .ok (.aload_n 0, 1) := by decide +kernel
theorem dL_law_487 : decode cL_law 487 = .ok (.iload 5, 2) := by decide +kernel
theorem dL_law_489 : decode cL_law 489 = .ok (.iconst 2, 1) := by decide +kernel
theorem dL_law_490 : decode cL_law 490 = .ok (.iadd, 1) := by decide +kernel
theorem dL_law_491 : decode cL_law 491 = .ok (.iaload, 1) := by decide +kernel
theorem dL_law_492 : decode cL_law 492 = .ok (.invokevirtual 178, 3) := by decide +kernel
theorem dL_law_495 : decode cL_law 495 = .ok (.istore 7, 2) := by decide +kernel
theorem dL_law_497 : decode cL_law 497 = .ok (.aload_n 2, 1) := by decide +kernel
theorem dL_law_498 : decode cL_law 498 = .ok (.invokevirtual 168, 3) := by decide +kernel
theorem dL_law_501 : decode cL_law 501 = .ok (.iload 6, 2) := by decide +kernel
theorem dL_law_503 : decode cL_law 503 = .ok (.if_icmp .eq 5, 3) := by decide +kernel
theorem dL_law_506 : decode cL_law 506 = .ok (.iconst 0, 1) := by decide +kernel
theorem dL_law_507 : decode cL_law 507 = .ok (.ireturn, 1) := by decide +kernel
theorem dL_law_508 : decode cL_law 508 = .ok (.iload 6, 2) := by decide +kernel
theorem dL_law_510 : decode cL_law 510 = .ok (.ifCond .ne 15, 3) := by decide +kernel
theorem dL_law_513 : decode cL_law 513 = .ok (.aload_n 3, 1) := by decide +kernel
theorem dL_law_514 : decode cL_law 514 = .ok (.iconst 0, 1) := by decide +kernel
theorem dL_law_515 : decode cL_law 515 = .ok (.laload, 1) := by decide +kernel
theorem dL_law_516 : decode cL_law 516 = .ok (.iload 7, 2) := by decide +kernel
theorem dL_law_518 : decode cL_law 518 = .ok (.i2l, 1) := by decide +kernel
theorem dL_law_519 : decode cL_law 519 = .ok (.lcmp, 1) := by decide +kernel
theorem dL_law_520 : decode cL_law 520 = .ok (.ifCond .eq 5, 3) := by decide +kernel
theorem dL_law_523 : decode cL_law 523 = .ok (.iconst 0, 1) := by decide +kernel
theorem dL_law_524 : decode cL_law 524 = .ok (.ireturn, 1) := by decide +kernel
theorem dL_law_525 : decode cL_law 525 = .ok (.goto 2836, 3) := by decide +kernel
theorem dL_law_528 : decode cL_law 528 = .ok (.aload_n 1, 1) := by decide +kernel
theorem dL_law_529 : decode cL_law 529 = .ok (.invokevirtual 179, 3) := by decide +kernel
theorem dL_law_532 : decode cL_law 532 = .ok (.aload_n 2, 1) := by decide +kernel
theorem dL_law_533 : decode cL_law 533 = .ok (.invokevirtual 182, 3) := by decide +kernel
theorem dL_law_536 : decode cL_law 536 = .ok (.if_icmp .eq 2825, 3) := by decide +kernel
theorem dL_law_539 : decode cL_law 539 = .ok (.iconst 0, 1) := by decide +kernel
theorem dL_law_540 : decode cL_law 540 = .ok (.ireturn, 1) := by decide +kernel
theorem dL_law_541 : decode cL_law 541 = .ok (.aload_n 1, 1) := by decide +kernel
theorem dL_law_542 : decode cL_law 542 = .ok (.aload_n 0, 1) := by decide +kernel
theorem dL_law_543 : decode cL_law 543 = .ok (.iload 5, 2) := by decide +kernel
theorem dL_law_545 : decode cL_law 545 = .ok (.iconst 1, 1) := by decide +kernel
theorem dL_law_546 : decode cL_law 546 = .ok (.iadd, 1) := by decide +kernel
theorem dL_law_547 : decode cL_law 547 = .ok (.iaload, 1) := by decide +kernel
theorem dL_law_548 : decode cL_law 548 = .ok (.aload_n 0, 1) := by decide +kernel
theorem dL_law_549 : decode cL_law 549 = .ok (.iload 5, 2) := by decide +kernel
theorem dL_law_551 : decode cL_law 551 = .ok (.iconst 2, 1) := by decide +kernel
theorem dL_law_552 : decode cL_law 552 = .ok (.iadd, 1) := by decide +kernel
theorem dL_law_553 : decode cL_law 553 = .ok (.iaload, 1) := by decide +kernel
theorem dL_law_554 : decode cL_law 554 = .ok (.aload_n 3, 1) := by decide +kernel
theorem dL_law_555 : decode cL_law 555 = .ok (.invokestatic 183, 3) := by decide +kernel
theorem dL_law_558 : decode cL_law 558 = .ok (.istore 6, 2) := by decide +kernel
theorem dL_law_560 : decode cL_law 560 = .ok (.aload_n 2, 1) := by decide +kernel
theorem dL_law_561 : decode cL_law 561 = .ok (.aload_n 0, 1) := by decide +kernel
theorem dL_law_562 : decode cL_law 562 = .ok (.iload 5, 2) := by decide +kernel
theorem dL_law_564 : decode cL_law 564 = .ok (.iconst 1, 1) := by decide +kernel
theorem dL_law_565 : decode cL_law 565 = .ok (.iadd, 1) := by decide +kernel
theorem dL_law_566 : decode cL_law 566 = .ok (.iaload, 1) := by decide +kernel
theorem dL_law_567 : decode cL_law 567 = .ok (.aload_n 0, 1) := by decide +kernel
theorem dL_law_568 : decode cL_law 568 = .ok (.iload 5, 2) := by decide +kernel
theorem dL_law_570 : decode cL_law 570 = .ok (.iconst 2, 1) := by decide +kernel
theorem dL_law_571 : decode cL_law 571 = .ok (.iadd, 1) := by decide +kernel
theorem dL_law_572 : decode cL_law 572 = .ok (.iaload, 1) := by decide +kernel
theorem dL_law_573 : decode cL_law 573 = .ok (.invokevirtual 185, 3) := by decide +kernel
theorem dL_law_576 : decode cL_law 576 = .ok (.istore 7, 2) := by decide +kernel
theorem dL_law_578 : decode cL_law 578 = .ok (.aload_n 2, 1) := by decide +kernel
theorem dL_law_579 : decode cL_law 579 = .ok (.invokevirtual 168, 3) := by decide +kernel
theorem dL_law_582 : decode cL_law 582 = .ok (.iload 6, 2) := by decide +kernel
theorem dL_law_584 : decode cL_law 584 = .ok (.if_icmp .eq 5, 3) := by decide +kernel
theorem dL_law_587 : decode cL_law 587 = .ok (.iconst 0, 1) := by decide +kernel
theorem dL_law_588 : decode cL_law 588 = .ok (.ireturn, 1) := by decide +kernel
theorem dL_law_589 : decode cL_law 589 = .ok (.iload 6, 2) := by decide +kernel
theorem dL_law_591 : decode cL_law 591 = .ok (.ifCond .ne 15, 3) := by decide +kernel
theorem dL_law_594 : decode cL_law 594 = .ok (.aload_n 3, 1) := by decide +kernel
theorem dL_law_595 : decode cL_law 595 = .ok (.iconst 0, 1) := by decide +kernel
theorem dL_law_596 : decode cL_law 596 = .ok (.laload, 1) := by decide +kernel
theorem dL_law_597 : decode cL_law 597 = .ok (.iload 7, 2) := by decide +kernel
theorem dL_law_599 : decode cL_law 599 = .ok (.i2l, 1) := by decide +kernel
theorem dL_law_600 : decode cL_law 600 = .ok (.lcmp, 1) := by decide +kernel
theorem dL_law_601 : decode cL_law 601 = .ok (.ifCond .eq 5, 3) := by decide +kernel
theorem dL_law_604 : decode cL_law 604 = .ok (.iconst 0, 1) := by decide +kernel
theorem dL_law_605 : decode cL_law 605 = .ok (.ireturn, 1) := by decide +kernel
theorem dL_law_606 : decode cL_law 606 = .ok (.goto 2755, 3) := by decide +kernel
theorem dL_law_609 : decode cL_law 609 = .ok (.aload_n 1, 1) := by decide +kernel
theorem dL_law_610 : decode cL_law 610 = .ok (.aload_n 0, 1) := by decide +kernel
theorem dL_law_611 : decode cL_law 611 = .ok (.iload 5, 2) := by decide +kernel
theorem dL_law_613 : decode cL_law 613 = .ok (.iconst 1, 1) := by decide +kernel
theorem dL_law_614 : decode cL_law 614 = .ok (.iadd, 1) := by decide +kernel
theorem dL_law_615 : decode cL_law 615 = .ok (.iaload, 1) := by decide +kernel
theorem dL_law_616 : decode cL_law 616 = .ok (.aload_n 0, 1) := by decide +kernel
theorem dL_law_617 : decode cL_law 617 = .ok (.iload 5, 2) := by decide +kernel
theorem dL_law_619 : decode cL_law 619 = .ok (.iconst 2, 1) := by decide +kernel
theorem dL_law_620 : decode cL_law 620 = .ok (.iadd, 1) := by decide +kernel
theorem dL_law_621 : decode cL_law 621 = .ok (.iaload, 1) := by decide +kernel
theorem dL_law_622 : decode cL_law 622 = .ok (.aload_n 3, 1) := by decide +kernel
theorem dL_law_623 : decode cL_law 623 = .ok (.invokestatic 186, 3) := by decide +kernel
theorem dL_law_626 : decode cL_law 626 = .ok (.istore 6, 2) := by decide +kernel
theorem dL_law_628 : decode cL_law 628 = .ok (.aload_n 2, 1) := by decide +kernel
theorem dL_law_629 : decode cL_law 629 = .ok (.aload_n 0, 1) := by decide +kernel
theorem dL_law_630 : decode cL_law 630 = .ok (.iload 5, 2) := by decide +kernel
theorem dL_law_632 : decode cL_law 632 = .ok (.iconst 1, 1) := by decide +kernel
theorem dL_law_633 : decode cL_law 633 = .ok (.iadd, 1) := by decide +kernel
theorem dL_law_634 : decode cL_law 634 = .ok (.iaload, 1) := by decide +kernel
theorem dL_law_635 : decode cL_law 635 = .ok (.aload_n 0, 1) := by decide +kernel
theorem dL_law_636 : decode cL_law 636 = .ok (.iload 5, 2) := by decide +kernel
theorem dL_law_638 : decode cL_law 638 = .ok (.iconst 2, 1) := by decide +kernel
theorem dL_law_639 : decode cL_law 639 = .ok (.iadd, 1) := by decide +kernel
theorem dL_law_640 : decode cL_law 640 = .ok (.iaload, 1) := by decide +kernel
theorem dL_law_641 : decode cL_law 641 = .ok (.invokevirtual 188, 3) := by decide +kernel
theorem dL_law_644 : decode cL_law 644 = .ok (.istore 7, 2) := by decide +kernel
theorem dL_law_646 : decode cL_law 646 = .ok (.aload_n 2, 1) := by decide +kernel
theorem dL_law_647 : decode cL_law 647 = .ok (.invokevirtual 168, 3) := by decide +kernel
theorem dL_law_650 : decode cL_law 650 = .ok (.iload 6, 2) := by decide +kernel
theorem dL_law_652 : decode cL_law 652 = .ok (.if_icmp .eq 5, 3) := by decide +kernel
theorem dL_law_655 : decode cL_law 655 = .ok (.iconst 0, 1) := by decide +kernel
theorem dL_law_656 : decode cL_law 656 = .ok (.ireturn, 1) := by decide +kernel
theorem dL_law_657 : decode cL_law 657 = .ok (.iload 6, 2) := by decide +kernel
theorem dL_law_659 : decode cL_law 659 = .ok (.ifCond .ne 15, 3) := by decide +kernel
theorem dL_law_662 : decode cL_law 662 = .ok (.aload_n 3, 1) := by decide +kernel
theorem dL_law_663 : decode cL_law 663 = .ok (.iconst 0, 1) := by decide +kernel
theorem dL_law_664 : decode cL_law 664 = .ok (.laload, 1) := by decide +kernel
theorem dL_law_665 : decode cL_law 665 = .ok (.iload 7, 2) := by decide +kernel
theorem dL_law_667 : decode cL_law 667 = .ok (.i2l, 1) := by decide +kernel
theorem dL_law_668 : decode cL_law 668 = .ok (.lcmp, 1) := by decide +kernel
theorem dL_law_669 : decode cL_law 669 = .ok (.ifCond .eq 5, 3) := by decide +kernel
theorem dL_law_672 : decode cL_law 672 = .ok (.iconst 0, 1) := by decide +kernel
theorem dL_law_673 : decode cL_law 673 = .ok (.ireturn, 1) := by decide +kernel
theorem dL_law_674 : decode cL_law 674 = .ok (.goto 2687, 3) := by decide +kernel
theorem dL_law_677 : decode cL_law 677 = .ok (.aload_n 1, 1) := by decide +kernel
theorem dL_law_678 : decode cL_law 678 = .ok (.aload_n 0, 1) := by decide +kernel
theorem dL_law_679 : decode cL_law 679 = .ok (.iload 5, 2) := by decide +kernel
theorem dL_law_681 : decode cL_law 681 = .ok (.iconst 1, 1) := by decide +kernel
theorem dL_law_682 : decode cL_law 682 = .ok (.iadd, 1) := by decide +kernel
theorem dL_law_683 : decode cL_law 683 = .ok (.iaload, 1) := by decide +kernel
theorem dL_law_684 : decode cL_law 684 = .ok (.aload_n 0, 1) := by decide +kernel
theorem dL_law_685 : decode cL_law 685 = .ok (.iload 5, 2) := by decide +kernel
theorem dL_law_687 : decode cL_law 687 = .ok (.iconst 2, 1) := by decide +kernel
theorem dL_law_688 : decode cL_law 688 = .ok (.iadd, 1) := by decide +kernel
theorem dL_law_689 : decode cL_law 689 = .ok (.iaload, 1) := by decide +kernel
theorem dL_law_690 : decode cL_law 690 = .ok (.aload_n 0, 1) := by decide +kernel
theorem dL_law_691 : decode cL_law 691 = .ok (.iload 5, 2) := by decide +kernel
theorem dL_law_693 : decode cL_law 693 = .ok (.iconst 3, 1) := by decide +kernel
theorem dL_law_694 : decode cL_law 694 = .ok (.iadd, 1) := by decide +kernel
theorem dL_law_695 : decode cL_law 695 = .ok (.iaload, 1) := by decide +kernel
theorem dL_law_696 : decode cL_law 696 = .ok (.aload_n 0, 1) := by decide +kernel
theorem dL_law_697 : decode cL_law 697 = .ok (.iload 5, 2) := by decide +kernel
theorem dL_law_699 : decode cL_law 699 = .ok (.iconst 4, 1) := by decide +kernel
theorem dL_law_700 : decode cL_law 700 = .ok (.iadd, 1) := by decide +kernel
theorem dL_law_701 : decode cL_law 701 = .ok (.iaload, 1) := by decide +kernel
theorem dL_law_702 : decode cL_law 702 = .ok (.aload_n 3, 1) := by decide +kernel
theorem dL_law_703 : decode cL_law 703 = .ok (.invokestatic 189, 3) := by decide +kernel
theorem dL_law_706 : decode cL_law 706 = .ok (.istore 6, 2) := by decide +kernel
theorem dL_law_708 : decode cL_law 708 = .ok (.aload_n 2, 1) := by decide +kernel
theorem dL_law_709 : decode cL_law 709 = .ok (.aload_n 0, 1) := by decide +kernel
theorem dL_law_710 : decode cL_law 710 = .ok (.iload 5, 2) := by decide +kernel
theorem dL_law_712 : decode cL_law 712 = .ok (.iconst 1, 1) := by decide +kernel
theorem dL_law_713 : decode cL_law 713 = .ok (.iadd, 1) := by decide +kernel
theorem dL_law_714 : decode cL_law 714 = .ok (.iaload, 1) := by decide +kernel
theorem dL_law_715 : decode cL_law 715 = .ok (.aload_n 0, 1) := by decide +kernel
theorem dL_law_716 : decode cL_law 716 = .ok (.iload 5, 2) := by decide +kernel
theorem dL_law_718 : decode cL_law 718 = .ok (.iconst 2, 1) := by decide +kernel
theorem dL_law_719 : decode cL_law 719 = .ok (.iadd, 1) := by decide +kernel
theorem dL_law_720 : decode cL_law 720 = .ok (.iaload, 1) := by decide +kernel
theorem dL_law_721 : decode cL_law 721 = .ok (.aload_n 0, 1) := by decide +kernel
theorem dL_law_722 : decode cL_law 722 = .ok (.iload 5, 2) := by decide +kernel
theorem dL_law_724 : decode cL_law 724 = .ok (.iconst 3, 1) := by decide +kernel
theorem dL_law_725 : decode cL_law 725 = .ok (.iadd, 1) := by decide +kernel
theorem dL_law_726 : decode cL_law 726 = .ok (.iaload, 1) := by decide +kernel
theorem dL_law_727 : decode cL_law 727 = .ok (.aload_n 0, 1) := by decide +kernel
theorem dL_law_728 : decode cL_law 728 = .ok (.iload 5, 2) := by decide +kernel
theorem dL_law_730 : decode cL_law 730 = .ok (.iconst 4, 1) := by decide +kernel
theorem dL_law_731 : decode cL_law 731 = .ok (.iadd, 1) := by decide +kernel
theorem dL_law_732 : decode cL_law 732 = .ok (.iaload, 1) := by decide +kernel
theorem dL_law_733 : decode cL_law 733 = .ok (.invokevirtual 192, 3) := by decide +kernel
theorem dL_law_736 : decode cL_law 736 = .ok (.istore 7, 2) := by decide +kernel
theorem dL_law_738 : decode cL_law 738 = .ok (.aload_n 2, 1) := by decide +kernel
theorem dL_law_739 : decode cL_law 739 = .ok (.invokevirtual 168, 3) := by decide +kernel
theorem dL_law_742 : decode cL_law 742 = .ok (.iload 6, 2) := by decide +kernel
theorem dL_law_744 : decode cL_law 744 = .ok (.if_icmp .eq 5, 3) := by decide +kernel
theorem dL_law_747 : decode cL_law 747 = .ok (.iconst 0, 1) := by decide +kernel
theorem dL_law_748 : decode cL_law 748 = .ok (.ireturn, 1) := by decide +kernel
theorem dL_law_749 : decode cL_law 749 = .ok (.iload 6, 2) := by decide +kernel
theorem dL_law_751 : decode cL_law 751 = .ok (.ifCond .ne 15, 3) := by decide +kernel
theorem dL_law_754 : decode cL_law 754 = .ok (.aload_n 3, 1) := by decide +kernel
theorem dL_law_755 : decode cL_law 755 = .ok (.iconst 0, 1) := by decide +kernel
theorem dL_law_756 : decode cL_law 756 = .ok (.laload, 1) := by decide +kernel
theorem dL_law_757 : decode cL_law 757 = .ok (.iload 7, 2) := by decide +kernel
theorem dL_law_759 : decode cL_law 759 = .ok (.i2l, 1) := by decide +kernel
theorem dL_law_760 : decode cL_law 760 = .ok (.lcmp, 1) := by decide +kernel
theorem dL_law_761 : decode cL_law 761 = .ok (.ifCond .eq 5, 3) := by decide +kernel
theorem dL_law_764 : decode cL_law 764 = .ok (.iconst 0, 1) := by decide +kernel
theorem dL_law_765 : decode cL_law 765 = .ok (.ireturn, 1) := by decide +kernel
theorem dL_law_766 : decode cL_law 766 = .ok (.goto 2595, 3) := by decide +kernel
theorem dL_law_769 : decode cL_law 769 = .ok (.aload_n 1, 1) := by decide +kernel
theorem dL_law_770 : decode cL_law 770 = .ok (.aload_n 0, 1) := by decide +kernel
theorem dL_law_771 : decode cL_law 771 = .ok (.iload 5, 2) := by decide +kernel
theorem dL_law_773 : decode cL_law 773 = .ok (.iconst 1, 1) := by decide +kernel
theorem dL_law_774 : decode cL_law 774 = .ok (.iadd, 1) := by decide +kernel
theorem dL_law_775 : decode cL_law 775 = .ok (.iaload, 1) := by decide +kernel
theorem dL_law_776 : decode cL_law 776 = .ok (.aload_n 3, 1) := by decide +kernel
theorem dL_law_777 : decode cL_law 777 = .ok (.invokestatic 193, 3) := by decide +kernel
theorem dL_law_780 : decode cL_law 780 = .ok (.istore 6, 2) := by decide +kernel
theorem dL_law_782 : decode cL_law 782 = .ok (.aload_n 2, 1) := by decide +kernel
theorem dL_law_783 : decode cL_law 783 = .ok (.aload_n 0, 1) := by decide +kernel
theorem dL_law_784 : decode cL_law 784 = .ok (.iload 5, 2) := by decide +kernel
theorem dL_law_786 : decode cL_law 786 = .ok (.iconst 1, 1) := by decide +kernel
theorem dL_law_787 : decode cL_law 787 = .ok (.iadd, 1) := by decide +kernel
theorem dL_law_788 : decode cL_law 788 = .ok (.iaload, 1) := by decide +kernel
theorem dL_law_789 : decode cL_law 789 = .ok (.invokevirtual 195, 3) := by decide +kernel
theorem dL_law_792 : decode cL_law 792 = .ok (.istore 7, 2) := by decide +kernel
theorem dL_law_794 : decode cL_law 794 = .ok (.aload_n 2, 1) := by decide +kernel
theorem dL_law_795 : decode cL_law 795 = .ok (.invokevirtual 168, 3) := by decide +kernel
theorem dL_law_798 : decode cL_law 798 = .ok (.iload 6, 2) := by decide +kernel
theorem dL_law_800 : decode cL_law 800 = .ok (.if_icmp .eq 5, 3) := by decide +kernel
theorem dL_law_803 : decode cL_law 803 = .ok (.iconst 0, 1) := by decide +kernel
theorem dL_law_804 : decode cL_law 804 = .ok (.ireturn, 1) := by decide +kernel
theorem dL_law_805 : decode cL_law 805 = .ok (.iload 6, 2) := by decide +kernel
theorem dL_law_807 : decode cL_law 807 = .ok (.ifCond .ne 15, 3) := by decide +kernel
theorem dL_law_810 : decode cL_law 810 = .ok (.aload_n 3, 1) := by decide +kernel
theorem dL_law_811 : decode cL_law 811 = .ok (.iconst 0, 1) := by decide +kernel
theorem dL_law_812 : decode cL_law 812 = .ok (.laload, 1) := by decide +kernel
theorem dL_law_813 : decode cL_law 813 = .ok (.iload 7, 2) := by decide +kernel
theorem dL_law_815 : decode cL_law 815 = .ok (.i2l, 1) := by decide +kernel
theorem dL_law_816 : decode cL_law 816 = .ok (.lcmp, 1) := by decide +kernel
theorem dL_law_817 : decode cL_law 817 = .ok (.ifCond .eq 5, 3) := by decide +kernel
theorem dL_law_820 : decode cL_law 820 = .ok (.iconst 0, 1) := by decide +kernel
theorem dL_law_821 : decode cL_law 821 = .ok (.ireturn, 1) := by decide +kernel
theorem dL_law_822 : decode cL_law 822 = .ok (.goto 2539, 3) := by decide +kernel
theorem dL_law_825 : decode cL_law 825 = .ok (.aload_n 1, 1) := by decide +kernel
theorem dL_law_826 : decode cL_law 826 = .ok (.aload_n 0, 1) := by decide +kernel
theorem dL_law_827 : decode cL_law 827 = .ok (.iload 5, 2) := by decide +kernel
theorem dL_law_829 : decode cL_law 829 = .ok (.iconst 1, 1) := by decide +kernel
theorem dL_law_830 : decode cL_law 830 = .ok (.iadd, 1) := by decide +kernel
theorem dL_law_831 : decode cL_law 831 = .ok (.iaload, 1) := by decide +kernel
theorem dL_law_832 : decode cL_law 832 = .ok (.aload_n 0, 1) := by decide +kernel
theorem dL_law_833 : decode cL_law 833 = .ok (.iload 5, 2) := by decide +kernel
theorem dL_law_835 : decode cL_law 835 = .ok (.iconst 2, 1) := by decide +kernel
theorem dL_law_836 : decode cL_law 836 = .ok (.iadd, 1) := by decide +kernel
theorem dL_law_837 : decode cL_law 837 = .ok (.iaload, 1) := by decide +kernel
theorem dL_law_838 : decode cL_law 838 = .ok (.aload_n 3, 1) := by decide +kernel
theorem dL_law_839 : decode cL_law 839 = .ok (.invokestatic 196, 3) := by decide +kernel
theorem dL_law_842 : decode cL_law 842 = .ok (.istore 6, 2) := by decide +kernel
theorem dL_law_844 : decode cL_law 844 = .ok (.aload_n 2, 1) := by decide +kernel
theorem dL_law_845 : decode cL_law 845 = .ok (.aload_n 0, 1) := by decide +kernel
theorem dL_law_846 : decode cL_law 846 = .ok (.iload 5, 2) := by decide +kernel
theorem dL_law_848 : decode cL_law 848 = .ok (.iconst 1, 1) := by decide +kernel
theorem dL_law_849 : decode cL_law 849 = .ok (.iadd, 1) := by decide +kernel
theorem dL_law_850 : decode cL_law 850 = .ok (.iaload, 1) := by decide +kernel
theorem dL_law_851 : decode cL_law 851 = .ok (.aload_n 0, 1) := by decide +kernel
theorem dL_law_852 : decode cL_law 852 = .ok (.iload 5, 2) := by decide +kernel
theorem dL_law_854 : decode cL_law 854 = .ok (.iconst 2, 1) := by decide +kernel
theorem dL_law_855 : decode cL_law 855 = .ok (.iadd, 1) := by decide +kernel
theorem dL_law_856 : decode cL_law 856 = .ok (.iaload, 1) := by decide +kernel
theorem dL_law_857 : decode cL_law 857 = .ok (.invokevirtual 198, 3) := by decide +kernel
theorem dL_law_860 : decode cL_law 860 = .ok (.istore 7, 2) := by decide +kernel
theorem dL_law_862 : decode cL_law 862 = .ok (.aload_n 2, 1) := by decide +kernel
theorem dL_law_863 : decode cL_law 863 = .ok (.invokevirtual 168, 3) := by decide +kernel
theorem dL_law_866 : decode cL_law 866 = .ok (.iload 6, 2) := by decide +kernel
theorem dL_law_868 : decode cL_law 868 = .ok (.if_icmp .eq 5, 3) := by decide +kernel
theorem dL_law_871 : decode cL_law 871 = .ok (.iconst 0, 1) := by decide +kernel
theorem dL_law_872 : decode cL_law 872 = .ok (.ireturn, 1) := by decide +kernel
theorem dL_law_873 : decode cL_law 873 = .ok (.iload 6, 2) := by decide +kernel
theorem dL_law_875 : decode cL_law 875 = .ok (.ifCond .ne 15, 3) := by decide +kernel
theorem dL_law_878 : decode cL_law 878 = .ok (.aload_n 3, 1) := by decide +kernel
theorem dL_law_879 : decode cL_law 879 = .ok (.iconst 0, 1) := by decide +kernel
theorem dL_law_880 : decode cL_law 880 = .ok (.laload, 1) := by decide +kernel
theorem dL_law_881 : decode cL_law 881 = .ok (.iload 7, 2) := by decide +kernel
theorem dL_law_883 : decode cL_law 883 = .ok (.i2l, 1) := by decide +kernel
theorem dL_law_884 : decode cL_law 884 = .ok (.lcmp, 1) := by decide +kernel
theorem dL_law_885 : decode cL_law 885 = .ok (.ifCond .eq 5, 3) := by decide +kernel
theorem dL_law_888 : decode cL_law 888 = .ok (.iconst 0, 1) := by decide +kernel
theorem dL_law_889 : decode cL_law 889 = .ok (.ireturn, 1) := by decide +kernel
theorem dL_law_890 : decode cL_law 890 = .ok (.goto 2471, 3) := by decide +kernel
theorem dL_law_893 : decode cL_law 893 = .ok (.aload_n 1, 1) := by decide +kernel
theorem dL_law_894 : decode cL_law 894 = .ok (.invokevirtual 199, 3) := by decide +kernel
theorem dL_law_897 : decode cL_law 897 = .ok (.aload_n 2, 1) := by decide +kernel
theorem dL_law_898 : decode cL_law 898 = .ok (.invokevirtual 202, 3) := by decide +kernel
theorem dL_law_901 : decode cL_law 901 = .ok (.if_icmp .eq 2460, 3) := by decide +kernel
theorem dL_law_904 : decode cL_law 904 = .ok (.iconst 0, 1) := by decide +kernel
theorem dL_law_905 : decode cL_law 905 = .ok (.ireturn, 1) := by decide +kernel
theorem dL_law_906 : decode cL_law 906 = .ok (.aload_n 1, 1) := by decide +kernel
theorem dL_law_907 : decode cL_law 907 = .ok (.invokevirtual 203, 3) := by decide +kernel
theorem dL_law_910 : decode cL_law 910 = .ok (.aload_n 2, 1) := by decide +kernel
theorem dL_law_911 : decode cL_law 911 = .ok (.invokevirtual 207, 3) := by decide +kernel
theorem dL_law_914 : decode cL_law 914 = .ok (.if_icmp .eq 2447, 3) := by decide +kernel
theorem dL_law_917 : decode cL_law 917 = .ok (.iconst 0, 1) := by decide +kernel
theorem dL_law_918 : decode cL_law 918 = .ok (.ireturn, 1) := by decide +kernel
theorem dL_law_919 : decode cL_law 919 = .ok (.aload_n 1, 1) := by decide +kernel
theorem dL_law_920 : decode cL_law 920 = .ok (.invokevirtual 208, 3) := by decide +kernel
theorem dL_law_923 : decode cL_law 923 = .ok (.aload_n 2, 1) := by decide +kernel
theorem dL_law_924 : decode cL_law 924 = .ok (.invokevirtual 211, 3) := by decide +kernel
theorem dL_law_927 : decode cL_law 927 = .ok (.if_icmp .eq 2434, 3) := by decide +kernel
theorem dL_law_930 : decode cL_law 930 = .ok (.iconst 0, 1) := by decide +kernel
theorem dL_law_931 : decode cL_law 931 = .ok (.ireturn, 1) := by decide +kernel
theorem dL_law_932 : decode cL_law 932 = .ok (.aload_n 1, 1) := by decide +kernel
theorem dL_law_933 : decode cL_law 933 = .ok (.aload_n 0, 1) := by decide +kernel
theorem dL_law_934 : decode cL_law 934 = .ok (.iload 5, 2) := by decide +kernel
theorem dL_law_936 : decode cL_law 936 = .ok (.iconst 1, 1) := by decide +kernel
theorem dL_law_937 : decode cL_law 937 = .ok (.iadd, 1) := by decide +kernel
theorem dL_law_938 : decode cL_law 938 = .ok (.iaload, 1) := by decide +kernel
theorem dL_law_939 : decode cL_law 939 = .ok (.aload_n 3, 1) := by decide +kernel
theorem dL_law_940 : decode cL_law 940 = .ok (.invokestatic 212, 3) := by decide +kernel
theorem dL_law_943 : decode cL_law 943 = .ok (.istore 6, 2) := by decide +kernel
theorem dL_law_945 : decode cL_law 945 = .ok (.aload_n 2, 1) := by decide +kernel
theorem dL_law_946 : decode cL_law 946 = .ok (.aload_n 0, 1) := by decide +kernel
theorem dL_law_947 : decode cL_law 947 = .ok (.iload 5, 2) := by decide +kernel
theorem dL_law_949 : decode cL_law 949 = .ok (.iconst 1, 1) := by decide +kernel
theorem dL_law_950 : decode cL_law 950 = .ok (.iadd, 1) := by decide +kernel
theorem dL_law_951 : decode cL_law 951 = .ok (.iaload, 1) := by decide +kernel
theorem dL_law_952 : decode cL_law 952 = .ok (.invokevirtual 214, 3) := by decide +kernel
theorem dL_law_955 : decode cL_law 955 = .ok (.istore 7, 2) := by decide +kernel
theorem dL_law_957 : decode cL_law 957 = .ok (.aload_n 2, 1) := by decide +kernel
theorem dL_law_958 : decode cL_law 958 = .ok (.invokevirtual 168, 3) := by decide +kernel
theorem dL_law_961 : decode cL_law 961 = .ok (.iload 6, 2) := by decide +kernel
theorem dL_law_963 : decode cL_law 963 = .ok (.if_icmp .eq 5, 3) := by decide +kernel
theorem dL_law_966 : decode cL_law 966 = .ok (.iconst 0, 1) := by decide +kernel
theorem dL_law_967 : decode cL_law 967 = .ok (.ireturn, 1) := by decide +kernel
theorem dL_law_968 : decode cL_law 968 = .ok (.iload 6, 2) := by decide +kernel
theorem dL_law_970 : decode cL_law 970 = .ok (.ifCond .ne 15, 3) := by decide +kernel
theorem dL_law_973 : decode cL_law 973 = .ok (.aload_n 3, 1) := by decide +kernel
theorem dL_law_974 : decode cL_law 974 = .ok (.iconst 0, 1) := by decide +kernel
theorem dL_law_975 : decode cL_law 975 = .ok (.laload, 1) := by decide +kernel
theorem dL_law_976 : decode cL_law 976 = .ok (.iload 7, 2) := by decide +kernel
theorem dL_law_978 : decode cL_law 978 = .ok (.i2l, 1) := by decide +kernel
theorem dL_law_979 : decode cL_law 979 = .ok (.lcmp, 1) := by decide +kernel
theorem dL_law_980 : decode cL_law 980 = .ok (.ifCond .eq 5, 3) := by decide +kernel
theorem dL_law_983 : decode cL_law 983 = .ok (.iconst 0, 1) := by decide +kernel
theorem dL_law_984 : decode cL_law 984 = .ok (.ireturn, 1) := by decide +kernel
theorem dL_law_985 : decode cL_law 985 = .ok (.goto 2376, 3) := by decide +kernel
theorem dL_law_988 : decode cL_law 988 = .ok (.aload_n 1, 1) := by decide +kernel
theorem dL_law_989 : decode cL_law 989 = .ok (.aload_n 0, 1) := by decide +kernel
theorem dL_law_990 : decode cL_law 990 = .ok (.iload 5, 2) := by decide +kernel
theorem dL_law_992 : decode cL_law 992 = .ok (.iconst 1, 1) := by decide +kernel
theorem dL_law_993 : decode cL_law 993 = .ok (.iadd, 1) := by decide +kernel
theorem dL_law_994 : decode cL_law 994 = .ok (.iaload, 1) := by decide +kernel
theorem dL_law_995 : decode cL_law 995 = .ok (.aload_n 3, 1) := by decide +kernel
theorem dL_law_996 : decode cL_law 996 = .ok (.invokestatic 215, 3) := by decide +kernel
theorem dL_law_999 : decode cL_law 999 = .ok (.istore 6, 2) := by decide +kernel
theorem dL_law_1001 : decode cL_law 1001 = .ok (.aload_n 2, 1) := by decide +kernel
theorem dL_law_1002 : decode cL_law 1002 = .ok (.aload_n 0, 1) := by decide +kernel
theorem dL_law_1003 : decode cL_law 1003 = .ok (.iload 5, 2) := by decide +kernel
theorem dL_law_1005 : decode cL_law 1005 = .ok (.iconst 1, 1) := by decide +kernel
theorem dL_law_1006 : decode cL_law 1006 = .ok (.iadd, 1) := by decide +kernel
theorem dL_law_1007 : decode cL_law 1007 = .ok (.iaload, 1) := by decide +kernel
theorem dL_law_1008 : decode cL_law 1008 = .ok (.invokevirtual 217, 3) := by decide +kernel
theorem dL_law_1011 : decode cL_law 1011 = .ok (.istore 7, 2) := by decide +kernel
theorem dL_law_1013 : decode cL_law 1013 = .ok (.aload_n 2, 1) := by decide +kernel
theorem dL_law_1014 : decode cL_law 1014 = .ok (.invokevirtual 168, 3) := by decide +kernel
theorem dL_law_1017 : decode cL_law 1017 = .ok (.iload 6, 2) := by decide +kernel
theorem dL_law_1019 : decode cL_law 1019 = .ok (.if_icmp .eq 5, 3) := by decide +kernel
theorem dL_law_1022 : decode cL_law 1022 = .ok (.iconst 0, 1) := by decide +kernel
theorem dL_law_1023 : decode cL_law 1023 = .ok (.ireturn, 1) := by decide +kernel
theorem dL_law_1024 : decode cL_law 1024 = .ok (.iload 6, 2) := by decide +kernel
theorem dL_law_1026 : decode cL_law 1026 = .ok (.ifCond .ne 15, 3) := by decide +kernel
theorem dL_law_1029 : decode cL_law 1029 = .ok (.aload_n 3, 1) := by decide +kernel
theorem dL_law_1030 : decode cL_law 1030 = .ok (.iconst 0, 1) := by decide +kernel
theorem dL_law_1031 : decode cL_law 1031 = .ok (.laload, 1) := by decide +kernel
theorem dL_law_1032 : decode cL_law 1032 = .ok (.iload 7, 2) := by decide +kernel
theorem dL_law_1034 : decode cL_law 1034 = .ok (.i2l, 1) := by decide +kernel
theorem dL_law_1035 : decode cL_law 1035 = .ok (.lcmp, 1) := by decide +kernel
theorem dL_law_1036 : decode cL_law 1036 = .ok (.ifCond .eq 5, 3) := by decide +kernel
theorem dL_law_1039 : decode cL_law 1039 = .ok (.iconst 0, 1) := by decide +kernel
theorem dL_law_1040 : decode cL_law 1040 = .ok (.ireturn, 1) := by decide +kernel
theorem dL_law_1041 : decode cL_law 1041 = .ok (.goto 2320, 3) := by decide +kernel
theorem dL_law_1044 : decode cL_law 1044 = .ok (.aload_n 1, 1) := by decide +kernel
theorem dL_law_1045 : decode cL_law 1045 = .ok (.aload_n 0, 1) := by decide +kernel
theorem dL_law_1046 : decode cL_law 1046 = .ok (.iload 5, 2) := by decide +kernel
theorem dL_law_1048 : decode cL_law 1048 = .ok (.iconst 1, 1) := by decide +kernel
theorem dL_law_1049 : decode cL_law 1049 = .ok (.iadd, 1) := by decide +kernel
theorem dL_law_1050 : decode cL_law 1050 = .ok (.iaload, 1) := by decide +kernel
theorem dL_law_1051 : decode cL_law 1051 = .ok (.ifCond .eq 7, 3) := by decide +kernel
theorem dL_law_1054 : decode cL_law 1054 = .ok (.iconst 1, 1) := by decide +kernel
theorem dL_law_1055 : decode cL_law 1055 = .ok (.goto 4, 3) := by decide +kernel
theorem dL_law_1058 : decode cL_law 1058 = .ok (.iconst 0, 1) := by decide +kernel
theorem dL_law_1059 : decode cL_law 1059 = .ok (.aload_n 0, 1) := by decide +kernel
theorem dL_law_1060 : decode cL_law 1060 = .ok (.iload 5, 2) := by decide +kernel
theorem dL_law_1062 : decode cL_law 1062 = .ok (.iconst 2, 1) := by decide +kernel
theorem dL_law_1063 : decode cL_law 1063 = .ok (.iadd, 1) := by decide +kernel
theorem dL_law_1064 : decode cL_law 1064 = .ok (.iaload, 1) := by decide +kernel
theorem dL_law_1065 : decode cL_law 1065 = .ok (.aload_n 0, 1) := by decide +kernel
theorem dL_law_1066 : decode cL_law 1066 = .ok (.iload 5, 2) := by decide +kernel
theorem dL_law_1068 : decode cL_law 1068 = .ok (.iconst 3, 1) := by decide +kernel
theorem dL_law_1069 : decode cL_law 1069 = .ok (.iadd, 1) := by decide +kernel
theorem dL_law_1070 : decode cL_law 1070 = .ok (.iaload, 1) := by decide +kernel
theorem dL_law_1071 : decode cL_law 1071 = .ok (.aload_n 3, 1) := by decide +kernel
theorem dL_law_1072 : decode cL_law 1072 = .ok (.invokestatic 218, 3) := by decide +kernel
theorem dL_law_1075 : decode cL_law 1075 = .ok (.istore 6, 2) := by decide +kernel
theorem dL_law_1077 : decode cL_law 1077 = .ok (.aload_n 2, 1) := by decide +kernel
theorem dL_law_1078 : decode cL_law 1078 = .ok (.aload_n 0, 1) := by decide +kernel
theorem dL_law_1079 : decode cL_law 1079 = .ok (.iload 5, 2) := by decide +kernel
theorem dL_law_1081 : decode cL_law 1081 = .ok (.iconst 1, 1) := by decide +kernel
theorem dL_law_1082 : decode cL_law 1082 = .ok (.iadd, 1) := by decide +kernel
theorem dL_law_1083 : decode cL_law 1083 = .ok (.iaload, 1) := by decide +kernel
theorem dL_law_1084 : decode cL_law 1084 = .ok (.ifCond .eq 7, 3) := by decide +kernel
theorem dL_law_1087 : decode cL_law 1087 = .ok (.iconst 1, 1) := by decide +kernel
theorem dL_law_1088 : decode cL_law 1088 = .ok (.goto 4, 3) := by decide +kernel
theorem dL_law_1091 : decode cL_law 1091 = .ok (.iconst 0, 1) := by decide +kernel
theorem dL_law_1092 : decode cL_law 1092 = .ok (.aload_n 0, 1) := by decide +kernel
theorem dL_law_1093 : decode cL_law 1093 = .ok (.iload 5, 2) := by decide +kernel
theorem dL_law_1095 : decode cL_law 1095 = .ok (.iconst 2, 1) := by decide +kernel
theorem dL_law_1096 : decode cL_law 1096 = .ok (.iadd, 1) := by decide +kernel
theorem dL_law_1097 : decode cL_law 1097 = .ok (.iaload, 1) := by decide +kernel
theorem dL_law_1098 : decode cL_law 1098 = .ok (.aload_n 0, 1) := by decide +kernel
theorem dL_law_1099 : decode cL_law 1099 = .ok (.iload 5, 2) := by decide +kernel
theorem dL_law_1101 : decode cL_law 1101 = .ok (.iconst 3, 1) := by decide +kernel
theorem dL_law_1102 : decode cL_law 1102 = .ok (.iadd, 1) := by decide +kernel
theorem dL_law_1103 : decode cL_law 1103 = .ok (.iaload, 1) := by decide +kernel
theorem dL_law_1104 : decode cL_law 1104 = .ok (.invokevirtual 221, 3) := by decide +kernel
theorem dL_law_1107 : decode cL_law 1107 = .ok (.istore 7, 2) := by decide +kernel
theorem dL_law_1109 : decode cL_law 1109 = .ok (.aload_n 2, 1) := by decide +kernel
theorem dL_law_1110 : decode cL_law 1110 = .ok (.invokevirtual 168, 3) := by decide +kernel
theorem dL_law_1113 : decode cL_law 1113 = .ok (.iload 6, 2) := by decide +kernel
theorem dL_law_1115 : decode cL_law 1115 = .ok (.if_icmp .eq 5, 3) := by decide +kernel
theorem dL_law_1118 : decode cL_law 1118 = .ok (.iconst 0, 1) := by decide +kernel
theorem dL_law_1119 : decode cL_law 1119 = .ok (.ireturn, 1) := by decide +kernel
theorem dL_law_1120 : decode cL_law 1120 = .ok (.iload 6, 2) := by decide +kernel
theorem dL_law_1122 : decode cL_law 1122 = .ok (.ifCond .ne 15, 3) := by decide +kernel
theorem dL_law_1125 : decode cL_law 1125 = .ok (.aload_n 3, 1) := by decide +kernel
theorem dL_law_1126 : decode cL_law 1126 = .ok (.iconst 0, 1) := by decide +kernel
theorem dL_law_1127 : decode cL_law 1127 = .ok (.laload, 1) := by decide +kernel
theorem dL_law_1128 : decode cL_law 1128 = .ok (.iload 7, 2) := by decide +kernel
theorem dL_law_1130 : decode cL_law 1130 = .ok (.i2l, 1) := by decide +kernel
theorem dL_law_1131 : decode cL_law 1131 = .ok (.lcmp, 1) := by decide +kernel
theorem dL_law_1132 : decode cL_law 1132 = .ok (.ifCond .eq 5, 3) := by decide +kernel
theorem dL_law_1135 : decode cL_law 1135 = .ok (.iconst 0, 1) := by decide +kernel
theorem dL_law_1136 : decode cL_law 1136 = .ok (.ireturn, 1) := by decide +kernel
theorem dL_law_1137 : decode cL_law 1137 = .ok (.goto 2224, 3) := by decide +kernel
theorem dL_law_1140 : decode cL_law 1140 = .ok (.aload_n 1, 1) := by decide +kernel
theorem dL_law_1141 : decode cL_law 1141 = .ok (.aload_n 0, 1) := by decide +kernel
theorem dL_law_1142 : decode cL_law 1142 = .ok (.iload 5, 2) := by decide +kernel
theorem dL_law_1144 : decode cL_law 1144 = .ok (.iconst 1, 1) := by decide +kernel
theorem dL_law_1145 : decode cL_law 1145 = .ok (.iadd, 1) := by decide +kernel
theorem dL_law_1146 : decode cL_law 1146 = .ok (.iaload, 1) := by decide +kernel
theorem dL_law_1147 : decode cL_law 1147 = .ok (.aload_n 3, 1) := by decide +kernel
theorem dL_law_1148 : decode cL_law 1148 = .ok (.invokestatic 222, 3) := by decide +kernel
theorem dL_law_1151 : decode cL_law 1151 = .ok (.istore 6, 2) := by decide +kernel
theorem dL_law_1153 : decode cL_law 1153 = .ok (.aload_n 2, 1) := by decide +kernel
theorem dL_law_1154 : decode cL_law 1154 = .ok (.aload_n 0, 1) := by decide +kernel
theorem dL_law_1155 : decode cL_law 1155 = .ok (.iload 5, 2) := by decide +kernel
theorem dL_law_1157 : decode cL_law 1157 = .ok (.iconst 1, 1) := by decide +kernel
theorem dL_law_1158 : decode cL_law 1158 = .ok (.iadd, 1) := by decide +kernel
theorem dL_law_1159 : decode cL_law 1159 = .ok (.iaload, 1) := by decide +kernel
theorem dL_law_1160 : decode cL_law 1160 = .ok (.invokevirtual 224, 3) := by decide +kernel
theorem dL_law_1163 : decode cL_law 1163 = .ok (.istore 7, 2) := by decide +kernel
theorem dL_law_1165 : decode cL_law 1165 = .ok (.aload_n 2, 1) := by decide +kernel
theorem dL_law_1166 : decode cL_law 1166 = .ok (.invokevirtual 168, 3) := by decide +kernel
theorem dL_law_1169 : decode cL_law 1169 = .ok (.iload 6, 2) := by decide +kernel
theorem dL_law_1171 : decode cL_law 1171 = .ok (.if_icmp .eq 5, 3) := by decide +kernel
theorem dL_law_1174 : decode cL_law 1174 = .ok (.iconst 0, 1) := by decide +kernel
theorem dL_law_1175 : decode cL_law 1175 = .ok (.ireturn, 1) := by decide +kernel
theorem dL_law_1176 : decode cL_law 1176 = .ok (.iload 6, 2) := by decide +kernel
theorem dL_law_1178 : decode cL_law 1178 = .ok (.ifCond .ne 15, 3) := by decide +kernel
theorem dL_law_1181 : decode cL_law 1181 = .ok (.aload_n 3, 1) := by decide +kernel
theorem dL_law_1182 : decode cL_law 1182 = .ok (.iconst 0, 1) := by decide +kernel
theorem dL_law_1183 : decode cL_law 1183 = .ok (.laload, 1) := by decide +kernel
theorem dL_law_1184 : decode cL_law 1184 = .ok (.iload 7, 2) := by decide +kernel
theorem dL_law_1186 : decode cL_law 1186 = .ok (.i2l, 1) := by decide +kernel
theorem dL_law_1187 : decode cL_law 1187 = .ok (.lcmp, 1) := by decide +kernel
theorem dL_law_1188 : decode cL_law 1188 = .ok (.ifCond .eq 5, 3) := by decide +kernel
theorem dL_law_1191 : decode cL_law 1191 = .ok (.iconst 0, 1) := by decide +kernel
theorem dL_law_1192 : decode cL_law 1192 = .ok (.ireturn, 1) := by decide +kernel
theorem dL_law_1193 : decode cL_law 1193 = .ok (.goto 2168, 3) := by decide +kernel
theorem dL_law_1196 : decode cL_law 1196 = .ok (.aload_n 1, 1) := by decide +kernel
theorem dL_law_1197 : decode cL_law 1197 = .ok (.aload_n 0, 1) := by decide +kernel
theorem dL_law_1198 : decode cL_law 1198 = .ok (.iload 5, 2) := by decide +kernel
theorem dL_law_1200 : decode cL_law 1200 = .ok (.iconst 1, 1) := by decide +kernel
theorem dL_law_1201 : decode cL_law 1201 = .ok (.iadd, 1) := by decide +kernel
theorem dL_law_1202 : decode cL_law 1202 = .ok (.iaload, 1) := by decide +kernel
theorem dL_law_1203 : decode cL_law 1203 = .ok (.aload_n 3, 1) := by decide +kernel
theorem dL_law_1204 : decode cL_law 1204 = .ok (.invokestatic 225, 3) := by decide +kernel
theorem dL_law_1207 : decode cL_law 1207 = .ok (.istore 6, 2) := by decide +kernel
theorem dL_law_1209 : decode cL_law 1209 = .ok (.aload_n 2, 1) := by decide +kernel
theorem dL_law_1210 : decode cL_law 1210 = .ok (.aload_n 0, 1) := by decide +kernel
theorem dL_law_1211 : decode cL_law 1211 = .ok (.iload 5, 2) := by decide +kernel
theorem dL_law_1213 : decode cL_law 1213 = .ok (.iconst 1, 1) := by decide +kernel
theorem dL_law_1214 : decode cL_law 1214 = .ok (.iadd, 1) := by decide +kernel
theorem dL_law_1215 : decode cL_law 1215 = .ok (.iaload, 1) := by decide +kernel
theorem dL_law_1216 : decode cL_law 1216 = .ok (.invokevirtual 227, 3) := by decide +kernel
theorem dL_law_1219 : decode cL_law 1219 = .ok (.istore 7, 2) := by decide +kernel
theorem dL_law_1221 : decode cL_law 1221 = .ok (.aload_n 2, 1) := by decide +kernel
theorem dL_law_1222 : decode cL_law 1222 = .ok (.invokevirtual 168, 3) := by decide +kernel
theorem dL_law_1225 : decode cL_law 1225 = .ok (.iload 6, 2) := by decide +kernel
theorem dL_law_1227 : decode cL_law 1227 = .ok (.if_icmp .eq 5, 3) := by decide +kernel
theorem dL_law_1230 : decode cL_law 1230 = .ok (.iconst 0, 1) := by decide +kernel
theorem dL_law_1231 : decode cL_law 1231 = .ok (.ireturn, 1) := by decide +kernel
theorem dL_law_1232 : decode cL_law 1232 = .ok (.iload 6, 2) := by decide +kernel
theorem dL_law_1234 : decode cL_law 1234 = .ok (.ifCond .ne 15, 3) := by decide +kernel
theorem dL_law_1237 : decode cL_law 1237 = .ok (.aload_n 3, 1) := by decide +kernel
theorem dL_law_1238 : decode cL_law 1238 = .ok (.iconst 0, 1) := by decide +kernel
theorem dL_law_1239 : decode cL_law 1239 = .ok (.laload, 1) := by decide +kernel
theorem dL_law_1240 : decode cL_law 1240 = .ok (.iload 7, 2) := by decide +kernel
theorem dL_law_1242 : decode cL_law 1242 = .ok (.i2l, 1) := by decide +kernel
theorem dL_law_1243 : decode cL_law 1243 = .ok (.lcmp, 1) := by decide +kernel
theorem dL_law_1244 : decode cL_law 1244 = .ok (.ifCond .eq 5, 3) := by decide +kernel
theorem dL_law_1247 : decode cL_law 1247 = .ok (.iconst 0, 1) := by decide +kernel
theorem dL_law_1248 : decode cL_law 1248 = .ok (.ireturn, 1) := by decide +kernel
theorem dL_law_1249 : decode cL_law 1249 = .ok (.goto 2112, 3) := by decide +kernel
theorem dL_law_1252 : decode cL_law 1252 = .ok (.aload_n 1, 1) := by decide +kernel
theorem dL_law_1253 : decode cL_law 1253 = .ok (.aload_n 0, 1) := by decide +kernel
theorem dL_law_1254 : decode cL_law 1254 = .ok (.iload 5, 2) := by decide +kernel
theorem dL_law_1256 : decode cL_law 1256 = .ok (.iconst 1, 1) := by decide +kernel
theorem dL_law_1257 : decode cL_law 1257 = .ok (.iadd, 1) := by decide +kernel
theorem dL_law_1258 : decode cL_law 1258 = .ok (.iaload, 1) := by decide +kernel
theorem dL_law_1259 : decode cL_law 1259 = .ok (.aload_n 0, 1) := by decide +kernel
theorem dL_law_1260 : decode cL_law 1260 = .ok (.iload 5, 2) := by decide +kernel
theorem dL_law_1262 : decode cL_law 1262 = .ok (.iconst 2, 1) := by decide +kernel
theorem dL_law_1263 : decode cL_law 1263 = .ok (.iadd, 1) := by decide +kernel
theorem dL_law_1264 : decode cL_law 1264 = .ok (.iaload, 1) := by decide +kernel
theorem dL_law_1265 : decode cL_law 1265 = .ok (.aload_n 3, 1) := by decide +kernel
theorem dL_law_1266 : decode cL_law 1266 = .ok (.invokestatic 228, 3) := by decide +kernel
theorem dL_law_1269 : decode cL_law 1269 = .ok (.istore 6, 2) := by decide +kernel
theorem dL_law_1271 : decode cL_law 1271 = .ok (.aload_n 2, 1) := by decide +kernel
theorem dL_law_1272 : decode cL_law 1272 = .ok (.aload_n 0, 1) := by decide +kernel
theorem dL_law_1273 : decode cL_law 1273 = .ok (.iload 5, 2) := by decide +kernel
theorem dL_law_1275 : decode cL_law 1275 = .ok (.iconst 1, 1) := by decide +kernel
theorem dL_law_1276 : decode cL_law 1276 = .ok (.iadd, 1) := by decide +kernel
theorem dL_law_1277 : decode cL_law 1277 = .ok (.iaload, 1) := by decide +kernel
theorem dL_law_1278 : decode cL_law 1278 = .ok (.aload_n 0, 1) := by decide +kernel
theorem dL_law_1279 : decode cL_law 1279 = .ok (.iload 5, 2) := by decide +kernel
theorem dL_law_1281 : decode cL_law 1281 = .ok (.iconst 2, 1) := by decide +kernel
theorem dL_law_1282 : decode cL_law 1282 = .ok (.iadd, 1) := by decide +kernel
theorem dL_law_1283 : decode cL_law 1283 = .ok (.iaload, 1) := by decide +kernel
theorem dL_law_1284 : decode cL_law 1284 = .ok (.invokevirtual 230, 3) := by decide +kernel
theorem dL_law_1287 : decode cL_law 1287 = .ok (.istore 7, 2) := by decide +kernel
theorem dL_law_1289 : decode cL_law 1289 = .ok (.aload_n 2, 1) := by decide +kernel
theorem dL_law_1290 : decode cL_law 1290 = .ok (.invokevirtual 168, 3) := by decide +kernel
theorem dL_law_1293 : decode cL_law 1293 = .ok (.iload 6, 2) := by decide +kernel
theorem dL_law_1295 : decode cL_law 1295 = .ok (.if_icmp .eq 5, 3) := by decide +kernel
theorem dL_law_1298 : decode cL_law 1298 = .ok (.iconst 0, 1) := by decide +kernel
theorem dL_law_1299 : decode cL_law 1299 = .ok (.ireturn, 1) := by decide +kernel
theorem dL_law_1300 : decode cL_law 1300 = .ok (.iload 6, 2) := by decide +kernel
theorem dL_law_1302 : decode cL_law 1302 = .ok (.ifCond .ne 15, 3) := by decide +kernel
theorem dL_law_1305 : decode cL_law 1305 = .ok (.aload_n 3, 1) := by decide +kernel
theorem dL_law_1306 : decode cL_law 1306 = .ok (.iconst 0, 1) := by decide +kernel
theorem dL_law_1307 : decode cL_law 1307 = .ok (.laload, 1) := by decide +kernel
theorem dL_law_1308 : decode cL_law 1308 = .ok (.iload 7, 2) := by decide +kernel
theorem dL_law_1310 : decode cL_law 1310 = .ok (.i2l, 1) := by decide +kernel
theorem dL_law_1311 : decode cL_law 1311 = .ok (.lcmp, 1) := by decide +kernel
theorem dL_law_1312 : decode cL_law 1312 = .ok (.ifCond .eq 5, 3) := by decide +kernel
theorem dL_law_1315 : decode cL_law 1315 = .ok (.iconst 0, 1) := by decide +kernel
theorem dL_law_1316 : decode cL_law 1316 = .ok (.ireturn, 1) := by decide +kernel
theorem dL_law_1317 : decode cL_law 1317 = .ok (.goto 2044, 3) := by decide +kernel
theorem dL_law_1320 : decode cL_law 1320 = .ok (.aload_n 1, 1) := by decide +kernel
theorem dL_law_1321 : decode cL_law 1321 = .ok (.aload_n 0, 1) := by decide +kernel
theorem dL_law_1322 : decode cL_law 1322 = .ok (.iload 5, 2) := by decide +kernel
theorem dL_law_1324 : decode cL_law 1324 = .ok (.iconst 1, 1) := by decide +kernel
theorem dL_law_1325 : decode cL_law 1325 = .ok (.iadd, 1) := by decide +kernel
theorem dL_law_1326 : decode cL_law 1326 = .ok (.iaload, 1) := by decide +kernel
theorem dL_law_1327 : decode cL_law 1327 = .ok (.aload_n 3, 1) := by decide +kernel
theorem dL_law_1328 : decode cL_law 1328 = .ok (.invokestatic 231, 3) := by decide +kernel
theorem dL_law_1331 : decode cL_law 1331 = .ok (.istore 6, 2) := by decide +kernel
theorem dL_law_1333 : decode cL_law 1333 = .ok (.aload_n 2, 1) := by decide +kernel
theorem dL_law_1334 : decode cL_law 1334 = .ok (.aload_n 0, 1) := by decide +kernel
theorem dL_law_1335 : decode cL_law 1335 = .ok (.iload 5, 2) := by decide +kernel
theorem dL_law_1337 : decode cL_law 1337 = .ok (.iconst 1, 1) := by decide +kernel
theorem dL_law_1338 : decode cL_law 1338 = .ok (.iadd, 1) := by decide +kernel
theorem dL_law_1339 : decode cL_law 1339 = .ok (.iaload, 1) := by decide +kernel
theorem dL_law_1340 : decode cL_law 1340 = .ok (.invokevirtual 233, 3) := by decide +kernel
theorem dL_law_1343 : decode cL_law 1343 = .ok (.istore 7, 2) := by decide +kernel
theorem dL_law_1345 : decode cL_law 1345 = .ok (.aload_n 2, 1) := by decide +kernel
theorem dL_law_1346 : decode cL_law 1346 = .ok (.invokevirtual 168, 3) := by decide +kernel
theorem dL_law_1349 : decode cL_law 1349 = .ok (.iload 6, 2) := by decide +kernel
theorem dL_law_1351 : decode cL_law 1351 = .ok (.if_icmp .eq 5, 3) := by decide +kernel
theorem dL_law_1354 : decode cL_law 1354 = .ok (.iconst 0, 1) := by decide +kernel
theorem dL_law_1355 : decode cL_law 1355 = .ok (.ireturn, 1) := by decide +kernel
theorem dL_law_1356 : decode cL_law 1356 = .ok (.iload 6, 2) := by decide +kernel
theorem dL_law_1358 : decode cL_law 1358 = .ok (.ifCond .ne 22, 3) := by decide +kernel
theorem dL_law_1361 : decode cL_law 1361 = .ok (.aload_n 3, 1) := by decide +kernel
theorem dL_law_1362 : decode cL_law 1362 = .ok (.iconst 0, 1) := by decide +kernel
theorem dL_law_1363 : decode cL_law 1363 = .ok (.laload, 1) := by decide +kernel
theorem dL_law_1364 : decode cL_law 1364 = .ok (.iload 7, 2) := by decide +kernel
theorem dL_law_1366 : decode cL_law 1366 = .ok (.ifCond .eq 7, 3) := by decide +kernel
theorem dL_law_1369 : decode cL_law 1369 = .ok (.lconst 1, 1) := by decide +kernel
theorem dL_law_1370 : decode cL_law 1370 = .ok (.goto 4, 3) := by decide +kernel
theorem dL_law_1373 : decode cL_law 1373 = .ok (.lconst 0, 1) := by decide +kernel
theorem dL_law_1374 : decode cL_law 1374 = .ok (.lcmp, 1) := by decide +kernel
theorem dL_law_1375 : decode cL_law 1375 = .ok (.ifCond .eq 5, 3) := by decide +kernel
theorem dL_law_1378 : decode cL_law 1378 = .ok (.iconst 0, 1) := by decide +kernel
theorem dL_law_1379 : decode cL_law 1379 = .ok (.ireturn, 1) := by decide +kernel
theorem dL_law_1380 : decode cL_law 1380 = .ok (.goto 1981, 3) := by decide +kernel
theorem dL_law_1383 : decode cL_law 1383 = .ok (.aload_n 1, 1) := by decide +kernel
theorem dL_law_1384 : decode cL_law 1384 = .ok (.aload_n 3, 1) := by decide +kernel
theorem dL_law_1385 : decode cL_law 1385 = .ok (.invokestatic 234, 3) := by decide +kernel
theorem dL_law_1388 : decode cL_law 1388 = .ok (.istore 6, 2) := by decide +kernel
theorem dL_law_1390 : decode cL_law 1390 = .ok (.aload_n 2, 1) := by decide +kernel
theorem dL_law_1391 : decode cL_law 1391 = .ok (.invokevirtual 237, 3) := by decide +kernel
theorem dL_law_1394 : decode cL_law 1394 = .ok (.istore 7, 2) := by decide +kernel
theorem dL_law_1396 : decode cL_law 1396 = .ok (.aload_n 2, 1) := by decide +kernel
theorem dL_law_1397 : decode cL_law 1397 = .ok (.invokevirtual 168, 3) := by decide +kernel
theorem dL_law_1400 : decode cL_law 1400 = .ok (.iload 6, 2) := by decide +kernel
theorem dL_law_1402 : decode cL_law 1402 = .ok (.if_icmp .eq 5, 3) := by decide +kernel
theorem dL_law_1405 : decode cL_law 1405 = .ok (.iconst 0, 1) := by decide +kernel
theorem dL_law_1406 : decode cL_law 1406 = .ok (.ireturn, 1) := by decide +kernel
theorem dL_law_1407 : decode cL_law 1407 = .ok (.iload 6, 2) := by decide +kernel
theorem dL_law_1409 : decode cL_law 1409 = .ok (.ifCond .ne 15, 3) := by decide +kernel
theorem dL_law_1412 : decode cL_law 1412 = .ok (.aload_n 3, 1) := by decide +kernel
theorem dL_law_1413 : decode cL_law 1413 = .ok (.iconst 0, 1) := by decide +kernel
theorem dL_law_1414 : decode cL_law 1414 = .ok (.laload, 1) := by decide +kernel
theorem dL_law_1415 : decode cL_law 1415 = .ok (.iload 7, 2) := by decide +kernel
theorem dL_law_1417 : decode cL_law 1417 = .ok (.i2l, 1) := by decide +kernel
theorem dL_law_1418 : decode cL_law 1418 = .ok (.lcmp, 1) := by decide +kernel
theorem dL_law_1419 : decode cL_law 1419 = .ok (.ifCond .eq 5, 3) := by decide +kernel
theorem dL_law_1422 : decode cL_law 1422 = .ok (.iconst 0, 1) := by decide +kernel
theorem dL_law_1423 : decode cL_law 1423 = .ok (.ireturn, 1) := by decide +kernel
theorem dL_law_1424 : decode cL_law 1424 = .ok (.goto 1937, 3) := by decide +kernel
theorem dL_law_1427 : decode cL_law 1427 = .ok (.aload_n 1, 1) := by decide +kernel
theorem dL_law_1428 : decode cL_law 1428 = .ok (.aload_n 0, 1) := by decide +kernel
theorem dL_law_1429 : decode cL_law 1429 = .ok (.iload 5, 2) := by decide +kernel
theorem dL_law_1431 : decode cL_law 1431 = .ok (.iconst 1, 1) := by decide +kernel
theorem dL_law_1432 : decode cL_law 1432 = .ok (.iadd, 1) := by decide +kernel
theorem dL_law_1433 : decode cL_law 1433 = .ok (.iaload, 1) := by decide +kernel
theorem dL_law_1434 : decode cL_law 1434 = .ok (.ifCond .eq 7, 3) := by decide +kernel
theorem dL_law_1437 : decode cL_law 1437 = .ok (.iconst 1, 1) := by decide +kernel
theorem dL_law_1438 : decode cL_law 1438 = .ok (.goto 4, 3) := by decide +kernel
theorem dL_law_1441 : decode cL_law 1441 = .ok (.iconst 0, 1) := by decide +kernel
theorem dL_law_1442 : decode cL_law 1442 = .ok (.aload_n 0, 1) := by decide +kernel
theorem dL_law_1443 : decode cL_law 1443 = .ok (.iload 5, 2) := by decide +kernel
theorem dL_law_1445 : decode cL_law 1445 = .ok (.iconst 2, 1) := by decide +kernel
theorem dL_law_1446 : decode cL_law 1446 = .ok (.iadd, 1) := by decide +kernel
theorem dL_law_1447 : decode cL_law 1447 = .ok (.iaload, 1) := by decide +kernel
theorem dL_law_1448 : decode cL_law 1448 = .ok (.aload_n 3, 1) := by decide +kernel
theorem dL_law_1449 : decode cL_law 1449 = .ok (.invokestatic 238, 3) := by decide +kernel
theorem dL_law_1452 : decode cL_law 1452 = .ok (.istore 6, 2) := by decide +kernel
theorem dL_law_1454 : decode cL_law 1454 = .ok (.aload_n 2, 1) := by decide +kernel
theorem dL_law_1455 : decode cL_law 1455 = .ok (.aload_n 0, 1) := by decide +kernel
theorem dL_law_1456 : decode cL_law 1456 = .ok (.iload 5, 2) := by decide +kernel
theorem dL_law_1458 : decode cL_law 1458 = .ok (.iconst 1, 1) := by decide +kernel
theorem dL_law_1459 : decode cL_law 1459 = .ok (.iadd, 1) := by decide +kernel
theorem dL_law_1460 : decode cL_law 1460 = .ok (.iaload, 1) := by decide +kernel
theorem dL_law_1461 : decode cL_law 1461 = .ok (.ifCond .eq 7, 3) := by decide +kernel
theorem dL_law_1464 : decode cL_law 1464 = .ok (.iconst 1, 1) := by decide +kernel
theorem dL_law_1465 : decode cL_law 1465 = .ok (.goto 4, 3) := by decide +kernel
theorem dL_law_1468 : decode cL_law 1468 = .ok (.iconst 0, 1) := by decide +kernel
theorem dL_law_1469 : decode cL_law 1469 = .ok (.aload_n 0, 1) := by decide +kernel
theorem dL_law_1470 : decode cL_law 1470 = .ok (.iload 5, 2) := by decide +kernel
theorem dL_law_1472 : decode cL_law 1472 = .ok (.iconst 2, 1) := by decide +kernel
theorem dL_law_1473 : decode cL_law 1473 = .ok (.iadd, 1) := by decide +kernel
theorem dL_law_1474 : decode cL_law 1474 = .ok (.iaload, 1) := by decide +kernel
theorem dL_law_1475 : decode cL_law 1475 = .ok (.invokevirtual 241, 3) := by decide +kernel
theorem dL_law_1478 : decode cL_law 1478 = .ok (.istore 7, 2) := by decide +kernel
theorem dL_law_1480 : decode cL_law 1480 = .ok (.aload_n 2, 1) := by decide +kernel
theorem dL_law_1481 : decode cL_law 1481 = .ok (.invokevirtual 168, 3) := by decide +kernel
theorem dL_law_1484 : decode cL_law 1484 = .ok (.iload 6, 2) := by decide +kernel
theorem dL_law_1486 : decode cL_law 1486 = .ok (.if_icmp .eq 5, 3) := by decide +kernel
theorem dL_law_1489 : decode cL_law 1489 = .ok (.iconst 0, 1) := by decide +kernel
theorem dL_law_1490 : decode cL_law 1490 = .ok (.ireturn, 1) := by decide +kernel
theorem dL_law_1491 : decode cL_law 1491 = .ok (.iload 6, 2) := by decide +kernel
theorem dL_law_1493 : decode cL_law 1493 = .ok (.ifCond .ne 15, 3) := by decide +kernel
theorem dL_law_1496 : decode cL_law 1496 = .ok (.aload_n 3, 1) := by decide +kernel
theorem dL_law_1497 : decode cL_law 1497 = .ok (.iconst 0, 1) := by decide +kernel
theorem dL_law_1498 : decode cL_law 1498 = .ok (.laload, 1) := by decide +kernel
theorem dL_law_1499 : decode cL_law 1499 = .ok (.iload 7, 2) := by decide +kernel
theorem dL_law_1501 : decode cL_law 1501 = .ok (.i2l, 1) := by decide +kernel
theorem dL_law_1502 : decode cL_law 1502 = .ok (.lcmp, 1) := by decide +kernel
theorem dL_law_1503 : decode cL_law 1503 = .ok (.ifCond .eq 5, 3) := by decide +kernel
theorem dL_law_1506 : decode cL_law 1506 = .ok (.iconst 0, 1) := by decide +kernel
theorem dL_law_1507 : decode cL_law 1507 = .ok (.ireturn, 1) := by decide +kernel
theorem dL_law_1508 : decode cL_law 1508 = .ok (.goto 1853, 3) := by decide +kernel
theorem dL_law_1511 : decode cL_law 1511 = .ok (.aload_n 1, 1) := by decide +kernel
theorem dL_law_1512 : decode cL_law 1512 = .ok (.aload_n 3, 1) := by decide +kernel
theorem dL_law_1513 : decode cL_law 1513 = .ok (.invokestatic 242, 3) := by decide +kernel
theorem dL_law_1516 : decode cL_law 1516 = .ok (.istore 6, 2) := by decide +kernel
theorem dL_law_1518 : decode cL_law 1518 = .ok (.aload_n 2, 1) := by decide +kernel
theorem dL_law_1519 : decode cL_law 1519 = .ok (.invokevirtual 244, 3) := by decide +kernel
theorem dL_law_1522 : decode cL_law 1522 = .ok (.istore 7, 2) := by decide +kernel
theorem dL_law_1524 : decode cL_law 1524 = .ok (.aload_n 2, 1) := by decide +kernel
theorem dL_law_1525 : decode cL_law 1525 = .ok (.invokevirtual 168, 3) := by decide +kernel
theorem dL_law_1528 : decode cL_law 1528 = .ok (.iload 6, 2) := by decide +kernel
theorem dL_law_1530 : decode cL_law 1530 = .ok (.if_icmp .eq 5, 3) := by decide +kernel
theorem dL_law_1533 : decode cL_law 1533 = .ok (.iconst 0, 1) := by decide +kernel
theorem dL_law_1534 : decode cL_law 1534 = .ok (.ireturn, 1) := by decide +kernel
theorem dL_law_1535 : decode cL_law 1535 = .ok (.iload 6, 2) := by decide +kernel
theorem dL_law_1537 : decode cL_law 1537 = .ok (.ifCond .ne 15, 3) := by decide +kernel
theorem dL_law_1540 : decode cL_law 1540 = .ok (.aload_n 3, 1) := by decide +kernel
theorem dL_law_1541 : decode cL_law 1541 = .ok (.iconst 0, 1) := by decide +kernel
theorem dL_law_1542 : decode cL_law 1542 = .ok (.laload, 1) := by decide +kernel
theorem dL_law_1543 : decode cL_law 1543 = .ok (.iload 7, 2) := by decide +kernel
theorem dL_law_1545 : decode cL_law 1545 = .ok (.i2l, 1) := by decide +kernel
theorem dL_law_1546 : decode cL_law 1546 = .ok (.lcmp, 1) := by decide +kernel
theorem dL_law_1547 : decode cL_law 1547 = .ok (.ifCond .eq 5, 3) := by decide +kernel
theorem dL_law_1550 : decode cL_law 1550 = .ok (.iconst 0, 1) := by decide +kernel
theorem dL_law_1551 : decode cL_law 1551 = .ok (.ireturn, 1) := by decide +kernel
theorem dL_law_1552 : decode cL_law 1552 = .ok (.goto 1809, 3) := by decide +kernel
theorem dL_law_1555 : decode cL_law 1555 = .ok (.aload_n 1, 1) := by decide +kernel
theorem dL_law_1556 : decode cL_law 1556 = .ok (.invokevirtual 245, 3) := by decide +kernel
theorem dL_law_1559 : decode cL_law 1559 = .ok (.aload_n 2, 1) := by decide +kernel
theorem dL_law_1560 : decode cL_law 1560 = .ok (.invokevirtual 248, 3) := by decide +kernel
theorem dL_law_1563 : decode cL_law 1563 = .ok (.if_icmp .eq 1798, 3) := by decide +kernel
theorem dL_law_1566 : decode cL_law 1566 = .ok (.iconst 0, 1) := by decide +kernel
theorem dL_law_1567 : decode cL_law 1567 = .ok (.ireturn, 1) := by decide +kernel
theorem dL_law_1568 : decode cL_law 1568 = .ok (.aload_n 1, 1) := by decide +kernel
theorem dL_law_1569 : decode cL_law 1569 = .ok (.aload_n 0, 1) := by decide +kernel
theorem dL_law_1570 : decode cL_law 1570 = .ok (.iload 5, 2) := by decide +kernel
theorem dL_law_1572 : decode cL_law 1572 = .ok (.iconst 1, 1) := by decide +kernel
theorem dL_law_1573 : decode cL_law 1573 = .ok (.iadd, 1) := by decide +kernel
theorem dL_law_1574 : decode cL_law 1574 = .ok (.iaload, 1) := by decide +kernel
theorem dL_law_1575 : decode cL_law 1575 = .ok (.aload_n 3, 1) := by decide +kernel
theorem dL_law_1576 : decode cL_law 1576 = .ok (.invokestatic 249, 3) := by decide +kernel
theorem dL_law_1579 : decode cL_law 1579 = .ok (.istore 6, 2) := by decide +kernel
theorem dL_law_1581 : decode cL_law 1581 = .ok (.aload_n 2, 1) := by decide +kernel
theorem dL_law_1582 : decode cL_law 1582 = .ok (.aload_n 0, 1) := by decide +kernel
theorem dL_law_1583 : decode cL_law 1583 = .ok (.iload 5, 2) := by decide +kernel
theorem dL_law_1585 : decode cL_law 1585 = .ok (.iconst 1, 1) := by decide +kernel
theorem dL_law_1586 : decode cL_law 1586 = .ok (.iadd, 1) := by decide +kernel
theorem dL_law_1587 : decode cL_law 1587 = .ok (.iaload, 1) := by decide +kernel
theorem dL_law_1588 : decode cL_law 1588 = .ok (.invokevirtual 251, 3) := by decide +kernel
theorem dL_law_1591 : decode cL_law 1591 = .ok (.istore 7, 2) := by decide +kernel
theorem dL_law_1593 : decode cL_law 1593 = .ok (.aload_n 2, 1) := by decide +kernel
theorem dL_law_1594 : decode cL_law 1594 = .ok (.invokevirtual 168, 3) := by decide +kernel
theorem dL_law_1597 : decode cL_law 1597 = .ok (.iload 6, 2) := by decide +kernel
theorem dL_law_1599 : decode cL_law 1599 = .ok (.if_icmp .eq 5, 3) := by decide +kernel
theorem dL_law_1602 : decode cL_law 1602 = .ok (.iconst 0, 1) := by decide +kernel
theorem dL_law_1603 : decode cL_law 1603 = .ok (.ireturn, 1) := by decide +kernel
theorem dL_law_1604 : decode cL_law 1604 = .ok (.iload 6, 2) := by decide +kernel
theorem dL_law_1606 : decode cL_law 1606 = .ok (.ifCond .ne 15, 3) := by decide +kernel
theorem dL_law_1609 : decode cL_law 1609 = .ok (.aload_n 3, 1) := by decide +kernel
theorem dL_law_1610 : decode cL_law 1610 = .ok (.iconst 0, 1) := by decide +kernel
theorem dL_law_1611 : decode cL_law 1611 = .ok (.laload, 1) := by decide +kernel
theorem dL_law_1612 : decode cL_law 1612 = .ok (.iload 7, 2) := by decide +kernel
theorem dL_law_1614 : decode cL_law 1614 = .ok (.i2l, 1) := by decide +kernel
theorem dL_law_1615 : decode cL_law 1615 = .ok (.lcmp, 1) := by decide +kernel
theorem dL_law_1616 : decode cL_law 1616 = .ok (.ifCond .eq 5, 3) := by decide +kernel
theorem dL_law_1619 : decode cL_law 1619 = .ok (.iconst 0, 1) := by decide +kernel
theorem dL_law_1620 : decode cL_law 1620 = .ok (.ireturn, 1) := by decide +kernel
theorem dL_law_1621 : decode cL_law 1621 = .ok (.goto 1740, 3) := by decide +kernel
theorem dL_law_1624 : decode cL_law 1624 = .ok (.aload_n 1, 1) := by decide +kernel
theorem dL_law_1625 : decode cL_law 1625 = .ok (.aload_n 0, 1) := by decide +kernel
theorem dL_law_1626 : decode cL_law 1626 = .ok (.iload 5, 2) := by decide +kernel
theorem dL_law_1628 : decode cL_law 1628 = .ok (.iconst 1, 1) := by decide +kernel
theorem dL_law_1629 : decode cL_law 1629 = .ok (.iadd, 1) := by decide +kernel
theorem dL_law_1630 : decode cL_law 1630 = .ok (.iaload, 1) := by decide +kernel
theorem dL_law_1631 : decode cL_law 1631 = .ok (.aload_n 0, 1) := by decide +kernel
theorem dL_law_1632 : decode cL_law 1632 = .ok (.iload 5, 2) := by decide +kernel
theorem dL_law_1634 : decode cL_law 1634 = .ok (.iconst 2, 1) := by decide +kernel
theorem dL_law_1635 : decode cL_law 1635 = .ok (.iadd, 1) := by decide +kernel
theorem dL_law_1636 : decode cL_law 1636 = .ok (.iaload, 1) := by decide +kernel
theorem dL_law_1637 : decode cL_law 1637 = .ok (.aload_n 0, 1) := by decide +kernel
theorem dL_law_1638 : decode cL_law 1638 = .ok (.iload 5, 2) := by decide +kernel
theorem dL_law_1640 : decode cL_law 1640 = .ok (.iconst 3, 1) := by decide +kernel
theorem dL_law_1641 : decode cL_law 1641 = .ok (.iadd, 1) := by decide +kernel
theorem dL_law_1642 : decode cL_law 1642 = .ok (.iaload, 1) := by decide +kernel
theorem dL_law_1643 : decode cL_law 1643 = .ok (.ifCond .eq 7, 3) := by decide +kernel
theorem dL_law_1646 : decode cL_law 1646 = .ok (.iconst 1, 1) := by decide +kernel
theorem dL_law_1647 : decode cL_law 1647 = .ok (.goto 4, 3) := by decide +kernel
theorem dL_law_1650 : decode cL_law 1650 = .ok (.iconst 0, 1) := by decide +kernel
theorem dL_law_1651 : decode cL_law 1651 = .ok (.aload_n 3, 1) := by decide +kernel
theorem dL_law_1652 : decode cL_law 1652 = .ok (.invokestatic 252, 3) := by decide +kernel
theorem dL_law_1655 : decode cL_law 1655 = .ok (.istore 6, 2) := by decide +kernel
theorem dL_law_1657 : decode cL_law 1657 = .ok (.aload_n 2, 1) := by decide +kernel
theorem dL_law_1658 : decode cL_law 1658 = .ok (.aload_n 0, 1) := by decide +kernel
theorem dL_law_1659 : decode cL_law 1659 = .ok (.iload 5, 2) := by decide +kernel
theorem dL_law_1661 : decode cL_law 1661 = .ok (.iconst 1, 1) := by decide +kernel
theorem dL_law_1662 : decode cL_law 1662 = .ok (.iadd, 1) := by decide +kernel
theorem dL_law_1663 : decode cL_law 1663 = .ok (.iaload, 1) := by decide +kernel
theorem dL_law_1664 : decode cL_law 1664 = .ok (.aload_n 0, 1) := by decide +kernel
theorem dL_law_1665 : decode cL_law 1665 = .ok (.iload 5, 2) := by decide +kernel
theorem dL_law_1667 : decode cL_law 1667 = .ok (.iconst 2, 1) := by decide +kernel
theorem dL_law_1668 : decode cL_law 1668 = .ok (.iadd, 1) := by decide +kernel
theorem dL_law_1669 : decode cL_law 1669 = .ok (.iaload, 1) := by decide +kernel
theorem dL_law_1670 : decode cL_law 1670 = .ok (.aload_n 0, 1) := by decide +kernel
theorem dL_law_1671 : decode cL_law 1671 = .ok (.iload 5, 2) := by decide +kernel
theorem dL_law_1673 : decode cL_law 1673 = .ok (.iconst 3, 1) := by decide +kernel
theorem dL_law_1674 : decode cL_law 1674 = .ok (.iadd, 1) := by decide +kernel
theorem dL_law_1675 : decode cL_law 1675 = .ok (.iaload, 1) := by decide +kernel
theorem dL_law_1676 : decode cL_law 1676 = .ok (.ifCond .eq 7, 3) := by decide +kernel
theorem dL_law_1679 : decode cL_law 1679 = .ok (.iconst 1, 1) := by decide +kernel
theorem dL_law_1680 : decode cL_law 1680 = .ok (.goto 4, 3) := by decide +kernel
theorem dL_law_1683 : decode cL_law 1683 = .ok (.iconst 0, 1) := by decide +kernel
theorem dL_law_1684 : decode cL_law 1684 = .ok (.invokevirtual 255, 3) := by decide +kernel
theorem dL_law_1687 : decode cL_law 1687 = .ok (.istore 7, 2) := by decide +kernel
theorem dL_law_1689 : decode cL_law 1689 = .ok (.aload_n 2, 1) := by decide +kernel
theorem dL_law_1690 : decode cL_law 1690 = .ok (.invokevirtual 168, 3) := by decide +kernel
theorem dL_law_1693 : decode cL_law 1693 = .ok (.iload 6, 2) := by decide +kernel
theorem dL_law_1695 : decode cL_law 1695 = .ok (.if_icmp .eq 5, 3) := by decide +kernel
theorem dL_law_1698 : decode cL_law 1698 = .ok (.iconst 0, 1) := by decide +kernel
theorem dL_law_1699 : decode cL_law 1699 = .ok (.ireturn, 1) := by decide +kernel
theorem dL_law_1700 : decode cL_law 1700 = .ok (.iload 6, 2) := by decide +kernel
theorem dL_law_1702 : decode cL_law 1702 = .ok (.ifCond .ne 22, 3) := by decide +kernel
theorem dL_law_1705 : decode cL_law 1705 = .ok (.aload_n 3, 1) := by decide +kernel
theorem dL_law_1706 : decode cL_law 1706 = .ok (.iconst 0, 1) := by decide +kernel
theorem dL_law_1707 : decode cL_law 1707 = .ok (.laload, 1) := by decide +kernel
theorem dL_law_1708 : decode cL_law 1708 = .ok (.iload 7, 2) := by decide +kernel
theorem dL_law_1710 : decode cL_law 1710 = .ok (.ifCond .eq 7, 3) := by decide +kernel
theorem dL_law_1713 : decode cL_law 1713 = .ok (.lconst 1, 1) := by decide +kernel
theorem dL_law_1714 : decode cL_law 1714 = .ok (.goto 4, 3) := by decide +kernel
theorem dL_law_1717 : decode cL_law 1717 = .ok (.lconst 0, 1) := by decide +kernel
theorem dL_law_1718 : decode cL_law 1718 = .ok (.lcmp, 1) := by decide +kernel
theorem dL_law_1719 : decode cL_law 1719 = .ok (.ifCond .eq 5, 3) := by decide +kernel
theorem dL_law_1722 : decode cL_law 1722 = .ok (.iconst 0, 1) := by decide +kernel
theorem dL_law_1723 : decode cL_law 1723 = .ok (.ireturn, 1) := by decide +kernel
theorem dL_law_1724 : decode cL_law 1724 = .ok (.goto 1637, 3) := by decide +kernel
theorem dL_law_1727 : decode cL_law 1727 = .ok (.aload_n 1, 1) := by decide +kernel
theorem dL_law_1728 : decode cL_law 1728 = .ok (.aload_n 0, 1) := by decide +kernel
theorem dL_law_1729 : decode cL_law 1729 = .ok (.iload 5, 2) := by decide +kernel
theorem dL_law_1731 : decode cL_law 1731 = .ok (.iconst 1, 1) := by decide +kernel
theorem dL_law_1732 : decode cL_law 1732 = .ok (.iadd, 1) := by decide +kernel
theorem dL_law_1733 : decode cL_law 1733 = .ok (.iaload, 1) := by decide +kernel
theorem dL_law_1734 : decode cL_law 1734 = .ok (.aload_n 0, 1) := by decide +kernel
theorem dL_law_1735 : decode cL_law 1735 = .ok (.iload 5, 2) := by decide +kernel
theorem dL_law_1737 : decode cL_law 1737 = .ok (.iconst 2, 1) := by decide +kernel
theorem dL_law_1738 : decode cL_law 1738 = .ok (.iadd, 1) := by decide +kernel
theorem dL_law_1739 : decode cL_law 1739 = .ok (.iaload, 1) := by decide +kernel
theorem dL_law_1740 : decode cL_law 1740 = .ok (.ifCond .eq 7, 3) := by decide +kernel
theorem dL_law_1743 : decode cL_law 1743 = .ok (.iconst 1, 1) := by decide +kernel
theorem dL_law_1744 : decode cL_law 1744 = .ok (.goto 4, 3) := by decide +kernel
theorem dL_law_1747 : decode cL_law 1747 = .ok (.iconst 0, 1) := by decide +kernel
theorem dL_law_1748 : decode cL_law 1748 = .ok (.aload_n 3, 1) := by decide +kernel
theorem dL_law_1749 : decode cL_law 1749 = .ok (.invokestatic 256, 3) := by decide +kernel
theorem dL_law_1752 : decode cL_law 1752 = .ok (.istore 6, 2) := by decide +kernel
theorem dL_law_1754 : decode cL_law 1754 = .ok (.aload_n 2, 1) := by decide +kernel
theorem dL_law_1755 : decode cL_law 1755 = .ok (.aload_n 0, 1) := by decide +kernel
theorem dL_law_1756 : decode cL_law 1756 = .ok (.iload 5, 2) := by decide +kernel
theorem dL_law_1758 : decode cL_law 1758 = .ok (.iconst 1, 1) := by decide +kernel
theorem dL_law_1759 : decode cL_law 1759 = .ok (.iadd, 1) := by decide +kernel
theorem dL_law_1760 : decode cL_law 1760 = .ok (.iaload, 1) := by decide +kernel
theorem dL_law_1761 : decode cL_law 1761 = .ok (.aload_n 0, 1) := by decide +kernel
theorem dL_law_1762 : decode cL_law 1762 = .ok (.iload 5, 2) := by decide +kernel
theorem dL_law_1764 : decode cL_law 1764 = .ok (.iconst 2, 1) := by decide +kernel
theorem dL_law_1765 : decode cL_law 1765 = .ok (.iadd, 1) := by decide +kernel
theorem dL_law_1766 : decode cL_law 1766 = .ok (.iaload, 1) := by decide +kernel
theorem dL_law_1767 : decode cL_law 1767 = .ok (.ifCond .eq 7, 3) := by decide +kernel
theorem dL_law_1770 : decode cL_law 1770 = .ok (.iconst 1, 1) := by decide +kernel
theorem dL_law_1771 : decode cL_law 1771 = .ok (.goto 4, 3) := by decide +kernel
theorem dL_law_1774 : decode cL_law 1774 = .ok (.iconst 0, 1) := by decide +kernel
theorem dL_law_1775 : decode cL_law 1775 = .ok (.invokevirtual 259, 3) := by decide +kernel
theorem dL_law_1778 : decode cL_law 1778 = .ok (.istore 7, 2) := by decide +kernel
theorem dL_law_1780 : decode cL_law 1780 = .ok (.aload_n 2, 1) := by decide +kernel
theorem dL_law_1781 : decode cL_law 1781 = .ok (.invokevirtual 168, 3) := by decide +kernel
theorem dL_law_1784 : decode cL_law 1784 = .ok (.iload 6, 2) := by decide +kernel
theorem dL_law_1786 : decode cL_law 1786 = .ok (.if_icmp .eq 5, 3) := by decide +kernel
theorem dL_law_1789 : decode cL_law 1789 = .ok (.iconst 0, 1) := by decide +kernel
theorem dL_law_1790 : decode cL_law 1790 = .ok (.ireturn, 1) := by decide +kernel
theorem dL_law_1791 : decode cL_law 1791 = .ok (.iload 6, 2) := by decide +kernel
theorem dL_law_1793 : decode cL_law 1793 = .ok (.ifCond .ne 15, 3) := by decide +kernel
theorem dL_law_1796 : decode cL_law 1796 = .ok (.aload_n 3, 1) := by decide +kernel
theorem dL_law_1797 : decode cL_law 1797 = .ok (.iconst 0, 1) := by decide +kernel
theorem dL_law_1798 : decode cL_law 1798 = .ok (.laload, 1) := by decide +kernel
theorem dL_law_1799 : decode cL_law 1799 = .ok (.iload 7, 2) := by decide +kernel
theorem dL_law_1801 : decode cL_law 1801 = .ok (.i2l, 1) := by decide +kernel
theorem dL_law_1802 : decode cL_law 1802 = .ok (.lcmp, 1) := by decide +kernel
theorem dL_law_1803 : decode cL_law 1803 = .ok (.ifCond .eq 5, 3) := by decide +kernel
theorem dL_law_1806 : decode cL_law 1806 = .ok (.iconst 0, 1) := by decide +kernel
theorem dL_law_1807 : decode cL_law 1807 = .ok (.ireturn, 1) := by decide +kernel
theorem dL_law_1808 : decode cL_law 1808 = .ok (.goto 1553, 3) := by decide +kernel
theorem dL_law_1811 : decode cL_law 1811 = .ok (.aload_n 1, 1) := by decide +kernel
theorem dL_law_1812 : decode cL_law 1812 = .ok (.aload_n 0, 1) := by decide +kernel
theorem dL_law_1813 : decode cL_law 1813 = .ok (.iload 5, 2) := by decide +kernel
theorem dL_law_1815 : decode cL_law 1815 = .ok (.iconst 1, 1) := by decide +kernel
theorem dL_law_1816 : decode cL_law 1816 = .ok (.iadd, 1) := by decide +kernel
theorem dL_law_1817 : decode cL_law 1817 = .ok (.iaload, 1) := by decide +kernel
theorem dL_law_1818 : decode cL_law 1818 = .ok (.aload_n 0, 1) := by decide +kernel
theorem dL_law_1819 : decode cL_law 1819 = .ok (.iload 5, 2) := by decide +kernel
theorem dL_law_1821 : decode cL_law 1821 = .ok (.iconst 2, 1) := by decide +kernel
theorem dL_law_1822 : decode cL_law 1822 = .ok (.iadd, 1) := by decide +kernel
theorem dL_law_1823 : decode cL_law 1823 = .ok (.iaload, 1) := by decide +kernel
theorem dL_law_1824 : decode cL_law 1824 = .ok (.aload_n 3, 1) := by decide +kernel
theorem dL_law_1825 : decode cL_law 1825 = .ok (.invokestatic 260, 3) := by decide +kernel
theorem dL_law_1828 : decode cL_law 1828 = .ok (.istore 6, 2) := by decide +kernel
theorem dL_law_1830 : decode cL_law 1830 = .ok (.aload_n 2, 1) := by decide +kernel
theorem dL_law_1831 : decode cL_law 1831 = .ok (.aload_n 0, 1) := by decide +kernel
theorem dL_law_1832 : decode cL_law 1832 = .ok (.iload 5, 2) := by decide +kernel
theorem dL_law_1834 : decode cL_law 1834 = .ok (.iconst 1, 1) := by decide +kernel
theorem dL_law_1835 : decode cL_law 1835 = .ok (.iadd, 1) := by decide +kernel
theorem dL_law_1836 : decode cL_law 1836 = .ok (.iaload, 1) := by decide +kernel
theorem dL_law_1837 : decode cL_law 1837 = .ok (.aload_n 0, 1) := by decide +kernel
theorem dL_law_1838 : decode cL_law 1838 = .ok (.iload 5, 2) := by decide +kernel
theorem dL_law_1840 : decode cL_law 1840 = .ok (.iconst 2, 1) := by decide +kernel
theorem dL_law_1841 : decode cL_law 1841 = .ok (.iadd, 1) := by decide +kernel
theorem dL_law_1842 : decode cL_law 1842 = .ok (.iaload, 1) := by decide +kernel
theorem dL_law_1843 : decode cL_law 1843 = .ok (.invokevirtual 262, 3) := by decide +kernel
theorem dL_law_1846 : decode cL_law 1846 = .ok (.istore 7, 2) := by decide +kernel
theorem dL_law_1848 : decode cL_law 1848 = .ok (.aload_n 2, 1) := by decide +kernel
theorem dL_law_1849 : decode cL_law 1849 = .ok (.invokevirtual 168, 3) := by decide +kernel
theorem dL_law_1852 : decode cL_law 1852 = .ok (.iload 6, 2) := by decide +kernel
theorem dL_law_1854 : decode cL_law 1854 = .ok (.if_icmp .eq 5, 3) := by decide +kernel
theorem dL_law_1857 : decode cL_law 1857 = .ok (.iconst 0, 1) := by decide +kernel
theorem dL_law_1858 : decode cL_law 1858 = .ok (.ireturn, 1) := by decide +kernel
theorem dL_law_1859 : decode cL_law 1859 = .ok (.iload 6, 2) := by decide +kernel
theorem dL_law_1861 : decode cL_law 1861 = .ok (.ifCond .ne 15, 3) := by decide +kernel
theorem dL_law_1864 : decode cL_law 1864 = .ok (.aload_n 3, 1) := by decide +kernel
theorem dL_law_1865 : decode cL_law 1865 = .ok (.iconst 0, 1) := by decide +kernel
theorem dL_law_1866 : decode cL_law 1866 = .ok (.laload, 1) := by decide +kernel
theorem dL_law_1867 : decode cL_law 1867 = .ok (.iload 7, 2) := by decide +kernel
theorem dL_law_1869 : decode cL_law 1869 = .ok (.i2l, 1) := by decide +kernel
theorem dL_law_1870 : decode cL_law 1870 = .ok (.lcmp, 1) := by decide +kernel
theorem dL_law_1871 : decode cL_law 1871 = .ok (.ifCond .eq 5, 3) := by decide +kernel
theorem dL_law_1874 : decode cL_law 1874 = .ok (.iconst 0, 1) := by decide +kernel
theorem dL_law_1875 : decode cL_law 1875 = .ok (.ireturn, 1) := by decide +kernel
theorem dL_law_1876 : decode cL_law 1876 = .ok (.goto 1485, 3) := by decide +kernel
theorem dL_law_1879 : decode cL_law 1879 = .ok (.aload_n 1, 1) := by decide +kernel
theorem dL_law_1880 : decode cL_law 1880 = .ok (.aload_n 0, 1) := by decide +kernel
theorem dL_law_1881 : decode cL_law 1881 = .ok (.iload 5, 2) := by decide +kernel
theorem dL_law_1883 : decode cL_law 1883 = .ok (.iconst 1, 1) := by decide +kernel
theorem dL_law_1884 : decode cL_law 1884 = .ok (.iadd, 1) := by decide +kernel
theorem dL_law_1885 : decode cL_law 1885 = .ok (.iaload, 1) := by decide +kernel
theorem dL_law_1886 : decode cL_law 1886 = .ok (.aload_n 3, 1) := by decide +kernel
theorem dL_law_1887 : decode cL_law 1887 = .ok (.invokestatic 263, 3) := by decide +kernel
theorem dL_law_1890 : decode cL_law 1890 = .ok (.istore 6, 2) := by decide +kernel
theorem dL_law_1892 : decode cL_law 1892 = .ok (.aload_n 2, 1) := by decide +kernel
theorem dL_law_1893 : decode cL_law 1893 = .ok (.aload_n 0, 1) := by decide +kernel
theorem dL_law_1894 : decode cL_law 1894 = .ok (.iload 5, 2) := by decide +kernel
theorem dL_law_1896 : decode cL_law 1896 = .ok (.iconst 1, 1) := by decide +kernel
theorem dL_law_1897 : decode cL_law 1897 = .ok (.iadd, 1) := by decide +kernel
theorem dL_law_1898 : decode cL_law 1898 = .ok (.iaload, 1) := by decide +kernel
theorem dL_law_1899 : decode cL_law 1899 = .ok (.invokevirtual 265, 3) := by decide +kernel
theorem dL_law_1902 : decode cL_law 1902 = .ok (.istore 7, 2) := by decide +kernel
theorem dL_law_1904 : decode cL_law 1904 = .ok (.aload_n 2, 1) := by decide +kernel
theorem dL_law_1905 : decode cL_law 1905 = .ok (.invokevirtual 168, 3) := by decide +kernel
theorem dL_law_1908 : decode cL_law 1908 = .ok (.iload 6, 2) := by decide +kernel
theorem dL_law_1910 : decode cL_law 1910 = .ok (.if_icmp .eq 5, 3) := by decide +kernel
theorem dL_law_1913 : decode cL_law 1913 = .ok (.iconst 0, 1) := by decide +kernel
theorem dL_law_1914 : decode cL_law 1914 = .ok (.ireturn, 1) := by decide +kernel
theorem dL_law_1915 : decode cL_law 1915 = .ok (.iload 6, 2) := by decide +kernel
theorem dL_law_1917 : decode cL_law 1917 = .ok (.ifCond .ne 15, 3) := by decide +kernel
theorem dL_law_1920 : decode cL_law 1920 = .ok (.aload_n 3, 1) := by decide +kernel
theorem dL_law_1921 : decode cL_law 1921 = .ok (.iconst 0, 1) := by decide +kernel
theorem dL_law_1922 : decode cL_law 1922 = .ok (.laload, 1) := by decide +kernel
theorem dL_law_1923 : decode cL_law 1923 = .ok (.iload 7, 2) := by decide +kernel
theorem dL_law_1925 : decode cL_law 1925 = .ok (.i2l, 1) := by decide +kernel
theorem dL_law_1926 : decode cL_law 1926 = .ok (.lcmp, 1) := by decide +kernel
theorem dL_law_1927 : decode cL_law 1927 = .ok (.ifCond .eq 5, 3) := by decide +kernel
theorem dL_law_1930 : decode cL_law 1930 = .ok (.iconst 0, 1) := by decide +kernel
theorem dL_law_1931 : decode cL_law 1931 = .ok (.ireturn, 1) := by decide +kernel
theorem dL_law_1932 : decode cL_law 1932 = .ok (.goto 1429, 3) := by decide +kernel
theorem dL_law_1935 : decode cL_law 1935 = .ok (.aload_n 1, 1) := by decide +kernel
theorem dL_law_1936 : decode cL_law 1936 = .ok (.aload_n 0, 1) := by decide +kernel
theorem dL_law_1937 : decode cL_law 1937 = .ok (.iload 5, 2) := by decide +kernel
theorem dL_law_1939 : decode cL_law 1939 = .ok (.iconst 1, 1) := by decide +kernel
theorem dL_law_1940 : decode cL_law 1940 = .ok (.iadd, 1) := by decide +kernel
theorem dL_law_1941 : decode cL_law 1941 = .ok (.iaload, 1) := by decide +kernel
theorem dL_law_1942 : decode cL_law 1942 = .ok (.aload_n 0, 1) := by decide +kernel
theorem dL_law_1943 : decode cL_law 1943 = .ok (.iload 5, 2) := by decide +kernel
theorem dL_law_1945 : decode cL_law 1945 = .ok (.iconst 2, 1) := by decide +kernel
theorem dL_law_1946 : decode cL_law 1946 = .ok (.iadd, 1) := by decide +kernel
theorem dL_law_1947 : decode cL_law 1947 = .ok (.iaload, 1) := by decide +kernel
theorem dL_law_1948 : decode cL_law 1948 = .ok (.aload_n 0, 1) := by decide +kernel
theorem dL_law_1949 : decode cL_law 1949 = .ok (.iload 5, 2) := by decide +kernel
theorem dL_law_1951 : decode cL_law 1951 = .ok (.iconst 3, 1) := by decide +kernel
theorem dL_law_1952 : decode cL_law 1952 = .ok (.iadd, 1) := by decide +kernel
theorem dL_law_1953 : decode cL_law 1953 = .ok (.iaload, 1) := by decide +kernel
theorem dL_law_1954 : decode cL_law 1954 = .ok (.ifCond .eq 7, 3) := by decide +kernel
theorem dL_law_1957 : decode cL_law 1957 = .ok (.iconst 1, 1) := by decide +kernel
theorem dL_law_1958 : decode cL_law 1958 = .ok (.goto 4, 3) := by decide +kernel
theorem dL_law_1961 : decode cL_law 1961 = .ok (.iconst 0, 1) := by decide +kernel
theorem dL_law_1962 : decode cL_law 1962 = .ok (.aload_n 3, 1) := by decide +kernel
theorem dL_law_1963 : decode cL_law 1963 = .ok (.invokestatic 266, 3) := by decide +kernel
theorem dL_law_1966 : decode cL_law 1966 = .ok (.istore 6, 2) := by decide +kernel
theorem dL_law_1968 : decode cL_law 1968 = .ok (.aload_n 2, 1) := by decide +kernel
theorem dL_law_1969 : decode cL_law 1969 = .ok (.aload_n 0, 1) := by decide +kernel
theorem dL_law_1970 : decode cL_law 1970 = .ok (.iload 5, 2) := by decide +kernel
theorem dL_law_1972 : decode cL_law 1972 = .ok (.iconst 1, 1) := by decide +kernel
theorem dL_law_1973 : decode cL_law 1973 = .ok (.iadd, 1) := by decide +kernel
theorem dL_law_1974 : decode cL_law 1974 = .ok (.iaload, 1) := by decide +kernel
theorem dL_law_1975 : decode cL_law 1975 = .ok (.aload_n 0, 1) := by decide +kernel
theorem dL_law_1976 : decode cL_law 1976 = .ok (.iload 5, 2) := by decide +kernel
theorem dL_law_1978 : decode cL_law 1978 = .ok (.iconst 2, 1) := by decide +kernel
theorem dL_law_1979 : decode cL_law 1979 = .ok (.iadd, 1) := by decide +kernel
theorem dL_law_1980 : decode cL_law 1980 = .ok (.iaload, 1) := by decide +kernel
theorem dL_law_1981 : decode cL_law 1981 = .ok (.aload_n 0, 1) := by decide +kernel
theorem dL_law_1982 : decode cL_law 1982 = .ok (.iload 5, 2) := by decide +kernel
theorem dL_law_1984 : decode cL_law 1984 = .ok (.iconst 3, 1) := by decide +kernel
theorem dL_law_1985 : decode cL_law 1985 = .ok (.iadd, 1) := by decide +kernel
theorem dL_law_1986 : decode cL_law 1986 = .ok (.iaload, 1) := by decide +kernel
theorem dL_law_1987 : decode cL_law 1987 = .ok (.ifCond .eq 7, 3) := by decide +kernel
theorem dL_law_1990 : decode cL_law 1990 = .ok (.iconst 1, 1) := by decide +kernel
theorem dL_law_1991 : decode cL_law 1991 = .ok (.goto 4, 3) := by decide +kernel
theorem dL_law_1994 : decode cL_law 1994 = .ok (.iconst 0, 1) := by decide +kernel
theorem dL_law_1995 : decode cL_law 1995 = .ok (.invokevirtual 268, 3) := by decide +kernel
theorem dL_law_1998 : decode cL_law 1998 = .ok (.istore 7, 2) := by decide +kernel
theorem dL_law_2000 : decode cL_law 2000 = .ok (.aload_n 2, 1) := by decide +kernel
theorem dL_law_2001 : decode cL_law 2001 = .ok (.invokevirtual 168, 3) := by decide +kernel
theorem dL_law_2004 : decode cL_law 2004 = .ok (.iload 6, 2) := by decide +kernel
theorem dL_law_2006 : decode cL_law 2006 = .ok (.if_icmp .eq 5, 3) := by decide +kernel
theorem dL_law_2009 : decode cL_law 2009 = .ok (.iconst 0, 1) := by decide +kernel
theorem dL_law_2010 : decode cL_law 2010 = .ok (.ireturn, 1) := by decide +kernel
theorem dL_law_2011 : decode cL_law 2011 = .ok (.iload 6, 2) := by decide +kernel
theorem dL_law_2013 : decode cL_law 2013 = .ok (.ifCond .ne 22, 3) := by decide +kernel
theorem dL_law_2016 : decode cL_law 2016 = .ok (.aload_n 3, 1) := by decide +kernel
theorem dL_law_2017 : decode cL_law 2017 = .ok (.iconst 0, 1) := by decide +kernel
theorem dL_law_2018 : decode cL_law 2018 = .ok (.laload, 1) := by decide +kernel
theorem dL_law_2019 : decode cL_law 2019 = .ok (.iload 7, 2) := by decide +kernel
theorem dL_law_2021 : decode cL_law 2021 = .ok (.ifCond .eq 7, 3) := by decide +kernel
theorem dL_law_2024 : decode cL_law 2024 = .ok (.lconst 1, 1) := by decide +kernel
theorem dL_law_2025 : decode cL_law 2025 = .ok (.goto 4, 3) := by decide +kernel
theorem dL_law_2028 : decode cL_law 2028 = .ok (.lconst 0, 1) := by decide +kernel
theorem dL_law_2029 : decode cL_law 2029 = .ok (.lcmp, 1) := by decide +kernel
theorem dL_law_2030 : decode cL_law 2030 = .ok (.ifCond .eq 5, 3) := by decide +kernel
theorem dL_law_2033 : decode cL_law 2033 = .ok (.iconst 0, 1) := by decide +kernel
theorem dL_law_2034 : decode cL_law 2034 = .ok (.ireturn, 1) := by decide +kernel
theorem dL_law_2035 : decode cL_law 2035 = .ok (.goto 1326, 3) := by decide +kernel
theorem dL_law_2038 : decode cL_law 2038 = .ok (.aload_n 1, 1) := by decide +kernel
theorem dL_law_2039 : decode cL_law 2039 = .ok (.invokevirtual 269, 3) := by decide +kernel
theorem dL_law_2042 : decode cL_law 2042 = .ok (.aload_n 2, 1) := by decide +kernel
theorem dL_law_2043 : decode cL_law 2043 = .ok (.invokevirtual 272, 3) := by decide +kernel
theorem dL_law_2046 : decode cL_law 2046 = .ok (.if_icmp .eq 1315, 3) := by decide +kernel
theorem dL_law_2049 : decode cL_law 2049 = .ok (.iconst 0, 1) := by decide +kernel
theorem dL_law_2050 : decode cL_law 2050 = .ok (.ireturn, 1) := by decide +kernel
theorem dL_law_2051 : decode cL_law 2051 = .ok (.aload_n 1, 1) := by decide +kernel
theorem dL_law_2052 : decode cL_law 2052 = .ok (.aload_n 0, 1) := by decide +kernel
theorem dL_law_2053 : decode cL_law 2053 = .ok (.iload 5, 2) := by decide +kernel
theorem dL_law_2055 : decode cL_law 2055 = .ok (.iconst 1, 1) := by decide +kernel
theorem dL_law_2056 : decode cL_law 2056 = .ok (.iadd, 1) := by decide +kernel
theorem dL_law_2057 : decode cL_law 2057 = .ok (.iaload, 1) := by decide +kernel
theorem dL_law_2058 : decode cL_law 2058 = .ok (.aload_n 3, 1) := by decide +kernel
theorem dL_law_2059 : decode cL_law 2059 = .ok (.invokestatic 273, 3) := by decide +kernel
theorem dL_law_2062 : decode cL_law 2062 = .ok (.istore 6, 2) := by decide +kernel
theorem dL_law_2064 : decode cL_law 2064 = .ok (.aload_n 2, 1) := by decide +kernel
theorem dL_law_2065 : decode cL_law 2065 = .ok (.aload_n 0, 1) := by decide +kernel
theorem dL_law_2066 : decode cL_law 2066 = .ok (.iload 5, 2) := by decide +kernel
theorem dL_law_2068 : decode cL_law 2068 = .ok (.iconst 1, 1) := by decide +kernel
theorem dL_law_2069 : decode cL_law 2069 = .ok (.iadd, 1) := by decide +kernel
theorem dL_law_2070 : decode cL_law 2070 = .ok (.iaload, 1) := by decide +kernel
theorem dL_law_2071 : decode cL_law 2071 = .ok (.invokevirtual 275, 3) := by decide +kernel
theorem dL_law_2074 : decode cL_law 2074 = .ok (.istore 7, 2) := by decide +kernel
theorem dL_law_2076 : decode cL_law 2076 = .ok (.aload_n 2, 1) := by decide +kernel
theorem dL_law_2077 : decode cL_law 2077 = .ok (.invokevirtual 168, 3) := by decide +kernel
theorem dL_law_2080 : decode cL_law 2080 = .ok (.iload 6, 2) := by decide +kernel
theorem dL_law_2082 : decode cL_law 2082 = .ok (.if_icmp .eq 5, 3) := by decide +kernel
theorem dL_law_2085 : decode cL_law 2085 = .ok (.iconst 0, 1) := by decide +kernel
theorem dL_law_2086 : decode cL_law 2086 = .ok (.ireturn, 1) := by decide +kernel
theorem dL_law_2087 : decode cL_law 2087 = .ok (.iload 6, 2) := by decide +kernel
theorem dL_law_2089 : decode cL_law 2089 = .ok (.ifCond .ne 15, 3) := by decide +kernel
theorem dL_law_2092 : decode cL_law 2092 = .ok (.aload_n 3, 1) := by decide +kernel
theorem dL_law_2093 : decode cL_law 2093 = .ok (.iconst 0, 1) := by decide +kernel
theorem dL_law_2094 : decode cL_law 2094 = .ok (.laload, 1) := by decide +kernel
theorem dL_law_2095 : decode cL_law 2095 = .ok (.iload 7, 2) := by decide +kernel
theorem dL_law_2097 : decode cL_law 2097 = .ok (.i2l, 1) := by decide +kernel
theorem dL_law_2098 : decode cL_law 2098 = .ok (.lcmp, 1) := by decide +kernel
theorem dL_law_2099 : decode cL_law 2099 = .ok (.ifCond .eq 5, 3) := by decide +kernel
theorem dL_law_2102 : decode cL_law 2102 = .ok (.iconst 0, 1) := by decide +kernel
theorem dL_law_2103 : decode cL_law 2103 = .ok (.ireturn, 1) := by decide +kernel
theorem dL_law_2104 : decode cL_law 2104 = .ok (.goto 1257, 3) := by decide +kernel
theorem dL_law_2107 : decode cL_law 2107 = .ok (.aload_n 1, 1) := by decide +kernel
theorem dL_law_2108 : decode cL_law 2108 = .ok (.invokevirtual 276, 3) := by decide +kernel
theorem dL_law_2111 : decode cL_law 2111 = .ok (.aload_n 2, 1) := by decide +kernel
theorem dL_law_2112 : decode cL_law 2112 = .ok (.invokevirtual 279, 3) := by decide +kernel
theorem dL_law_2115 : decode cL_law 2115 = .ok (.if_icmp .eq 1246, 3) := by decide +kernel
theorem dL_law_2118 : decode cL_law 2118 = .ok (.iconst 0, 1) := by decide +kernel
theorem dL_law_2119 : decode cL_law 2119 = .ok (.ireturn, 1) := by decide +kernel
theorem dL_law_2120 : decode cL_law 2120 = .ok (.aload_n 1, 1) := by decide +kernel
theorem dL_law_2121 : decode cL_law 2121 = .ok (.aload_n 0, 1) := by decide +kernel
theorem dL_law_2122 : decode cL_law 2122 = .ok (.iload 5, 2) := by decide +kernel
theorem dL_law_2124 : decode cL_law 2124 = .ok (.iconst 1, 1) := by decide +kernel
theorem dL_law_2125 : decode cL_law 2125 = .ok (.iadd, 1) := by decide +kernel
theorem dL_law_2126 : decode cL_law 2126 = .ok (.iaload, 1) := by decide +kernel
theorem dL_law_2127 : decode cL_law 2127 = .ok (.aload_n 0, 1) := by decide +kernel
theorem dL_law_2128 : decode cL_law 2128 = .ok (.iload 5, 2) := by decide +kernel
theorem dL_law_2130 : decode cL_law 2130 = .ok (.iconst 2, 1) := by decide +kernel
theorem dL_law_2131 : decode cL_law 2131 = .ok (.iadd, 1) := by decide +kernel
theorem dL_law_2132 : decode cL_law 2132 = .ok (.iaload, 1) := by decide +kernel
theorem dL_law_2133 : decode cL_law 2133 = .ok (.aload_n 0, 1) := by decide +kernel
theorem dL_law_2134 : decode cL_law 2134 = .ok (.iload 5, 2) := by decide +kernel
theorem dL_law_2136 : decode cL_law 2136 = .ok (.iconst 3, 1) := by decide +kernel
theorem dL_law_2137 : decode cL_law 2137 = .ok (.iadd, 1) := by decide +kernel
theorem dL_law_2138 : decode cL_law 2138 = .ok (.iaload, 1) := by decide +kernel
theorem dL_law_2139 : decode cL_law 2139 = .ok (.aload_n 0, 1) := by decide +kernel
theorem dL_law_2140 : decode cL_law 2140 = .ok (.iload 5, 2) := by decide +kernel
theorem dL_law_2142 : decode cL_law 2142 = .ok (.iconst 4, 1) := by decide +kernel
theorem dL_law_2143 : decode cL_law 2143 = .ok (.iadd, 1) := by decide +kernel
theorem dL_law_2144 : decode cL_law 2144 = .ok (.iaload, 1) := by decide +kernel
theorem dL_law_2145 : decode cL_law 2145 = .ok (.aload_n 3, 1) := by decide +kernel
theorem dL_law_2146 : decode cL_law 2146 = .ok (.invokestatic 280, 3) := by decide +kernel
theorem dL_law_2149 : decode cL_law 2149 = .ok (.istore 6, 2) := by decide +kernel
theorem dL_law_2151 : decode cL_law 2151 = .ok (.aload_n 2, 1) := by decide +kernel
theorem dL_law_2152 : decode cL_law 2152 = .ok (.aload_n 0, 1) := by decide +kernel
theorem dL_law_2153 : decode cL_law 2153 = .ok (.iload 5, 2) := by decide +kernel
theorem dL_law_2155 : decode cL_law 2155 = .ok (.iconst 1, 1) := by decide +kernel
theorem dL_law_2156 : decode cL_law 2156 = .ok (.iadd, 1) := by decide +kernel
theorem dL_law_2157 : decode cL_law 2157 = .ok (.iaload, 1) := by decide +kernel
theorem dL_law_2158 : decode cL_law 2158 = .ok (.aload_n 0, 1) := by decide +kernel
theorem dL_law_2159 : decode cL_law 2159 = .ok (.iload 5, 2) := by decide +kernel
theorem dL_law_2161 : decode cL_law 2161 = .ok (.iconst 2, 1) := by decide +kernel
theorem dL_law_2162 : decode cL_law 2162 = .ok (.iadd, 1) := by decide +kernel
theorem dL_law_2163 : decode cL_law 2163 = .ok (.iaload, 1) := by decide +kernel
theorem dL_law_2164 : decode cL_law 2164 = .ok (.aload_n 0, 1) := by decide +kernel
theorem dL_law_2165 : decode cL_law 2165 = .ok (.iload 5, 2) := by decide +kernel
theorem dL_law_2167 : decode cL_law 2167 = .ok (.iconst 3, 1) := by decide +kernel
theorem dL_law_2168 : decode cL_law 2168 = .ok (.iadd, 1) := by decide +kernel
theorem dL_law_2169 : decode cL_law 2169 = .ok (.iaload, 1) := by decide +kernel
theorem dL_law_2170 : decode cL_law 2170 = .ok (.aload_n 0, 1) := by decide +kernel
theorem dL_law_2171 : decode cL_law 2171 = .ok (.iload 5, 2) := by decide +kernel
theorem dL_law_2173 : decode cL_law 2173 = .ok (.iconst 4, 1) := by decide +kernel
theorem dL_law_2174 : decode cL_law 2174 = .ok (.iadd, 1) := by decide +kernel
theorem dL_law_2175 : decode cL_law 2175 = .ok (.iaload, 1) := by decide +kernel
theorem dL_law_2176 : decode cL_law 2176 = .ok (.invokevirtual 282, 3) := by decide +kernel
theorem dL_law_2179 : decode cL_law 2179 = .ok (.istore 7, 2) := by decide +kernel
theorem dL_law_2181 : decode cL_law 2181 = .ok (.aload_n 2, 1) := by decide +kernel
theorem dL_law_2182 : decode cL_law 2182 = .ok (.invokevirtual 168, 3) := by decide +kernel
theorem dL_law_2185 : decode cL_law 2185 = .ok (.iload 6, 2) := by decide +kernel
theorem dL_law_2187 : decode cL_law 2187 = .ok (.if_icmp .eq 5, 3) := by decide +kernel
theorem dL_law_2190 : decode cL_law 2190 = .ok (.iconst 0, 1) := by decide +kernel
theorem dL_law_2191 : decode cL_law 2191 = .ok (.ireturn, 1) := by decide +kernel
theorem dL_law_2192 : decode cL_law 2192 = .ok (.iload 6, 2) := by decide +kernel
theorem dL_law_2194 : decode cL_law 2194 = .ok (.ifCond .ne 15, 3) := by decide +kernel
theorem dL_law_2197 : decode cL_law 2197 = .ok (.aload_n 3, 1) := by decide +kernel
theorem dL_law_2198 : decode cL_law 2198 = .ok (.iconst 0, 1) := by decide +kernel
theorem dL_law_2199 : decode cL_law 2199 = .ok (.laload, 1) := by decide +kernel
theorem dL_law_2200 : decode cL_law 2200 = .ok (.iload 7, 2) := by decide +kernel
theorem dL_law_2202 : decode cL_law 2202 = .ok (.i2l, 1) := by decide +kernel
theorem dL_law_2203 : decode cL_law 2203 = .ok (.lcmp, 1) := by decide +kernel
theorem dL_law_2204 : decode cL_law 2204 = .ok (.ifCond .eq 5, 3) := by decide +kernel
theorem dL_law_2207 : decode cL_law 2207 = .ok (.iconst 0, 1) := by decide +kernel
theorem dL_law_2208 : decode cL_law 2208 = .ok (.ireturn, 1) := by decide +kernel
theorem dL_law_2209 : decode cL_law 2209 = .ok (.goto 1152, 3) := by decide +kernel
theorem dL_law_2212 : decode cL_law 2212 = .ok (.aload_n 1, 1) := by decide +kernel
theorem dL_law_2213 : decode cL_law 2213 = .ok (.aload_n 0, 1) := by decide +kernel
theorem dL_law_2214 : decode cL_law 2214 = .ok (.iload 5, 2) := by decide +kernel
theorem dL_law_2216 : decode cL_law 2216 = .ok (.iconst 1, 1) := by decide +kernel
theorem dL_law_2217 : decode cL_law 2217 = .ok (.iadd, 1) := by decide +kernel
theorem dL_law_2218 : decode cL_law 2218 = .ok (.iaload, 1) := by decide +kernel
theorem dL_law_2219 : decode cL_law 2219 = .ok (.aload_n 0, 1) := by decide +kernel
theorem dL_law_2220 : decode cL_law 2220 = .ok (.iload 5, 2) := by decide +kernel
theorem dL_law_2222 : decode cL_law 2222 = .ok (.iconst 2, 1) := by decide +kernel
theorem dL_law_2223 : decode cL_law 2223 = .ok (.iadd, 1) := by decide +kernel
theorem dL_law_2224 : decode cL_law 2224 = .ok (.iaload, 1) := by decide +kernel
theorem dL_law_2225 : decode cL_law 2225 = .ok (.ifCond .eq 7, 3) := by decide +kernel
theorem dL_law_2228 : decode cL_law 2228 = .ok (.iconst 1, 1) := by decide +kernel
theorem dL_law_2229 : decode cL_law 2229 = .ok (.goto 4, 3) := by decide +kernel
theorem dL_law_2232 : decode cL_law 2232 = .ok (.iconst 0, 1) := by decide +kernel
theorem dL_law_2233 : decode cL_law 2233 = .ok (.aload_n 3, 1) := by decide +kernel
theorem dL_law_2234 : decode cL_law 2234 = .ok (.invokestatic 283, 3) := by decide +kernel
theorem dL_law_2237 : decode cL_law 2237 = .ok (.istore 6, 2) := by decide +kernel
theorem dL_law_2239 : decode cL_law 2239 = .ok (.aload_n 2, 1) := by decide +kernel
theorem dL_law_2240 : decode cL_law 2240 = .ok (.aload_n 0, 1) := by decide +kernel
theorem dL_law_2241 : decode cL_law 2241 = .ok (.iload 5, 2) := by decide +kernel
theorem dL_law_2243 : decode cL_law 2243 = .ok (.iconst 1, 1) := by decide +kernel
theorem dL_law_2244 : decode cL_law 2244 = .ok (.iadd, 1) := by decide +kernel
theorem dL_law_2245 : decode cL_law 2245 = .ok (.iaload, 1) := by decide +kernel
theorem dL_law_2246 : decode cL_law 2246 = .ok (.aload_n 0, 1) := by decide +kernel
theorem dL_law_2247 : decode cL_law 2247 = .ok (.iload 5, 2) := by decide +kernel
theorem dL_law_2249 : decode cL_law 2249 = .ok (.iconst 2, 1) := by decide +kernel
theorem dL_law_2250 : decode cL_law 2250 = .ok (.iadd, 1) := by decide +kernel
theorem dL_law_2251 : decode cL_law 2251 = .ok (.iaload, 1) := by decide +kernel
theorem dL_law_2252 : decode cL_law 2252 = .ok (.ifCond .eq 7, 3) := by decide +kernel
theorem dL_law_2255 : decode cL_law 2255 = .ok (.iconst 1, 1) := by decide +kernel
theorem dL_law_2256 : decode cL_law 2256 = .ok (.goto 4, 3) := by decide +kernel
theorem dL_law_2259 : decode cL_law 2259 = .ok (.iconst 0, 1) := by decide +kernel
theorem dL_law_2260 : decode cL_law 2260 = .ok (.invokevirtual 285, 3) := by decide +kernel
theorem dL_law_2263 : decode cL_law 2263 = .ok (.istore 7, 2) := by decide +kernel
theorem dL_law_2265 : decode cL_law 2265 = .ok (.aload_n 2, 1) := by decide +kernel
theorem dL_law_2266 : decode cL_law 2266 = .ok (.invokevirtual 168, 3) := by decide +kernel
theorem dL_law_2269 : decode cL_law 2269 = .ok (.iload 6, 2) := by decide +kernel
theorem dL_law_2271 : decode cL_law 2271 = .ok (.if_icmp .eq 5, 3) := by decide +kernel
theorem dL_law_2274 : decode cL_law 2274 = .ok (.iconst 0, 1) := by decide +kernel
theorem dL_law_2275 : decode cL_law 2275 = .ok (.ireturn, 1) := by decide +kernel
theorem dL_law_2276 : decode cL_law 2276 = .ok (.iload 6, 2) := by decide +kernel
theorem dL_law_2278 : decode cL_law 2278 = .ok (.ifCond .ne 15, 3) := by decide +kernel
theorem dL_law_2281 : decode cL_law 2281 = .ok (.aload_n 3, 1) := by decide +kernel
theorem dL_law_2282 : decode cL_law 2282 = .ok (.iconst 0, 1) := by decide +kernel
theorem dL_law_2283 : decode cL_law 2283 = .ok (.laload, 1) := by decide +kernel
theorem dL_law_2284 : decode cL_law 2284 = .ok (.iload 7, 2) := by decide +kernel
theorem dL_law_2286 : decode cL_law 2286 = .ok (.i2l, 1) := by decide +kernel
theorem dL_law_2287 : decode cL_law 2287 = .ok (.lcmp, 1) := by decide +kernel
theorem dL_law_2288 : decode cL_law 2288 = .ok (.ifCond .eq 5, 3) := by decide +kernel
theorem dL_law_2291 : decode cL_law 2291 = .ok (.iconst 0, 1) := by decide +kernel
theorem dL_law_2292 : decode cL_law 2292 = .ok (.ireturn, 1) := by decide +kernel
theorem dL_law_2293 : decode cL_law 2293 = .ok (.goto 1068, 3) := by decide +kernel
theorem dL_law_2296 : decode cL_law 2296 = .ok (.aload_n 1, 1) := by decide +kernel
theorem dL_law_2297 : decode cL_law 2297 = .ok (.aload_n 0, 1) := by decide +kernel
theorem dL_law_2298 : decode cL_law 2298 = .ok (.iload 5, 2) := by decide +kernel
theorem dL_law_2300 : decode cL_law 2300 = .ok (.iconst 1, 1) := by decide +kernel
theorem dL_law_2301 : decode cL_law 2301 = .ok (.iadd, 1) := by decide +kernel
theorem dL_law_2302 : decode cL_law 2302 = .ok (.iaload, 1) := by decide +kernel
theorem dL_law_2303 : decode cL_law 2303 = .ok (.aload_n 0, 1) := by decide +kernel
theorem dL_law_2304 : decode cL_law 2304 = .ok (.iload 5, 2) := by decide +kernel
theorem dL_law_2306 : decode cL_law 2306 = .ok (.iconst 2, 1) := by decide +kernel
theorem dL_law_2307 : decode cL_law 2307 = .ok (.iadd, 1) := by decide +kernel
theorem dL_law_2308 : decode cL_law 2308 = .ok (.iaload, 1) := by decide +kernel
theorem dL_law_2309 : decode cL_law 2309 = .ok (.aload_n 3, 1) := by decide +kernel
theorem dL_law_2310 : decode cL_law 2310 = .ok (.invokestatic 286, 3) := by decide +kernel
theorem dL_law_2313 : decode cL_law 2313 = .ok (.istore 6, 2) := by decide +kernel
theorem dL_law_2315 : decode cL_law 2315 = .ok (.aload_n 2, 1) := by decide +kernel
theorem dL_law_2316 : decode cL_law 2316 = .ok (.aload_n 0, 1) := by decide +kernel
theorem dL_law_2317 : decode cL_law 2317 = .ok (.iload 5, 2) := by decide +kernel
theorem dL_law_2319 : decode cL_law 2319 = .ok (.iconst 1, 1) := by decide +kernel
theorem dL_law_2320 : decode cL_law 2320 = .ok (.iadd, 1) := by decide +kernel
theorem dL_law_2321 : decode cL_law 2321 = .ok (.iaload, 1) := by decide +kernel
theorem dL_law_2322 : decode cL_law 2322 = .ok (.aload_n 0, 1) := by decide +kernel
theorem dL_law_2323 : decode cL_law 2323 = .ok (.iload 5, 2) := by decide +kernel
theorem dL_law_2325 : decode cL_law 2325 = .ok (.iconst 2, 1) := by decide +kernel
theorem dL_law_2326 : decode cL_law 2326 = .ok (.iadd, 1) := by decide +kernel
theorem dL_law_2327 : decode cL_law 2327 = .ok (.iaload, 1) := by decide +kernel
theorem dL_law_2328 : decode cL_law 2328 = .ok (.invokevirtual 288, 3) := by decide +kernel
theorem dL_law_2331 : decode cL_law 2331 = .ok (.istore 7, 2) := by decide +kernel
theorem dL_law_2333 : decode cL_law 2333 = .ok (.aload_n 2, 1) := by decide +kernel
theorem dL_law_2334 : decode cL_law 2334 = .ok (.invokevirtual 168, 3) := by decide +kernel
theorem dL_law_2337 : decode cL_law 2337 = .ok (.iload 6, 2) := by decide +kernel
theorem dL_law_2339 : decode cL_law 2339 = .ok (.if_icmp .eq 5, 3) := by decide +kernel
theorem dL_law_2342 : decode cL_law 2342 = .ok (.iconst 0, 1) := by decide +kernel
theorem dL_law_2343 : decode cL_law 2343 = .ok (.ireturn, 1) := by decide +kernel
theorem dL_law_2344 : decode cL_law 2344 = .ok (.iload 6, 2) := by decide +kernel
theorem dL_law_2346 : decode cL_law 2346 = .ok (.ifCond .ne 15, 3) := by decide +kernel
theorem dL_law_2349 : decode cL_law 2349 = .ok (.aload_n 3, 1) := by decide +kernel
theorem dL_law_2350 : decode cL_law 2350 = .ok (.iconst 0, 1) := by decide +kernel
theorem dL_law_2351 : decode cL_law 2351 = .ok (.laload, 1) := by decide +kernel
theorem dL_law_2352 : decode cL_law 2352 = .ok (.iload 7, 2) := by decide +kernel
theorem dL_law_2354 : decode cL_law 2354 = .ok (.i2l, 1) := by decide +kernel
theorem dL_law_2355 : decode cL_law 2355 = .ok (.lcmp, 1) := by decide +kernel
theorem dL_law_2356 : decode cL_law 2356 = .ok (.ifCond .eq 5, 3) := by decide +kernel
theorem dL_law_2359 : decode cL_law 2359 = .ok (.iconst 0, 1) := by decide +kernel
theorem dL_law_2360 : decode cL_law 2360 = .ok (.ireturn, 1) := by decide +kernel
theorem dL_law_2361 : decode cL_law 2361 = .ok (.goto 1000, 3) := by decide +kernel
theorem dL_law_2364 : decode cL_law 2364 = .ok (.aload_n 1, 1) := by decide +kernel
theorem dL_law_2365 : decode cL_law 2365 = .ok (.aload_n 0, 1) := by decide +kernel
theorem dL_law_2366 : decode cL_law 2366 = .ok (.iload 5, 2) := by decide +kernel
theorem dL_law_2368 : decode cL_law 2368 = .ok (.iconst 1, 1) := by decide +kernel
theorem dL_law_2369 : decode cL_law 2369 = .ok (.iadd, 1) := by decide +kernel
theorem dL_law_2370 : decode cL_law 2370 = .ok (.iaload, 1) := by decide +kernel
theorem dL_law_2371 : decode cL_law 2371 = .ok (.aload_n 3, 1) := by decide +kernel
theorem dL_law_2372 : decode cL_law 2372 = .ok (.invokestatic 289, 3) := by decide +kernel
theorem dL_law_2375 : decode cL_law 2375 = .ok (.istore 6, 2) := by decide +kernel
theorem dL_law_2377 : decode cL_law 2377 = .ok (.aload_n 2, 1) := by decide +kernel
theorem dL_law_2378 : decode cL_law 2378 = .ok (.aload_n 0, 1) := by decide +kernel
theorem dL_law_2379 : decode cL_law 2379 = .ok (.iload 5, 2) := by decide +kernel
theorem dL_law_2381 : decode cL_law 2381 = .ok (.iconst 1, 1) := by decide +kernel
theorem dL_law_2382 : decode cL_law 2382 = .ok (.iadd, 1) := by decide +kernel
theorem dL_law_2383 : decode cL_law 2383 = .ok (.iaload, 1) := by decide +kernel
theorem dL_law_2384 : decode cL_law 2384 = .ok (.invokevirtual 291, 3) := by decide +kernel
theorem dL_law_2387 : decode cL_law 2387 = .ok (.istore 7, 2) := by decide +kernel
theorem dL_law_2389 : decode cL_law 2389 = .ok (.aload_n 2, 1) := by decide +kernel
theorem dL_law_2390 : decode cL_law 2390 = .ok (.invokevirtual 168, 3) := by decide +kernel
theorem dL_law_2393 : decode cL_law 2393 = .ok (.iload 6, 2) := by decide +kernel
theorem dL_law_2395 : decode cL_law 2395 = .ok (.if_icmp .eq 5, 3) := by decide +kernel
theorem dL_law_2398 : decode cL_law 2398 = .ok (.iconst 0, 1) := by decide +kernel
theorem dL_law_2399 : decode cL_law 2399 = .ok (.ireturn, 1) := by decide +kernel
theorem dL_law_2400 : decode cL_law 2400 = .ok (.iload 6, 2) := by decide +kernel
theorem dL_law_2402 : decode cL_law 2402 = .ok (.ifCond .ne 15, 3) := by decide +kernel
theorem dL_law_2405 : decode cL_law 2405 = .ok (.aload_n 3, 1) := by decide +kernel
theorem dL_law_2406 : decode cL_law 2406 = .ok (.iconst 0, 1) := by decide +kernel
theorem dL_law_2407 : decode cL_law 2407 = .ok (.laload, 1) := by decide +kernel
theorem dL_law_2408 : decode cL_law 2408 = .ok (.iload 7, 2) := by decide +kernel
theorem dL_law_2410 : decode cL_law 2410 = .ok (.i2l, 1) := by decide +kernel
theorem dL_law_2411 : decode cL_law 2411 = .ok (.lcmp, 1) := by decide +kernel
theorem dL_law_2412 : decode cL_law 2412 = .ok (.ifCond .eq 5, 3) := by decide +kernel
theorem dL_law_2415 : decode cL_law 2415 = .ok (.iconst 0, 1) := by decide +kernel
theorem dL_law_2416 : decode cL_law 2416 = .ok (.ireturn, 1) := by decide +kernel
theorem dL_law_2417 : decode cL_law 2417 = .ok (.goto 944, 3) := by decide +kernel
theorem dL_law_2420 : decode cL_law 2420 = .ok (.aload_n 1, 1) := by decide +kernel
theorem dL_law_2421 : decode cL_law 2421 = .ok (.aload_n 0, 1) := by decide +kernel
theorem dL_law_2422 : decode cL_law 2422 = .ok (.iload 5, 2) := by decide +kernel
theorem dL_law_2424 : decode cL_law 2424 = .ok (.iconst 1, 1) := by decide +kernel
theorem dL_law_2425 : decode cL_law 2425 = .ok (.iadd, 1) := by decide +kernel
theorem dL_law_2426 : decode cL_law 2426 = .ok (.iaload, 1) := by decide +kernel
theorem dL_law_2427 : decode cL_law 2427 = .ok (.aload_n 0, 1) := by decide +kernel
theorem dL_law_2428 : decode cL_law 2428 = .ok (.iload 5, 2) := by decide +kernel
theorem dL_law_2430 : decode cL_law 2430 = .ok (.iconst 2, 1) := by decide +kernel
theorem dL_law_2431 : decode cL_law 2431 = .ok (.iadd, 1) := by decide +kernel
theorem dL_law_2432 : decode cL_law 2432 = .ok (.iaload, 1) := by decide +kernel
theorem dL_law_2433 : decode cL_law 2433 = .ok (.aload_n 3, 1) := by decide +kernel
theorem dL_law_2434 : decode cL_law 2434 = .ok (.invokestatic 292, 3) := by decide +kernel
theorem dL_law_2437 : decode cL_law 2437 = .ok (.istore 6, 2) := by decide +kernel
theorem dL_law_2439 : decode cL_law 2439 = .ok (.aload_n 2, 1) := by decide +kernel
theorem dL_law_2440 : decode cL_law 2440 = .ok (.aload_n 0, 1) := by decide +kernel
theorem dL_law_2441 : decode cL_law 2441 = .ok (.iload 5, 2) := by decide +kernel
theorem dL_law_2443 : decode cL_law 2443 = .ok (.iconst 1, 1) := by decide +kernel
theorem dL_law_2444 : decode cL_law 2444 = .ok (.iadd, 1) := by decide +kernel
theorem dL_law_2445 : decode cL_law 2445 = .ok (.iaload, 1) := by decide +kernel
theorem dL_law_2446 : decode cL_law 2446 = .ok (.aload_n 0, 1) := by decide +kernel
theorem dL_law_2447 : decode cL_law 2447 = .ok (.iload 5, 2) := by decide +kernel
theorem dL_law_2449 : decode cL_law 2449 = .ok (.iconst 2, 1) := by decide +kernel
theorem dL_law_2450 : decode cL_law 2450 = .ok (.iadd, 1) := by decide +kernel
theorem dL_law_2451 : decode cL_law 2451 = .ok (.iaload, 1) := by decide +kernel
theorem dL_law_2452 : decode cL_law 2452 = .ok (.invokevirtual 294, 3) := by decide +kernel
theorem dL_law_2455 : decode cL_law 2455 = .ok (.istore 7, 2) := by decide +kernel
theorem dL_law_2457 : decode cL_law 2457 = .ok (.aload_n 2, 1) := by decide +kernel
theorem dL_law_2458 : decode cL_law 2458 = .ok (.invokevirtual 168, 3) := by decide +kernel
theorem dL_law_2461 : decode cL_law 2461 = .ok (.iload 6, 2) := by decide +kernel
theorem dL_law_2463 : decode cL_law 2463 = .ok (.if_icmp .eq 5, 3) := by decide +kernel
theorem dL_law_2466 : decode cL_law 2466 = .ok (.iconst 0, 1) := by decide +kernel
theorem dL_law_2467 : decode cL_law 2467 = .ok (.ireturn, 1) := by decide +kernel
theorem dL_law_2468 : decode cL_law 2468 = .ok (.iload 6, 2) := by decide +kernel
theorem dL_law_2470 : decode cL_law 2470 = .ok (.ifCond .ne 15, 3) := by decide +kernel
theorem dL_law_2473 : decode cL_law 2473 = .ok (.aload_n 3, 1) := by decide +kernel
theorem dL_law_2474 : decode cL_law 2474 = .ok (.iconst 0, 1) := by decide +kernel
theorem dL_law_2475 : decode cL_law 2475 = .ok (.laload, 1) := by decide +kernel
theorem dL_law_2476 : decode cL_law 2476 = .ok (.iload 7, 2) := by decide +kernel
theorem dL_law_2478 : decode cL_law 2478 = .ok (.i2l, 1) := by decide +kernel
theorem dL_law_2479 : decode cL_law 2479 = .ok (.lcmp, 1) := by decide +kernel
theorem dL_law_2480 : decode cL_law 2480 = .ok (.ifCond .eq 5, 3) := by decide +kernel
theorem dL_law_2483 : decode cL_law 2483 = .ok (.iconst 0, 1) := by decide +kernel
theorem dL_law_2484 : decode cL_law 2484 = .ok (.ireturn, 1) := by decide +kernel
theorem dL_law_2485 : decode cL_law 2485 = .ok (.goto 876, 3) := by decide +kernel
theorem dL_law_2488 : decode cL_law 2488 = .ok (.aload_n 1, 1) := by decide +kernel
theorem dL_law_2489 : decode cL_law 2489 = .ok (.invokevirtual 295, 3) := by decide +kernel
theorem dL_law_2492 : decode cL_law 2492 = .ok (.aload_n 2, 1) := by decide +kernel
theorem dL_law_2493 : decode cL_law 2493 = .ok (.invokevirtual 298, 3) := by decide +kernel
theorem dL_law_2496 : decode cL_law 2496 = .ok (.if_icmp .eq 865, 3) := by decide +kernel
theorem dL_law_2499 : decode cL_law 2499 = .ok (.iconst 0, 1) := by decide +kernel
theorem dL_law_2500 : decode cL_law 2500 = .ok (.ireturn, 1) := by decide +kernel
theorem dL_law_2501 : decode cL_law 2501 = .ok (.aload_n 1, 1) := by decide +kernel
theorem dL_law_2502 : decode cL_law 2502 = .ok (.aload_n 0, 1) := by decide +kernel
theorem dL_law_2503 : decode cL_law 2503 = .ok (.iload 5, 2) := by decide +kernel
theorem dL_law_2505 : decode cL_law 2505 = .ok (.iconst 1, 1) := by decide +kernel
theorem dL_law_2506 : decode cL_law 2506 = .ok (.iadd, 1) := by decide +kernel
theorem dL_law_2507 : decode cL_law 2507 = .ok (.iaload, 1) := by decide +kernel
theorem dL_law_2508 : decode cL_law 2508 = .ok (.aload_n 3, 1) := by decide +kernel
theorem dL_law_2509 : decode cL_law 2509 = .ok (.invokestatic 299, 3) := by decide +kernel
theorem dL_law_2512 : decode cL_law 2512 = .ok (.istore 6, 2) := by decide +kernel
theorem dL_law_2514 : decode cL_law 2514 = .ok (.aload_n 2, 1) := by decide +kernel
theorem dL_law_2515 : decode cL_law 2515 = .ok (.aload_n 0, 1) := by decide +kernel
theorem dL_law_2516 : decode cL_law 2516 = .ok (.iload 5, 2) := by decide +kernel
theorem dL_law_2518 : decode cL_law 2518 = .ok (.iconst 1, 1) := by decide +kernel
theorem dL_law_2519 : decode cL_law 2519 = .ok (.iadd, 1) := by decide +kernel
theorem dL_law_2520 : decode cL_law 2520 = .ok (.iaload, 1) := by decide +kernel
theorem dL_law_2521 : decode cL_law 2521 = .ok (.invokevirtual 301, 3) := by decide +kernel
theorem dL_law_2524 : decode cL_law 2524 = .ok (.istore 7, 2) := by decide +kernel
theorem dL_law_2526 : decode cL_law 2526 = .ok (.aload_n 2, 1) := by decide +kernel
theorem dL_law_2527 : decode cL_law 2527 = .ok (.invokevirtual 168, 3) := by decide +kernel
theorem dL_law_2530 : decode cL_law 2530 = .ok (.iload 6, 2) := by decide +kernel
theorem dL_law_2532 : decode cL_law 2532 = .ok (.if_icmp .eq 5, 3) := by decide +kernel
theorem dL_law_2535 : decode cL_law 2535 = .ok (.iconst 0, 1) := by decide +kernel
theorem dL_law_2536 : decode cL_law 2536 = .ok (.ireturn, 1) := by decide +kernel
theorem dL_law_2537 : decode cL_law 2537 = .ok (.iload 6, 2) := by decide +kernel
theorem dL_law_2539 : decode cL_law 2539 = .ok (.ifCond .ne 15, 3) := by decide +kernel
theorem dL_law_2542 : decode cL_law 2542 = .ok (.aload_n 3, 1) := by decide +kernel
theorem dL_law_2543 : decode cL_law 2543 = .ok (.iconst 0, 1) := by decide +kernel
theorem dL_law_2544 : decode cL_law 2544 = .ok (.laload, 1) := by decide +kernel
theorem dL_law_2545 : decode cL_law 2545 = .ok (.iload 7, 2) := by decide +kernel
theorem dL_law_2547 : decode cL_law 2547 = .ok (.i2l, 1) := by decide +kernel
theorem dL_law_2548 : decode cL_law 2548 = .ok (.lcmp, 1) := by decide +kernel
theorem dL_law_2549 : decode cL_law 2549 = .ok (.ifCond .eq 5, 3) := by decide +kernel
theorem dL_law_2552 : decode cL_law 2552 = .ok (.iconst 0, 1) := by decide +kernel
theorem dL_law_2553 : decode cL_law 2553 = .ok (.ireturn, 1) := by decide +kernel
theorem dL_law_2554 : decode cL_law 2554 = .ok (.goto 807, 3) := by decide +kernel
theorem dL_law_2557 : decode cL_law 2557 = .ok (.aload_n 1, 1) := by decide +kernel
theorem dL_law_2558 : decode cL_law 2558 = .ok (.aload_n 0, 1) := by decide +kernel
theorem dL_law_2559 : decode cL_law 2559 = .ok (.iload 5, 2) := by decide +kernel
theorem dL_law_2561 : decode cL_law 2561 = .ok (.iconst 1, 1) := by decide +kernel
theorem dL_law_2562 : decode cL_law 2562 = .ok (.iadd, 1) := by decide +kernel
theorem dL_law_2563 : decode cL_law 2563 = .ok (.iaload, 1) := by decide +kernel
theorem dL_law_2564 : decode cL_law 2564 = .ok (.aload_n 3, 1) := by decide +kernel
theorem dL_law_2565 : decode cL_law 2565 = .ok (.invokestatic 302, 3) := by decide +kernel
theorem dL_law_2568 : decode cL_law 2568 = .ok (.istore 6, 2) := by decide +kernel
theorem dL_law_2570 : decode cL_law 2570 = .ok (.aload_n 2, 1) := by decide +kernel
theorem dL_law_2571 : decode cL_law 2571 = .ok (.aload_n 0, 1) := by decide +kernel
theorem dL_law_2572 : decode cL_law 2572 = .ok (.iload 5, 2) := by decide +kernel
theorem dL_law_2574 : decode cL_law 2574 = .ok (.iconst 1, 1) := by decide +kernel
theorem dL_law_2575 : decode cL_law 2575 = .ok (.iadd, 1) := by decide +kernel
theorem dL_law_2576 : decode cL_law 2576 = .ok (.iaload, 1) := by decide +kernel
theorem dL_law_2577 : decode cL_law 2577 = .ok (.invokevirtual 304, 3) := by decide +kernel
theorem dL_law_2580 : decode cL_law 2580 = .ok (.istore 7, 2) := by decide +kernel
theorem dL_law_2582 : decode cL_law 2582 = .ok (.aload_n 2, 1) := by decide +kernel
theorem dL_law_2583 : decode cL_law 2583 = .ok (.invokevirtual 168, 3) := by decide +kernel
theorem dL_law_2586 : decode cL_law 2586 = .ok (.iload 6, 2) := by decide +kernel
theorem dL_law_2588 : decode cL_law 2588 = .ok (.if_icmp .eq 5, 3) := by decide +kernel
theorem dL_law_2591 : decode cL_law 2591 = .ok (.iconst 0, 1) := by decide +kernel
theorem dL_law_2592 : decode cL_law 2592 = .ok (.ireturn, 1) := by decide +kernel
theorem dL_law_2593 : decode cL_law 2593 = .ok (.iload 6, 2) := by decide +kernel
theorem dL_law_2595 : decode cL_law 2595 = .ok (.ifCond .ne 15, 3) := by decide +kernel
theorem dL_law_2598 : decode cL_law 2598 = .ok (.aload_n 3, 1) := by decide +kernel
theorem dL_law_2599 : decode cL_law 2599 = .ok (.iconst 0, 1) := by decide +kernel
theorem dL_law_2600 : decode cL_law 2600 = .ok (.laload, 1) := by decide +kernel
theorem dL_law_2601 : decode cL_law 2601 = .ok (.iload 7, 2) := by decide +kernel
theorem dL_law_2603 : decode cL_law 2603 = .ok (.i2l, 1) := by decide +kernel
theorem dL_law_2604 : decode cL_law 2604 = .ok (.lcmp, 1) := by decide +kernel
theorem dL_law_2605 : decode cL_law 2605 = .ok (.ifCond .eq 5, 3) := by decide +kernel
theorem dL_law_2608 : decode cL_law 2608 = .ok (.iconst 0, 1) := by decide +kernel
theorem dL_law_2609 : decode cL_law 2609 = .ok (.ireturn, 1) := by decide +kernel
theorem dL_law_2610 : decode cL_law 2610 = .ok (.goto 751, 3) := by decide +kernel
theorem dL_law_2613 : decode cL_law 2613 = .ok (.aload_n 1, 1) := by decide +kernel
theorem dL_law_2614 : decode cL_law 2614 = .ok (.aload_n 0, 1) := by decide +kernel
theorem dL_law_2615 : decode cL_law 2615 = .ok (.iload 5, 2) := by decide +kernel
theorem dL_law_2617 : decode cL_law 2617 = .ok (.iconst 1, 1) := by decide +kernel
theorem dL_law_2618 : decode cL_law 2618 = .ok (.iadd, 1) := by decide +kernel
theorem dL_law_2619 : decode cL_law 2619 = .ok (.iaload, 1) := by decide +kernel
theorem dL_law_2620 : decode cL_law 2620 = .ok (.aload_n 3, 1) := by decide +kernel
theorem dL_law_2621 : decode cL_law 2621 = .ok (.invokestatic 305, 3) := by decide +kernel
theorem dL_law_2624 : decode cL_law 2624 = .ok (.istore 6, 2) := by decide +kernel
theorem dL_law_2626 : decode cL_law 2626 = .ok (.aload_n 2, 1) := by decide +kernel
theorem dL_law_2627 : decode cL_law 2627 = .ok (.aload_n 0, 1) := by decide +kernel
theorem dL_law_2628 : decode cL_law 2628 = .ok (.iload 5, 2) := by decide +kernel
theorem dL_law_2630 : decode cL_law 2630 = .ok (.iconst 1, 1) := by decide +kernel
theorem dL_law_2631 : decode cL_law 2631 = .ok (.iadd, 1) := by decide +kernel
theorem dL_law_2632 : decode cL_law 2632 = .ok (.iaload, 1) := by decide +kernel
theorem dL_law_2633 : decode cL_law 2633 = .ok (.invokevirtual 307, 3) := by decide +kernel
theorem dL_law_2636 : decode cL_law 2636 = .ok (.istore 7, 2) := by decide +kernel
theorem dL_law_2638 : decode cL_law 2638 = .ok (.aload_n 2, 1) := by decide +kernel
theorem dL_law_2639 : decode cL_law 2639 = .ok (.invokevirtual 168, 3) := by decide +kernel
theorem dL_law_2642 : decode cL_law 2642 = .ok (.iload 6, 2) := by decide +kernel
theorem dL_law_2644 : decode cL_law 2644 = .ok (.if_icmp .eq 5, 3) := by decide +kernel
theorem dL_law_2647 : decode cL_law 2647 = .ok (.iconst 0, 1) := by decide +kernel
theorem dL_law_2648 : decode cL_law 2648 = .ok (.ireturn, 1) := by decide +kernel
theorem dL_law_2649 : decode cL_law 2649 = .ok (.iload 6, 2) := by decide +kernel
theorem dL_law_2651 : decode cL_law 2651 = .ok (.ifCond .ne 15, 3) := by decide +kernel
theorem dL_law_2654 : decode cL_law 2654 = .ok (.aload_n 3, 1) := by decide +kernel
theorem dL_law_2655 : decode cL_law 2655 = .ok (.iconst 0, 1) := by decide +kernel
theorem dL_law_2656 : decode cL_law 2656 = .ok (.laload, 1) := by decide +kernel
theorem dL_law_2657 : decode cL_law 2657 = .ok (.iload 7, 2) := by decide +kernel
theorem dL_law_2659 : decode cL_law 2659 = .ok (.i2l, 1) := by decide +kernel
theorem dL_law_2660 : decode cL_law 2660 = .ok (.lcmp, 1) := by decide +kernel
theorem dL_law_2661 : decode cL_law 2661 = .ok (.ifCond .eq 5, 3) := by decide +kernel
theorem dL_law_2664 : decode cL_law 2664 = .ok (.iconst 0, 1) := by decide +kernel
theorem dL_law_2665 : decode cL_law 2665 = .ok (.ireturn, 1) := by decide +kernel
theorem dL_law_2666 : decode cL_law 2666 = .ok (.goto 695, 3) := by decide +kernel
theorem dL_law_2669 : decode cL_law 2669 = .ok (.aload_n 1, 1) := by decide +kernel
theorem dL_law_2670 : decode cL_law 2670 = .ok (.aload_n 0, 1) := by decide +kernel
theorem dL_law_2671 : decode cL_law 2671 = .ok (.iload 5, 2) := by decide +kernel
theorem dL_law_2673 : decode cL_law 2673 = .ok (.iconst 1, 1) := by decide +kernel
theorem dL_law_2674 : decode cL_law 2674 = .ok (.iadd, 1) := by decide +kernel
theorem dL_law_2675 : decode cL_law 2675 = .ok (.iaload, 1) := by decide +kernel
theorem dL_law_2676 : decode cL_law 2676 = .ok (.aload_n 0, 1) := by decide +kernel
theorem dL_law_2677 : decode cL_law 2677 = .ok (.iload 5, 2) := by decide +kernel
theorem dL_law_2679 : decode cL_law 2679 = .ok (.iconst 2, 1) := by decide +kernel
theorem dL_law_2680 : decode cL_law 2680 = .ok (.iadd, 1) := by decide +kernel
theorem dL_law_2681 : decode cL_law 2681 = .ok (.iaload, 1) := by decide +kernel
theorem dL_law_2682 : decode cL_law 2682 = .ok (.aload_n 3, 1) := by decide +kernel
theorem dL_law_2683 : decode cL_law 2683 = .ok (.invokestatic 308, 3) := by decide +kernel
theorem dL_law_2686 : decode cL_law 2686 = .ok (.istore 6, 2) := by decide +kernel
theorem dL_law_2688 : decode cL_law 2688 = .ok (.aload_n 2, 1) := by decide +kernel
theorem dL_law_2689 : decode cL_law 2689 = .ok (.aload_n 0, 1) := by decide +kernel
theorem dL_law_2690 : decode cL_law 2690 = .ok (.iload 5, 2) := by decide +kernel
theorem dL_law_2692 : decode cL_law 2692 = .ok (.iconst 1, 1) := by decide +kernel
theorem dL_law_2693 : decode cL_law 2693 = .ok (.iadd, 1) := by decide +kernel
theorem dL_law_2694 : decode cL_law 2694 = .ok (.iaload, 1) := by decide +kernel
theorem dL_law_2695 : decode cL_law 2695 = .ok (.aload_n 0, 1) := by decide +kernel
theorem dL_law_2696 : decode cL_law 2696 = .ok (.iload 5, 2) := by decide +kernel
theorem dL_law_2698 : decode cL_law 2698 = .ok (.iconst 2, 1) := by decide +kernel
theorem dL_law_2699 : decode cL_law 2699 = .ok (.iadd, 1) := by decide +kernel
theorem dL_law_2700 : decode cL_law 2700 = .ok (.iaload, 1) := by decide +kernel
theorem dL_law_2701 : decode cL_law 2701 = .ok (.invokevirtual 310, 3) := by decide +kernel
theorem dL_law_2704 : decode cL_law 2704 = .ok (.istore 7, 2) := by decide +kernel
theorem dL_law_2706 : decode cL_law 2706 = .ok (.aload_n 2, 1) := by decide +kernel
theorem dL_law_2707 : decode cL_law 2707 = .ok (.invokevirtual 168, 3) := by decide +kernel
theorem dL_law_2710 : decode cL_law 2710 = .ok (.iload 6, 2) := by decide +kernel
theorem dL_law_2712 : decode cL_law 2712 = .ok (.if_icmp .eq 5, 3) := by decide +kernel
theorem dL_law_2715 : decode cL_law 2715 = .ok (.iconst 0, 1) := by decide +kernel
theorem dL_law_2716 : decode cL_law 2716 = .ok (.ireturn, 1) := by decide +kernel
theorem dL_law_2717 : decode cL_law 2717 = .ok (.iload 6, 2) := by decide +kernel
theorem dL_law_2719 : decode cL_law 2719 = .ok (.ifCond .ne 15, 3) := by decide +kernel
theorem dL_law_2722 : decode cL_law 2722 = .ok (.aload_n 3, 1) := by decide +kernel
theorem dL_law_2723 : decode cL_law 2723 = .ok (.iconst 0, 1) := by decide +kernel
theorem dL_law_2724 : decode cL_law 2724 = .ok (.laload, 1) := by decide +kernel
theorem dL_law_2725 : decode cL_law 2725 = .ok (.iload 7, 2) := by decide +kernel
theorem dL_law_2727 : decode cL_law 2727 = .ok (.i2l, 1) := by decide +kernel
theorem dL_law_2728 : decode cL_law 2728 = .ok (.lcmp, 1) := by decide +kernel
theorem dL_law_2729 : decode cL_law 2729 = .ok (.ifCond .eq 5, 3) := by decide +kernel
theorem dL_law_2732 : decode cL_law 2732 = .ok (.iconst 0, 1) := by decide +kernel
theorem dL_law_2733 : decode cL_law 2733 = .ok (.ireturn, 1) := by decide +kernel
theorem dL_law_2734 : decode cL_law 2734 = .ok (.goto 627, 3) := by decide +kernel
theorem dL_law_2737 : decode cL_law 2737 = .ok (.aload_n 1, 1) := by decide +kernel
theorem dL_law_2738 : decode cL_law 2738 = .ok (.aload_n 0, 1) := by decide +kernel
theorem dL_law_2739 : decode cL_law 2739 = .ok (.iload 5, 2) := by decide +kernel
theorem dL_law_2741 : decode cL_law 2741 = .ok (.iconst 1, 1) := by decide +kernel
theorem dL_law_2742 : decode cL_law 2742 = .ok (.iadd, 1) := by decide +kernel
theorem dL_law_2743 : decode cL_law 2743 = .ok (.iaload, 1) := by decide +kernel
theorem dL_law_2744 : decode cL_law 2744 = .ok (.aload_n 3, 1) := by decide +kernel
theorem dL_law_2745 : decode cL_law 2745 = .ok (.invokestatic 311, 3) := by decide +kernel
theorem dL_law_2748 : decode cL_law 2748 = .ok (.istore 6, 2) := by decide +kernel
theorem dL_law_2750 : decode cL_law 2750 = .ok (.aload_n 2, 1) := by decide +kernel
theorem dL_law_2751 : decode cL_law 2751 = .ok (.aload_n 0, 1) := by decide +kernel
theorem dL_law_2752 : decode cL_law 2752 = .ok (.iload 5, 2) := by decide +kernel
theorem dL_law_2754 : decode cL_law 2754 = .ok (.iconst 1, 1) := by decide +kernel
theorem dL_law_2755 : decode cL_law 2755 = .ok (.iadd, 1) := by decide +kernel
theorem dL_law_2756 : decode cL_law 2756 = .ok (.iaload, 1) := by decide +kernel
theorem dL_law_2757 : decode cL_law 2757 = .ok (.invokevirtual 313, 3) := by decide +kernel
theorem dL_law_2760 : decode cL_law 2760 = .ok (.istore 7, 2) := by decide +kernel
theorem dL_law_2762 : decode cL_law 2762 = .ok (.aload_n 2, 1) := by decide +kernel
theorem dL_law_2763 : decode cL_law 2763 = .ok (.invokevirtual 168, 3) := by decide +kernel
theorem dL_law_2766 : decode cL_law 2766 = .ok (.iload 6, 2) := by decide +kernel
theorem dL_law_2768 : decode cL_law 2768 = .ok (.if_icmp .eq 5, 3) := by decide +kernel
theorem dL_law_2771 : decode cL_law 2771 = .ok (.iconst 0, 1) := by decide +kernel
theorem dL_law_2772 : decode cL_law 2772 = .ok (.ireturn, 1) := by decide +kernel
theorem dL_law_2773 : decode cL_law 2773 = .ok (.iload 6, 2) := by decide +kernel
theorem dL_law_2775 : decode cL_law 2775 = .ok (.ifCond .ne 15, 3) := by decide +kernel
theorem dL_law_2778 : decode cL_law 2778 = .ok (.aload_n 3, 1) := by decide +kernel
theorem dL_law_2779 : decode cL_law 2779 = .ok (.iconst 0, 1) := by decide +kernel
theorem dL_law_2780 : decode cL_law 2780 = .ok (.laload, 1) := by decide +kernel
theorem dL_law_2781 : decode cL_law 2781 = .ok (.iload 7, 2) := by decide +kernel
theorem dL_law_2783 : decode cL_law 2783 = .ok (.i2l, 1) := by decide +kernel
theorem dL_law_2784 : decode cL_law 2784 = .ok (.lcmp, 1) := by decide +kernel
theorem dL_law_2785 : decode cL_law 2785 = .ok (.ifCond .eq 5, 3) := by decide +kernel
theorem dL_law_2788 : decode cL_law 2788 = .ok (.iconst 0, 1) := by decide +kernel
theorem dL_law_2789 : decode cL_law 2789 = .ok (.ireturn, 1) := by decide +kernel
theorem dL_law_2790 : decode cL_law 2790 = .ok (.goto 571, 3) := by decide +kernel
theorem dL_law_2793 : decode cL_law 2793 = .ok (.aload_n 1, 1) := by decide +kernel
theorem dL_law_2794 : decode cL_law 2794 = .ok (.aload_n 0, 1) := by decide +kernel
theorem dL_law_2795 : decode cL_law 2795 = .ok (.iload 5, 2) := by decide +kernel
theorem dL_law_2797 : decode cL_law 2797 = .ok (.iconst 1, 1) := by decide +kernel
theorem dL_law_2798 : decode cL_law 2798 = .ok (.iadd, 1) := by decide +kernel
theorem dL_law_2799 : decode cL_law 2799 = .ok (.iaload, 1) := by decide +kernel
theorem dL_law_2800 : decode cL_law 2800 = .ok (.aload_n 0, 1) := by decide +kernel
theorem dL_law_2801 : decode cL_law 2801 = .ok (.iload 5, 2) := by decide +kernel
theorem dL_law_2803 : decode cL_law 2803 = .ok (.iconst 2, 1) := by decide +kernel
theorem dL_law_2804 : decode cL_law 2804 = .ok (.iadd, 1) := by decide +kernel
theorem dL_law_2805 : decode cL_law 2805 = .ok (.iaload, 1) := by decide +kernel
theorem dL_law_2806 : decode cL_law 2806 = .ok (.aload_n 3, 1) := by decide +kernel
theorem dL_law_2807 : decode cL_law 2807 = .ok (.invokestatic 314, 3) := by decide +kernel
theorem dL_law_2810 : decode cL_law 2810 = .ok (.istore 6, 2) := by decide +kernel
theorem dL_law_2812 : decode cL_law 2812 = .ok (.aload_n 2, 1) := by decide +kernel
theorem dL_law_2813 : decode cL_law 2813 = .ok (.aload_n 0, 1) := by decide +kernel
theorem dL_law_2814 : decode cL_law 2814 = .ok (.iload 5, 2) := by decide +kernel
theorem dL_law_2816 : decode cL_law 2816 = .ok (.iconst 1, 1) := by decide +kernel
theorem dL_law_2817 : decode cL_law 2817 = .ok (.iadd, 1) := by decide +kernel
theorem dL_law_2818 : decode cL_law 2818 = .ok (.iaload, 1) := by decide +kernel
theorem dL_law_2819 : decode cL_law 2819 = .ok (.aload_n 0, 1) := by decide +kernel
theorem dL_law_2820 : decode cL_law 2820 = .ok (.iload 5, 2) := by decide +kernel
theorem dL_law_2822 : decode cL_law 2822 = .ok (.iconst 2, 1) := by decide +kernel
theorem dL_law_2823 : decode cL_law 2823 = .ok (.iadd, 1) := by decide +kernel
theorem dL_law_2824 : decode cL_law 2824 = .ok (.iaload, 1) := by decide +kernel
theorem dL_law_2825 : decode cL_law 2825 = .ok (.invokevirtual 316, 3) := by decide +kernel
theorem dL_law_2828 : decode cL_law 2828 = .ok (.istore 7, 2) := by decide +kernel
theorem dL_law_2830 : decode cL_law 2830 = .ok (.aload_n 2, 1) := by decide +kernel
theorem dL_law_2831 : decode cL_law 2831 = .ok (.invokevirtual 168, 3) := by decide +kernel
theorem dL_law_2834 : decode cL_law 2834 = .ok (.iload 6, 2) := by decide +kernel
theorem dL_law_2836 : decode cL_law 2836 = .ok (.if_icmp .eq 5, 3) := by decide +kernel
theorem dL_law_2839 : decode cL_law 2839 = .ok (.iconst 0, 1) := by decide +kernel
theorem dL_law_2840 : decode cL_law 2840 = .ok (.ireturn, 1) := by decide +kernel
theorem dL_law_2841 : decode cL_law 2841 = .ok (.iload 6, 2) := by decide +kernel
theorem dL_law_2843 : decode cL_law 2843 = .ok (.ifCond .ne 15, 3) := by decide +kernel
theorem dL_law_2846 : decode cL_law 2846 = .ok (.aload_n 3, 1) := by decide +kernel
theorem dL_law_2847 : decode cL_law 2847 = .ok (.iconst 0, 1) := by decide +kernel
theorem dL_law_2848 : decode cL_law 2848 = .ok (.laload, 1) := by decide +kernel
theorem dL_law_2849 : decode cL_law 2849 = .ok (.iload 7, 2) := by decide +kernel
theorem dL_law_2851 : decode cL_law 2851 = .ok (.i2l, 1) := by decide +kernel
theorem dL_law_2852 : decode cL_law 2852 = .ok (.lcmp, 1) := by decide +kernel
theorem dL_law_2853 : decode cL_law 2853 = .ok (.ifCond .eq 5, 3) := by decide +kernel
theorem dL_law_2856 : decode cL_law 2856 = .ok (.iconst 0, 1) := by decide +kernel
theorem dL_law_2857 : decode cL_law 2857 = .ok (.ireturn, 1) := by decide +kernel
theorem dL_law_2858 : decode cL_law 2858 = .ok (.goto 503, 3) := by decide +kernel
theorem dL_law_2861 : decode cL_law 2861 = .ok (.aload_n 1, 1) := by decide +kernel
theorem dL_law_2862 : decode cL_law 2862 = .ok (.aload_n 0, 1) := by decide +kernel
theorem dL_law_2863 : decode cL_law 2863 = .ok (.iload 5, 2) := by decide +kernel
theorem dL_law_2865 : decode cL_law 2865 = .ok (.iconst 1, 1) := by decide +kernel
theorem dL_law_2866 : decode cL_law 2866 = .ok (.iadd, 1) := by decide +kernel
theorem dL_law_2867 : decode cL_law 2867 = .ok (.iaload, 1) := by decide +kernel
theorem dL_law_2868 : decode cL_law 2868 = .ok (.aload_n 3, 1) := by decide +kernel
theorem dL_law_2869 : decode cL_law 2869 = .ok (.invokestatic 317, 3) := by decide +kernel
theorem dL_law_2872 : decode cL_law 2872 = .ok (.istore 6, 2) := by decide +kernel
theorem dL_law_2874 : decode cL_law 2874 = .ok (.aload_n 2, 1) := by decide +kernel
theorem dL_law_2875 : decode cL_law 2875 = .ok (.aload_n 0, 1) := by decide +kernel
theorem dL_law_2876 : decode cL_law 2876 = .ok (.iload 5, 2) := by decide +kernel
theorem dL_law_2878 : decode cL_law 2878 = .ok (.iconst 1, 1) := by decide +kernel
theorem dL_law_2879 : decode cL_law 2879 = .ok (.iadd, 1) := by decide +kernel
theorem dL_law_2880 : decode cL_law 2880 = .ok (.iaload, 1) := by decide +kernel
theorem dL_law_2881 : decode cL_law 2881 = .ok (.invokevirtual 319, 3) := by decide +kernel
theorem dL_law_2884 : decode cL_law 2884 = .ok (.istore 7, 2) := by decide +kernel
theorem dL_law_2886 : decode cL_law 2886 = .ok (.aload_n 2, 1) := by decide +kernel
theorem dL_law_2887 : decode cL_law 2887 = .ok (.invokevirtual 168, 3) := by decide +kernel
theorem dL_law_2890 : decode cL_law 2890 = .ok (.iload 6, 2) := by decide +kernel
theorem dL_law_2892 : decode cL_law 2892 = .ok (.if_icmp .eq 5, 3) := by decide +kernel
theorem dL_law_2895 : decode cL_law 2895 = .ok (.iconst 0, 1) := by decide +kernel
theorem dL_law_2896 : decode cL_law 2896 = .ok (.ireturn, 1) := by decide +kernel
theorem dL_law_2897 : decode cL_law 2897 = .ok (.iload 6, 2) := by decide +kernel
theorem dL_law_2899 : decode cL_law 2899 = .ok (.ifCond .ne 15, 3) := by decide +kernel
theorem dL_law_2902 : decode cL_law 2902 = .ok (.aload_n 3, 1) := by decide +kernel
theorem dL_law_2903 : decode cL_law 2903 = .ok (.iconst 0, 1) := by decide +kernel
theorem dL_law_2904 : decode cL_law 2904 = .ok (.laload, 1) := by decide +kernel
theorem dL_law_2905 : decode cL_law 2905 = .ok (.iload 7, 2) := by decide +kernel
theorem dL_law_2907 : decode cL_law 2907 = .ok (.i2l, 1) := by decide +kernel
theorem dL_law_2908 : decode cL_law 2908 = .ok (.lcmp, 1) := by decide +kernel
theorem dL_law_2909 : decode cL_law 2909 = .ok (.ifCond .eq 5, 3) := by decide +kernel
theorem dL_law_2912 : decode cL_law 2912 = .ok (.iconst 0, 1) := by decide +kernel
theorem dL_law_2913 : decode cL_law 2913 = .ok (.ireturn, 1) := by decide +kernel
theorem dL_law_2914 : decode cL_law 2914 = .ok (.goto 447, 3) := by decide +kernel
theorem dL_law_2917 : decode cL_law 2917 = .ok (.aload_n 1, 1) := by decide +kernel
theorem dL_law_2918 : decode cL_law 2918 = .ok (.aload_n 0, 1) := by decide +kernel
theorem dL_law_2919 : decode cL_law 2919 = .ok (.iload 5, 2) := by decide +kernel
theorem dL_law_2921 : decode cL_law 2921 = .ok (.iconst 1, 1) := by decide +kernel
theorem dL_law_2922 : decode cL_law 2922 = .ok (.iadd, 1) := by decide +kernel
theorem dL_law_2923 : decode cL_law 2923 = .ok (.iaload, 1) := by decide +kernel
theorem dL_law_2924 : decode cL_law 2924 = .ok (.aload_n 0, 1) := by decide +kernel
theorem dL_law_2925 : decode cL_law 2925 = .ok (.iload 5, 2) := by decide +kernel
theorem dL_law_2927 : decode cL_law 2927 = .ok (.iconst 2, 1) := by decide +kernel
theorem dL_law_2928 : decode cL_law 2928 = .ok (.iadd, 1) := by decide +kernel
theorem dL_law_2929 : decode cL_law 2929 = .ok (.iaload, 1) := by decide +kernel
theorem dL_law_2930 : decode cL_law 2930 = .ok (.aload_n 0, 1) := by decide +kernel
theorem dL_law_2931 : decode cL_law 2931 = .ok (.iload 5, 2) := by decide +kernel
theorem dL_law_2933 : decode cL_law 2933 = .ok (.iconst 3, 1) := by decide +kernel
theorem dL_law_2934 : decode cL_law 2934 = .ok (.iadd, 1) := by decide +kernel
theorem dL_law_2935 : decode cL_law 2935 = .ok (.iaload, 1) := by decide +kernel
theorem dL_law_2936 : decode cL_law 2936 = .ok (.aload_n 0, 1) := by decide +kernel
theorem dL_law_2937 : decode cL_law 2937 = .ok (.iload 5, 2) := by decide +kernel
theorem dL_law_2939 : decode cL_law 2939 = .ok (.iconst 4, 1) := by decide +kernel
theorem dL_law_2940 : decode cL_law 2940 = .ok (.iadd, 1) := by decide +kernel
theorem dL_law_2941 : decode cL_law 2941 = .ok (.iaload, 1) := by decide +kernel
theorem dL_law_2942 : decode cL_law 2942 = .ok (.aload_n 0, 1) := by decide +kernel
theorem dL_law_2943 : decode cL_law 2943 = .ok (.iload 5, 2) := by decide +kernel
theorem dL_law_2945 : decode cL_law 2945 = .ok (.iconst 5, 1) := by decide +kernel
theorem dL_law_2946 : decode cL_law 2946 = .ok (.iadd, 1) := by decide +kernel
theorem dL_law_2947 : decode cL_law 2947 = .ok (.iaload, 1) := by decide +kernel
theorem dL_law_2948 : decode cL_law 2948 = .ok (.aload_n 3, 1) := by decide +kernel
theorem dL_law_2949 : decode cL_law 2949 = .ok (.invokestatic 320, 3) := by decide +kernel
theorem dL_law_2952 : decode cL_law 2952 = .ok (.istore 6, 2) := by decide +kernel
theorem dL_law_2954 : decode cL_law 2954 = .ok (.aload_n 2, 1) := by decide +kernel
theorem dL_law_2955 : decode cL_law 2955 = .ok (.aload_n 0, 1) := by decide +kernel
theorem dL_law_2956 : decode cL_law 2956 = .ok (.iload 5, 2) := by decide +kernel
theorem dL_law_2958 : decode cL_law 2958 = .ok (.iconst 1, 1) := by decide +kernel
theorem dL_law_2959 : decode cL_law 2959 = .ok (.iadd, 1) := by decide +kernel
theorem dL_law_2960 : decode cL_law 2960 = .ok (.iaload, 1) := by decide +kernel
theorem dL_law_2961 : decode cL_law 2961 = .ok (.aload_n 0, 1) := by decide +kernel
theorem dL_law_2962 : decode cL_law 2962 = .ok (.iload 5, 2) := by decide +kernel
theorem dL_law_2964 : decode cL_law 2964 = .ok (.iconst 2, 1) := by decide +kernel
theorem dL_law_2965 : decode cL_law 2965 = .ok (.iadd, 1) := by decide +kernel
theorem dL_law_2966 : decode cL_law 2966 = .ok (.iaload, 1) := by decide +kernel
theorem dL_law_2967 : decode cL_law 2967 = .ok (.aload_n 0, 1) := by decide +kernel
theorem dL_law_2968 : decode cL_law 2968 = .ok (.iload 5, 2) := by decide +kernel
theorem dL_law_2970 : decode cL_law 2970 = .ok (.iconst 3, 1) := by decide +kernel
theorem dL_law_2971 : decode cL_law 2971 = .ok (.iadd, 1) := by decide +kernel
theorem dL_law_2972 : decode cL_law 2972 = .ok (.iaload, 1) := by decide +kernel
theorem dL_law_2973 : decode cL_law 2973 = .ok (.aload_n 0, 1) := by decide +kernel
theorem dL_law_2974 : decode cL_law 2974 = .ok (.iload 5, 2) := by decide +kernel
theorem dL_law_2976 : decode cL_law 2976 = .ok (.iconst 4, 1) := by decide +kernel
theorem dL_law_2977 : decode cL_law 2977 = .ok (.iadd, 1) := by decide +kernel
theorem dL_law_2978 : decode cL_law 2978 = .ok (.iaload, 1) := by decide +kernel
theorem dL_law_2979 : decode cL_law 2979 = .ok (.aload_n 0, 1) := by decide +kernel
theorem dL_law_2980 : decode cL_law 2980 = .ok (.iload 5, 2) := by decide +kernel
theorem dL_law_2982 : decode cL_law 2982 = .ok (.iconst 5, 1) := by decide +kernel
theorem dL_law_2983 : decode cL_law 2983 = .ok (.iadd, 1) := by decide +kernel
theorem dL_law_2984 : decode cL_law 2984 = .ok (.iaload, 1) := by decide +kernel
theorem dL_law_2985 : decode cL_law 2985 = .ok (.invokevirtual 323, 3) := by decide +kernel
theorem dL_law_2988 : decode cL_law 2988 = .ok (.istore 7, 2) := by decide +kernel
theorem dL_law_2990 : decode cL_law 2990 = .ok (.aload_n 2, 1) := by decide +kernel
theorem dL_law_2991 : decode cL_law 2991 = .ok (.invokevirtual 168, 3) := by decide +kernel
theorem dL_law_2994 : decode cL_law 2994 = .ok (.iload 6, 2) := by decide +kernel
theorem dL_law_2996 : decode cL_law 2996 = .ok (.if_icmp .eq 5, 3) := by decide +kernel
theorem dL_law_2999 : decode cL_law 2999 = .ok (.iconst 0, 1) := by decide +kernel
theorem dL_law_3000 : decode cL_law 3000 = .ok (.ireturn, 1) := by decide +kernel
theorem dL_law_3001 : decode cL_law 3001 = .ok (.iload 6, 2) := by decide +kernel
theorem dL_law_3003 : decode cL_law 3003 = .ok (.ifCond .ne 15, 3) := by decide +kernel
theorem dL_law_3006 : decode cL_law 3006 = .ok (.aload_n 3, 1) := by decide +kernel
theorem dL_law_3007 : decode cL_law 3007 = .ok (.iconst 0, 1) := by decide +kernel
theorem dL_law_3008 : decode cL_law 3008 = .ok (.laload, 1) := by decide +kernel
theorem dL_law_3009 : decode cL_law 3009 = .ok (.iload 7, 2) := by decide +kernel
theorem dL_law_3011 : decode cL_law 3011 = .ok (.i2l, 1) := by decide +kernel
theorem dL_law_3012 : decode cL_law 3012 = .ok (.lcmp, 1) := by decide +kernel
theorem dL_law_3013 : decode cL_law 3013 = .ok (.ifCond .eq 5, 3) := by decide +kernel
theorem dL_law_3016 : decode cL_law 3016 = .ok (.iconst 0, 1) := by decide +kernel
theorem dL_law_3017 : decode cL_law 3017 = .ok (.ireturn, 1) := by decide +kernel
theorem dL_law_3018 : decode cL_law 3018 = .ok (.goto 343, 3) := by decide +kernel
theorem dL_law_3021 : decode cL_law 3021 = .ok (.aload_n 1, 1) := by decide +kernel
theorem dL_law_3022 : decode cL_law 3022 = .ok (.invokevirtual 324, 3) := by decide +kernel
theorem dL_law_3025 : decode cL_law 3025 = .ok (.aload_n 2, 1) := by decide +kernel
theorem dL_law_3026 : decode cL_law 3026 = .ok (.invokevirtual 327, 3) := by decide +kernel
theorem dL_law_3029 : decode cL_law 3029 = .ok (.if_icmp .eq 332, 3) := by decide +kernel
theorem dL_law_3032 : decode cL_law 3032 = .ok (.iconst 0, 1) := by decide +kernel
theorem dL_law_3033 : decode cL_law 3033 = .ok (.ireturn, 1) := by decide +kernel
theorem dL_law_3034 : decode cL_law 3034 = .ok (.aload_n 1, 1) := by decide +kernel
theorem dL_law_3035 : decode cL_law 3035 = .ok (.aload_n 3, 1) := by decide +kernel
theorem dL_law_3036 : decode cL_law 3036 = .ok (.invokestatic 328, 3) := by decide +kernel
theorem dL_law_3039 : decode cL_law 3039 = .ok (.istore 6, 2) := by decide +kernel
theorem dL_law_3041 : decode cL_law 3041 = .ok (.aload_n 2, 1) := by decide +kernel
theorem dL_law_3042 : decode cL_law 3042 = .ok (.invokevirtual 330, 3) := by decide +kernel
theorem dL_law_3045 : decode cL_law 3045 = .ok (.istore 7, 2) := by decide +kernel
theorem dL_law_3047 : decode cL_law 3047 = .ok (.aload_n 2, 1) := by decide +kernel
theorem dL_law_3048 : decode cL_law 3048 = .ok (.invokevirtual 168, 3) := by decide +kernel
theorem dL_law_3051 : decode cL_law 3051 = .ok (.iload 6, 2) := by decide +kernel
theorem dL_law_3053 : decode cL_law 3053 = .ok (.if_icmp .eq 5, 3) := by decide +kernel
theorem dL_law_3056 : decode cL_law 3056 = .ok (.iconst 0, 1) := by decide +kernel
theorem dL_law_3057 : decode cL_law 3057 = .ok (.ireturn, 1) := by decide +kernel
theorem dL_law_3058 : decode cL_law 3058 = .ok (.iload 6, 2) := by decide +kernel
theorem dL_law_3060 : decode cL_law 3060 = .ok (.ifCond .ne 15, 3) := by decide +kernel
theorem dL_law_3063 : decode cL_law 3063 = .ok (.aload_n 3, 1) := by decide +kernel
theorem dL_law_3064 : decode cL_law 3064 = .ok (.iconst 0, 1) := by decide +kernel
theorem dL_law_3065 : decode cL_law 3065 = .ok (.laload, 1) := by decide +kernel
theorem dL_law_3066 : decode cL_law 3066 = .ok (.iload 7, 2) := by decide +kernel
theorem dL_law_3068 : decode cL_law 3068 = .ok (.i2l, 1) := by decide +kernel
theorem dL_law_3069 : decode cL_law 3069 = .ok (.lcmp, 1) := by decide +kernel
theorem dL_law_3070 : decode cL_law 3070 = .ok (.ifCond .eq 5, 3) := by decide +kernel
theorem dL_law_3073 : decode cL_law 3073 = .ok (.iconst 0, 1) := by decide +kernel
theorem dL_law_3074 : decode cL_law 3074 = .ok (.ireturn, 1) := by decide +kernel
theorem dL_law_3075 : decode cL_law 3075 = .ok (.goto 286, 3) := by decide +kernel
theorem dL_law_3078 : decode cL_law 3078 = .ok (.aload_n 1, 1) := by decide +kernel
theorem dL_law_3079 : decode cL_law 3079 = .ok (.invokevirtual 331, 3) := by decide +kernel
theorem dL_law_3082 : decode cL_law 3082 = .ok (.aload_n 2, 1) := by decide +kernel
theorem dL_law_3083 : decode cL_law 3083 = .ok (.invokevirtual 334, 3) := by decide +kernel
theorem dL_law_3086 : decode cL_law 3086 = .ok (.if_icmp .eq 275, 3) := by decide +kernel
theorem dL_law_3089 : decode cL_law 3089 = .ok (.iconst 0, 1) := by decide +kernel
theorem dL_law_3090 : decode cL_law 3090 = .ok (.ireturn, 1) := by decide +kernel
theorem dL_law_3091 : decode cL_law 3091 = .ok (.aload_n 1, 1) := by decide +kernel
theorem dL_law_3092 : decode cL_law 3092 = .ok (.aload_n 3, 1) := by decide +kernel
theorem dL_law_3093 : decode cL_law 3093 = .ok (.invokestatic 335, 3) := by decide +kernel
theorem dL_law_3096 : decode cL_law 3096 = .ok (.istore 6, 2) := by decide +kernel
theorem dL_law_3098 : decode cL_law 3098 = .ok (.aload_n 2, 1) := by decide +kernel
theorem dL_law_3099 : decode cL_law 3099 = .ok (.invokevirtual 337, 3) := by decide +kernel
theorem dL_law_3102 : decode cL_law 3102 = .ok (.istore 7, 2) := by decide +kernel
theorem dL_law_3104 : decode cL_law 3104 = .ok (.aload_n 2, 1) := by decide +kernel
theorem dL_law_3105 : decode cL_law 3105 = .ok (.invokevirtual 168, 3) := by decide +kernel
theorem dL_law_3108 : decode cL_law 3108 = .ok (.iload 6, 2) := by decide +kernel
theorem dL_law_3110 : decode cL_law 3110 = .ok (.if_icmp .eq 5, 3) := by decide +kernel
theorem dL_law_3113 : decode cL_law 3113 = .ok (.iconst 0, 1) := by decide +kernel
theorem dL_law_3114 : decode cL_law 3114 = .ok (.ireturn, 1) := by decide +kernel
theorem dL_law_3115 : decode cL_law 3115 = .ok (.iload 6, 2) := by decide +kernel
theorem dL_law_3117 : decode cL_law 3117 = .ok (.ifCond .ne 15, 3) := by decide +kernel
theorem dL_law_3120 : decode cL_law 3120 = .ok (.aload_n 3, 1) := by decide +kernel
theorem dL_law_3121 : decode cL_law 3121 = .ok (.iconst 0, 1) := by decide +kernel
theorem dL_law_3122 : decode cL_law 3122 = .ok (.laload, 1) := by decide +kernel
theorem dL_law_3123 : decode cL_law 3123 = .ok (.iload 7, 2) := by decide +kernel
theorem dL_law_3125 : decode cL_law 3125 = .ok (.i2l, 1) := by decide +kernel
theorem dL_law_3126 : decode cL_law 3126 = .ok (.lcmp, 1) := by decide +kernel
theorem dL_law_3127 : decode cL_law 3127 = .ok (.ifCond .eq 5, 3) := by decide +kernel
theorem dL_law_3130 : decode cL_law 3130 = .ok (.iconst 0, 1) := by decide +kernel
theorem dL_law_3131 : decode cL_law 3131 = .ok (.ireturn, 1) := by decide +kernel
theorem dL_law_3132 : decode cL_law 3132 = .ok (.goto 229, 3) := by decide +kernel
theorem dL_law_3135 : decode cL_law 3135 = .ok (.aload_n 1, 1) := by decide +kernel
theorem dL_law_3136 : decode cL_law 3136 = .ok (.aload_n 0, 1) := by decide +kernel
theorem dL_law_3137 : decode cL_law 3137 = .ok (.iload 5, 2) := by decide +kernel
theorem dL_law_3139 : decode cL_law 3139 = .ok (.iconst 1, 1) := by decide +kernel
theorem dL_law_3140 : decode cL_law 3140 = .ok (.iadd, 1) := by decide +kernel
theorem dL_law_3141 : decode cL_law 3141 = .ok (.iaload, 1) := by decide +kernel
theorem dL_law_3142 : decode cL_law 3142 = .ok (.aload_n 3, 1) := by decide +kernel
theorem dL_law_3143 : decode cL_law 3143 = .ok (.invokestatic 338, 3) := by decide +kernel
theorem dL_law_3146 : decode cL_law 3146 = .ok (.istore 6, 2) := by decide +kernel
theorem dL_law_3148 : decode cL_law 3148 = .ok (.aload_n 2, 1) := by decide +kernel
theorem dL_law_3149 : decode cL_law 3149 = .ok (.aload_n 0, 1) := by decide +kernel
theorem dL_law_3150 : decode cL_law 3150 = .ok (.iload 5, 2) := by decide +kernel
theorem dL_law_3152 : decode cL_law 3152 = .ok (.iconst 1, 1) := by decide +kernel
theorem dL_law_3153 : decode cL_law 3153 = .ok (.iadd, 1) := by decide +kernel
theorem dL_law_3154 : decode cL_law 3154 = .ok (.iaload, 1) := by decide +kernel
theorem dL_law_3155 : decode cL_law 3155 = .ok (.invokevirtual 340, 3) := by decide +kernel
theorem dL_law_3158 : decode cL_law 3158 = .ok (.istore 7, 2) := by decide +kernel
theorem dL_law_3160 : decode cL_law 3160 = .ok (.aload_n 2, 1) := by decide +kernel
theorem dL_law_3161 : decode cL_law 3161 = .ok (.invokevirtual 168, 3) := by decide +kernel
theorem dL_law_3164 : decode cL_law 3164 = .ok (.iload 6, 2) := by decide +kernel
theorem dL_law_3166 : decode cL_law 3166 = .ok (.if_icmp .eq 5, 3) := by decide +kernel
theorem dL_law_3169 : decode cL_law 3169 = .ok (.iconst 0, 1) := by decide +kernel
theorem dL_law_3170 : decode cL_law 3170 = .ok (.ireturn, 1) := by decide +kernel
theorem dL_law_3171 : decode cL_law 3171 = .ok (.iload 6, 2) := by decide +kernel
theorem dL_law_3173 : decode cL_law 3173 = .ok (.ifCond .ne 15, 3) := by decide +kernel
theorem dL_law_3176 : decode cL_law 3176 = .ok (.aload_n 3, 1) := by decide +kernel
theorem dL_law_3177 : decode cL_law 3177 = .ok (.iconst 0, 1) := by decide +kernel
theorem dL_law_3178 : decode cL_law 3178 = .ok (.laload, 1) := by decide +kernel
theorem dL_law_3179 : decode cL_law 3179 = .ok (.iload 7, 2) := by decide +kernel
theorem dL_law_3181 : decode cL_law 3181 = .ok (.i2l, 1) := by decide +kernel
theorem dL_law_3182 : decode cL_law 3182 = .ok (.lcmp, 1) := by decide +kernel
theorem dL_law_3183 : decode cL_law 3183 = .ok (.ifCond .eq 5, 3) := by decide +kernel
theorem dL_law_3186 : decode cL_law 3186 = .ok (.iconst 0, 1) := by decide +kernel
theorem dL_law_3187 : decode cL_law 3187 = .ok (.ireturn, 1) := by decide +kernel
theorem dL_law_3188 : decode cL_law 3188 = .ok (.goto 173, 3) := by decide +kernel
theorem dL_law_3191 : decode cL_law 3191 = .ok (.aload_n 1, 1) := by decide +kernel
theorem dL_law_3192 : decode cL_law 3192 = .ok (.invokevirtual 341, 3) := by decide +kernel
theorem dL_law_3195 : decode cL_law 3195 = .ok (.aload_n 2, 1) := by decide +kernel
theorem dL_law_3196 : decode cL_law 3196 = .ok (.invokevirtual 344, 3) := by decide +kernel
theorem dL_law_3199 : decode cL_law 3199 = .ok (.if_icmp .eq 162, 3) := by decide +kernel
theorem dL_law_3202 : decode cL_law 3202 = .ok (.iconst 0, 1) := by decide +kernel
theorem dL_law_3203 : decode cL_law 3203 = .ok (.ireturn, 1) := by decide +kernel
theorem dL_law_3204 : decode cL_law 3204 = .ok (.aload_n 1, 1) := by decide +kernel
theorem dL_law_3205 : decode cL_law 3205 = .ok (.invokevirtual 345, 3) := by decide +kernel
theorem dL_law_3208 : decode cL_law 3208 = .ok (.aload_n 2, 1) := by decide +kernel
theorem dL_law_3209 : decode cL_law 3209 = .ok (.invokevirtual 348, 3) := by decide +kernel
theorem dL_law_3212 : decode cL_law 3212 = .ok (.if_icmp .eq 149, 3) := by decide +kernel
theorem dL_law_3215 : decode cL_law 3215 = .ok (.iconst 0, 1) := by decide +kernel
theorem dL_law_3216 : decode cL_law 3216 = .ok (.ireturn, 1) := by decide +kernel
theorem dL_law_3217 : decode cL_law 3217 = .ok (.aload_n 1, 1) := by decide +kernel
theorem dL_law_3218 : decode cL_law 3218 = .ok (.aload 4, 2) := by decide +kernel
theorem dL_law_3220 : decode cL_law 3220 = .ok (.invokestatic 349, 3) := by decide +kernel
theorem dL_law_3223 : decode cL_law 3223 = .ok (.istore 6, 2) := by decide +kernel
theorem dL_law_3225 : decode cL_law 3225 = .ok (.aload_n 2, 1) := by decide +kernel
theorem dL_law_3226 : decode cL_law 3226 = .ok (.invokevirtual 352, 3) := by decide +kernel
theorem dL_law_3229 : decode cL_law 3229 = .ok (.dstore 7, 2) := by decide +kernel
theorem dL_law_3231 : decode cL_law 3231 = .ok (.aload_n 2, 1) := by decide +kernel
theorem dL_law_3232 : decode cL_law 3232 = .ok (.invokevirtual 168, 3) := by decide +kernel
theorem dL_law_3235 : decode cL_law 3235 = .ok (.iload 6, 2) := by decide +kernel
theorem dL_law_3237 : decode cL_law 3237 = .ok (.if_icmp .eq 5, 3) := by decide +kernel
theorem dL_law_3240 : decode cL_law 3240 = .ok (.iconst 0, 1) := by decide +kernel
theorem dL_law_3241 : decode cL_law 3241 = .ok (.ireturn, 1) := by decide +kernel
theorem dL_law_3242 : decode cL_law 3242 = .ok (.iload 6, 2) := by decide +kernel
theorem dL_law_3244 : decode cL_law 3244 = .ok (.ifCond .ne 35, 3) := by decide +kernel

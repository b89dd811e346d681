theorem dX12_isDouble_10 : decode cX12_isDouble 10 = .ok (.if_icmp .ne 7, 3) := by decide +kernel
theorem dX12_isDouble_13 : decode cX12_isDouble 13 = .ok (.iconst 1, 1) := by decide +kernel
theorem dX12_isDouble_14 : decode cX12_isDouble 14 = .ok (.goto 4, 3) := by decide +kernel
theorem dX12_isDouble_17 : decode cX12_isDouble 17 = .ok (.iconst 0, 1) := by decide +kernel
theorem dX12_isDouble_18 : decode cX12_isDouble 18 = .ok (.ireturn, 1) := by decide +kernel
set_option maxRecDepth 20000 in
theorem ggX12_isAt_X12_isDouble : GoodIn wsX12_isAt wsX12_isDouble := goodIn_r _ [6, 7, 8, 9, 10, 11, 12, 13, 14, 15, 16, 17, 18, 19, 20, 21, 22, 23, 24, 25, 26, 27, 28, 29, 30, 31, 32, 33, 34, 35, 36, 37] (by decide +kernel) (by decide +kernel)
set_option maxRecDepth 20000 in
theorem gX12_isAt_X12_isDouble : GoodIn wsX12_isAt (wsV RX12 128 RX12 yX12_isDouble wsX12_isDouble) := goodIn_app (goodIn_of _ (by decide +kernel)) ggX12_isAt_X12_isDouble
theorem dX12_isAt_0 : decode cX12_isAt 0 = .ok (.aload_n 0, 1) := by decide +kernel
theorem dX12_isAt_1 : decode cX12_isAt 1 = .ok (.getfield 20, 3) := by decide +kernel
theorem dX12_isAt_4 : decode cX12_isAt 4 = .ok (.iload_n 1, 1) := by decide +kernel
theorem dX12_isAt_5 : decode cX12_isAt 5 = .ok (.iaload, 1) := by decide +kernel
theorem dX12_isAt_6 : decode cX12_isAt 6 = .ok (.iload_n 2, 1) := by decide +kernel
theorem dX12_isAt_7 : decode cX12_isAt 7 = .ok (.if_icmp .eq 23, 3) := by decide +kernel
theorem dX12_isAt_10 : decode cX12_isAt 10 = .ok (.aload_n 0, 1) := by decide +kernel
theorem dX12_isAt_11 : decode cX12_isAt 11 = .ok (.iload_n 1, 1) := by decide +kernel
theorem dX12_isAt_12 : decode cX12_isAt 12 = .ok (.invokevirtual 128, 3) := by decide +kernel
theorem dX12_isAt_15 : decode cX12_isAt 15 = .ok (.ifCond .eq 19, 3) := by decide +kernel
theorem dX12_isAt_18 : decode cX12_isAt 18 = .ok (.aload_n 0, 1) := by decide +kernel
theorem dX12_isAt_19 : decode cX12_isAt 19 = .ok (.getfield 20, 3) := by decide +kernel
theorem dX12_isAt_22 : decode cX12_isAt 22 = .ok (.iload_n 1, 1) := by decide +kernel
theorem dX12_isAt_23 : decode cX12_isAt 23 = .ok (.iaload, 1) := by decide +kernel
theorem dX12_isAt_24 : decode cX12_isAt 24 = .ok (.iconst 1, 1) := by decide +kernel
theorem dX12_isAt_25 : decode cX12_isAt 25 = .ok (.iadd, 1) := by decide +kernel
theorem dX12_isAt_26 : decode cX12_isAt 26 = .ok (.iload_n 2, 1) := by decide +kernel
theorem dX12_isAt_27 : decode cX12_isAt 27 = .ok (.if_icmp .ne 7, 3) := by decide +kernel
theorem dX12_isAt_30 : decode cX12_isAt 30 = .ok (.iconst 1, 1) := by decide +kernel
theorem dX12_isAt_31 : decode cX12_isAt 31 = .ok (.goto 4, 3) := by decide +kernel
theorem dX12_isAt_34 : decode cX12_isAt 34 = .ok (.iconst 0, 1) := by decide +kernel
theorem dX12_isAt_35 : decode cX12_isAt 35 = .ok (.ireturn, 1) := by decide +kernel
set_option maxRecDepth 20000 in
theorem ggX12_doMeet_X12_isAt : GoodIn wsX12_doMeet wsX12_isAt := goodIn_r _ [6, 1, 7, 8, 9, 5, 10, 11, 12, 13, 14, 15, 16, 17, 18, 19, 20, 21, 22, 23, 24, 25, 26, 27, 28, 29, 30, 31, 32, 33, 34, 35, 36, 37, 38, 39, 40, 41] (by decide +kernel) (by decide +kernel)
set_option maxRecDepth 20000 in
theorem gX12_doMeet_X12_isAt : GoodIn wsX12_doMeet (wsV RX12 131 RX12 yX12_isAt wsX12_isAt) := goodIn_app (goodIn_of _ (by decide +kernel)) ggX12_doMeet_X12_isAt
set_option maxRecDepth 20000 in
theorem ggX12_doMeet_X12_isDouble : GoodIn wsX12_doMeet wsX12_isDouble := goodIn_r _ [10, 11, 12, 13, 14, 15, 16, 17, 18, 19, 20, 21, 22, 23, 24, 25, 26, 27, 28, 29, 30, 31, 32, 33, 34, 35, 36, 37, 38, 39, 40, 41] (by decide +kernel) (by decide +kernel)
set_option maxRecDepth 20000 in
theorem gX12_doMeet_X12_isDouble : GoodIn wsX12_doMeet (wsV RX12 128 RX12 yX12_isDouble wsX12_isDouble) := goodIn_app (goodIn_of _ (by decide +kernel)) ggX12_doMeet_X12_isDouble
theorem dX12_doMeet_0 : decode cX12_doMeet 0 = .ok (.aload_n 0, 1) := by decide +kernel
theorem dX12_doMeet_1 : decode cX12_doMeet 1 = .ok (.iload_n 1, 1) := by decide +kernel
theorem dX12_doMeet_2 : decode cX12_doMeet 2 = .ok (.aload_n 0, 1) := by decide +kernel
theorem dX12_doMeet_3 : decode cX12_doMeet 3 = .ok (.getfield 20, 3) := by decide +kernel
theorem dX12_doMeet_6 : decode cX12_doMeet 6 = .ok (.iload_n 2, 1) := by decide +kernel
theorem dX12_doMeet_7 : decode cX12_doMeet 7 = .ok (.iaload, 1) := by decide +kernel
theorem dX12_doMeet_8 : decode cX12_doMeet 8 = .ok (.invokevirtual 131, 3) := by decide +kernel
theorem dX12_doMeet_11 : decode cX12_doMeet 11 = .ok (.ifCond .ne 27, 3) := by decide +kernel
theorem dX12_doMeet_14 : decode cX12_doMeet 14 = .ok (.aload_n 0, 1) := by decide +kernel
theorem dX12_doMeet_15 : decode cX12_doMeet 15 = .ok (.iload_n 2, 1) := by decide +kernel
theorem dX12_doMeet_16 : decode cX12_doMeet 16 = .ok (.invokevirtual 128, 3) := by decide +kernel
theorem dX12_doMeet_19 : decode cX12_doMeet 19 = .ok (.ifCond .eq 23, 3) := by decide +kernel
theorem dX12_doMeet_22 : decode cX12_doMeet 22 = .ok (.aload_n 0, 1) := by decide +kernel
theorem dX12_doMeet_23 : decode cX12_doMeet 23 = .ok (.iload_n 1, 1) := by decide +kernel
theorem dX12_doMeet_24 : decode cX12_doMeet 24 = .ok (.aload_n 0, 1) := by decide +kernel
theorem dX12_doMeet_25 : decode cX12_doMeet 25 = .ok (.getfield 20, 3) := by decide +kernel
theorem dX12_doMeet_28 : decode cX12_doMeet 28 = .ok (.iload_n 2, 1) := by decide +kernel
theorem dX12_doMeet_29 : decode cX12_doMeet 29 = .ok (.iaload, 1) := by decide +kernel
theorem dX12_doMeet_30 : decode cX12_doMeet 30 = .ok (.iconst 1, 1) := by decide +kernel
theorem dX12_doMeet_31 : decode cX12_doMeet 31 = .ok (.iadd, 1) := by decide +kernel
theorem dX12_doMeet_32 : decode cX12_doMeet 32 = .ok (.invokevirtual 131, 3) := by decide +kernel
theorem dX12_doMeet_35 : decode cX12_doMeet 35 = .ok (.ifCond .eq 7, 3) := by decide +kernel
theorem dX12_doMeet_38 : decode cX12_doMeet 38 = .ok (.iconst 1, 1) := by decide +kernel
theorem dX12_doMeet_39 : decode cX12_doMeet 39 = .ok (.goto 4, 3) := by decide +kernel
theorem dX12_doMeet_42 : decode cX12_doMeet 42 = .ok (.iconst 0, 1) := by decide +kernel
theorem dX12_doMeet_43 : decode cX12_doMeet 43 = .ok (.ireturn, 1) := by decide +kernel
set_option maxRecDepth 20000 in
theorem ggX12_holdsFor_X12_isAt : GoodIn wsX12_holdsFor wsX12_isAt := goodIn_r _ [7, 2, 8, 9, 10, 6, 11, 1, 12, 13, 14, 15, 16, 17, 18, 19, 20, 21, 22, 23, 24, 25, 26, 27, 28, 29, 30, 31, 32, 33, 34, 35, 36, 37, 38, 39, 40, 41] (by decide +kernel) (by decide +kernel)
set_option maxRecDepth 20000 in
theorem gX12_holdsFor_X12_isAt : GoodIn wsX12_holdsFor (wsV RX12 131 RX12 yX12_isAt wsX12_isAt) := goodIn_app (goodIn_of _ (by decide +kernel)) ggX12_holdsFor_X12_isAt
theorem dX12_holdsFor_0 : decode cX12_holdsFor 0 = .ok (.aload_n 0, 1) := by decide +kernel
theorem dX12_holdsFor_1 : decode cX12_holdsFor 1 = .ok (.getfield 13, 3) := by decide +kernel
theorem dX12_holdsFor_4 : decode cX12_holdsFor 4 = .ok (.bipush 57, 2) := by decide +kernel
theorem dX12_holdsFor_6 : decode cX12_holdsFor 6 = .ok (.iload_n 1, 1) := by decide +kernel
theorem dX12_holdsFor_7 : decode cX12_holdsFor 7 = .ok (.iadd, 1) := by decide +kernel
theorem dX12_holdsFor_8 : decode cX12_holdsFor 8 = .ok (.iaload, 1) := by decide +kernel
theorem dX12_holdsFor_9 : decode cX12_holdsFor 9 = .ok (.istore_n 3, 1) := by decide +kernel
theorem dX12_holdsFor_10 : decode cX12_holdsFor 10 = .ok (.aload_n 0, 1) := by decide +kernel
theorem dX12_holdsFor_11 : decode cX12_holdsFor 11 = .ok (.getfield 13, 3) := by decide +kernel
theorem dX12_holdsFor_14 : decode cX12_holdsFor 14 = .ok (.bipush 69, 2) := by decide +kernel
theorem dX12_holdsFor_16 : decode cX12_holdsFor 16 = .ok (.iload_n 1, 1) := by decide +kernel
theorem dX12_holdsFor_17 : decode cX12_holdsFor 17 = .ok (.iadd, 1) := by decide +kernel
theorem dX12_holdsFor_18 : decode cX12_holdsFor 18 = .ok (.iaload, 1) := by decide +kernel
theorem dX12_holdsFor_19 : decode cX12_holdsFor 19 = .ok (.istore 4, 2) := by decide +kernel
theorem dX12_holdsFor_21 : decode cX12_holdsFor 21 = .ok (.aload_n 0, 1) := by decide +kernel
theorem dX12_holdsFor_22 : decode cX12_holdsFor 22 = .ok (.getfield 13, 3) := by decide +kernel
theorem dX12_holdsFor_25 : decode cX12_holdsFor 25 = .ok (.bipush 45, 2) := by decide +kernel
theorem dX12_holdsFor_27 : decode cX12_holdsFor 27 = .ok (.iload_n 1, 1) := by decide +kernel
theorem dX12_holdsFor_28 : decode cX12_holdsFor 28 = .ok (.iadd, 1) := by decide +kernel
theorem dX12_holdsFor_29 : decode cX12_holdsFor 29 = .ok (.iaload, 1) := by decide +kernel
theorem dX12_holdsFor_30 : decode cX12_holdsFor 30 = .ok (.tableswitch 133 0 3 #[30, 59, 87, 111], 30) := by decide +kernel
theorem dX12_holdsFor_60 : decode cX12_holdsFor 60 = .ok (.aload_n 0, 1) := by decide +kernel
theorem dX12_holdsFor_61 : decode cX12_holdsFor 61 = .ok (.getfield 13, 3) := by decide +kernel
theorem dX12_holdsFor_64 : decode cX12_holdsFor 64 = .ok (.bipush 9, 2) := by decide +kernel
theorem dX12_holdsFor_66 : decode cX12_holdsFor 66 = .ok (.iload_n 2, 1) := by decide +kernel
theorem dX12_holdsFor_67 : decode cX12_holdsFor 67 = .ok (.iadd, 1) := by decide +kernel
theorem dX12_holdsFor_68 : decode cX12_holdsFor 68 = .ok (.iaload, 1) := by decide +kernel
theorem dX12_holdsFor_69 : decode cX12_holdsFor 69 = .ok (.iload_n 3, 1) := by decide +kernel
theorem dX12_holdsFor_70 : decode cX12_holdsFor 70 = .ok (.if_icmp .ne 13, 3) := by decide +kernel
theorem dX12_holdsFor_73 : decode cX12_holdsFor 73 = .ok (.aload_n 0, 1) := by decide +kernel
theorem dX12_holdsFor_74 : decode cX12_holdsFor 74 = .ok (.iload_n 2, 1) := by decide +kernel
theorem dX12_holdsFor_75 : decode cX12_holdsFor 75 = .ok (.iload 4, 2) := by decide +kernel
theorem dX12_holdsFor_77 : decode cX12_holdsFor 77 = .ok (.invokevirtual 131, 3) := by decide +kernel
theorem dX12_holdsFor_80 : decode cX12_holdsFor 80 = .ok (.ifCond .ne 7, 3) := by decide +kernel
theorem dX12_holdsFor_83 : decode cX12_holdsFor 83 = .ok (.iconst 1, 1) := by decide +kernel
theorem dX12_holdsFor_84 : decode cX12_holdsFor 84 = .ok (.goto 4, 3) := by decide +kernel
theorem dX12_holdsFor_87 : decode cX12_holdsFor 87 = .ok (.iconst 0, 1) := by decide +kernel
theorem dX12_holdsFor_88 : decode cX12_holdsFor 88 = .ok (.ireturn, 1) := by decide +kernel
theorem dX12_holdsFor_89 : decode cX12_holdsFor 89 = .ok (.aload_n 0, 1) := by decide +kernel
theorem dX12_holdsFor_90 : decode cX12_holdsFor 90 = .ok (.getfield 13, 3) := by decide +kernel
theorem dX12_holdsFor_93 : decode cX12_holdsFor 93 = .ok (.iconst 0, 1) := by decide +kernel
theorem dX12_holdsFor_94 : decode cX12_holdsFor 94 = .ok (.iload_n 2, 1) := by decide +kernel
theorem dX12_holdsFor_95 : decode cX12_holdsFor 95 = .ok (.iadd, 1) := by decide +kernel
theorem dX12_holdsFor_96 : decode cX12_holdsFor 96 = .ok (.iaload, 1) := by decide +kernel
theorem dX12_holdsFor_97 : decode cX12_holdsFor 97 = .ok (.iload_n 3, 1) := by decide +kernel
theorem dX12_holdsFor_98 : decode cX12_holdsFor 98 = .ok (.if_icmp .ne 13, 3) := by decide +kernel
theorem dX12_holdsFor_101 : decode cX12_holdsFor 101 = .ok (.aload_n 0, 1) := by decide +kernel
theorem dX12_holdsFor_102 : decode cX12_holdsFor 102 = .ok (.iload_n 2, 1) := by decide +kernel
theorem dX12_holdsFor_103 : decode cX12_holdsFor 103 = .ok (.iload 4, 2) := by decide +kernel
theorem dX12_holdsFor_105 : decode cX12_holdsFor 105 = .ok (.invokevirtual 131, 3) := by decide +kernel
theorem dX12_holdsFor_108 : decode cX12_holdsFor 108 = .ok (.ifCond .ne 7, 3) := by decide +kernel
theorem dX12_holdsFor_111 : decode cX12_holdsFor 111 = .ok (.iconst 1, 1) := by decide +kernel
theorem dX12_holdsFor_112 : decode cX12_holdsFor 112 = .ok (.goto 4, 3) := by decide +kernel
theorem dX12_holdsFor_115 : decode cX12_holdsFor 115 = .ok (.iconst 0, 1) := by decide +kernel
theorem dX12_holdsFor_116 : decode cX12_holdsFor 116 = .ok (.ireturn, 1) := by decide +kernel
theorem dX12_holdsFor_117 : decode cX12_holdsFor 117 = .ok (.iload_n 2, 1) := by decide +kernel
theorem dX12_holdsFor_118 : decode cX12_holdsFor 118 = .ok (.iload_n 3, 1) := by decide +kernel
theorem dX12_holdsFor_119 : decode cX12_holdsFor 119 = .ok (.if_icmp .ne 16, 3) := by decide +kernel
theorem dX12_holdsFor_122 : decode cX12_holdsFor 122 = .ok (.aload_n 0, 1) := by decide +kernel
theorem dX12_holdsFor_123 : decode cX12_holdsFor 123 = .ok (.getfield 20, 3) := by decide +kernel
theorem dX12_holdsFor_126 : decode cX12_holdsFor 126 = .ok (.iload_n 2, 1) := by decide +kernel
theorem dX12_holdsFor_127 : decode cX12_holdsFor 127 = .ok (.iaload, 1) := by decide +kernel
theorem dX12_holdsFor_128 : decode cX12_holdsFor 128 = .ok (.iconst 4, 1) := by decide +kernel
theorem dX12_holdsFor_129 : decode cX12_holdsFor 129 = .ok (.idiv, 1) := by decide +kernel
theorem dX12_holdsFor_130 : decode cX12_holdsFor 130 = .ok (.iload 4, 2) := by decide +kernel
theorem dX12_holdsFor_132 : decode cX12_holdsFor 132 = .ok (.if_icmp .eq 7, 3) := by decide +kernel
theorem dX12_holdsFor_135 : decode cX12_holdsFor 135 = .ok (.iconst 1, 1) := by decide +kernel
theorem dX12_holdsFor_136 : decode cX12_holdsFor 136 = .ok (.goto 4, 3) := by decide +kernel
theorem dX12_holdsFor_139 : decode cX12_holdsFor 139 = .ok (.iconst 0, 1) := by decide +kernel
theorem dX12_holdsFor_140 : decode cX12_holdsFor 140 = .ok (.ireturn, 1) := by decide +kernel
theorem dX12_holdsFor_141 : decode cX12_holdsFor 141 = .ok (.iload_n 2, 1) := by decide +kernel
theorem dX12_holdsFor_142 : decode cX12_holdsFor 142 = .ok (.iload_n 3, 1) := by decide +kernel
theorem dX12_holdsFor_143 : decode cX12_holdsFor 143 = .ok (.if_icmp .ne 14, 3) := by decide +kernel
theorem dX12_holdsFor_146 : decode cX12_holdsFor 146 = .ok (.aload_n 0, 1) := by decide +kernel
theorem dX12_holdsFor_147 : decode cX12_holdsFor 147 = .ok (.getfield 20, 3) := by decide +kernel
theorem dX12_holdsFor_150 : decode cX12_holdsFor 150 = .ok (.iload_n 2, 1) := by decide +kernel
theorem dX12_holdsFor_151 : decode cX12_holdsFor 151 = .ok (.iaload, 1) := by decide +kernel
theorem dX12_holdsFor_152 : decode cX12_holdsFor 152 = .ok (.iload 4, 2) := by decide +kernel
theorem dX12_holdsFor_154 : decode cX12_holdsFor 154 = .ok (.if_icmp .ne 7, 3) := by decide +kernel
theorem dX12_holdsFor_157 : decode cX12_holdsFor 157 = .ok (.iconst 1, 1) := by decide +kernel
theorem dX12_holdsFor_158 : decode cX12_holdsFor 158 = .ok (.goto 4, 3) := by decide +kernel
theorem dX12_holdsFor_161 : decode cX12_holdsFor 161 = .ok (.iconst 0, 1) := by decide +kernel
theorem dX12_holdsFor_162 : decode cX12_holdsFor 162 = .ok (.ireturn, 1) := by decide +kernel
theorem dX12_holdsFor_163 : decode cX12_holdsFor 163 = .ok (.iconst 1, 1) := by decide +kernel
theorem dX12_holdsFor_164 : decode cX12_holdsFor 164 = .ok (.ireturn, 1) := by decide +kernel
theorem dX12_holdsForTwo_0 : decode cX12_holdsForTwo 0 = .ok (.aload_n 0, 1) := by decide +kernel
theorem dX12_holdsForTwo_1 : decode cX12_holdsForTwo 1 = .ok (.getfield 20, 3) := by decide +kernel
theorem dX12_holdsForTwo_4 : decode cX12_holdsForTwo 4 = .ok (.aload_n 0, 1) := by decide +kernel
theorem dX12_holdsForTwo_5 : decode cX12_holdsForTwo 5 = .ok (.getfield 13, 3) := by decide +kernel
theorem dX12_holdsForTwo_8 : decode cX12_holdsForTwo 8 = .ok (.bipush 57, 2) := by decide +kernel
theorem dX12_holdsForTwo_10 : decode cX12_holdsForTwo 10 = .ok (.iload_n 1, 1) := by decide +kernel
theorem dX12_holdsForTwo_11 : decode cX12_holdsForTwo 11 = .ok (.iadd, 1) := by decide +kernel
theorem dX12_holdsForTwo_12 : decode cX12_holdsForTwo 12 = .ok (.iaload, 1) := by decide +kernel
theorem dX12_holdsForTwo_13 : decode cX12_holdsForTwo 13 = .ok (.iaload, 1) := by decide +kernel
theorem dX12_holdsForTwo_14 : decode cX12_holdsForTwo 14 = .ok (.istore_n 2, 1) := by decide +kernel
theorem dX12_holdsForTwo_15 : decode cX12_holdsForTwo 15 = .ok (.aload_n 0, 1) := by decide +kernel
theorem dX12_holdsForTwo_16 : decode cX12_holdsForTwo 16 = .ok (.getfield 20, 3) := by decide +kernel
theorem dX12_holdsForTwo_19 : decode cX12_holdsForTwo 19 = .ok (.aload_n 0, 1) := by decide +kernel
theorem dX12_holdsForTwo_20 : decode cX12_holdsForTwo 20 = .ok (.getfield 13, 3) := by decide +kernel
theorem dX12_holdsForTwo_23 : decode cX12_holdsForTwo 23 = .ok (.bipush 69, 2) := by decide +kernel
theorem dX12_holdsForTwo_25 : decode cX12_holdsForTwo 25 = .ok (.iload_n 1, 1) := by decide +kernel
theorem dX12_holdsForTwo_26 : decode cX12_holdsForTwo 26 = .ok (.iadd, 1) := by decide +kernel
theorem dX12_holdsForTwo_27 : decode cX12_holdsForTwo 27 = .ok (.iaload, 1) := by decide +kernel
theorem dX12_holdsForTwo_28 : decode cX12_holdsForTwo 28 = .ok (.iaload, 1) := by decide +kernel
theorem dX12_holdsForTwo_29 : decode cX12_holdsForTwo 29 = .ok (.istore_n 3, 1) := by decide +kernel
theorem dX12_holdsForTwo_30 : decode cX12_holdsForTwo 30 = .ok (.aload_n 0, 1) := by decide +kernel
theorem dX12_holdsForTwo_31 : decode cX12_holdsForTwo 31 = .ok (.getfield 13, 3) := by decide +kernel
theorem dX12_holdsForTwo_34 : decode cX12_holdsForTwo 34 = .ok (.bipush 45, 2) := by decide +kernel
theorem dX12_holdsForTwo_36 : decode cX12_holdsForTwo 36 = .ok (.iload_n 1, 1) := by decide +kernel
theorem dX12_holdsForTwo_37 : decode cX12_holdsForTwo 37 = .ok (.iadd, 1) := by decide +kernel
theorem dX12_holdsForTwo_38 : decode cX12_holdsForTwo 38 = .ok (.iaload, 1) := by decide +kernel
theorem dX12_holdsForTwo_39 : decode cX12_holdsForTwo 39 = .ok (.istore 4, 2) := by decide +kernel
theorem dX12_holdsForTwo_41 : decode cX12_holdsForTwo 41 = .ok (.iload 4, 2) := by decide +kernel
theorem dX12_holdsForTwo_43 : decode cX12_holdsForTwo 43 = .ok (.iconst 4, 1) := by decide +kernel
theorem dX12_holdsForTwo_44 : decode cX12_holdsForTwo 44 = .ok (.if_icmp .ne 20, 3) := by decide +kernel
theorem dX12_holdsForTwo_47 : decode cX12_holdsForTwo 47 = .ok (.iload_n 2, 1) := by decide +kernel
theorem dX12_holdsForTwo_48 : decode cX12_holdsForTwo 48 = .ok (.iconst 4, 1) := by decide +kernel
theorem dX12_holdsForTwo_49 : decode cX12_holdsForTwo 49 = .ok (.idiv, 1) := by decide +kernel
theorem dX12_holdsForTwo_50 : decode cX12_holdsForTwo 50 = .ok (.iload_n 3, 1) := by decide +kernel
theorem dX12_holdsForTwo_51 : decode cX12_holdsForTwo 51 = .ok (.iconst 4, 1) := by decide +kernel
theorem dX12_holdsForTwo_52 : decode cX12_holdsForTwo 52 = .ok (.idiv, 1) := by decide +kernel
theorem dX12_holdsForTwo_53 : decode cX12_holdsForTwo 53 = .ok (.if_icmp .ne 7, 3) := by decide +kernel
theorem dX12_holdsForTwo_56 : decode cX12_holdsForTwo 56 = .ok (.iconst 1, 1) := by decide +kernel
theorem dX12_holdsForTwo_57 : decode cX12_holdsForTwo 57 = .ok (.goto 40, 3) := by decide +kernel
theorem dX12_holdsForTwo_60 : decode cX12_holdsForTwo 60 = .ok (.iconst 0, 1) := by decide +kernel
theorem dX12_holdsForTwo_61 : decode cX12_holdsForTwo 61 = .ok (.goto 36, 3) := by decide +kernel
theorem dX12_holdsForTwo_64 : decode cX12_holdsForTwo 64 = .ok (.iload 4, 2) := by decide +kernel
theorem dX12_holdsForTwo_66 : decode cX12_holdsForTwo 66 = .ok (.iconst 5, 1) := by decide +kernel
theorem dX12_holdsForTwo_67 : decode cX12_holdsForTwo 67 = .ok (.if_icmp .ne 20, 3) := by decide +kernel
theorem dX12_holdsForTwo_70 : decode cX12_holdsForTwo 70 = .ok (.iload_n 2, 1) := by decide +kernel
theorem dX12_holdsForTwo_71 : decode cX12_holdsForTwo 71 = .ok (.iconst 4, 1) := by decide +kernel
theorem dX12_holdsForTwo_72 : decode cX12_holdsForTwo 72 = .ok (.idiv, 1) := by decide +kernel
theorem dX12_holdsForTwo_73 : decode cX12_holdsForTwo 73 = .ok (.iload_n 3, 1) := by decide +kernel
theorem dX12_holdsForTwo_74 : decode cX12_holdsForTwo 74 = .ok (.iconst 4, 1) := by decide +kernel
theorem dX12_holdsForTwo_75 : decode cX12_holdsForTwo 75 = .ok (.idiv, 1) := by decide +kernel
theorem dX12_holdsForTwo_76 : decode cX12_holdsForTwo 76 = .ok (.if_icmp .eq 7, 3) := by decide +kernel
theorem dX12_holdsForTwo_79 : decode cX12_holdsForTwo 79 = .ok (.iconst 1, 1) := by decide +kernel
theorem dX12_holdsForTwo_80 : decode cX12_holdsForTwo 80 = .ok (.goto 17, 3) := by decide +kernel
theorem dX12_holdsForTwo_83 : decode cX12_holdsForTwo 83 = .ok (.iconst 0, 1) := by decide +kernel
theorem dX12_holdsForTwo_84 : decode cX12_holdsForTwo 84 = .ok (.goto 13, 3) := by decide +kernel
theorem dX12_holdsForTwo_87 : decode cX12_holdsForTwo 87 = .ok (.iload_n 2, 1) := by decide +kernel
theorem dX12_holdsForTwo_88 : decode cX12_holdsForTwo 88 = .ok (.iload_n 3, 1) := by decide +kernel
theorem dX12_holdsForTwo_89 : decode cX12_holdsForTwo 89 = .ok (.if_icmp .ge 7, 3) := by decide +kernel
theorem dX12_holdsForTwo_92 : decode cX12_holdsForTwo 92 = .ok (.iconst 1, 1) := by decide +kernel
theorem dX12_holdsForTwo_93 : decode cX12_holdsForTwo 93 = .ok (.goto 4, 3) := by decide +kernel
theorem dX12_holdsForTwo_96 : decode cX12_holdsForTwo 96 = .ok (.iconst 0, 1) := by decide +kernel
theorem dX12_holdsForTwo_97 : decode cX12_holdsForTwo 97 = .ok (.ireturn, 1) := by decide +kernel
set_option maxRecDepth 20000 in
theorem ggX12_holdsNow_X12_isOfTwo : GoodIn wsX12_holdsNow wsX12_isOfTwo := goodIn_r _ [6] (by decide +kernel) (by decide +kernel)
set_option maxRecDepth 20000 in
theorem gX12_holdsNow_X12_isOfTwo : GoodIn wsX12_holdsNow (wsV RX12 115 RX12 yX12_isOfTwo wsX12_isOfTwo) := goodIn_app (goodIn_of _ (by decide +kernel)) ggX12_holdsNow_X12_isOfTwo
set_option maxRecDepth 20000 in
theorem ggX12_holdsNow_X12_holdsForTwo : GoodIn wsX12_holdsNow wsX12_holdsForTwo := goodIn_r _ [10, 11, 1, 28, 29, 30, 31, 32, 33, 34, 35, 36, 37, 38, 39, 40, 41, 42, 43, 44, 45, 46, 47, 48, 49, 50, 51, 52, 53, 54, 55, 56, 57] (by decide +kernel) (by decide +kernel)
set_option maxRecDepth 20000 in
theorem gX12_holdsNow_X12_holdsForTwo : GoodIn wsX12_holdsNow (wsV RX12 134 RX12 yX12_holdsForTwo wsX12_holdsForTwo) := goodIn_app (goodIn_of _ (by decide +kernel)) ggX12_holdsNow_X12_holdsForTwo
set_option maxRecDepth 20000 in
theorem ggX12_holdsNow_X12_many : GoodIn wsX12_holdsNow wsX12_many := goodIn_r _ [15, 1, 28, 29, 30, 31, 32, 33, 34, 35, 36, 37, 38, 39, 40, 41, 42, 43, 44, 45, 46, 47, 48, 49, 50, 51, 52, 53, 54, 55, 56, 57] (by decide +kernel) (by decide +kernel)
set_option maxRecDepth 20000 in
theorem gX12_holdsNow_X12_many : GoodIn wsX12_holdsNow (wsV RX12 88 RX12 yX12_many wsX12_many) := goodIn_app (goodIn_of _ (by decide +kernel)) ggX12_holdsNow_X12_many
set_option maxRecDepth 20000 in
theorem ggX12_holdsNow_X12_holdsFor : GoodIn wsX12_holdsNow wsX12_holdsFor := goodIn_r _ [19, 1, 11, 20, 21, 22, 5, 23, 24, 25, 26, 27, 28, 29, 30, 31, 32, 33, 34, 35, 36, 37, 38, 39, 40, 41, 42, 43, 44, 45, 46, 47, 48, 49, 50, 51, 52, 53, 54, 55, 56, 57] (by decide +kernel) (by decide +kernel)
set_option maxRecDepth 20000 in
theorem gX12_holdsNow_X12_holdsFor : GoodIn wsX12_holdsNow (wsV RX12 137 RX12 yX12_holdsFor wsX12_holdsFor) := goodIn_app (goodIn_of _ (by decide +kernel)) ggX12_holdsNow_X12_holdsFor
theorem dX12_holdsNow_0 : decode cX12_holdsNow 0 = .ok (.aload_n 0, 1) := by decide +kernel
theorem dX12_holdsNow_1 : decode cX12_holdsNow 1 = .ok (.aload_n 0, 1) := by decide +kernel
theorem dX12_holdsNow_2 : decode cX12_holdsNow 2 = .ok (.getfield 13, 3) := by decide +kernel
theorem dX12_holdsNow_5 : decode cX12_holdsNow 5 = .ok (.bipush 45, 2) := by decide +kernel
theorem dX12_holdsNow_7 : decode cX12_holdsNow 7 = .ok (.iload_n 1, 1) := by decide +kernel
theorem dX12_holdsNow_8 : decode cX12_holdsNow 8 = .ok (.iadd, 1) := by decide +kernel
theorem dX12_holdsNow_9 : decode cX12_holdsNow 9 = .ok (.iaload, 1) := by decide +kernel
theorem dX12_holdsNow_10 : decode cX12_holdsNow 10 = .ok (.invokevirtual 115, 3) := by decide +kernel
theorem dX12_holdsNow_13 : decode cX12_holdsNow 13 = .ok (.ifCond .eq 9, 3) := by decide +kernel
theorem dX12_holdsNow_16 : decode cX12_holdsNow 16 = .ok (.aload_n 0, 1) := by decide +kernel
theorem dX12_holdsNow_17 : decode cX12_holdsNow 17 = .ok (.iload_n 1, 1) := by decide +kernel
theorem dX12_holdsNow_18 : decode cX12_holdsNow 18 = .ok (.invokevirtual 134, 3) := by decide +kernel
theorem dX12_holdsNow_21 : decode cX12_holdsNow 21 = .ok (.ireturn, 1) := by decide +kernel
theorem dX12_holdsNow_22 : decode cX12_holdsNow 22 = .ok (.iconst 0, 1) := by decide +kernel
theorem dX12_holdsNow_23 : decode cX12_holdsNow 23 = .ok (.istore_n 2, 1) := by decide +kernel
theorem dX12_holdsNow_24 : decode cX12_holdsNow 24 = .ok (.iload_n 2, 1) := by decide +kernel
theorem dX12_holdsNow_25 : decode cX12_holdsNow 25 = .ok (.aload_n 0, 1) := by decide +kernel
theorem dX12_holdsNow_26 : decode cX12_holdsNow 26 = .ok (.invokevirtual 88, 3) := by decide +kernel
theorem dX12_holdsNow_29 : decode cX12_holdsNow 29 = .ok (.if_icmp .ge 20, 3) := by decide +kernel
theorem dX12_holdsNow_32 : decode cX12_holdsNow 32 = .ok (.aload_n 0, 1) := by decide +kernel
theorem dX12_holdsNow_33 : decode cX12_holdsNow 33 = .ok (.iload_n 1, 1) := by decide +kernel
theorem dX12_holdsNow_34 : decode cX12_holdsNow 34 = .ok (.iload_n 2, 1) := by decide +kernel
theorem dX12_holdsNow_35 : decode cX12_holdsNow 35 = .ok (.invokevirtual 137, 3) := by decide +kernel
theorem dX12_holdsNow_38 : decode cX12_holdsNow 38 = .ok (.ifCond .ne 5, 3) := by decide +kernel
theorem dX12_holdsNow_41 : decode cX12_holdsNow 41 = .ok (.iconst 0, 1) := by decide +kernel
theorem dX12_holdsNow_42 : decode cX12_holdsNow 42 = .ok (.ireturn, 1) := by decide +kernel
theorem dX12_holdsNow_43 : decode cX12_holdsNow 43 = .ok (.iinc 2 1, 3) := by decide +kernel
theorem dX12_holdsNow_46 : decode cX12_holdsNow 46 = .ok (.goto (-22), 3) := by decide +kernel
theorem dX12_holdsNow_49 : decode cX12_holdsNow 49 = .ok (.iconst 1, 1) := by decide +kernel
theorem dX12_holdsNow_50 : decode cX12_holdsNow 50 = .ok (.ireturn, 1) := by decide +kernel
theorem dX12_isHard_0 : decode cX12_isHard 0 = .ok (.aload_n 0, 1) := by decide +kernel
theorem dX12_isHard_1 : decode cX12_isHard 1 = .ok (.getfield 13, 3) := by decide +kernel
theorem dX12_isHard_4 : decode cX12_isHard 4 = .ok (.bipush 81, 2) := by decide +kernel
theorem dX12_isHard_6 : decode cX12_isHard 6 = .ok (.iload_n 1, 1) := by decide +kernel
theorem dX12_isHard_7 : decode cX12_isHard 7 = .ok (.iadd, 1) := by decide +kernel
theorem dX12_isHard_8 : decode cX12_isHard 8 = .ok (.iaload, 1) := by decide +kernel
theorem dX12_isHard_9 : decode cX12_isHard 9 = .ok (.ifCond .ne 16, 3) := by decide +kernel
theorem dX12_isHard_12 : decode cX12_isHard 12 = .ok (.aload_n 0, 1) := by decide +kernel
theorem dX12_isHard_13 : decode cX12_isHard 13 = .ok (.getfield 23, 3) := by decide +kernel
theorem dX12_isHard_16 : decode cX12_isHard 16 = .ok (.iload_n 1, 1) := by decide +kernel
theorem dX12_isHard_17 : decode cX12_isHard 17 = .ok (.baload, 1) := by decide +kernel
theorem dX12_isHard_18 : decode cX12_isHard 18 = .ok (.ifCond .ne 7, 3) := by decide +kernel
theorem dX12_isHard_21 : decode cX12_isHard 21 = .ok (.iconst 1, 1) := by decide +kernel
theorem dX12_isHard_22 : decode cX12_isHard 22 = .ok (.goto 4, 3) := by decide +kernel
theorem dX12_isHard_25 : decode cX12_isHard 25 = .ok (.iconst 0, 1) := by decide +kernel
theorem dX12_isHard_26 : decode cX12_isHard 26 = .ok (.ireturn, 1) := by decide +kernel
set_option maxRecDepth 20000 in
theorem ggX12_canStand_X12_isDouble : GoodIn wsX12_canStand wsX12_isDouble := goodIn_r _ [7, 2, 25, 26, 27, 28, 29, 30, 31, 32, 33, 34, 35, 36, 37, 38, 39, 40, 41, 42, 43, 44, 45, 46, 47, 48, 49, 50, 51, 52, 53, 54] (by decide +kernel) (by decide +kernel)
set_option maxRecDepth 20000 in
theorem gX12_canStand_X12_isDouble : GoodIn wsX12_canStand (wsV RX12 128 RX12 yX12_isDouble wsX12_isDouble) := goodIn_app (goodIn_of _ (by decide +kernel)) ggX12_canStand_X12_isDouble
set_option maxRecDepth 20000 in
theorem ggX12_canStand_X12_isHard : GoodIn wsX12_canStand wsX12_isHard := goodIn_r _ [11, 2, 12, 25, 26, 27, 28, 29, 30, 31, 32, 33, 34, 35, 36, 37, 38, 39, 40, 41, 42, 43, 44, 45, 46, 47, 48, 49, 50, 51, 52, 53, 54] (by decide +kernel) (by decide +kernel)
set_option maxRecDepth 20000 in
theorem gX12_canStand_X12_isHard : GoodIn wsX12_canStand (wsV RX12 140 RX12 yX12_isHard wsX12_isHard) := goodIn_app (goodIn_of _ (by decide +kernel)) ggX12_canStand_X12_isHard
set_option maxRecDepth 20000 in
theorem ggX12_canStand_X12_isOfTwo : GoodIn wsX12_canStand wsX12_isOfTwo := goodIn_r _ [16] (by decide +kernel) (by decide +kernel)
set_option maxRecDepth 20000 in
theorem gX12_canStand_X12_isOfTwo : GoodIn wsX12_canStand (wsV RX12 115 RX12 yX12_isOfTwo wsX12_isOfTwo) := goodIn_app (goodIn_of _ (by decide +kernel)) ggX12_canStand_X12_isOfTwo
set_option maxRecDepth 20000 in
theorem ggX12_canStand_X12_holdsFor : GoodIn wsX12_canStand wsX12_holdsFor := goodIn_r _ [20, 2, 1, 21, 22, 23, 6, 24, 3, 4, 5, 7, 25, 26, 27, 28, 29, 30, 31, 32, 33, 34, 35, 36, 37, 38, 39, 40, 41, 42, 43, 44, 45, 46, 47, 48, 49, 50, 51, 52, 53, 54] (by decide +kernel) (by decide +kernel)
set_option maxRecDepth 20000 in
theorem gX12_canStand_X12_holdsFor : GoodIn wsX12_canStand (wsV RX12 137 RX12 yX12_holdsFor wsX12_holdsFor) := goodIn_app (goodIn_of _ (by decide +kernel)) ggX12_canStand_X12_holdsFor
theorem dX12_canStand_0 : decode cX12_canStand 0 = .ok (.aload_n 0, 1) := by decide +kernel
theorem dX12_canStand_1 : decode cX12_canStand 1 = .ok (.iload_n 1, 1) := by decide +kernel
theorem dX12_canStand_2 : decode cX12_canStand 2 = .ok (.invokevirtual 128, 3) := by decide +kernel
theorem dX12_canStand_5 : decode cX12_canStand 5 = .ok (.ifCond .eq 17, 3) := by decide +kernel
theorem dX12_canStand_8 : decode cX12_canStand 8 = .ok (.aload_n 0, 1) := by decide +kernel
theorem dX12_canStand_9 : decode cX12_canStand 9 = .ok (.getfield 20, 3) := by decide +kernel
theorem dX12_canStand_12 : decode cX12_canStand 12 = .ok (.iload_n 1, 1) := by decide +kernel
theorem dX12_canStand_13 : decode cX12_canStand 13 = .ok (.iaload, 1) := by decide +kernel
theorem dX12_canStand_14 : decode cX12_canStand 14 = .ok (.iconst 4, 1) := by decide +kernel
theorem dX12_canStand_15 : decode cX12_canStand 15 = .ok (.irem, 1) := by decide +kernel
theorem dX12_canStand_16 : decode cX12_canStand 16 = .ok (.iconst 3, 1) := by decide +kernel
theorem dX12_canStand_17 : decode cX12_canStand 17 = .ok (.if_icmp .ne 5, 3) := by decide +kernel
theorem dX12_canStand_20 : decode cX12_canStand 20 = .ok (.iconst 0, 1) := by decide +kernel
theorem dX12_canStand_21 : decode cX12_canStand 21 = .ok (.ireturn, 1) := by decide +kernel
theorem dX12_canStand_22 : decode cX12_canStand 22 = .ok (.iconst 0, 1) := by decide +kernel
theorem dX12_canStand_23 : decode cX12_canStand 23 = .ok (.istore_n 2, 1) := by decide +kernel
theorem dX12_canStand_24 : decode cX12_canStand 24 = .ok (.iload_n 2, 1) := by decide +kernel
theorem dX12_canStand_25 : decode cX12_canStand 25 = .ok (.aload_n 0, 1) := by decide +kernel
theorem dX12_canStand_26 : decode cX12_canStand 26 = .ok (.getfield 13, 3) := by decide +kernel
theorem dX12_canStand_29 : decode cX12_canStand 29 = .ok (.bipush 126, 2) := by decide +kernel
theorem dX12_canStand_31 : decode cX12_canStand 31 = .ok (.iaload, 1) := by decide +kernel
theorem dX12_canStand_32 : decode cX12_canStand 32 = .ok (.if_icmp .ge 44, 3) := by decide +kernel
theorem dX12_canStand_35 : decode cX12_canStand 35 = .ok (.aload_n 0, 1) := by decide +kernel
theorem dX12_canStand_36 : decode cX12_canStand 36 = .ok (.iload_n 2, 1) := by decide +kernel
theorem dX12_canStand_37 : decode cX12_canStand 37 = .ok (.invokevirtual 140, 3) := by decide +kernel
theorem dX12_canStand_40 : decode cX12_canStand 40 = .ok (.ifCond .eq 30, 3) := by decide +kernel
theorem dX12_canStand_43 : decode cX12_canStand 43 = .ok (.aload_n 0, 1) := by decide +kernel
theorem dX12_canStand_44 : decode cX12_canStand 44 = .ok (.aload_n 0, 1) := by decide +kernel
theorem dX12_canStand_45 : decode cX12_canStand 45 = .ok (.getfield 13, 3) := by decide +kernel
theorem dX12_canStand_48 : decode cX12_canStand 48 = .ok (.bipush 45, 2) := by decide +kernel
theorem dX12_canStand_50 : decode cX12_canStand 50 = .ok (.iload_n 2, 1) := by decide +kernel
theorem dX12_canStand_51 : decode cX12_canStand 51 = .ok (.iadd, 1) := by decide +kernel
theorem dX12_canStand_52 : decode cX12_canStand 52 = .ok (.iaload, 1) := by decide +kernel
theorem dX12_canStand_53 : decode cX12_canStand 53 = .ok (.invokevirtual 115, 3) := by decide +kernel
theorem dX12_canStand_56 : decode cX12_canStand 56 = .ok (.ifCond .ne 14, 3) := by decide +kernel
theorem dX12_canStand_59 : decode cX12_canStand 59 = .ok (.aload_n 0, 1) := by decide +kernel
theorem dX12_canStand_60 : decode cX12_canStand 60 = .ok (.iload_n 2, 1) := by decide +kernel
theorem dX12_canStand_61 : decode cX12_canStand 61 = .ok (.iload_n 1, 1) := by decide +kernel
theorem dX12_canStand_62 : decode cX12_canStand 62 = .ok (.invokevirtual 137, 3) := by decide +kernel
theorem dX12_canStand_65 : decode cX12_canStand 65 = .ok (.ifCond .ne 5, 3) := by decide +kernel
theorem dX12_canStand_68 : decode cX12_canStand 68 = .ok (.iconst 0, 1) := by decide +kernel
theorem dX12_canStand_69 : decode cX12_canStand 69 = .ok (.ireturn, 1) := by decide +kernel
theorem dX12_canStand_70 : decode cX12_canStand 70 = .ok (.iinc 2 1, 3) := by decide +kernel
theorem dX12_canStand_73 : decode cX12_canStand 73 = .ok (.goto (-49), 3) := by decide +kernel
theorem dX12_canStand_76 : decode cX12_canStand 76 = .ok (.iconst 1, 1) := by decide +kernel
theorem dX12_canStand_77 : decode cX12_canStand 77 = .ok (.ireturn, 1) := by decide +kernel
set_option maxRecDepth 20000 in
theorem ggX12_canStandBoth_X12_doMeet : GoodIn wsX12_canStandBoth wsX12_doMeet := goodIn_r _ [7, 2, 8, 9, 10, 6, 11, 12, 13, 14, 15, 1, 29, 30, 31, 32, 33, 34, 35, 36, 37, 38, 39, 40, 41, 42, 43, 44, 45, 46, 47, 48, 49, 50, 51, 52, 53, 54, 55, 56, 57, 58] (by decide +kernel) (by decide +kernel)
set_option maxRecDepth 20000 in
theorem gX12_canStandBoth_X12_doMeet : GoodIn wsX12_canStandBoth (wsV RX12 143 RX12 yX12_doMeet wsX12_doMeet) := goodIn_app (goodIn_of _ (by decide +kernel)) ggX12_canStandBoth_X12_doMeet
set_option maxRecDepth 20000 in
theorem ggX12_canStandBoth_X12_isHard : GoodIn wsX12_canStandBoth wsX12_isHard := goodIn_r _ [19, 1, 20, 29, 30, 31, 32, 33, 34, 35, 36, 37, 38, 39, 40, 41, 42, 43, 44, 45, 46, 47, 48, 49, 50, 51, 52, 53, 54, 55, 56, 57, 58] (by decide +kernel) (by decide +kernel)
set_option maxRecDepth 20000 in
theorem gX12_canStandBoth_X12_isHard : GoodIn wsX12_canStandBoth (wsV RX12 140 RX12 yX12_isHard wsX12_isHard) := goodIn_app (goodIn_of _ (by decide +kernel)) ggX12_canStandBoth_X12_isHard
set_option maxRecDepth 20000 in
theorem ggX12_canStandBoth_X12_isOfTwo : GoodIn wsX12_canStandBoth wsX12_isOfTwo := goodIn_r _ [24] (by decide +kernel) (by decide +kernel)
set_option maxRecDepth 20000 in
theorem gX12_canStandBoth_X12_isOfTwo : GoodIn wsX12_canStandBoth (wsV RX12 115 RX12 yX12_isOfTwo wsX12_isOfTwo) := goodIn_app (goodIn_of _ (by decide +kernel)) ggX12_canStandBoth_X12_isOfTwo
set_option maxRecDepth 20000 in
theorem ggX12_canStandBoth_X12_holdsForTwo : GoodIn wsX12_canStandBoth wsX12_holdsForTwo := goodIn_r _ [28, 2, 1, 29, 30, 31, 32, 33, 34, 35, 36, 37, 38, 39, 40, 41, 42, 43, 44, 45, 46, 47, 48, 49, 50, 51, 52, 53, 54, 55, 56, 57, 58] (by decide +kernel) (by decide +kernel)
set_option maxRecDepth 20000 in
theorem gX12_canStandBoth_X12_holdsForTwo : GoodIn wsX12_canStandBoth (wsV RX12 134 RX12 yX12_holdsForTwo wsX12_holdsForTwo) := goodIn_app (goodIn_of _ (by decide +kernel)) ggX12_canStandBoth_X12_holdsForTwo
theorem dX12_canStandBoth_0 : decode cX12_canStandBoth 0 = .ok (.aload_n 0, 1) := by decide +kernel
theorem dX12_canStandBoth_1 : decode cX12_canStandBoth 1 = .ok (.getfield 13, 3) := by decide +kernel
theorem dX12_canStandBoth_4 : decode cX12_canStandBoth 4 = .ok (.iconst 0, 1) := by decide +kernel
theorem dX12_canStandBoth_5 : decode cX12_canStandBoth 5 = .ok (.iload_n 1, 1) := by decide +kernel
theorem dX12_canStandBoth_6 : decode cX12_canStandBoth 6 = .ok (.iadd, 1) := by decide +kernel
theorem dX12_canStandBoth_7 : decode cX12_canStandBoth 7 = .ok (.iaload, 1) := by decide +kernel
theorem dX12_canStandBoth_8 : decode cX12_canStandBoth 8 = .ok (.aload_n 0, 1) := by decide +kernel
theorem dX12_canStandBoth_9 : decode cX12_canStandBoth 9 = .ok (.getfield 13, 3) := by decide +kernel
theorem dX12_canStandBoth_12 : decode cX12_canStandBoth 12 = .ok (.iconst 0, 1) := by decide +kernel
theorem dX12_canStandBoth_13 : decode cX12_canStandBoth 13 = .ok (.iload_n 2, 1) := by decide +kernel
theorem dX12_canStandBoth_14 : decode cX12_canStandBoth 14 = .ok (.iadd, 1) := by decide +kernel
theorem dX12_canStandBoth_15 : decode cX12_canStandBoth 15 = .ok (.iaload, 1) := by decide +kernel
theorem dX12_canStandBoth_16 : decode cX12_canStandBoth 16 = .ok (.if_icmp .ne 7, 3) := by decide +kernel
theorem dX12_canStandBoth_19 : decode cX12_canStandBoth 19 = .ok (.iconst 1, 1) := by decide +kernel
theorem dX12_canStandBoth_20 : decode cX12_canStandBoth 20 = .ok (.goto 4, 3) := by decide +kernel
theorem dX12_canStandBoth_23 : decode cX12_canStandBoth 23 = .ok (.iconst 0, 1) := by decide +kernel
theorem dX12_canStandBoth_24 : decode cX12_canStandBoth 24 = .ok (.istore_n 3, 1) := by decide +kernel
theorem dX12_canStandBoth_25 : decode cX12_canStandBoth 25 = .ok (.iload_n 3, 1) := by decide +kernel
theorem dX12_canStandBoth_26 : decode cX12_canStandBoth 26 = .ok (.ifCond .ne 24, 3) := by decide +kernel
theorem dX12_canStandBoth_29 : decode cX12_canStandBoth 29 = .ok (.aload_n 0, 1) := by decide +kernel
theorem dX12_canStandBoth_30 : decode cX12_canStandBoth 30 = .ok (.getfield 13, 3) := by decide +kernel
theorem dX12_canStandBoth_33 : decode cX12_canStandBoth 33 = .ok (.bipush 9, 2) := by decide +kernel
theorem dX12_canStandBoth_35 : decode cX12_canStandBoth 35 = .ok (.iload_n 1, 1) := by decide +kernel
theorem dX12_canStandBoth_36 : decode cX12_canStandBoth 36 = .ok (.iadd, 1) := by decide +kernel
theorem dX12_canStandBoth_37 : decode cX12_canStandBoth 37 = .ok (.iaload, 1) := by decide +kernel
theorem dX12_canStandBoth_38 : decode cX12_canStandBoth 38 = .ok (.aload_n 0, 1) := by decide +kernel
theorem dX12_canStandBoth_39 : decode cX12_canStandBoth 39 = .ok (.getfield 13, 3) := by decide +kernel
theorem dX12_canStandBoth_42 : decode cX12_canStandBoth 42 = .ok (.bipush 9, 2) := by decide +kernel
theorem dX12_canStandBoth_44 : decode cX12_canStandBoth 44 = .ok (.iload_n 2, 1) := by decide +kernel
theorem dX12_canStandBoth_45 : decode cX12_canStandBoth 45 = .ok (.iadd, 1) := by decide +kernel
theorem dX12_canStandBoth_46 : decode cX12_canStandBoth 46 = .ok (.iaload, 1) := by decide +kernel
theorem dX12_canStandBoth_47 : decode cX12_canStandBoth 47 = .ok (.if_icmp .ne 14, 3) := by decide +kernel
theorem dX12_canStandBoth_50 : decode cX12_canStandBoth 50 = .ok (.aload_n 0, 1) := by decide +kernel
theorem dX12_canStandBoth_51 : decode cX12_canStandBoth 51 = .ok (.iload_n 1, 1) := by decide +kernel
theorem dX12_canStandBoth_52 : decode cX12_canStandBoth 52 = .ok (.iload_n 2, 1) := by decide +kernel
theorem dX12_canStandBoth_53 : decode cX12_canStandBoth 53 = .ok (.invokevirtual 143, 3) := by decide +kernel
theorem dX12_canStandBoth_56 : decode cX12_canStandBoth 56 = .ok (.ifCond .eq 5, 3) := by decide +kernel
theorem dX12_canStandBoth_59 : decode cX12_canStandBoth 59 = .ok (.iconst 0, 1) := by decide +kernel
theorem dX12_canStandBoth_60 : decode cX12_canStandBoth 60 = .ok (.ireturn, 1) := by decide +kernel
theorem dX12_canStandBoth_61 : decode cX12_canStandBoth 61 = .ok (.iload_n 3, 1) := by decide +kernel
theorem dX12_canStandBoth_62 : decode cX12_canStandBoth 62 = .ok (.ifCond .eq 45, 3) := by decide +kernel
theorem dX12_canStandBoth_65 : decode cX12_canStandBoth 65 = .ok (.aload_n 0, 1) := by decide +kernel
theorem dX12_canStandBoth_66 : decode cX12_canStandBoth 66 = .ok (.getfield 13, 3) := by decide +kernel
theorem dX12_canStandBoth_69 : decode cX12_canStandBoth 69 = .ok (.bipush 18, 2) := by decide +kernel
theorem dX12_canStandBoth_71 : decode cX12_canStandBoth 71 = .ok (.iload_n 1, 1) := by decide +kernel
theorem dX12_canStandBoth_72 : decode cX12_canStandBoth 72 = .ok (.iadd, 1) := by decide +kernel
theorem dX12_canStandBoth_73 : decode cX12_canStandBoth 73 = .ok (.iaload, 1) := by decide +kernel
theorem dX12_canStandBoth_74 : decode cX12_canStandBoth 74 = .ok (.aload_n 0, 1) := by decide +kernel
theorem dX12_canStandBoth_75 : decode cX12_canStandBoth 75 = .ok (.getfield 13, 3) := by decide +kernel
theorem dX12_canStandBoth_78 : decode cX12_canStandBoth 78 = .ok (.bipush 18, 2) := by decide +kernel
theorem dX12_canStandBoth_80 : decode cX12_canStandBoth 80 = .ok (.iload_n 2, 1) := by decide +kernel
theorem dX12_canStandBoth_81 : decode cX12_canStandBoth 81 = .ok (.iadd, 1) := by decide +kernel
theorem dX12_canStandBoth_82 : decode cX12_canStandBoth 82 = .ok (.iaload, 1) := by decide +kernel
theorem dX12_canStandBoth_83 : decode cX12_canStandBoth 83 = .ok (.if_icmp .ne 24, 3) := by decide +kernel
theorem dX12_canStandBoth_86 : decode cX12_canStandBoth 86 = .ok (.aload_n 0, 1) := by decide +kernel
theorem dX12_canStandBoth_87 : decode cX12_canStandBoth 87 = .ok (.getfield 20, 3) := by decide +kernel
theorem dX12_canStandBoth_90 : decode cX12_canStandBoth 90 = .ok (.iload_n 1, 1) := by decide +kernel
theorem dX12_canStandBoth_91 : decode cX12_canStandBoth 91 = .ok (.iaload, 1) := by decide +kernel
theorem dX12_canStandBoth_92 : decode cX12_canStandBoth 92 = .ok (.iconst 4, 1) := by decide +kernel
theorem dX12_canStandBoth_93 : decode cX12_canStandBoth 93 = .ok (.idiv, 1) := by decide +kernel
theorem dX12_canStandBoth_94 : decode cX12_canStandBoth 94 = .ok (.aload_n 0, 1) := by decide +kernel
theorem dX12_canStandBoth_95 : decode cX12_canStandBoth 95 = .ok (.getfield 20, 3) := by decide +kernel
theorem dX12_canStandBoth_98 : decode cX12_canStandBoth 98 = .ok (.iload_n 2, 1) := by decide +kernel
theorem dX12_canStandBoth_99 : decode cX12_canStandBoth 99 = .ok (.iaload, 1) := by decide +kernel
theorem dX12_canStandBoth_100 : decode cX12_canStandBoth 100 = .ok (.iconst 4, 1) := by decide +kernel
theorem dX12_canStandBoth_101 : decode cX12_canStandBoth 101 = .ok (.idiv, 1) := by decide +kernel
theorem dX12_canStandBoth_102 : decode cX12_canStandBoth 102 = .ok (.if_icmp .ne 5, 3) := by decide +kernel
theorem dX12_canStandBoth_105 : decode cX12_canStandBoth 105 = .ok (.iconst 0, 1) := by decide +kernel
theorem dX12_canStandBoth_106 : decode cX12_canStandBoth 106 = .ok (.ireturn, 1) := by decide +kernel
theorem dX12_canStandBoth_107 : decode cX12_canStandBoth 107 = .ok (.iconst 0, 1) := by decide +kernel
theorem dX12_canStandBoth_108 : decode cX12_canStandBoth 108 = .ok (.istore 4, 2) := by decide +kernel
theorem dX12_canStandBoth_110 : decode cX12_canStandBoth 110 = .ok (.iload 4, 2) := by decide +kernel
theorem dX12_canStandBoth_112 : decode cX12_canStandBoth 112 = .ok (.aload_n 0, 1) := by decide +kernel
theorem dX12_canStandBoth_113 : decode cX12_canStandBoth 113 = .ok (.getfield 13, 3) := by decide +kernel
theorem dX12_canStandBoth_116 : decode cX12_canStandBoth 116 = .ok (.bipush 126, 2) := by decide +kernel
theorem dX12_canStandBoth_118 : decode cX12_canStandBoth 118 = .ok (.iaload, 1) := by decide +kernel
theorem dX12_canStandBoth_119 : decode cX12_canStandBoth 119 = .ok (.if_icmp .ge 117, 3) := by decide +kernel
theorem dX12_canStandBoth_122 : decode cX12_canStandBoth 122 = .ok (.aload_n 0, 1) := by decide +kernel
theorem dX12_canStandBoth_123 : decode cX12_canStandBoth 123 = .ok (.iload 4, 2) := by decide +kernel
theorem dX12_canStandBoth_125 : decode cX12_canStandBoth 125 = .ok (.invokevirtual 140, 3) := by decide +kernel
theorem dX12_canStandBoth_128 : decode cX12_canStandBoth 128 = .ok (.ifCond .eq 102, 3) := by decide +kernel
theorem dX12_canStandBoth_131 : decode cX12_canStandBoth 131 = .ok (.aload_n 0, 1) := by decide +kernel
theorem dX12_canStandBoth_132 : decode cX12_canStandBoth 132 = .ok (.aload_n 0, 1) := by decide +kernel
theorem dX12_canStandBoth_133 : decode cX12_canStandBoth 133 = .ok (.getfield 13, 3) := by decide +kernel
theorem dX12_canStandBoth_136 : decode cX12_canStandBoth 136 = .ok (.bipush 45, 2) := by decide +kernel
theorem dX12_canStandBoth_138 : decode cX12_canStandBoth 138 = .ok (.iload 4, 2) := by decide +kernel
theorem dX12_canStandBoth_140 : decode cX12_canStandBoth 140 = .ok (.iadd, 1) := by decide +kernel
theorem dX12_canStandBoth_141 : decode cX12_canStandBoth 141 = .ok (.iaload, 1) := by decide +kernel
theorem dX12_canStandBoth_142 : decode cX12_canStandBoth 142 = .ok (.invokevirtual 115, 3) := by decide +kernel
theorem dX12_canStandBoth_145 : decode cX12_canStandBoth 145 = .ok (.ifCond .ne 6, 3) := by decide +kernel
theorem dX12_canStandBoth_148 : decode cX12_canStandBoth 148 = .ok (.goto 82, 3) := by decide +kernel
theorem dX12_canStandBoth_151 : decode cX12_canStandBoth 151 = .ok (.aload_n 0, 1) := by decide +kernel
theorem dX12_canStandBoth_152 : decode cX12_canStandBoth 152 = .ok (.getfield 13, 3) := by decide +kernel
theorem dX12_canStandBoth_155 : decode cX12_canStandBoth 155 = .ok (.bipush 57, 2) := by decide +kernel
theorem dX12_canStandBoth_157 : decode cX12_canStandBoth 157 = .ok (.iload 4, 2) := by decide +kernel
theorem dX12_canStandBoth_159 : decode cX12_canStandBoth 159 = .ok (.iadd, 1) := by decide +kernel
theorem dX12_canStandBoth_160 : decode cX12_canStandBoth 160 = .ok (.iaload, 1) := by decide +kernel
theorem dX12_canStandBoth_161 : decode cX12_canStandBoth 161 = .ok (.iload_n 1, 1) := by decide +kernel
theorem dX12_canStandBoth_162 : decode cX12_canStandBoth 162 = .ok (.if_icmp .ne 17, 3) := by decide +kernel
theorem dX12_canStandBoth_165 : decode cX12_canStandBoth 165 = .ok (.aload_n 0, 1) := by decide +kernel
theorem dX12_canStandBoth_166 : decode cX12_canStandBoth 166 = .ok (.getfield 13, 3) := by decide +kernel
theorem dX12_canStandBoth_169 : decode cX12_canStandBoth 169 = .ok (.bipush 69, 2) := by decide +kernel
theorem dX12_canStandBoth_171 : decode cX12_canStandBoth 171 = .ok (.iload 4, 2) := by decide +kernel
theorem dX12_canStandBoth_173 : decode cX12_canStandBoth 173 = .ok (.iadd, 1) := by decide +kernel
theorem dX12_canStandBoth_174 : decode cX12_canStandBoth 174 = .ok (.iaload, 1) := by decide +kernel
theorem dX12_canStandBoth_175 : decode cX12_canStandBoth 175 = .ok (.iload_n 2, 1) := by decide +kernel
theorem dX12_canStandBoth_176 : decode cX12_canStandBoth 176 = .ok (.if_icmp .eq 31, 3) := by decide +kernel
theorem dX12_canStandBoth_179 : decode cX12_canStandBoth 179 = .ok (.aload_n 0, 1) := by decide +kernel
theorem dX12_canStandBoth_180 : decode cX12_canStandBoth 180 = .ok (.getfield 13, 3) := by decide +kernel
theorem dX12_canStandBoth_183 : decode cX12_canStandBoth 183 = .ok (.bipush 57, 2) := by decide +kernel
theorem dX12_canStandBoth_185 : decode cX12_canStandBoth 185 = .ok (.iload 4, 2) := by decide +kernel
theorem dX12_canStandBoth_187 : decode cX12_canStandBoth 187 = .ok (.iadd, 1) := by decide +kernel
theorem dX12_canStandBoth_188 : decode cX12_canStandBoth 188 = .ok (.iaload, 1) := by decide +kernel
theorem dX12_canStandBoth_189 : decode cX12_canStandBoth 189 = .ok (.iload_n 2, 1) := by decide +kernel
theorem dX12_canStandBoth_190 : decode cX12_canStandBoth 190 = .ok (.if_icmp .ne 21, 3) := by decide +kernel
theorem dX12_canStandBoth_193 : decode cX12_canStandBoth 193 = .ok (.aload_n 0, 1) := by decide +kernel
theorem dX12_canStandBoth_194 : decode cX12_canStandBoth 194 = .ok (.getfield 13, 3) := by decide +kernel
theorem dX12_canStandBoth_197 : decode cX12_canStandBoth 197 = .ok (.bipush 69, 2) := by decide +kernel
theorem dX12_canStandBoth_199 : decode cX12_canStandBoth 199 = .ok (.iload 4, 2) := by decide +kernel
theorem dX12_canStandBoth_201 : decode cX12_canStandBoth 201 = .ok (.iadd, 1) := by decide +kernel
theorem dX12_canStandBoth_202 : decode cX12_canStandBoth 202 = .ok (.iaload, 1) := by decide +kernel
theorem dX12_canStandBoth_203 : decode cX12_canStandBoth 203 = .ok (.iload_n 1, 1) := by decide +kernel
theorem dX12_canStandBoth_204 : decode cX12_canStandBoth 204 = .ok (.if_icmp .ne 7, 3) := by decide +kernel
theorem dX12_canStandBoth_207 : decode cX12_canStandBoth 207 = .ok (.iconst 1, 1) := by decide +kernel
theorem dX12_canStandBoth_208 : decode cX12_canStandBoth 208 = .ok (.goto 4, 3) := by decide +kernel
theorem dX12_canStandBoth_211 : decode cX12_canStandBoth 211 = .ok (.iconst 0, 1) := by decide +kernel
theorem dX12_canStandBoth_212 : decode cX12_canStandBoth 212 = .ok (.istore 5, 2) := by decide +kernel
theorem dX12_canStandBoth_214 : decode cX12_canStandBoth 214 = .ok (.iload 5, 2) := by decide +kernel
theorem dX12_canStandBoth_216 : decode cX12_canStandBoth 216 = .ok (.ifCond .eq 14, 3) := by decide +kernel
theorem dX12_canStandBoth_219 : decode cX12_canStandBoth 219 = .ok (.aload_n 0, 1) := by decide +kernel
theorem dX12_canStandBoth_220 : decode cX12_canStandBoth 220 = .ok (.iload 4, 2) := by decide +kernel
theorem dX12_canStandBoth_222 : decode cX12_canStandBoth 222 = .ok (.invokevirtual 134, 3) := by decide +kernel
theorem dX12_canStandBoth_225 : decode cX12_canStandBoth 225 = .ok (.ifCond .ne 5, 3) := by decide +kernel
theorem dX12_canStandBoth_228 : decode cX12_canStandBoth 228 = .ok (.iconst 0, 1) := by decide +kernel
theorem dX12_canStandBoth_229 : decode cX12_canStandBoth 229 = .ok (.ireturn, 1) := by decide +kernel
theorem dX12_canStandBoth_230 : decode cX12_canStandBoth 230 = .ok (.iinc 4 1, 3) := by decide +kernel
theorem dX12_canStandBoth_233 : decode cX12_canStandBoth 233 = .ok (.goto (-123), 3) := by decide +kernel
theorem dX12_canStandBoth_236 : decode cX12_canStandBoth 236 = .ok (.iconst 1, 1) := by decide +kernel
theorem dX12_canStandBoth_237 : decode cX12_canStandBoth 237 = .ok (.ireturn, 1) := by decide +kernel
set_option maxRecDepth 20000 in
theorem ggX12_hasRoom_X12_isAt : GoodIn wsX12_hasRoom wsX12_isAt := goodIn_r _ [7, 2, 8, 9, 10, 6, 11, 1, 12, 13, 14, 15, 16, 17, 18, 19, 20, 21, 22, 23, 24, 25, 26, 27, 28, 29, 30, 31, 32, 33, 34, 35, 36, 37, 38, 39, 40, 41] (by decide +kernel) (by decide +kernel)
set_option maxRecDepth 20000 in
theorem gX12_hasRoom_X12_isAt : GoodIn wsX12_hasRoom (wsV RX12 131 RX12 yX12_isAt wsX12_isAt) := goodIn_app (goodIn_of _ (by decide +kernel)) ggX12_hasRoom_X12_isAt
theorem dX12_hasRoom_0 : decode cX12_hasRoom 0 = .ok (.aload_n 0, 1) := by decide +kernel
theorem dX12_hasRoom_1 : decode cX12_hasRoom 1 = .ok (.getfield 13, 3) := by decide +kernel
theorem dX12_hasRoom_4 : decode cX12_hasRoom 4 = .ok (.bipush 27, 2) := by decide +kernel
theorem dX12_hasRoom_6 : decode cX12_hasRoom 6 = .ok (.iload_n 1, 1) := by decide +kernel
theorem dX12_hasRoom_7 : decode cX12_hasRoom 7 = .ok (.iadd, 1) := by decide +kernel
theorem dX12_hasRoom_8 : decode cX12_hasRoom 8 = .ok (.iaload, 1) := by decide +kernel
theorem dX12_hasRoom_9 : decode cX12_hasRoom 9 = .ok (.istore_n 3, 1) := by decide +kernel
theorem dX12_hasRoom_10 : decode cX12_hasRoom 10 = .ok (.iconst 0, 1) := by decide +kernel
theorem dX12_hasRoom_11 : decode cX12_hasRoom 11 = .ok (.istore 4, 2) := by decide +kernel
theorem dX12_hasRoom_13 : decode cX12_hasRoom 13 = .ok (.iload_n 3, 1) := by decide +kernel
theorem dX12_hasRoom_14 : decode cX12_hasRoom 14 = .ok (.iconst (-1), 1) := by decide +kernel
theorem dX12_hasRoom_15 : decode cX12_hasRoom 15 = .ok (.if_icmp .eq 105, 3) := by decide +kernel
theorem dX12_hasRoom_18 : decode cX12_hasRoom 18 = .ok (.iload 4, 2) := by decide +kernel
theorem dX12_hasRoom_20 : decode cX12_hasRoom 20 = .ok (.aload_n 0, 1) := by decide +kernel
theorem dX12_hasRoom_21 : decode cX12_hasRoom 21 = .ok (.getfield 13, 3) := by decide +kernel
theorem dX12_hasRoom_24 : decode cX12_hasRoom 24 = .ok (.bipush 36, 2) := by decide +kernel
theorem dX12_hasRoom_26 : decode cX12_hasRoom 26 = .ok (.iload_n 1, 1) := by decide +kernel
theorem dX12_hasRoom_27 : decode cX12_hasRoom 27 = .ok (.iadd, 1) := by decide +kernel
theorem dX12_hasRoom_28 : decode cX12_hasRoom 28 = .ok (.iaload, 1) := by decide +kernel
theorem dX12_hasRoom_29 : decode cX12_hasRoom 29 = .ok (.if_icmp .gt 91, 3) := by decide +kernel
theorem dX12_hasRoom_32 : decode cX12_hasRoom 32 = .ok (.iconst 1, 1) := by decide +kernel
theorem dX12_hasRoom_33 : decode cX12_hasRoom 33 = .ok (.istore 5, 2) := by decide +kernel
theorem dX12_hasRoom_35 : decode cX12_hasRoom 35 = .ok (.iconst 0, 1) := by decide +kernel
theorem dX12_hasRoom_36 : decode cX12_hasRoom 36 = .ok (.istore 6, 2) := by decide +kernel
theorem dX12_hasRoom_38 : decode cX12_hasRoom 38 = .ok (.iload 6, 2) := by decide +kernel
theorem dX12_hasRoom_40 : decode cX12_hasRoom 40 = .ok (.iload_n 2, 1) := by decide +kernel
theorem dX12_hasRoom_41 : decode cX12_hasRoom 41 = .ok (.if_icmp .ge 57, 3) := by decide +kernel
theorem dX12_hasRoom_44 : decode cX12_hasRoom 44 = .ok (.iload 5, 2) := by decide +kernel
theorem dX12_hasRoom_46 : decode cX12_hasRoom 46 = .ok (.iload 6, 2) := by decide +kernel
theorem dX12_hasRoom_48 : decode cX12_hasRoom 48 = .ok (.iload_n 1, 1) := by decide +kernel
theorem dX12_hasRoom_49 : decode cX12_hasRoom 49 = .ok (.if_icmp .eq 39, 3) := by decide +kernel
theorem dX12_hasRoom_52 : decode cX12_hasRoom 52 = .ok (.aload_n 0, 1) := by decide +kernel
theorem dX12_hasRoom_53 : decode cX12_hasRoom 53 = .ok (.getfield 13, 3) := by decide +kernel
theorem dX12_hasRoom_56 : decode cX12_hasRoom 56 = .ok (.bipush 27, 2) := by decide +kernel
theorem dX12_hasRoom_58 : decode cX12_hasRoom 58 = .ok (.iload 6, 2) := by decide +kernel
theorem dX12_hasRoom_60 : decode cX12_hasRoom 60 = .ok (.iadd, 1) := by decide +kernel
theorem dX12_hasRoom_61 : decode cX12_hasRoom 61 = .ok (.iaload, 1) := by decide +kernel
theorem dX12_hasRoom_62 : decode cX12_hasRoom 62 = .ok (.iload_n 3, 1) := by decide +kernel
theorem dX12_hasRoom_63 : decode cX12_hasRoom 63 = .ok (.if_icmp .ne 25, 3) := by decide +kernel
theorem dX12_hasRoom_66 : decode cX12_hasRoom 66 = .ok (.aload_n 0, 1) := by decide +kernel
theorem dX12_hasRoom_67 : decode cX12_hasRoom 67 = .ok (.iload 6, 2) := by decide +kernel
theorem dX12_hasRoom_69 : decode cX12_hasRoom 69 = .ok (.aload_n 0, 1) := by decide +kernel
theorem dX12_hasRoom_70 : decode cX12_hasRoom 70 = .ok (.getfield 20, 3) := by decide +kernel
theorem dX12_hasRoom_73 : decode cX12_hasRoom 73 = .ok (.iload_n 1, 1) := by decide +kernel
theorem dX12_hasRoom_74 : decode cX12_hasRoom 74 = .ok (.iaload, 1) := by decide +kernel
theorem dX12_hasRoom_75 : decode cX12_hasRoom 75 = .ok (.iload 4, 2) := by decide +kernel
theorem dX12_hasRoom_77 : decode cX12_hasRoom 77 = .ok (.iadd, 1) := by decide +kernel
theorem dX12_hasRoom_78 : decode cX12_hasRoom 78 = .ok (.invokevirtual 131, 3) := by decide +kernel
theorem dX12_hasRoom_81 : decode cX12_hasRoom 81 = .ok (.ifCond .eq 7, 3) := by decide +kernel
theorem dX12_hasRoom_84 : decode cX12_hasRoom 84 = .ok (.iconst 1, 1) := by decide +kernel
theorem dX12_hasRoom_85 : decode cX12_hasRoom 85 = .ok (.goto 4, 3) := by decide +kernel
theorem dX12_hasRoom_88 : decode cX12_hasRoom 88 = .ok (.iconst 0, 1) := by decide +kernel
theorem dX12_hasRoom_89 : decode cX12_hasRoom 89 = .ok (.iadd, 1) := by decide +kernel
theorem dX12_hasRoom_90 : decode cX12_hasRoom 90 = .ok (.istore 5, 2) := by decide +kernel
theorem dX12_hasRoom_92 : decode cX12_hasRoom 92 = .ok (.iinc 6 1, 3) := by decide +kernel
theorem dX12_hasRoom_95 : decode cX12_hasRoom 95 = .ok (.goto (-57), 3) := by decide +kernel
theorem dX12_hasRoom_98 : decode cX12_hasRoom 98 = .ok (.iload 5, 2) := by decide +kernel
theorem dX12_hasRoom_100 : decode cX12_hasRoom 100 = .ok (.aload_n 0, 1) := by decide +kernel
theorem dX12_hasRoom_101 : decode cX12_hasRoom 101 = .ok (.getfield 13, 3) := by decide +kernel
theorem dX12_hasRoom_104 : decode cX12_hasRoom 104 = .ok (.bipush 99, 2) := by decide +kernel
theorem dX12_hasRoom_106 : decode cX12_hasRoom 106 = .ok (.iload_n 3, 1) := by decide +kernel
theorem dX12_hasRoom_107 : decode cX12_hasRoom 107 = .ok (.iadd, 1) := by decide +kernel
theorem dX12_hasRoom_108 : decode cX12_hasRoom 108 = .ok (.iaload, 1) := by decide +kernel
theorem dX12_hasRoom_109 : decode cX12_hasRoom 109 = .ok (.if_icmp .le 5, 3) := by decide +kernel
theorem dX12_hasRoom_112 : decode cX12_hasRoom 112 = .ok (.iconst 0, 1) := by decide +kernel
theorem dX12_hasRoom_113 : decode cX12_hasRoom 113 = .ok (.ireturn, 1) := by decide +kernel
theorem dX12_hasRoom_114 : decode cX12_hasRoom 114 = .ok (.iinc 4 1, 3) := by decide +kernel
theorem dX12_hasRoom_117 : decode cX12_hasRoom 117 = .ok (.goto (-104), 3) := by decide +kernel
theorem dX12_hasRoom_120 : decode cX12_hasRoom 120 = .ok (.iconst 1, 1) := by decide +kernel
theorem dX12_hasRoom_121 : decode cX12_hasRoom 121 = .ok (.ireturn, 1) := by decide +kernel
set_option maxRecDepth 20000 in
theorem ggX12_isRight_X12_many : GoodIn wsX12_isRight wsX12_many := goodIn_r _ [5, 6, 49, 50, 51, 52, 53, 54, 55, 56, 57, 58, 59, 60, 61, 62, 63, 64, 65, 66, 67, 68, 69, 70, 71, 72, 73, 74, 75, 76, 77, 78] (by decide +kernel) (by decide +kernel)
set_option maxRecDepth 20000 in
theorem gX12_isRight_X12_many : GoodIn wsX12_isRight (wsV RX12 88 RX12 yX12_many wsX12_many) := goodIn_app (goodIn_of _ (by decide +kernel)) ggX12_isRight_X12_many
set_option maxRecDepth 20000 in
theorem ggX12_isRight_X12_canStand : GoodIn wsX12_isRight wsX12_canStand := goodIn_r _ [10, 11, 6, 12, 13, 14, 4, 15, 16, 17, 18, 19, 20, 21, 22, 23, 24, 25, 26, 27, 28, 29, 30, 31, 32, 49, 50, 51, 52, 53, 54, 55, 56, 57, 58, 59, 60, 61, 62, 63, 64, 65, 66, 67, 68, 69, 70, 71, 72, 73, 74, 75, 76, 77, 78] (by decide +kernel) (by decide +kernel)
set_option maxRecDepth 20000 in
theorem gX12_isRight_X12_canStand : GoodIn wsX12_isRight (wsV RX12 146 RX12 yX12_canStand wsX12_canStand) := goodIn_app (goodIn_of _ (by decide +kernel)) ggX12_isRight_X12_canStand
set_option maxRecDepth 20000 in
theorem ggX12_isRight_X12_hasRoom : GoodIn wsX12_isRight wsX12_hasRoom := goodIn_r _ [36, 6, 11, 29, 30, 31, 4, 32, 12, 13, 14, 15, 49, 50, 51, 52, 53, 54, 55, 56, 57, 58, 59, 60, 61, 62, 63, 64, 65, 66, 67, 68, 69, 70, 71, 72, 73, 74, 75, 76, 77, 78] (by decide +kernel) (by decide +kernel)
set_option maxRecDepth 20000 in
theorem gX12_isRight_X12_hasRoom : GoodIn wsX12_isRight (wsV RX12 149 RX12 yX12_hasRoom wsX12_hasRoom) := goodIn_app (goodIn_of _ (by decide +kernel)) ggX12_isRight_X12_hasRoom
set_option maxRecDepth 20000 in
theorem ggX12_isRight_X12_canStandBoth : GoodIn wsX12_isRight wsX12_canStandBoth := goodIn_r _ [40, 6, 11, 41, 42, 43, 4, 44, 29, 30, 31, 32, 12, 13, 14, 15, 16, 17, 18, 19, 20, 21, 22, 23, 24, 45, 46, 47, 48, 49, 50, 51, 52, 53, 54, 55, 56, 57, 58, 59, 60, 61, 62, 63, 64, 65, 66, 67, 68, 69, 70, 71, 72, 73, 74, 75, 76, 77, 78] (by decide +kernel) (by decide +kernel)
set_option maxRecDepth 20000 in
theorem gX12_isRight_X12_canStandBoth : GoodIn wsX12_isRight (wsV RX12 152 RX12 yX12_canStandBoth wsX12_canStandBoth) := goodIn_app (goodIn_of _ (by decide +kernel)) ggX12_isRight_X12_canStandBoth
theorem dX12_isRight_0 : decode cX12_isRight 0 = .ok (.iconst 0, 1) := by decide +kernel
theorem dX12_isRight_1 : decode cX12_isRight 1 = .ok (.istore_n 1, 1) := by decide +kernel
theorem dX12_isRight_2 : decode cX12_isRight 2 = .ok (.iload_n 1, 1) := by decide +kernel
theorem dX12_isRight_3 : decode cX12_isRight 3 = .ok (.aload_n 0, 1) := by decide +kernel
theorem dX12_isRight_4 : decode cX12_isRight 4 = .ok (.invokevirtual 88, 3) := by decide +kernel
theorem dX12_isRight_7 : decode cX12_isRight 7 = .ok (.if_icmp .ge 55, 3) := by decide +kernel
theorem dX12_isRight_10 : decode cX12_isRight 10 = .ok (.aload_n 0, 1) := by decide +kernel
theorem dX12_isRight_11 : decode cX12_isRight 11 = .ok (.iload_n 1, 1) := by decide +kernel
theorem dX12_isRight_12 : decode cX12_isRight 12 = .ok (.invokevirtual 146, 3) := by decide +kernel
theorem dX12_isRight_15 : decode cX12_isRight 15 = .ok (.ifCond .eq 15, 3) := by decide +kernel
theorem dX12_isRight_18 : decode cX12_isRight 18 = .ok (.aload_n 0, 1) := by decide +kernel
theorem dX12_isRight_19 : decode cX12_isRight 19 = .ok (.iload_n 1, 1) := by decide +kernel
theorem dX12_isRight_20 : decode cX12_isRight 20 = .ok (.aload_n 0, 1) := by decide +kernel
theorem dX12_isRight_21 : decode cX12_isRight 21 = .ok (.invokevirtual 88, 3) := by decide +kernel
theorem dX12_isRight_24 : decode cX12_isRight 24 = .ok (.invokevirtual 149, 3) := by decide +kernel
theorem dX12_isRight_27 : decode cX12_isRight 27 = .ok (.ifCond .ne 5, 3) := by decide +kernel
theorem dX12_isRight_30 : decode cX12_isRight 30 = .ok (.iconst 0, 1) := by decide +kernel
theorem dX12_isRight_31 : decode cX12_isRight 31 = .ok (.ireturn, 1) := by decide +kernel
theorem dX12_isRight_32 : decode cX12_isRight 32 = .ok (.iconst 0, 1) := by decide +kernel
theorem dX12_isRight_33 : decode cX12_isRight 33 = .ok (.istore_n 2, 1) := by decide +kernel
theorem dX12_isRight_34 : decode cX12_isRight 34 = .ok (.iload_n 2, 1) := by decide +kernel
theorem dX12_isRight_35 : decode cX12_isRight 35 = .ok (.iload_n 1, 1) := by decide +kernel
theorem dX12_isRight_36 : decode cX12_isRight 36 = .ok (.if_icmp .ge 20, 3) := by decide +kernel
theorem dX12_isRight_39 : decode cX12_isRight 39 = .ok (.aload_n 0, 1) := by decide +kernel
theorem dX12_isRight_40 : decode cX12_isRight 40 = .ok (.iload_n 1, 1) := by decide +kernel
theorem dX12_isRight_41 : decode cX12_isRight 41 = .ok (.iload_n 2, 1) := by decide +kernel
theorem dX12_isRight_42 : decode cX12_isRight 42 = .ok (.invokevirtual 152, 3) := by decide +kernel
theorem dX12_isRight_45 : decode cX12_isRight 45 = .ok (.ifCond .ne 5, 3) := by decide +kernel
theorem dX12_isRight_48 : decode cX12_isRight 48 = .ok (.iconst 0, 1) := by decide +kernel
theorem dX12_isRight_49 : decode cX12_isRight 49 = .ok (.ireturn, 1) := by decide +kernel
theorem dX12_isRight_50 : decode cX12_isRight 50 = .ok (.iinc 2 1, 3) := by decide +kernel
theorem dX12_isRight_53 : decode cX12_isRight 53 = .ok (.goto (-19), 3) := by decide +kernel
theorem dX12_isRight_56 : decode cX12_isRight 56 = .ok (.iinc 1 1, 3) := by decide +kernel
theorem dX12_isRight_59 : decode cX12_isRight 59 = .ok (.goto (-57), 3) := by decide +kernel
theorem dX12_isRight_62 : decode cX12_isRight 62 = .ok (.iconst 1, 1) := by decide +kernel
theorem dX12_isRight_63 : decode cX12_isRight 63 = .ok (.ireturn, 1) := by decide +kernel
set_option maxRecDepth 20000 in
theorem ggX12_looksAtTable_X12_many : GoodIn wsX12_looksAtTable wsX12_many := goodIn_r _ [8, 2, 9, 10, 11, 12, 13, 14, 15, 16, 17, 18, 19, 20, 21, 22, 23, 24, 25, 26, 27, 28, 29, 30, 31, 32, 33, 34, 35, 36, 37, 38] (by decide +kernel) (by decide +kernel)
set_option maxRecDepth 20000 in
theorem gX12_looksAtTable_X12_many : GoodIn wsX12_looksAtTable (wsV RX12 88 RX12 yX12_many wsX12_many) := goodIn_app (goodIn_of _ (by decide +kernel)) ggX12_looksAtTable_X12_many
theorem dX12_looksAtTable_0 : decode cX12_looksAtTable 0 = .ok (.iconst 0, 1) := by decide +kernel
theorem dX12_looksAtTable_1 : decode cX12_looksAtTable 1 = .ok (.istore_n 1, 1) := by decide +kernel
theorem dX12_looksAtTable_2 : decode cX12_looksAtTable 2 = .ok (.iload_n 1, 1) := by decide +kernel
theorem dX12_looksAtTable_3 : decode cX12_looksAtTable 3 = .ok (.aload_n 0, 1) := by decide +kernel
theorem dX12_looksAtTable_4 : decode cX12_looksAtTable 4 = .ok (.invokevirtual 88, 3) := by decide +kernel
theorem dX12_looksAtTable_7 : decode cX12_looksAtTable 7 = .ok (.if_icmp .ge 24, 3) := by decide +kernel
theorem dX12_looksAtTable_10 : decode cX12_looksAtTable 10 = .ok (.aload_n 0, 1) := by decide +kernel
theorem dX12_looksAtTable_11 : decode cX12_looksAtTable 11 = .ok (.getfield 20, 3) := by decide +kernel
theorem dX12_looksAtTable_14 : decode cX12_looksAtTable 14 = .ok (.iload_n 1, 1) := by decide +kernel
theorem dX12_looksAtTable_15 : decode cX12_looksAtTable 15 = .ok (.aload_n 0, 1) := by decide +kernel
theorem dX12_looksAtTable_16 : decode cX12_looksAtTable 16 = .ok (.getfield 13, 3) := by decide +kernel
theorem dX12_looksAtTable_19 : decode cX12_looksAtTable 19 = .ok (.bipush 116, 2) := by decide +kernel
theorem dX12_looksAtTable_21 : decode cX12_looksAtTable 21 = .ok (.iload_n 1, 1) := by decide +kernel
theorem dX12_looksAtTable_22 : decode cX12_looksAtTable 22 = .ok (.iadd, 1) := by decide +kernel
theorem dX12_looksAtTable_23 : decode cX12_looksAtTable 23 = .ok (.iaload, 1) := by decide +kernel
theorem dX12_looksAtTable_24 : decode cX12_looksAtTable 24 = .ok (.iastore, 1) := by decide +kernel
theorem dX12_looksAtTable_25 : decode cX12_looksAtTable 25 = .ok (.iinc 1 1, 3) := by decide +kernel
theorem dX12_looksAtTable_28 : decode cX12_looksAtTable 28 = .ok (.goto (-26), 3) := by decide +kernel
theorem dX12_looksAtTable_31 : decode cX12_looksAtTable 31 = .ok (.iconst 0, 1) := by decide +kernel
theorem dX12_looksAtTable_32 : decode cX12_looksAtTable 32 = .ok (.istore_n 1, 1) := by decide +kernel
theorem dX12_looksAtTable_33 : decode cX12_looksAtTable 33 = .ok (.iload_n 1, 1) := by decide +kernel
theorem dX12_looksAtTable_34 : decode cX12_looksAtTable 34 = .ok (.bipush 12, 2) := by decide +kernel
theorem dX12_looksAtTable_36 : decode cX12_looksAtTable 36 = .ok (.if_icmp .ge 16, 3) := by decide +kernel
theorem dX12_looksAtTable_39 : decode cX12_looksAtTable 39 = .ok (.aload_n 0, 1) := by decide +kernel
theorem dX12_looksAtTable_40 : decode cX12_looksAtTable 40 = .ok (.getfield 23, 3) := by decide +kernel
theorem dX12_looksAtTable_43 : decode cX12_looksAtTable 43 = .ok (.iload_n 1, 1) := by decide +kernel
theorem dX12_looksAtTable_44 : decode cX12_looksAtTable 44 = .ok (.iconst 0, 1) := by decide +kernel
theorem dX12_looksAtTable_45 : decode cX12_looksAtTable 45 = .ok (.bastore, 1) := by decide +kernel
theorem dX12_looksAtTable_46 : decode cX12_looksAtTable 46 = .ok (.iinc 1 1, 3) := by decide +kernel
theorem dX12_looksAtTable_49 : decode cX12_looksAtTable 49 = .ok (.goto (-16), 3) := by decide +kernel
theorem dX12_looksAtTable_52 : decode cX12_looksAtTable 52 = .ok (.return_, 1) := by decide +kernel
set_option maxRecDepth 20000 in
theorem ggX12_fits_X12_canStand : GoodIn wsX12_fits wsX12_canStand := goodIn_r _ [7, 8, 2, 9, 10, 11, 6, 12, 13, 14, 15, 16, 17, 18, 19, 20, 21, 22, 23, 24, 25, 26, 27, 28, 29, 46, 47, 48, 49, 50, 51, 52, 53, 54, 55, 56, 57, 58, 59, 60, 61, 62, 63, 64, 65, 66, 67, 68, 69, 70, 71, 72, 73, 74, 75] (by decide +kernel) (by decide +kernel)
set_option maxRecDepth 20000 in
theorem gX12_fits_X12_canStand : GoodIn wsX12_fits (wsV RX12 146 RX12 yX12_canStand wsX12_canStand) := goodIn_app (goodIn_of _ (by decide +kernel)) ggX12_fits_X12_canStand
set_option maxRecDepth 20000 in
theorem ggX12_fits_X12_canStandBoth : GoodIn wsX12_fits wsX12_canStandBoth := goodIn_r _ [33, 2, 8, 34, 35, 36, 6, 37, 26, 27, 28, 29, 9, 10, 11, 12, 13, 14, 15, 16, 17, 18, 19, 20, 21, 38, 39, 40, 41, 46, 47, 48, 49, 50, 51, 52, 53, 54, 55, 56, 57, 58, 59, 60, 61, 62, 63, 64, 65, 66, 67, 68, 69, 70, 71, 72, 73, 74, 75] (by decide +kernel) (by decide +kernel)
set_option maxRecDepth 20000 in
theorem gX12_fits_X12_canStandBoth : GoodIn wsX12_fits (wsV RX12 152 RX12 yX12_canStandBoth wsX12_canStandBoth) := goodIn_app (goodIn_of _ (by decide +kernel)) ggX12_fits_X12_canStandBoth
set_option maxRecDepth 20000 in
theorem ggX12_fits_X12_hasRoom : GoodIn wsX12_fits wsX12_hasRoom := goodIn_r _ [45, 2, 8, 26, 27, 28, 6, 29, 9, 10, 11, 12, 46, 47, 48, 49, 50, 51, 52, 53, 54, 55, 56, 57, 58, 59, 60, 61, 62, 63, 64, 65, 66, 67, 68, 69, 70, 71, 72, 73, 74, 75] (by decide +kernel) (by decide +kernel)
set_option maxRecDepth 20000 in
theorem gX12_fits_X12_hasRoom : GoodIn wsX12_fits (wsV RX12 149 RX12 yX12_hasRoom wsX12_hasRoom) := goodIn_app (goodIn_of _ (by decide +kernel)) ggX12_fits_X12_hasRoom
set_option maxRecDepth 20000 in
theorem ggX12_fits_X12_doMeet : GoodIn wsX12_fits wsX12_doMeet := goodIn_r _ [37, 8, 26, 27, 28, 6, 29, 9, 10, 11, 12, 2, 46, 47, 48, 49, 50, 51, 52, 53, 54, 55, 56, 57, 58, 59, 60, 61, 62, 63, 64, 65, 66, 67, 68, 69, 70, 71, 72, 73, 74, 75] (by decide +kernel) (by decide +kernel)
set_option maxRecDepth 20000 in
theorem gX12_fits_X12_doMeet : GoodIn wsX12_fits (wsV RX12 143 RX12 yX12_doMeet wsX12_doMeet) := goodIn_app (goodIn_of _ (by decide +kernel)) ggX12_fits_X12_doMeet
theorem dX12_fits_0 : decode cX12_fits 0 = .ok (.aload_n 0, 1) := by decide +kernel
theorem dX12_fits_1 : decode cX12_fits 1 = .ok (.iload_n 1, 1) := by decide +kernel
theorem dX12_fits_2 : decode cX12_fits 2 = .ok (.invokevirtual 146, 3) := by decide +kernel
theorem dX12_fits_5 : decode cX12_fits 5 = .ok (.ifCond .ne 5, 3) := by decide +kernel
theorem dX12_fits_8 : decode cX12_fits 8 = .ok (.iconst 0, 1) := by decide +kernel
theorem dX12_fits_9 : decode cX12_fits 9 = .ok (.ireturn, 1) := by decide +kernel
theorem dX12_fits_10 : decode cX12_fits 10 = .ok (.iconst 0, 1) := by decide +kernel
theorem dX12_fits_11 : decode cX12_fits 11 = .ok (.istore_n 2, 1) := by decide +kernel
theorem dX12_fits_12 : decode cX12_fits 12 = .ok (.iload_n 2, 1) := by decide +kernel
theorem dX12_fits_13 : decode cX12_fits 13 = .ok (.iload_n 1, 1) := by decide +kernel
theorem dX12_fits_14 : decode cX12_fits 14 = .ok (.if_icmp .ge 35, 3) := by decide +kernel
theorem dX12_fits_17 : decode cX12_fits 17 = .ok (.aload_n 0, 1) := by decide +kernel
theorem dX12_fits_18 : decode cX12_fits 18 = .ok (.iload_n 1, 1) := by decide +kernel
theorem dX12_fits_19 : decode cX12_fits 19 = .ok (.iload_n 2, 1) := by decide +kernel
theorem dX12_fits_20 : decode cX12_fits 20 = .ok (.invokevirtual 152, 3) := by decide +kernel
theorem dX12_fits_23 : decode cX12_fits 23 = .ok (.ifCond .eq 6, 3) := by decide +kernel
theorem dX12_fits_26 : decode cX12_fits 26 = .ok (.goto 17, 3) := by decide +kernel
theorem dX12_fits_29 : decode cX12_fits 29 = .ok (.aload_n 0, 1) := by decide +kernel
theorem dX12_fits_30 : decode cX12_fits 30 = .ok (.getfield 27, 3) := by decide +kernel
theorem dX12_fits_33 : decode cX12_fits 33 = .ok (.iload_n 1, 1) := by decide +kernel
theorem dX12_fits_34 : decode cX12_fits 34 = .ok (.dup2, 1) := by decide +kernel
theorem dX12_fits_35 : decode cX12_fits 35 = .ok (.iaload, 1) := by decide +kernel
theorem dX12_fits_36 : decode cX12_fits 36 = .ok (.iconst 1, 1) := by decide +kernel
theorem dX12_fits_37 : decode cX12_fits 37 = .ok (.iload_n 2, 1) := by decide +kernel
theorem dX12_fits_38 : decode cX12_fits 38 = .ok (.ishl, 1) := by decide +kernel
theorem dX12_fits_39 : decode cX12_fits 39 = .ok (.ior, 1) := by decide +kernel
theorem dX12_fits_40 : decode cX12_fits 40 = .ok (.iastore, 1) := by decide +kernel
theorem dX12_fits_41 : decode cX12_fits 41 = .ok (.iconst 0, 1) := by decide +kernel
theorem dX12_fits_42 : decode cX12_fits 42 = .ok (.ireturn, 1) := by decide +kernel
theorem dX12_fits_43 : decode cX12_fits 43 = .ok (.iinc 2 1, 3) := by decide +kernel
theorem dX12_fits_46 : decode cX12_fits 46 = .ok (.goto (-34), 3) := by decide +kernel
theorem dX12_fits_49 : decode cX12_fits 49 = .ok (.aload_n 0, 1) := by decide +kernel
theorem dX12_fits_50 : decode cX12_fits 50 = .ok (.iload_n 1, 1) := by decide +kernel
theorem dX12_fits_51 : decode cX12_fits 51 = .ok (.iload_n 1, 1) := by decide +kernel
theorem dX12_fits_52 : decode cX12_fits 52 = .ok (.invokevirtual 149, 3) := by decide +kernel
theorem dX12_fits_55 : decode cX12_fits 55 = .ok (.ifCond .eq 5, 3) := by decide +kernel
theorem dX12_fits_58 : decode cX12_fits 58 = .ok (.iconst 1, 1) := by decide +kernel
theorem dX12_fits_59 : decode cX12_fits 59 = .ok (.ireturn, 1) := by decide +kernel
theorem dX12_fits_60 : decode cX12_fits 60 = .ok (.iconst 0, 1) := by decide +kernel
theorem dX12_fits_61 : decode cX12_fits 61 = .ok (.istore_n 2, 1) := by decide +kernel
theorem dX12_fits_62 : decode cX12_fits 62 = .ok (.iload_n 2, 1) := by decide +kernel
theorem dX12_fits_63 : decode cX12_fits 63 = .ok (.iload_n 1, 1) := by decide +kernel
theorem dX12_fits_64 : decode cX12_fits 64 = .ok (.if_icmp .ge 55, 3) := by decide +kernel
theorem dX12_fits_67 : decode cX12_fits 67 = .ok (.aload_n 0, 1) := by decide +kernel
theorem dX12_fits_68 : decode cX12_fits 68 = .ok (.getfield 27, 3) := by decide +kernel
theorem dX12_fits_71 : decode cX12_fits 71 = .ok (.iload_n 1, 1) := by decide +kernel
theorem dX12_fits_72 : decode cX12_fits 72 = .ok (.dup2, 1) := by decide +kernel
theorem dX12_fits_73 : decode cX12_fits 73 = .ok (.iaload, 1) := by decide +kernel
theorem dX12_fits_74 : decode cX12_fits 74 = .ok (.aload_n 0, 1) := by decide +kernel
theorem dX12_fits_75 : decode cX12_fits 75 = .ok (.getfield 13, 3) := by decide +kernel
theorem dX12_fits_78 : decode cX12_fits 78 = .ok (.bipush 27, 2) := by decide +kernel
theorem dX12_fits_80 : decode cX12_fits 80 = .ok (.iload_n 2, 1) := by decide +kernel
theorem dX12_fits_81 : decode cX12_fits 81 = .ok (.iadd, 1) := by decide +kernel
theorem dX12_fits_82 : decode cX12_fits 82 = .ok (.iaload, 1) := by decide +kernel
theorem dX12_fits_83 : decode cX12_fits 83 = .ok (.aload_n 0, 1) := by decide +kernel
theorem dX12_fits_84 : decode cX12_fits 84 = .ok (.getfield 13, 3) := by decide +kernel
theorem dX12_fits_87 : decode cX12_fits 87 = .ok (.bipush 27, 2) := by decide +kernel
theorem dX12_fits_89 : decode cX12_fits 89 = .ok (.iload_n 1, 1) := by decide +kernel
theorem dX12_fits_90 : decode cX12_fits 90 = .ok (.iadd, 1) := by decide +kernel
theorem dX12_fits_91 : decode cX12_fits 91 = .ok (.iaload, 1) := by decide +kernel
theorem dX12_fits_92 : decode cX12_fits 92 = .ok (.if_icmp .ne 18, 3) := by decide +kernel
theorem dX12_fits_95 : decode cX12_fits 95 = .ok (.aload_n 0, 1) := by decide +kernel
theorem dX12_fits_96 : decode cX12_fits 96 = .ok (.iload_n 1, 1) := by decide +kernel
theorem dX12_fits_97 : decode cX12_fits 97 = .ok (.iload_n 2, 1) := by decide +kernel
theorem dX12_fits_98 : decode cX12_fits 98 = .ok (.invokevirtual 143, 3) := by decide +kernel
theorem dX12_fits_101 : decode cX12_fits 101 = .ok (.ifCond .eq 9, 3) := by decide +kernel
theorem dX12_fits_104 : decode cX12_fits 104 = .ok (.iconst 1, 1) := by decide +kernel
theorem dX12_fits_105 : decode cX12_fits 105 = .ok (.iload_n 2, 1) := by decide +kernel
theorem dX12_fits_106 : decode cX12_fits 106 = .ok (.ishl, 1) := by decide +kernel
theorem dX12_fits_107 : decode cX12_fits 107 = .ok (.goto 4, 3) := by decide +kernel
theorem dX12_fits_110 : decode cX12_fits 110 = .ok (.iconst 0, 1) := by decide +kernel
theorem dX12_fits_111 : decode cX12_fits 111 = .ok (.ior, 1) := by decide +kernel
theorem dX12_fits_112 : decode cX12_fits 112 = .ok (.iastore, 1) := by decide +kernel
theorem dX12_fits_113 : decode cX12_fits 113 = .ok (.iinc 2 1, 3) := by decide +kernel
theorem dX12_fits_116 : decode cX12_fits 116 = .ok (.goto (-54), 3) := by decide +kernel
theorem dX12_fits_119 : decode cX12_fits 119 = .ok (.iconst 0, 1) := by decide +kernel
theorem dX12_fits_120 : decode cX12_fits 120 = .ok (.ireturn, 1) := by decide +kernel
set_option maxRecDepth 20000 in
theorem ggX12_isTooMuch_X12_many : GoodIn wsX12_isTooMuch wsX12_many := goodIn_r _ [6, 1, 16, 17, 18, 19, 20, 21, 22, 23, 24, 25, 26, 27, 28, 29, 30, 31, 32, 33, 34, 35, 36, 37, 38, 39, 40, 41, 42, 43, 44, 45] (by decide +kernel) (by decide +kernel)
set_option maxRecDepth 20000 in
theorem gX12_isTooMuch_X12_many : GoodIn wsX12_isTooMuch (wsV RX12 88 RX12 yX12_many wsX12_many) := goodIn_app (goodIn_of _ (by decide +kernel)) ggX12_isTooMuch_X12_many
set_option maxRecDepth 20000 in
theorem ggX12_isTooMuch_X12_hours : GoodIn wsX12_isTooMuch wsX12_hours := goodIn_r _ [10, 1, 11, 12, 13, 5, 14, 15, 16, 17, 18, 19, 20, 21, 22, 23, 24, 25, 26, 27, 28, 29, 30, 31, 32, 33, 34, 35, 36, 37, 38, 39, 40, 41, 42, 43, 44, 45] (by decide +kernel) (by decide +kernel)
set_option maxRecDepth 20000 in
theorem gX12_isTooMuch_X12_hours : GoodIn wsX12_isTooMuch (wsV RX12 155 RX12 yX12_hours wsX12_hours) := goodIn_app (goodIn_of _ (by decide +kernel)) ggX12_isTooMuch_X12_hours
theorem dX12_isTooMuch_0 : decode cX12_isTooMuch 0 = .ok (.iconst 0, 1) := by decide +kernel
theorem dX12_isTooMuch_1 : decode cX12_isTooMuch 1 = .ok (.istore_n 1, 1) := by decide +kernel
theorem dX12_isTooMuch_2 : decode cX12_isTooMuch 2 = .ok (.iload_n 1, 1) := by decide +kernel
theorem dX12_isTooMuch_3 : decode cX12_isTooMuch 3 = .ok (.aload_n 0, 1) := by decide +kernel
theorem dX12_isTooMuch_4 : decode cX12_isTooMuch 4 = .ok (.invokevirtual 88, 3) := by decide +kernel
theorem dX12_isTooMuch_7 : decode cX12_isTooMuch 7 = .ok (.if_icmp .ge 206, 3) := by decide +kernel
theorem dX12_isTooMuch_10 : decode cX12_isTooMuch 10 = .ok (.iconst 0, 1) := by decide +kernel
theorem dX12_isTooMuch_11 : decode cX12_isTooMuch 11 = .ok (.istore_n 2, 1) := by decide +kernel
theorem dX12_isTooMuch_12 : decode cX12_isTooMuch 12 = .ok (.iconst 0, 1) := by decide +kernel
theorem dX12_isTooMuch_13 : decode cX12_isTooMuch 13 = .ok (.istore_n 3, 1) := by decide +kernel
theorem dX12_isTooMuch_14 : decode cX12_isTooMuch 14 = .ok (.iconst 0, 1) := by decide +kernel
theorem dX12_isTooMuch_15 : decode cX12_isTooMuch 15 = .ok (.istore 4, 2) := by decide +kernel
theorem dX12_isTooMuch_17 : decode cX12_isTooMuch 17 = .ok (.iconst 0, 1) := by decide +kernel
theorem dX12_isTooMuch_18 : decode cX12_isTooMuch 18 = .ok (.istore 5, 2) := by decide +kernel
theorem dX12_isTooMuch_20 : decode cX12_isTooMuch 20 = .ok (.iload 5, 2) := by decide +kernel
theorem dX12_isTooMuch_22 : decode cX12_isTooMuch 22 = .ok (.aload_n 0, 1) := by decide +kernel
theorem dX12_isTooMuch_23 : decode cX12_isTooMuch 23 = .ok (.invokevirtual 88, 3) := by decide +kernel
theorem dX12_isTooMuch_26 : decode cX12_isTooMuch 26 = .ok (.if_icmp .ge 138, 3) := by decide +kernel
theorem dX12_isTooMuch_29 : decode cX12_isTooMuch 29 = .ok (.aload_n 0, 1) := by decide +kernel
theorem dX12_isTooMuch_30 : decode cX12_isTooMuch 30 = .ok (.getfield 13, 3) := by decide +kernel
theorem dX12_isTooMuch_33 : decode cX12_isTooMuch 33 = .ok (.iconst 0, 1) := by decide +kernel
theorem dX12_isTooMuch_34 : decode cX12_isTooMuch 34 = .ok (.iload 5, 2) := by decide +kernel
theorem dX12_isTooMuch_36 : decode cX12_isTooMuch 36 = .ok (.iadd, 1) := by decide +kernel
theorem dX12_isTooMuch_37 : decode cX12_isTooMuch 37 = .ok (.iaload, 1) := by decide +kernel
theorem dX12_isTooMuch_38 : decode cX12_isTooMuch 38 = .ok (.aload_n 0, 1) := by decide +kernel
theorem dX12_isTooMuch_39 : decode cX12_isTooMuch 39 = .ok (.getfield 13, 3) := by decide +kernel
theorem dX12_isTooMuch_42 : decode cX12_isTooMuch 42 = .ok (.iconst 0, 1) := by decide +kernel
theorem dX12_isTooMuch_43 : decode cX12_isTooMuch 43 = .ok (.iload_n 1, 1) := by decide +kernel
theorem dX12_isTooMuch_44 : decode cX12_isTooMuch 44 = .ok (.iadd, 1) := by decide +kernel
theorem dX12_isTooMuch_45 : decode cX12_isTooMuch 45 = .ok (.iaload, 1) := by decide +kernel
theorem dX12_isTooMuch_46 : decode cX12_isTooMuch 46 = .ok (.if_icmp .ne 7, 3) := by decide +kernel
theorem dX12_isTooMuch_49 : decode cX12_isTooMuch 49 = .ok (.iconst 1, 1) := by decide +kernel
theorem dX12_isTooMuch_50 : decode cX12_isTooMuch 50 = .ok (.goto 4, 3) := by decide +kernel
theorem dX12_isTooMuch_53 : decode cX12_isTooMuch 53 = .ok (.iconst 0, 1) := by decide +kernel
theorem dX12_isTooMuch_54 : decode cX12_isTooMuch 54 = .ok (.istore 6, 2) := by decide +kernel
theorem dX12_isTooMuch_56 : decode cX12_isTooMuch 56 = .ok (.iload_n 2, 1) := by decide +kernel
theorem dX12_isTooMuch_57 : decode cX12_isTooMuch 57 = .ok (.iload 6, 2) := by decide +kernel
theorem dX12_isTooMuch_59 : decode cX12_isTooMuch 59 = .ok (.ifCond .eq 29, 3) := by decide +kernel
theorem dX12_isTooMuch_62 : decode cX12_isTooMuch 62 = .ok (.aload_n 0, 1) := by decide +kernel
theorem dX12_isTooMuch_63 : decode cX12_isTooMuch 63 = .ok (.getfield 13, 3) := by decide +kernel
theorem dX12_isTooMuch_66 : decode cX12_isTooMuch 66 = .ok (.bipush 18, 2) := by decide +kernel
theorem dX12_isTooMuch_68 : decode cX12_isTooMuch 68 = .ok (.iload 5, 2) := by decide +kernel
theorem dX12_isTooMuch_70 : decode cX12_isTooMuch 70 = .ok (.iadd, 1) := by decide +kernel
theorem dX12_isTooMuch_71 : decode cX12_isTooMuch 71 = .ok (.iaload, 1) := by decide +kernel
theorem dX12_isTooMuch_72 : decode cX12_isTooMuch 72 = .ok (.aload_n 0, 1) := by decide +kernel
theorem dX12_isTooMuch_73 : decode cX12_isTooMuch 73 = .ok (.getfield 13, 3) := by decide +kernel
theorem dX12_isTooMuch_76 : decode cX12_isTooMuch 76 = .ok (.bipush 18, 2) := by decide +kernel
theorem dX12_isTooMuch_78 : decode cX12_isTooMuch 78 = .ok (.iload_n 1, 1) := by decide +kernel
theorem dX12_isTooMuch_79 : decode cX12_isTooMuch 79 = .ok (.iadd, 1) := by decide +kernel
theorem dX12_isTooMuch_80 : decode cX12_isTooMuch 80 = .ok (.iaload, 1) := by decide +kernel
theorem dX12_isTooMuch_81 : decode cX12_isTooMuch 81 = .ok (.if_icmp .ne 7, 3) := by decide +kernel
theorem dX12_isTooMuch_84 : decode cX12_isTooMuch 84 = .ok (.iconst 1, 1) := by decide +kernel
theorem dX12_isTooMuch_85 : decode cX12_isTooMuch 85 = .ok (.goto 4, 3) := by decide +kernel
theorem dX12_isTooMuch_88 : decode cX12_isTooMuch 88 = .ok (.iconst 0, 1) := by decide +kernel
theorem dX12_isTooMuch_89 : decode cX12_isTooMuch 89 = .ok (.iadd, 1) := by decide +kernel
theorem dX12_isTooMuch_90 : decode cX12_isTooMuch 90 = .ok (.istore_n 2, 1) := by decide +kernel
theorem dX12_isTooMuch_91 : decode cX12_isTooMuch 91 = .ok (.iload_n 3, 1) := by decide +kernel
theorem dX12_isTooMuch_92 : decode cX12_isTooMuch 92 = .ok (.iload 6, 2) := by decide +kernel
theorem dX12_isTooMuch_94 : decode cX12_isTooMuch 94 = .ok (.ifCond .eq 18, 3) := by decide +kernel
theorem dX12_isTooMuch_97 : decode cX12_isTooMuch 97 = .ok (.iconst 1, 1) := by decide +kernel
theorem dX12_isTooMuch_98 : decode cX12_isTooMuch 98 = .ok (.aload_n 0, 1) := by decide +kernel
theorem dX12_isTooMuch_99 : decode cX12_isTooMuch 99 = .ok (.getfield 13, 3) := by decide +kernel
theorem dX12_isTooMuch_102 : decode cX12_isTooMuch 102 = .ok (.bipush 36, 2) := by decide +kernel
theorem dX12_isTooMuch_104 : decode cX12_isTooMuch 104 = .ok (.iload 5, 2) := by decide +kernel
theorem dX12_isTooMuch_106 : decode cX12_isTooMuch 106 = .ok (.iadd, 1) := by decide +kernel
theorem dX12_isTooMuch_107 : decode cX12_isTooMuch 107 = .ok (.iaload, 1) := by decide +kernel
theorem dX12_isTooMuch_108 : decode cX12_isTooMuch 108 = .ok (.iadd, 1) := by decide +kernel
theorem dX12_isTooMuch_109 : decode cX12_isTooMuch 109 = .ok (.goto 4, 3) := by decide +kernel
theorem dX12_isTooMuch_112 : decode cX12_isTooMuch 112 = .ok (.iconst 0, 1) := by decide +kernel
theorem dX12_isTooMuch_113 : decode cX12_isTooMuch 113 = .ok (.iadd, 1) := by decide +kernel
theorem dX12_isTooMuch_114 : decode cX12_isTooMuch 114 = .ok (.istore_n 3, 1) := by decide +kernel
theorem dX12_isTooMuch_115 : decode cX12_isTooMuch 115 = .ok (.iload 4, 2) := by decide +kernel
theorem dX12_isTooMuch_117 : decode cX12_isTooMuch 117 = .ok (.aload_n 0, 1) := by decide +kernel
theorem dX12_isTooMuch_118 : decode cX12_isTooMuch 118 = .ok (.getfield 13, 3) := by decide +kernel
theorem dX12_isTooMuch_121 : decode cX12_isTooMuch 121 = .ok (.bipush 9, 2) := by decide +kernel
theorem dX12_isTooMuch_123 : decode cX12_isTooMuch 123 = .ok (.iload 5, 2) := by decide +kernel
theorem dX12_isTooMuch_125 : decode cX12_isTooMuch 125 = .ok (.iadd, 1) := by decide +kernel
theorem dX12_isTooMuch_126 : decode cX12_isTooMuch 126 = .ok (.iaload, 1) := by decide +kernel
theorem dX12_isTooMuch_127 : decode cX12_isTooMuch 127 = .ok (.aload_n 0, 1) := by decide +kernel
theorem dX12_isTooMuch_128 : decode cX12_isTooMuch 128 = .ok (.getfield 13, 3) := by decide +kernel
theorem dX12_isTooMuch_131 : decode cX12_isTooMuch 131 = .ok (.bipush 9, 2) := by decide +kernel
theorem dX12_isTooMuch_133 : decode cX12_isTooMuch 133 = .ok (.iload_n 1, 1) := by decide +kernel
theorem dX12_isTooMuch_134 : decode cX12_isTooMuch 134 = .ok (.iadd, 1) := by decide +kernel
theorem dX12_isTooMuch_135 : decode cX12_isTooMuch 135 = .ok (.iaload, 1) := by decide +kernel
theorem dX12_isTooMuch_136 : decode cX12_isTooMuch 136 = .ok (.if_icmp .ne 18, 3) := by decide +kernel
theorem dX12_isTooMuch_139 : decode cX12_isTooMuch 139 = .ok (.iconst 1, 1) := by decide +kernel
theorem dX12_isTooMuch_140 : decode cX12_isTooMuch 140 = .ok (.aload_n 0, 1) := by decide +kernel
theorem dX12_isTooMuch_141 : decode cX12_isTooMuch 141 = .ok (.getfield 13, 3) := by decide +kernel
theorem dX12_isTooMuch_144 : decode cX12_isTooMuch 144 = .ok (.bipush 36, 2) := by decide +kernel
theorem dX12_isTooMuch_146 : decode cX12_isTooMuch 146 = .ok (.iload 5, 2) := by decide +kernel
theorem dX12_isTooMuch_148 : decode cX12_isTooMuch 148 = .ok (.iadd, 1) := by decide +kernel
theorem dX12_isTooMuch_149 : decode cX12_isTooMuch 149 = .ok (.iaload, 1) := by decide +kernel
theorem dX12_isTooMuch_150 : decode cX12_isTooMuch 150 = .ok (.iadd, 1) := by decide +kernel
theorem dX12_isTooMuch_151 : decode cX12_isTooMuch 151 = .ok (.goto 4, 3) := by decide +kernel
theorem dX12_isTooMuch_154 : decode cX12_isTooMuch 154 = .ok (.iconst 0, 1) := by decide +kernel
theorem dX12_isTooMuch_155 : decode cX12_isTooMuch 155 = .ok (.iadd, 1) := by decide +kernel
theorem dX12_isTooMuch_156 : decode cX12_isTooMuch 156 = .ok (.istore 4, 2) := by decide +kernel
theorem dX12_isTooMuch_158 : decode cX12_isTooMuch 158 = .ok (.iinc 5 1, 3) := by decide +kernel
theorem dX12_isTooMuch_161 : decode cX12_isTooMuch 161 = .ok (.goto (-141), 3) := by decide +kernel
theorem dX12_isTooMuch_164 : decode cX12_isTooMuch 164 = .ok (.iload_n 2, 1) := by decide +kernel
theorem dX12_isTooMuch_165 : decode cX12_isTooMuch 165 = .ok (.iconst 5, 1) := by decide +kernel
theorem dX12_isTooMuch_166 : decode cX12_isTooMuch 166 = .ok (.if_icmp .gt 39, 3) := by decide +kernel
theorem dX12_isTooMuch_169 : decode cX12_isTooMuch 169 = .ok (.iload_n 3, 1) := by decide +kernel
theorem dX12_isTooMuch_170 : decode cX12_isTooMuch 170 = .ok (.aload_n 0, 1) := by decide +kernel
theorem dX12_isTooMuch_171 : decode cX12_isTooMuch 171 = .ok (.iconst 1, 1) := by decide +kernel
theorem dX12_isTooMuch_172 : decode cX12_isTooMuch 172 = .ok (.aload_n 0, 1) := by decide +kernel
theorem dX12_isTooMuch_173 : decode cX12_isTooMuch 173 = .ok (.getfield 13, 3) := by decide +kernel
theorem dX12_isTooMuch_176 : decode cX12_isTooMuch 176 = .ok (.iconst 0, 1) := by decide +kernel
theorem dX12_isTooMuch_177 : decode cX12_isTooMuch 177 = .ok (.iload_n 1, 1) := by decide +kernel
theorem dX12_isTooMuch_178 : decode cX12_isTooMuch 178 = .ok (.iadd, 1) := by decide +kernel
theorem dX12_isTooMuch_179 : decode cX12_isTooMuch 179 = .ok (.iaload, 1) := by decide +kernel
theorem dX12_isTooMuch_180 : decode cX12_isTooMuch 180 = .ok (.invokevirtual 155, 3) := by decide +kernel
theorem dX12_isTooMuch_183 : decode cX12_isTooMuch 183 = .ok (.if_icmp .gt 22, 3) := by decide +kernel
theorem dX12_isTooMuch_186 : decode cX12_isTooMuch 186 = .ok (.iload 4, 2) := by decide +kernel
theorem dX12_isTooMuch_188 : decode cX12_isTooMuch 188 = .ok (.aload_n 0, 1) := by decide +kernel
theorem dX12_isTooMuch_189 : decode cX12_isTooMuch 189 = .ok (.iconst 0, 1) := by decide +kernel
theorem dX12_isTooMuch_190 : decode cX12_isTooMuch 190 = .ok (.aload_n 0, 1) := by decide +kernel
theorem dX12_isTooMuch_191 : decode cX12_isTooMuch 191 = .ok (.getfield 13, 3) := by decide +kernel
theorem dX12_isTooMuch_194 : decode cX12_isTooMuch 194 = .ok (.bipush 9, 2) := by decide +kernel
theorem dX12_isTooMuch_196 : decode cX12_isTooMuch 196 = .ok (.iload_n 1, 1) := by decide +kernel
theorem dX12_isTooMuch_197 : decode cX12_isTooMuch 197 = .ok (.iadd, 1) := by decide +kernel
theorem dX12_isTooMuch_198 : decode cX12_isTooMuch 198 = .ok (.iaload, 1) := by decide +kernel
theorem dX12_isTooMuch_199 : decode cX12_isTooMuch 199 = .ok (.invokevirtual 155, 3) := by decide +kernel
theorem dX12_isTooMuch_202 : decode cX12_isTooMuch 202 = .ok (.if_icmp .le 5, 3) := by decide +kernel
theorem dX12_isTooMuch_205 : decode cX12_isTooMuch 205 = .ok (.iconst 1, 1) := by decide +kernel
theorem dX12_isTooMuch_206 : decode cX12_isTooMuch 206 = .ok (.ireturn, 1) := by decide +kernel
theorem dX12_isTooMuch_207 : decode cX12_isTooMuch 207 = .ok (.iinc 1 1, 3) := by decide +kernel
theorem dX12_isTooMuch_210 : decode cX12_isTooMuch 210 = .ok (.goto (-208), 3) := by decide +kernel
theorem dX12_isTooMuch_213 : decode cX12_isTooMuch 213 = .ok (.iconst 0, 1) := by decide +kernel
theorem dX12_isTooMuch_214 : decode cX12_isTooMuch 214 = .ok (.ireturn, 1) := by decide +kernel
set_option maxRecDepth 20000 in
theorem ggX12_hours_X12_isHard : GoodIn wsX12_hours wsX12_isHard := goodIn_r _ [6, 1, 7, 8, 9, 10, 11, 12, 13, 14, 15, 16, 17, 18, 19, 20, 21, 22, 23, 24, 25, 26, 27, 28, 29, 30, 31, 32, 33, 34, 35, 36, 37] (by decide +kernel) (by decide +kernel)
set_option maxRecDepth 20000 in
theorem gX12_hours_X12_isHard : GoodIn wsX12_hours (wsV RX12 140 RX12 yX12_isHard wsX12_isHard) := goodIn_app (goodIn_of _ (by decide +kernel)) ggX12_hours_X12_isHard
theorem dX12_hours_0 : decode cX12_hours 0 = .ok (.iconst 0, 1) := by decide +kernel
theorem dX12_hours_1 : decode cX12_hours 1 = .ok (.istore_n 3, 1) := by decide +kernel
theorem dX12_hours_2 : decode cX12_hours 2 = .ok (.iconst 0, 1) := by decide +kernel
theorem dX12_hours_3 : decode cX12_hours 3 = .ok (.istore 4, 2) := by decide +kernel
theorem dX12_hours_5 : decode cX12_hours 5 = .ok (.iload 4, 2) := by decide +kernel
theorem dX12_hours_7 : decode cX12_hours 7 = .ok (.bipush 20, 2) := by decide +kernel
theorem dX12_hours_9 : decode cX12_hours 9 = .ok (.if_icmp .ge 108, 3) := by decide +kernel
theorem dX12_hours_12 : decode cX12_hours 12 = .ok (.iconst 1, 1) := by decide +kernel
theorem dX12_hours_13 : decode cX12_hours 13 = .ok (.istore 5, 2) := by decide +kernel
theorem dX12_hours_15 : decode cX12_hours 15 = .ok (.iconst 0, 1) := by decide +kernel
theorem dX12_hours_16 : decode cX12_hours 16 = .ok (.istore 6, 2) := by decide +kernel
theorem dX12_hours_18 : decode cX12_hours 18 = .ok (.iload 6, 2) := by decide +kernel
theorem dX12_hours_20 : decode cX12_hours 20 = .ok (.aload_n 0, 1) := by decide +kernel
theorem dX12_hours_21 : decode cX12_hours 21 = .ok (.getfield 13, 3) := by decide +kernel
theorem dX12_hours_24 : decode cX12_hours 24 = .ok (.bipush 126, 2) := by decide +kernel
theorem dX12_hours_26 : decode cX12_hours 26 = .ok (.iaload, 1) := by decide +kernel
theorem dX12_hours_27 : decode cX12_hours 27 = .ok (.if_icmp .ge 71, 3) := by decide +kernel
theorem dX12_hours_30 : decode cX12_hours 30 = .ok (.iload 5, 2) := by decide +kernel
theorem dX12_hours_32 : decode cX12_hours 32 = .ok (.aload_n 0, 1) := by decide +kernel
theorem dX12_hours_33 : decode cX12_hours 33 = .ok (.iload 6, 2) := by decide +kernel
theorem dX12_hours_35 : decode cX12_hours 35 = .ok (.invokevirtual 140, 3) := by decide +kernel
theorem dX12_hours_38 : decode cX12_hours 38 = .ok (.ifCond .eq 46, 3) := by decide +kernel
theorem dX12_hours_41 : decode cX12_hours 41 = .ok (.aload_n 0, 1) := by decide +kernel
theorem dX12_hours_42 : decode cX12_hours 42 = .ok (.getfield 13, 3) := by decide +kernel
theorem dX12_hours_45 : decode cX12_hours 45 = .ok (.bipush 45, 2) := by decide +kernel
theorem dX12_hours_47 : decode cX12_hours 47 = .ok (.iload 6, 2) := by decide +kernel
theorem dX12_hours_49 : decode cX12_hours 49 = .ok (.iadd, 1) := by decide +kernel
theorem dX12_hours_50 : decode cX12_hours 50 = .ok (.iaload, 1) := by decide +kernel
theorem dX12_hours_51 : decode cX12_hours 51 = .ok (.iload_n 1, 1) := by decide +kernel
theorem dX12_hours_52 : decode cX12_hours 52 = .ok (.if_icmp .ne 32, 3) := by decide +kernel
theorem dX12_hours_55 : decode cX12_hours 55 = .ok (.aload_n 0, 1) := by decide +kernel
theorem dX12_hours_56 : decode cX12_hours 56 = .ok (.getfield 13, 3) := by decide +kernel
theorem dX12_hours_59 : decode cX12_hours 59 = .ok (.bipush 57, 2) := by decide +kernel
theorem dX12_hours_61 : decode cX12_hours 61 = .ok (.iload 6, 2) := by decide +kernel
theorem dX12_hours_63 : decode cX12_hours 63 = .ok (.iadd, 1) := by decide +kernel
theorem dX12_hours_64 : decode cX12_hours 64 = .ok (.iaload, 1) := by decide +kernel
theorem dX12_hours_65 : decode cX12_hours 65 = .ok (.iload_n 2, 1) := by decide +kernel
theorem dX12_hours_66 : decode cX12_hours 66 = .ok (.if_icmp .ne 18, 3) := by decide +kernel
theorem dX12_hours_69 : decode cX12_hours 69 = .ok (.aload_n 0, 1) := by decide +kernel
theorem dX12_hours_70 : decode cX12_hours 70 = .ok (.getfield 13, 3) := by decide +kernel
theorem dX12_hours_73 : decode cX12_hours 73 = .ok (.bipush 69, 2) := by decide +kernel
theorem dX12_hours_75 : decode cX12_hours 75 = .ok (.iload 6, 2) := by decide +kernel
theorem dX12_hours_77 : decode cX12_hours 77 = .ok (.iadd, 1) := by decide +kernel
theorem dX12_hours_78 : decode cX12_hours 78 = .ok (.iaload, 1) := by decide +kernel
theorem dX12_hours_79 : decode cX12_hours 79 = .ok (.iload 4, 2) := by decide +kernel
theorem dX12_hours_81 : decode cX12_hours 81 = .ok (.if_icmp .eq 7, 3) := by decide +kernel
theorem dX12_hours_84 : decode cX12_hours 84 = .ok (.iconst 1, 1) := by decide +kernel
theorem dX12_hours_85 : decode cX12_hours 85 = .ok (.goto 4, 3) := by decide +kernel
theorem dX12_hours_88 : decode cX12_hours 88 = .ok (.iconst 0, 1) := by decide +kernel
theorem dX12_hours_89 : decode cX12_hours 89 = .ok (.iand, 1) := by decide +kernel
theorem dX12_hours_90 : decode cX12_hours 90 = .ok (.istore 5, 2) := by decide +kernel
theorem dX12_hours_92 : decode cX12_hours 92 = .ok (.iinc 6 1, 3) := by decide +kernel
theorem dX12_hours_95 : decode cX12_hours 95 = .ok (.goto (-77), 3) := by decide +kernel
theorem dX12_hours_98 : decode cX12_hours 98 = .ok (.iload_n 3, 1) := by decide +kernel
theorem dX12_hours_99 : decode cX12_hours 99 = .ok (.iload 5, 2) := by decide +kernel
theorem dX12_hours_101 : decode cX12_hours 101 = .ok (.ifCond .eq 7, 3) := by decide +kernel
theorem dX12_hours_104 : decode cX12_hours 104 = .ok (.iconst 1, 1) := by decide +kernel
theorem dX12_hours_105 : decode cX12_hours 105 = .ok (.goto 4, 3) := by decide +kernel
theorem dX12_hours_108 : decode cX12_hours 108 = .ok (.iconst 0, 1) := by decide +kernel
theorem dX12_hours_109 : decode cX12_hours 109 = .ok (.iadd, 1) := by decide +kernel
theorem dX12_hours_110 : decode cX12_hours 110 = .ok (.istore_n 3, 1) := by decide +kernel
theorem dX12_hours_111 : decode cX12_hours 111 = .ok (.iinc 4 1, 3) := by decide +kernel
theorem dX12_hours_114 : decode cX12_hours 114 = .ok (.goto (-109), 3) := by decide +kernel
theorem dX12_hours_117 : decode cX12_hours 117 = .ok (.iload_n 3, 1) := by decide +kernel
theorem dX12_hours_118 : decode cX12_hours 118 = .ok (.ireturn, 1) := by decide +kernel
theorem dX12_highest_0 : decode cX12_highest 0 = .ok (.iconst (-1), 1) := by decide +kernel
theorem dX12_highest_1 : decode cX12_highest 1 = .ok (.istore_n 1, 1) := by decide +kernel
theorem dX12_highest_2 : decode cX12_highest 2 = .ok (.iload_n 0, 1) := by decide +kernel
theorem dX12_highest_3 : decode cX12_highest 3 = .ok (.istore_n 2, 1) := by decide +kernel
theorem dX12_highest_4 : decode cX12_highest 4 = .ok (.iload_n 2, 1) := by decide +kernel
theorem dX12_highest_5 : decode cX12_highest 5 = .ok (.ifCond .le 13, 3) := by decide +kernel
theorem dX12_highest_8 : decode cX12_highest 8 = .ok (.iinc 1 1, 3) := by decide +kernel
theorem dX12_highest_11 : decode cX12_highest 11 = .ok (.iload_n 2, 1) := by decide +kernel
theorem dX12_highest_12 : decode cX12_highest 12 = .ok (.iconst 1, 1) := by decide +kernel
theorem dX12_highest_13 : decode cX12_highest 13 = .ok (.ishr, 1) := by decide +kernel
theorem dX12_highest_14 : decode cX12_highest 14 = .ok (.istore_n 2, 1) := by decide +kernel
theorem dX12_highest_15 : decode cX12_highest 15 = .ok (.goto (-11), 3) := by decide +kernel
theorem dX12_highest_18 : decode cX12_highest 18 = .ok (.iload_n 1, 1) := by decide +kernel
theorem dX12_highest_19 : decode cX12_highest 19 = .ok (.ireturn, 1) := by decide +kernel
set_option maxRecDepth 20000 in
theorem ggX12_looks_X12_isTooMuch : GoodIn wsX12_looks wsX12_isTooMuch := goodIn_r _ [7, 8, 9, 10, 11, 6, 12, 13, 14, 15, 16, 17, 18, 19, 20, 21, 69, 70, 71, 72, 73, 74, 75, 76, 77, 78, 79, 80, 81, 82, 83, 84, 85, 86, 87, 88, 89, 90, 91, 92, 93, 94, 95, 96, 97, 98] (by decide +kernel) (by decide +kernel)
set_option maxRecDepth 20000 in
theorem gX12_looks_X12_isTooMuch : GoodIn wsX12_looks (wsV RX12 159 RX12 yX12_isTooMuch wsX12_isTooMuch) := goodIn_app (goodIn_of _ (by decide +kernel)) ggX12_looks_X12_isTooMuch
set_option maxRecDepth 20000 in
theorem ggX12_looks_X12_many : GoodIn wsX12_looks wsX12_many := goodIn_r _ [12, 8, 69, 70, 71, 72, 73, 74, 75, 76, 77, 78, 79, 80, 81, 82, 83, 84, 85, 86, 87, 88, 89, 90, 91, 92, 93, 94, 95, 96, 97, 98] (by decide +kernel) (by decide +kernel)
set_option maxRecDepth 20000 in
theorem gX12_looks_X12_many : GoodIn wsX12_looks (wsV RX12 88 RX12 yX12_many wsX12_many) := goodIn_app (goodIn_of _ (by decide +kernel)) ggX12_looks_X12_many
set_option maxRecDepth 20000 in
theorem ggX12_looks_X12_begins : GoodIn wsX12_looks wsX12_begins := goodIn_r _ [25, 1, 2, 69, 70, 71, 72, 73, 74, 75, 76, 77, 78, 79, 80, 81, 82, 83, 84, 85, 86, 87, 88, 89, 90, 91, 92, 93, 94, 95, 96, 97, 98] (by decide +kernel) (by decide +kernel)
set_option maxRecDepth 20000 in
theorem gX12_looks_X12_begins : GoodIn wsX12_looks (wsV RX12 163 RX12 yX12_begins wsX12_begins) := goodIn_app (goodIn_of _ (by decide +kernel)) ggX12_looks_X12_begins
set_option maxRecDepth 20000 in
theorem ggX12_looks_X12_fits : GoodIn wsX12_looks wsX12_fits := goodIn_r _ [29, 2, 8, 30, 31, 32, 6, 33, 1, 34, 35, 36, 37, 17, 18, 19, 20, 21, 38, 39, 40, 41, 42, 43, 44, 45, 46, 47, 48, 49, 50, 51, 52, 53, 54, 55, 56, 57, 58, 59, 60, 61, 62, 63, 64, 65, 69, 70, 71, 72, 73, 74, 75, 76, 77, 78, 79, 80, 81, 82, 83, 84, 85, 86, 87, 88, 89, 90, 91, 92, 93, 94, 95, 96, 97, 98] (by decide +kernel) (by decide +kernel)
set_option maxRecDepth 20000 in
theorem gX12_looks_X12_fits : GoodIn wsX12_looks (wsV RX12 166 RX12 yX12_fits wsX12_fits) := goodIn_app (goodIn_of _ (by decide +kernel)) ggX12_looks_X12_fits
set_option maxRecDepth 20000 in
theorem ggX12_looks_X12_highest : GoodIn wsX12_looks wsX12_highest := goodIn_r _ [68] (by decide +kernel) (by decide +kernel)
set_option maxRecDepth 20000 in
theorem gX12_looks_X12_highest : GoodIn wsX12_looks (va_wsS RX12 169 yX12_highest wsX12_highest) := goodIn_app (goodIn_of _ (by decide +kernel)) ggX12_looks_X12_highest
theorem dX12_looks_0 : decode cX12_looks 0 = .ok (.aload_n 0, 1) := by decide +kernel
theorem dX12_looks_1 : decode cX12_looks 1 = .ok (.invokevirtual 159, 3) := by decide +kernel
theorem dX12_looks_4 : decode cX12_looks 4 = .ok (.ifCond .eq 5, 3) := by decide +kernel
theorem dX12_looks_7 : decode cX12_looks 7 = .ok (.iconst 0, 1) := by decide +kernel
theorem dX12_looks_8 : decode cX12_looks 8 = .ok (.ireturn, 1) := by decide +kernel
theorem dX12_looks_9 : decode cX12_looks 9 = .ok (.iconst 0, 1) := by decide +kernel
theorem dX12_looks_10 : decode cX12_looks 10 = .ok (.istore_n 1, 1) := by decide +kernel
theorem dX12_looks_11 : decode cX12_looks 11 = .ok (.aload_n 0, 1) := by decide +kernel
theorem dX12_looks_12 : decode cX12_looks 12 = .ok (.invokevirtual 88, 3) := by decide +kernel
theorem dX12_looks_15 : decode cX12_looks 15 = .ok (.ifCond .le 8, 3) := by decide +kernel
theorem dX12_looks_18 : decode cX12_looks 18 = .ok (.aload_n 0, 1) := by decide +kernel
theorem dX12_looks_19 : decode cX12_looks 19 = .ok (.iconst 0, 1) := by decide +kernel
theorem dX12_looks_20 : decode cX12_looks 20 = .ok (.invokevirtual 163, 3) := by decide +kernel
theorem dX12_looks_23 : decode cX12_looks 23 = .ok (.iload_n 1, 1) := by decide +kernel
theorem dX12_looks_24 : decode cX12_looks 24 = .ok (.aload_n 0, 1) := by decide +kernel
theorem dX12_looks_25 : decode cX12_looks 25 = .ok (.invokevirtual 88, 3) := by decide +kernel
theorem dX12_looks_28 : decode cX12_looks 28 = .ok (.if_icmp .ge 118, 3) := by decide +kernel
theorem dX12_looks_31 : decode cX12_looks 31 = .ok (.aload_n 0, 1) := by decide +kernel
theorem dX12_looks_32 : decode cX12_looks 32 = .ok (.getfield 20, 3) := by decide +kernel
theorem dX12_looks_35 : decode cX12_looks 35 = .ok (.iload_n 1, 1) := by decide +kernel
theorem dX12_looks_36 : decode cX12_looks 36 = .ok (.dup2, 1) := by decide +kernel
theorem dX12_looks_37 : decode cX12_looks 37 = .ok (.iaload, 1) := by decide +kernel
theorem dX12_looks_38 : decode cX12_looks 38 = .ok (.iconst 1, 1) := by decide +kernel
theorem dX12_looks_39 : decode cX12_looks 39 = .ok (.iadd, 1) := by decide +kernel
theorem dX12_looks_40 : decode cX12_looks 40 = .ok (.iastore, 1) := by decide +kernel
theorem dX12_looks_41 : decode cX12_looks 41 = .ok (.aload_n 0, 1) := by decide +kernel
theorem dX12_looks_42 : decode cX12_looks 42 = .ok (.getfield 20, 3) := by decide +kernel
theorem dX12_looks_45 : decode cX12_looks 45 = .ok (.iload_n 1, 1) := by decide +kernel
theorem dX12_looks_46 : decode cX12_looks 46 = .ok (.iaload, 1) := by decide +kernel
theorem dX12_looks_47 : decode cX12_looks 47 = .ok (.bipush 20, 2) := by decide +kernel
theorem dX12_looks_49 : decode cX12_looks 49 = .ok (.if_icmp .ge 24, 3) := by decide +kernel
theorem dX12_looks_52 : decode cX12_looks 52 = .ok (.aload_n 0, 1) := by decide +kernel
theorem dX12_looks_53 : decode cX12_looks 53 = .ok (.iload_n 1, 1) := by decide +kernel
theorem dX12_looks_54 : decode cX12_looks 54 = .ok (.invokevirtual 166, 3) := by decide +kernel
theorem dX12_looks_57 : decode cX12_looks 57 = .ok (.ifCond .ne 16, 3) := by decide +kernel
theorem dX12_looks_60 : decode cX12_looks 60 = .ok (.aload_n 0, 1) := by decide +kernel
theorem dX12_looks_61 : decode cX12_looks 61 = .ok (.getfield 20, 3) := by decide +kernel
theorem dX12_looks_64 : decode cX12_looks 64 = .ok (.iload_n 1, 1) := by decide +kernel
theorem dX12_looks_65 : decode cX12_looks 65 = .ok (.dup2, 1) := by decide +kernel
theorem dX12_looks_66 : decode cX12_looks 66 = .ok (.iaload, 1) := by decide +kernel
theorem dX12_looks_67 : decode cX12_looks 67 = .ok (.iconst 1, 1) := by decide +kernel
theorem dX12_looks_68 : decode cX12_looks 68 = .ok (.iadd, 1) := by decide +kernel
theorem dX12_looks_69 : decode cX12_looks 69 = .ok (.iastore, 1) := by decide +kernel
theorem dX12_looks_70 : decode cX12_looks 70 = .ok (.goto (-29), 3) := by decide +kernel
theorem dX12_looks_73 : decode cX12_looks 73 = .ok (.aload_n 0, 1) := by decide +kernel
theorem dX12_looks_74 : decode cX12_looks 74 = .ok (.getfield 20, 3) := by decide +kernel
theorem dX12_looks_77 : decode cX12_looks 77 = .ok (.iload_n 1, 1) := by decide +kernel
theorem dX12_looks_78 : decode cX12_looks 78 = .ok (.iaload, 1) := by decide +kernel
theorem dX12_looks_79 : decode cX12_looks 79 = .ok (.bipush 20, 2) := by decide +kernel
theorem dX12_looks_81 : decode cX12_looks 81 = .ok (.if_icmp .ge 22, 3) := by decide +kernel
theorem dX12_looks_84 : decode cX12_looks 84 = .ok (.iinc 1 1, 3) := by decide +kernel
theorem dX12_looks_87 : decode cX12_looks 87 = .ok (.iload_n 1, 1) := by decide +kernel
theorem dX12_looks_88 : decode cX12_looks 88 = .ok (.aload_n 0, 1) := by decide +kernel
theorem dX12_looks_89 : decode cX12_looks 89 = .ok (.invokevirtual 88, 3) := by decide +kernel
theorem dX12_looks_92 : decode cX12_looks 92 = .ok (.if_icmp .ge (-69), 3) := by decide +kernel
theorem dX12_looks_95 : decode cX12_looks 95 = .ok (.aload_n 0, 1) := by decide +kernel
theorem dX12_looks_96 : decode cX12_looks 96 = .ok (.iload_n 1, 1) := by decide +kernel
theorem dX12_looks_97 : decode cX12_looks 97 = .ok (.invokevirtual 163, 3) := by decide +kernel
theorem dX12_looks_100 : decode cX12_looks 100 = .ok (.goto (-77), 3) := by decide +kernel
theorem dX12_looks_103 : decode cX12_looks 103 = .ok (.aload_n 0, 1) := by decide +kernel
theorem dX12_looks_104 : decode cX12_looks 104 = .ok (.getfield 27, 3) := by decide +kernel
theorem dX12_looks_107 : decode cX12_looks 107 = .ok (.iload_n 1, 1) := by decide +kernel
theorem dX12_looks_108 : decode cX12_looks 108 = .ok (.iaload, 1) := by decide +kernel
theorem dX12_looks_109 : decode cX12_looks 109 = .ok (.invokestatic 169, 3) := by decide +kernel
theorem dX12_looks_112 : decode cX12_looks 112 = .ok (.istore_n 2, 1) := by decide +kernel
theorem dX12_looks_113 : decode cX12_looks 113 = .ok (.iload_n 2, 1) := by decide +kernel
theorem dX12_looks_114 : decode cX12_looks 114 = .ok (.iconst (-1), 1) := by decide +kernel
theorem dX12_looks_115 : decode cX12_looks 115 = .ok (.if_icmp .ne 5, 3) := by decide +kernel
theorem dX12_looks_118 : decode cX12_looks 118 = .ok (.iconst 0, 1) := by decide +kernel
theorem dX12_looks_119 : decode cX12_looks 119 = .ok (.ireturn, 1) := by decide +kernel
theorem dX12_looks_120 : decode cX12_looks 120 = .ok (.aload_n 0, 1) := by decide +kernel
theorem dX12_looks_121 : decode cX12_looks 121 = .ok (.getfield 27, 3) := by decide +kernel
theorem dX12_looks_124 : decode cX12_looks 124 = .ok (.iload_n 2, 1) := by decide +kernel
theorem dX12_looks_125 : decode cX12_looks 125 = .ok (.dup2, 1) := by decide +kernel
theorem dX12_looks_126 : decode cX12_looks 126 = .ok (.iaload, 1) := by decide +kernel
theorem dX12_looks_127 : decode cX12_looks 127 = .ok (.aload_n 0, 1) := by decide +kernel
theorem dX12_looks_128 : decode cX12_looks 128 = .ok (.getfield 27, 3) := by decide +kernel
theorem dX12_looks_131 : decode cX12_looks 131 = .ok (.iload_n 1, 1) := by decide +kernel
theorem dX12_looks_132 : decode cX12_looks 132 = .ok (.iaload, 1) := by decide +kernel
theorem dX12_looks_133 : decode cX12_looks 133 = .ok (.iconst 1, 1) := by decide +kernel
theorem dX12_looks_134 : decode cX12_looks 134 = .ok (.iload_n 2, 1) := by decide +kernel
theorem dX12_looks_135 : decode cX12_looks 135 = .ok (.ishl, 1) := by decide +kernel
theorem dX12_looks_136 : decode cX12_looks 136 = .ok (.iconst 1, 1) := by decide +kernel
theorem dX12_looks_137 : decode cX12_looks 137 = .ok (.isub, 1) := by decide +kernel
theorem dX12_looks_138 : decode cX12_looks 138 = .ok (.iand, 1) := by decide +kernel
theorem dX12_looks_139 : decode cX12_looks 139 = .ok (.ior, 1) := by decide +kernel
theorem dX12_looks_140 : decode cX12_looks 140 = .ok (.iastore, 1) := by decide +kernel
theorem dX12_looks_141 : decode cX12_looks 141 = .ok (.iload_n 2, 1) := by decide +kernel
theorem dX12_looks_142 : decode cX12_looks 142 = .ok (.istore_n 1, 1) := by decide +kernel
theorem dX12_looks_143 : decode cX12_looks 143 = .ok (.goto (-120), 3) := by decide +kernel
theorem dX12_looks_146 : decode cX12_looks 146 = .ok (.iconst 1, 1) := by decide +kernel
theorem dX12_looks_147 : decode cX12_looks 147 = .ok (.ireturn, 1) := by decide +kernel
theorem dX12_begins_0 : decode cX12_begins 0 = .ok (.aload_n 0, 1) := by decide +kernel
theorem dX12_begins_1 : decode cX12_begins 1 = .ok (.getfield 20, 3) := by decide +kernel
theorem dX12_begins_4 : decode cX12_begins 4 = .ok (.iload_n 1, 1) := by decide +kernel
theorem dX12_begins_5 : decode cX12_begins 5 = .ok (.iconst (-1), 1) := by decide +kernel
theorem dX12_begins_6 : decode cX12_begins 6 = .ok (.iastore, 1) := by decide +kernel
theorem dX12_begins_7 : decode cX12_begins 7 = .ok (.aload_n 0, 1) := by decide +kernel
theorem dX12_begins_8 : decode cX12_begins 8 = .ok (.getfield 27, 3) := by decide +kernel
theorem dX12_begins_11 : decode cX12_begins 11 = .ok (.iload_n 1, 1) := by decide +kernel
theorem dX12_begins_12 : decode cX12_begins 12 = .ok (.iconst 0, 1) := by decide +kernel
theorem dX12_begins_13 : decode cX12_begins 13 = .ok (.iastore, 1) := by decide +kernel
theorem dX12_begins_14 : decode cX12_begins 14 = .ok (.return_, 1) := by decide +kernel
set_option maxRecDepth 20000 in
theorem ggX12_puts_X12_keeps : GoodIn wsX12_puts wsX12_keeps := goodIn_r _ [7, 8, 9, 1, 10, 15, 16, 17, 18, 19, 20, 21, 22, 23, 24, 25, 26, 27, 28, 29, 30, 31, 32, 33, 34, 35, 36, 37, 38, 39, 40, 41, 42, 43, 44] (by decide +kernel) (by decide +kernel)
set_option maxRecDepth 20000 in
theorem gX12_puts_X12_keeps : GoodIn wsX12_puts (wsV RX12 100 RX12 yX12_keeps wsX12_keeps) := goodIn_app (goodIn_of _ (by decide +kernel)) ggX12_puts_X12_keeps
set_option maxRecDepth 20000 in
theorem ggX12_puts_X12_many : GoodIn wsX12_puts wsX12_many := goodIn_r _ [14, 1, 15, 16, 17, 18, 19, 20, 21, 22, 23, 24, 25, 26, 27, 28, 29, 30, 31, 32, 33, 34, 35, 36, 37, 38, 39, 40, 41, 42, 43, 44] (by decide +kernel) (by decide +kernel)
set_option maxRecDepth 20000 in
theorem gX12_puts_X12_many : GoodIn wsX12_puts (wsV RX12 88 RX12 yX12_many wsX12_many) := goodIn_app (goodIn_of _ (by decide +kernel)) ggX12_puts_X12_many
theorem dX12_puts_0 : decode cX12_puts 0 = .ok (.aload_n 0, 1) := by decide +kernel
theorem dX12_puts_1 : decode cX12_puts 1 = .ok (.invokevirtual 100, 3) := by decide +kernel
theorem dX12_puts_4 : decode cX12_puts 4 = .ok (.iconst 0, 1) := by decide +kernel
theorem dX12_puts_5 : decode cX12_puts 5 = .ok (.istore_n 1, 1) := by decide +kernel
theorem dX12_puts_6 : decode cX12_puts 6 = .ok (.iload_n 1, 1) := by decide +kernel
theorem dX12_puts_7 : decode cX12_puts 7 = .ok (.aload_n 0, 1) := by decide +kernel
theorem dX12_puts_8 : decode cX12_puts 8 = .ok (.invokevirtual 88, 3) := by decide +kernel
theorem dX12_puts_11 : decode cX12_puts 11 = .ok (.if_icmp .ge 24, 3) := by decide +kernel
theorem dX12_puts_14 : decode cX12_puts 14 = .ok (.aload_n 0, 1) := by decide +kernel
theorem dX12_puts_15 : decode cX12_puts 15 = .ok (.getfield 13, 3) := by decide +kernel
theorem dX12_puts_18 : decode cX12_puts 18 = .ok (.bipush 116, 2) := by decide +kernel
theorem dX12_puts_20 : decode cX12_puts 20 = .ok (.iload_n 1, 1) := by decide +kernel
theorem dX12_puts_21 : decode cX12_puts 21 = .ok (.iadd, 1) := by decide +kernel
theorem dX12_puts_22 : decode cX12_puts 22 = .ok (.aload_n 0, 1) := by decide +kernel
theorem dX12_puts_23 : decode cX12_puts 23 = .ok (.getfield 20, 3) := by decide +kernel
theorem dX12_puts_26 : decode cX12_puts 26 = .ok (.iload_n 1, 1) := by decide +kernel
theorem dX12_puts_27 : decode cX12_puts 27 = .ok (.iaload, 1) := by decide +kernel
theorem dX12_puts_28 : decode cX12_puts 28 = .ok (.iastore, 1) := by decide +kernel
theorem dX12_puts_29 : decode cX12_puts 29 = .ok (.iinc 1 1, 3) := by decide +kernel
theorem dX12_puts_32 : decode cX12_puts 32 = .ok (.goto (-26), 3) := by decide +kernel
theorem dX12_puts_35 : decode cX12_puts 35 = .ok (.aload_n 0, 1) := by decide +kernel
theorem dX12_puts_36 : decode cX12_puts 36 = .ok (.getfield 13, 3) := by decide +kernel
theorem dX12_puts_39 : decode cX12_puts 39 = .ok (.bipush 127, 2) := by decide +kernel
theorem dX12_puts_41 : decode cX12_puts 41 = .ok (.iconst 1, 1) := by decide +kernel
theorem dX12_puts_42 : decode cX12_puts 42 = .ok (.iastore, 1) := by decide +kernel
theorem dX12_puts_43 : decode cX12_puts 43 = .ok (.return_, 1) := by decide +kernel
set_option maxRecDepth 20000 in
theorem ggX12_find_X12_looks : GoodIn wsX12_find wsX12_looks := goodIn_r _ [10, 11, 12, 13, 14, 15, 9, 16, 3, 17, 18, 19, 20, 21, 22, 23, 24, 25, 26, 27, 28, 2, 29, 30, 31, 32, 33, 34, 35, 36, 37, 38, 39, 40, 41, 42, 43, 44, 45, 46, 47, 48, 49, 50, 51, 52, 53, 54, 55, 56, 57, 58, 59, 60, 61, 62, 63, 64, 65, 66, 67, 68, 69, 70, 71, 72, 73, 74, 75, 86, 87, 88, 89, 90, 91, 92, 93, 94, 95, 96, 97, 98, 99, 100, 101, 102, 103, 104, 105, 106, 107, 108, 109, 110, 111, 112, 113, 114, 115] (by decide +kernel) (by decide +kernel)
set_option maxRecDepth 20000 in
theorem gX12_find_X12_looks : GoodIn wsX12_find (wsV RX12 173 RX12 yX12_looks wsX12_looks) := goodIn_app (goodIn_of _ (by decide +kernel)) ggX12_find_X12_looks
set_option maxRecDepth 20000 in
theorem ggX12_find_X12_puts : GoodIn wsX12_find wsX12_puts := goodIn_r _ [79, 3, 11, 80, 81, 82, 9, 83, 84, 85, 4, 17, 18, 19, 20, 86, 87, 88, 89, 90, 91, 92, 93, 94, 95, 96, 97, 98, 99, 100, 101, 102, 103, 104, 105, 106, 107, 108, 109, 110, 111, 112, 113, 114, 115] (by decide +kernel) (by decide +kernel)
set_option maxRecDepth 20000 in
theorem gX12_find_X12_puts : GoodIn wsX12_find (wsV RX12 176 RX12 yX12_puts wsX12_puts) := goodIn_app (goodIn_of _ (by decide +kernel)) ggX12_find_X12_puts
theorem dX12_find_0 : decode cX12_find 0 = .ok (.aload_n 0, 1) := by decide +kernel
theorem dX12_find_1 : decode cX12_find 1 = .ok (.iconst 0, 1) := by decide +kernel
theorem dX12_find_2 : decode cX12_find 2 = .ok (.putfield 1, 3) := by decide +kernel
theorem dX12_find_5 : decode cX12_find 5 = .ok (.iconst 0, 1) := by decide +kernel
theorem dX12_find_6 : decode cX12_find 6 = .ok (.istore_n 1, 1) := by decide +kernel
theorem dX12_find_7 : decode cX12_find 7 = .ok (.iload_n 1, 1) := by decide +kernel
theorem dX12_find_8 : decode cX12_find 8 = .ok (.bipush 12, 2) := by decide +kernel
theorem dX12_find_10 : decode cX12_find 10 = .ok (.if_icmp .ge 16, 3) := by decide +kernel
theorem dX12_find_13 : decode cX12_find 13 = .ok (.aload_n 0, 1) := by decide +kernel
theorem dX12_find_14 : decode cX12_find 14 = .ok (.getfield 23, 3) := by decide +kernel
theorem dX12_find_17 : decode cX12_find 17 = .ok (.iload_n 1, 1) := by decide +kernel
theorem dX12_find_18 : decode cX12_find 18 = .ok (.iconst 0, 1) := by decide +kernel
theorem dX12_find_19 : decode cX12_find 19 = .ok (.bastore, 1) := by decide +kernel
theorem dX12_find_20 : decode cX12_find 20 = .ok (.iinc 1 1, 3) := by decide +kernel
theorem dX12_find_23 : decode cX12_find 23 = .ok (.goto (-16), 3) := by decide +kernel
theorem dX12_find_26 : decode cX12_find 26 = .ok (.aload_n 0, 1) := by decide +kernel
theorem dX12_find_27 : decode cX12_find 27 = .ok (.invokevirtual 173, 3) := by decide +kernel
theorem dX12_find_30 : decode cX12_find 30 = .ok (.ifCond .eq 9, 3) := by decide +kernel
theorem dX12_find_33 : decode cX12_find 33 = .ok (.aload_n 0, 1) := by decide +kernel
theorem dX12_find_34 : decode cX12_find 34 = .ok (.invokevirtual 176, 3) := by decide +kernel
theorem dX12_find_37 : decode cX12_find 37 = .ok (.iconst 1, 1) := by decide +kernel
theorem dX12_find_38 : decode cX12_find 38 = .ok (.ireturn, 1) := by decide +kernel
theorem dX12_find_39 : decode cX12_find 39 = .ok (.aload_n 0, 1) := by decide +kernel
theorem dX12_find_40 : decode cX12_find 40 = .ok (.getfield 13, 3) := by decide +kernel
theorem dX12_find_43 : decode cX12_find 43 = .ok (.bipush 127, 2) := by decide +kernel
theorem dX12_find_45 : decode cX12_find 45 = .ok (.iconst 0, 1) := by decide +kernel
theorem dX12_find_46 : decode cX12_find 46 = .ok (.iastore, 1) := by decide +kernel
theorem dX12_find_47 : decode cX12_find 47 = .ok (.aload_n 0, 1) := by decide +kernel
theorem dX12_find_48 : decode cX12_find 48 = .ok (.iconst 0, 1) := by decide +kernel
theorem dX12_find_49 : decode cX12_find 49 = .ok (.putfield 30, 3) := by decide +kernel
theorem dX12_find_52 : decode cX12_find 52 = .ok (.iconst 0, 1) := by decide +kernel
theorem dX12_find_53 : decode cX12_find 53 = .ok (.istore_n 1, 1) := by decide +kernel
theorem dX12_find_54 : decode cX12_find 54 = .ok (.iload_n 1, 1) := by decide +kernel
theorem dX12_find_55 : decode cX12_find 55 = .ok (.aload_n 0, 1) := by decide +kernel
theorem dX12_find_56 : decode cX12_find 56 = .ok (.getfield 13, 3) := by decide +kernel
theorem dX12_find_59 : decode cX12_find 59 = .ok (.bipush 126, 2) := by decide +kernel
theorem dX12_find_61 : decode cX12_find 61 = .ok (.iaload, 1) := by decide +kernel
theorem dX12_find_62 : decode cX12_find 62 = .ok (.if_icmp .ge 68, 3) := by decide +kernel
theorem dX12_find_65 : decode cX12_find 65 = .ok (.aload_n 0, 1) := by decide +kernel
theorem dX12_find_66 : decode cX12_find 66 = .ok (.getfield 13, 3) := by decide +kernel
theorem dX12_find_69 : decode cX12_find 69 = .ok (.bipush 81, 2) := by decide +kernel
theorem dX12_find_71 : decode cX12_find 71 = .ok (.iload_n 1, 1) := by decide +kernel
theorem dX12_find_72 : decode cX12_find 72 = .ok (.iadd, 1) := by decide +kernel
theorem dX12_find_73 : decode cX12_find 73 = .ok (.iaload, 1) := by decide +kernel
theorem dX12_find_74 : decode cX12_find 74 = .ok (.ifCond .eq 6, 3) := by decide +kernel
theorem dX12_find_77 : decode cX12_find 77 = .ok (.goto 47, 3) := by decide +kernel
theorem dX12_find_80 : decode cX12_find 80 = .ok (.aload_n 0, 1) := by decide +kernel
theorem dX12_find_81 : decode cX12_find 81 = .ok (.getfield 23, 3) := by decide +kernel
theorem dX12_find_84 : decode cX12_find 84 = .ok (.iload_n 1, 1) := by decide +kernel
theorem dX12_find_85 : decode cX12_find 85 = .ok (.iconst 1, 1) := by decide +kernel
theorem dX12_find_86 : decode cX12_find 86 = .ok (.bastore, 1) := by decide +kernel
theorem dX12_find_87 : decode cX12_find 87 = .ok (.aload_n 0, 1) := by decide +kernel
theorem dX12_find_88 : decode cX12_find 88 = .ok (.invokevirtual 173, 3) := by decide +kernel
theorem dX12_find_91 : decode cX12_find 91 = .ok (.ifCond .ne 6, 3) := by decide +kernel
theorem dX12_find_94 : decode cX12_find 94 = .ok (.goto 30, 3) := by decide +kernel
theorem dX12_find_97 : decode cX12_find 97 = .ok (.aload_n 0, 1) := by decide +kernel
theorem dX12_find_98 : decode cX12_find 98 = .ok (.getfield 23, 3) := by decide +kernel
theorem dX12_find_101 : decode cX12_find 101 = .ok (.iload_n 1, 1) := by decide +kernel
theorem dX12_find_102 : decode cX12_find 102 = .ok (.iconst 0, 1) := by decide +kernel
theorem dX12_find_103 : decode cX12_find 103 = .ok (.bastore, 1) := by decide +kernel
theorem dX12_find_104 : decode cX12_find 104 = .ok (.aload_n 0, 1) := by decide +kernel
theorem dX12_find_105 : decode cX12_find 105 = .ok (.getfield 33, 3) := by decide +kernel
theorem dX12_find_108 : decode cX12_find 108 = .ok (.aload_n 0, 1) := by decide +kernel
theorem dX12_find_109 : decode cX12_find 109 = .ok (.getfield 30, 3) := by decide +kernel
theorem dX12_find_112 : decode cX12_find 112 = .ok (.iload_n 1, 1) := by decide +kernel
theorem dX12_find_113 : decode cX12_find 113 = .ok (.iastore, 1) := by decide +kernel
theorem dX12_find_114 : decode cX12_find 114 = .ok (.aload_n 0, 1) := by decide +kernel
theorem dX12_find_115 : decode cX12_find 115 = .ok (.dup, 1) := by decide +kernel
theorem dX12_find_116 : decode cX12_find 116 = .ok (.getfield 30, 3) := by decide +kernel
theorem dX12_find_119 : decode cX12_find 119 = .ok (.iconst 1, 1) := by decide +kernel
theorem dX12_find_120 : decode cX12_find 120 = .ok (.iadd, 1) := by decide +kernel
theorem dX12_find_121 : decode cX12_find 121 = .ok (.putfield 30, 3) := by decide +kernel
theorem dX12_find_124 : decode cX12_find 124 = .ok (.iinc 1 1, 3) := by decide +kernel
theorem dX12_find_127 : decode cX12_find 127 = .ok (.goto (-73), 3) := by decide +kernel
theorem dX12_find_130 : decode cX12_find 130 = .ok (.iconst 0, 1) := by decide +kernel
theorem dX12_find_131 : decode cX12_find 131 = .ok (.istore_n 1, 1) := by decide +kernel
theorem dX12_find_132 : decode cX12_find 132 = .ok (.iload_n 1, 1) := by decide +kernel
theorem dX12_find_133 : decode cX12_find 133 = .ok (.bipush 12, 2) := by decide +kernel
theorem dX12_find_135 : decode cX12_find 135 = .ok (.if_icmp .ge 16, 3) := by decide +kernel
theorem dX12_find_138 : decode cX12_find 138 = .ok (.aload_n 0, 1) := by decide +kernel
theorem dX12_find_139 : decode cX12_find 139 = .ok (.getfield 23, 3) := by decide +kernel
theorem dX12_find_142 : decode cX12_find 142 = .ok (.iload_n 1, 1) := by decide +kernel
theorem dX12_find_143 : decode cX12_find 143 = .ok (.iconst 0, 1) := by decide +kernel
theorem dX12_find_144 : decode cX12_find 144 = .ok (.bastore, 1) := by decide +kernel
theorem dX12_find_145 : decode cX12_find 145 = .ok (.iinc 1 1, 3) := by decide +kernel
theorem dX12_find_148 : decode cX12_find 148 = .ok (.goto (-16), 3) := by decide +kernel
theorem dX12_find_151 : decode cX12_find 151 = .ok (.iconst 0, 1) := by decide +kernel
theorem dX12_find_152 : decode cX12_find 152 = .ok (.ireturn, 1) := by decide +kernel
theorem dX12_proof_0 : decode cX12_proof 0 = .ok (.aload_n 0, 1) := by decide +kernel
theorem dX12_proof_1 : decode cX12_proof 1 = .ok (.iconst 0, 1) := by decide +kernel
theorem dX12_proof_2 : decode cX12_proof 2 = .ok (.putfield 1, 3) := by decide +kernel
theorem dX12_proof_5 : decode cX12_proof 5 = .ok (.aload_n 0, 1) := by decide +kernel
theorem dX12_proof_6 : decode cX12_proof 6 = .ok (.getfield 30, 3) := by decide +kernel
theorem dX12_proof_9 : decode cX12_proof 9 = .ok (.ireturn, 1) := by decide +kernel
set_option maxRecDepth 20000 in
theorem ggX12_proofAt_X12_in : GoodIn wsX12_proofAt wsX12_in := goodIn_r _ [7] (by decide +kernel) (by decide +kernel)
set_option maxRecDepth 20000 in
theorem gX12_proofAt_X12_in : GoodIn wsX12_proofAt (va_wsS RX12 92 yX12_in wsX12_in) := goodIn_app (goodIn_of _ (by decide +kernel)) ggX12_proofAt_X12_in
set_option maxRecDepth 20000 in
theorem ggX12_proofAt_X12_fails : GoodIn wsX12_proofAt wsX12_fails := goodIn_r _ [11, 1, 12, 13, 14, 15, 16, 17, 18, 19, 20, 21, 22, 23, 24, 25, 26, 27, 28, 29, 30, 31, 32, 33, 34, 35, 36, 37, 38, 39, 40, 41] (by decide +kernel) (by decide +kernel)
set_option maxRecDepth 20000 in
theorem gX12_proofAt_X12_fails : GoodIn wsX12_proofAt (wsV RX12 96 RX12 yX12_fails wsX12_fails) := goodIn_app (goodIn_of _ (by decide +kernel)) ggX12_proofAt_X12_fails
theorem dX12_proofAt_0 : decode cX12_proofAt 0 = .ok (.aload_n 0, 1) := by decide +kernel
theorem dX12_proofAt_1 : decode cX12_proofAt 1 = .ok (.iconst 0, 1) := by decide +kernel
theorem dX12_proofAt_2 : decode cX12_proofAt 2 = .ok (.putfield 1, 3) := by decide +kernel
theorem dX12_proofAt_5 : decode cX12_proofAt 5 = .ok (.aload_n 0, 1) := by decide +kernel
theorem dX12_proofAt_6 : decode cX12_proofAt 6 = .ok (.iload_n 1, 1) := by decide +kernel
theorem dX12_proofAt_7 : decode cX12_proofAt 7 = .ok (.iconst 0, 1) := by decide +kernel
theorem dX12_proofAt_8 : decode cX12_proofAt 8 = .ok (.aload_n 0, 1) := by decide +kernel
theorem dX12_proofAt_9 : decode cX12_proofAt 9 = .ok (.getfield 30, 3) := by decide +kernel
theorem dX12_proofAt_12 : decode cX12_proofAt 12 = .ok (.iconst 1, 1) := by decide +kernel
theorem dX12_proofAt_13 : decode cX12_proofAt 13 = .ok (.isub, 1) := by decide +kernel
theorem dX12_proofAt_14 : decode cX12_proofAt 14 = .ok (.invokestatic 92, 3) := by decide +kernel
theorem dX12_proofAt_17 : decode cX12_proofAt 17 = .ok (.iconst 1, 1) := by decide +kernel
theorem dX12_proofAt_18 : decode cX12_proofAt 18 = .ok (.invokevirtual 96, 3) := by decide +kernel
theorem dX12_proofAt_21 : decode cX12_proofAt 21 = .ok (.ifCond .eq 7, 3) := by decide +kernel
theorem dX12_proofAt_24 : decode cX12_proofAt 24 = .ok (.iconst 0, 1) := by decide +kernel
theorem dX12_proofAt_25 : decode cX12_proofAt 25 = .ok (.goto 9, 3) := by decide +kernel
theorem dX12_proofAt_28 : decode cX12_proofAt 28 = .ok (.aload_n 0, 1) := by decide +kernel
theorem dX12_proofAt_29 : decode cX12_proofAt 29 = .ok (.getfield 33, 3) := by decide +kernel
theorem dX12_proofAt_32 : decode cX12_proofAt 32 = .ok (.iload_n 1, 1) := by decide +kernel
theorem dX12_proofAt_33 : decode cX12_proofAt 33 = .ok (.iaload, 1) := by decide +kernel
theorem dX12_proofAt_34 : decode cX12_proofAt 34 = .ok (.ireturn, 1) := by decide +kernel
set_option maxRecDepth 20000 in
theorem ggX12_slotOf_X12_noLesson : GoodIn wsX12_slotOf wsX12_noLesson := goodIn_r _ [7, 8, 9, 10, 6, 11, 2, 12, 13, 14, 15, 16, 17, 18, 1, 23, 24, 25, 26, 27, 28, 29, 30, 31, 32, 33, 34, 35, 36, 37, 38, 39, 40, 41, 42, 43, 44, 45, 46, 47, 48, 49, 50, 51, 52] (by decide +kernel) (by decide +kernel)
set_option maxRecDepth 20000 in
theorem gX12_slotOf_X12_noLesson : GoodIn wsX12_slotOf (wsV RX12 107 RX12 yX12_noLesson wsX12_noLesson) := goodIn_app (goodIn_of _ (by decide +kernel)) ggX12_slotOf_X12_noLesson
set_option maxRecDepth 20000 in
theorem ggX12_slotOf_X12_noTable : GoodIn wsX12_slotOf wsX12_noTable := goodIn_r _ [22, 2, 15, 16, 17, 6, 18, 1, 23, 24, 25, 26, 27, 28, 29, 30, 31, 32, 33, 34, 35, 36, 37, 38, 39, 40, 41, 42, 43, 44, 45, 46, 47, 48, 49, 50, 51, 52] (by decide +kernel) (by decide +kernel)
set_option maxRecDepth 20000 in
theorem gX12_slotOf_X12_noTable : GoodIn wsX12_slotOf (wsV RX12 179 RX12 yX12_noTable wsX12_noTable) := goodIn_app (goodIn_of _ (by decide +kernel)) ggX12_slotOf_X12_noTable
theorem dX12_slotOf_0 : decode cX12_slotOf 0 = .ok (.aload_n 0, 1) := by decide +kernel
theorem dX12_slotOf_1 : decode cX12_slotOf 1 = .ok (.iconst 0, 1) := by decide +kernel
theorem dX12_slotOf_2 : decode cX12_slotOf 2 = .ok (.putfield 1, 3) := by decide +kernel
theorem dX12_slotOf_5 : decode cX12_slotOf 5 = .ok (.aload_n 0, 1) := by decide +kernel
theorem dX12_slotOf_6 : decode cX12_slotOf 6 = .ok (.iload_n 1, 1) := by decide +kernel
theorem dX12_slotOf_7 : decode cX12_slotOf 7 = .ok (.iconst 1, 1) := by decide +kernel
theorem dX12_slotOf_8 : decode cX12_slotOf 8 = .ok (.invokevirtual 107, 3) := by decide +kernel
theorem dX12_slotOf_11 : decode cX12_slotOf 11 = .ok (.ifCond .ne 11, 3) := by decide +kernel
theorem dX12_slotOf_14 : decode cX12_slotOf 14 = .ok (.aload_n 0, 1) := by decide +kernel
theorem dX12_slotOf_15 : decode cX12_slotOf 15 = .ok (.iconst 2, 1) := by decide +kernel
theorem dX12_slotOf_16 : decode cX12_slotOf 16 = .ok (.invokevirtual 179, 3) := by decide +kernel
theorem dX12_slotOf_19 : decode cX12_slotOf 19 = .ok (.ifCond .eq 7, 3) := by decide +kernel
theorem dX12_slotOf_22 : decode cX12_slotOf 22 = .ok (.iconst 0, 1) := by decide +kernel
theorem dX12_slotOf_23 : decode cX12_slotOf 23 = .ok (.goto 12, 3) := by decide +kernel
theorem dX12_slotOf_26 : decode cX12_slotOf 26 = .ok (.aload_n 0, 1) := by decide +kernel
theorem dX12_slotOf_27 : decode cX12_slotOf 27 = .ok (.getfield 13, 3) := by decide +kernel
theorem dX12_slotOf_30 : decode cX12_slotOf 30 = .ok (.bipush 116, 2) := by decide +kernel
theorem dX12_slotOf_32 : decode cX12_slotOf 32 = .ok (.iload_n 1, 1) := by decide +kernel
theorem dX12_slotOf_33 : decode cX12_slotOf 33 = .ok (.iadd, 1) := by decide +kernel
theorem dX12_slotOf_34 : decode cX12_slotOf 34 = .ok (.iaload, 1) := by decide +kernel
theorem dX12_slotOf_35 : decode cX12_slotOf 35 = .ok (.ireturn, 1) := by decide +kernel
set_option maxRecDepth 20000 in
theorem ggX12_noWho_X12_in : GoodIn wsX12_noWho wsX12_in := goodIn_r _ [4] (by decide +kernel) (by decide +kernel)
set_option maxRecDepth 20000 in
theorem gX12_noWho_X12_in : GoodIn wsX12_noWho (va_wsS RX12 92 yX12_in wsX12_in) := goodIn_app (goodIn_of _ (by decide +kernel)) ggX12_noWho_X12_in
set_option maxRecDepth 20000 in
theorem ggX12_noWho_X12_fails : GoodIn wsX12_noWho wsX12_fails := goodIn_r _ [8, 9, 10, 11, 12, 13, 14, 15, 16, 17, 18, 19, 20, 21, 22, 23, 24, 25, 26, 27, 28, 29, 30, 31, 32, 33, 34, 35, 36, 37, 38, 39] (by decide +kernel) (by decide +kernel)
set_option maxRecDepth 20000 in
theorem gX12_noWho_X12_fails : GoodIn wsX12_noWho (wsV RX12 96 RX12 yX12_fails wsX12_fails) := goodIn_app (goodIn_of _ (by decide +kernel)) ggX12_noWho_X12_fails
theorem dX12_noWho_0 : decode cX12_noWho 0 = .ok (.aload_n 0, 1) := by decide +kernel
theorem dX12_noWho_1 : decode cX12_noWho 1 = .ok (.iload_n 2, 1) := by decide +kernel
theorem dX12_noWho_2 : decode cX12_noWho 2 = .ok (.iconst 0, 1) := by decide +kernel
theorem dX12_noWho_3 : decode cX12_noWho 3 = .ok (.iload_n 1, 1) := by decide +kernel
theorem dX12_noWho_4 : decode cX12_noWho 4 = .ok (.ifCond .eq 7, 3) := by decide +kernel
theorem dX12_noWho_7 : decode cX12_noWho 7 = .ok (.iconst 5, 1) := by decide +kernel
theorem dX12_noWho_8 : decode cX12_noWho 8 = .ok (.goto 4, 3) := by decide +kernel
theorem dX12_noWho_11 : decode cX12_noWho 11 = .ok (.iconst 3, 1) := by decide +kernel
theorem dX12_noWho_12 : decode cX12_noWho 12 = .ok (.invokestatic 92, 3) := by decide +kernel
theorem dX12_noWho_15 : decode cX12_noWho 15 = .ok (.iconst 1, 1) := by decide +kernel
theorem dX12_noWho_16 : decode cX12_noWho 16 = .ok (.invokevirtual 96, 3) := by decide +kernel
theorem dX12_noWho_19 : decode cX12_noWho 19 = .ok (.ireturn, 1) := by decide +kernel
theorem dX12_isOf_0 : decode cX12_isOf 0 = .ok (.aload_n 0, 1) := by decide +kernel
theorem dX12_isOf_1 : decode cX12_isOf 1 = .ok (.getfield 13, 3) := by decide +kernel
theorem dX12_isOf_4 : decode cX12_isOf 4 = .ok (.iload_n 2, 1) := by decide +kernel
theorem dX12_isOf_5 : decode cX12_isOf 5 = .ok (.ifCond .eq 8, 3) := by decide +kernel
theorem dX12_isOf_8 : decode cX12_isOf 8 = .ok (.bipush 9, 2) := by decide +kernel
theorem dX12_isOf_10 : decode cX12_isOf 10 = .ok (.goto 4, 3) := by decide +kernel
theorem dX12_isOf_13 : decode cX12_isOf 13 = .ok (.iconst 0, 1) := by decide +kernel
theorem dX12_isOf_14 : decode cX12_isOf 14 = .ok (.iload_n 1, 1) := by decide +kernel
theorem dX12_isOf_15 : decode cX12_isOf 15 = .ok (.iadd, 1) := by decide +kernel
theorem dX12_isOf_16 : decode cX12_isOf 16 = .ok (.iaload, 1) := by decide +kernel
theorem dX12_isOf_17 : decode cX12_isOf 17 = .ok (.iload_n 3, 1) := by decide +kernel
theorem dX12_isOf_18 : decode cX12_isOf 18 = .ok (.if_icmp .ne 7, 3) := by decide +kernel
theorem dX12_isOf_21 : decode cX12_isOf 21 = .ok (.iconst 1, 1) := by decide +kernel
theorem dX12_isOf_22 : decode cX12_isOf 22 = .ok (.goto 4, 3) := by decide +kernel
theorem dX12_isOf_25 : decode cX12_isOf 25 = .ok (.iconst 0, 1) := by decide +kernel
theorem dX12_isOf_26 : decode cX12_isOf 26 = .ok (.ireturn, 1) := by decide +kernel
set_option maxRecDepth 20000 in
theorem ggX12_lessonThen_X12_many : GoodIn wsX12_lessonThen wsX12_many := goodIn_r _ [5, 6, 20, 21, 22, 23, 24, 25, 26, 27, 28, 29, 30, 31, 32, 33, 34, 35, 36, 37, 38, 39, 40, 41, 42, 43, 44, 45, 46, 47, 48, 49] (by decide +kernel) (by decide +kernel)
set_option maxRecDepth 20000 in
theorem gX12_lessonThen_X12_many : GoodIn wsX12_lessonThen (wsV RX12 88 RX12 yX12_many wsX12_many) := goodIn_app (goodIn_of _ (by decide +kernel)) ggX12_lessonThen_X12_many
set_option maxRecDepth 20000 in
theorem ggX12_lessonThen_X12_isOf : GoodIn wsX12_lessonThen wsX12_isOf := goodIn_r _ [10, 6, 20, 21, 22, 23, 24, 25, 26, 27, 28, 29, 30, 31, 32, 33, 34, 35, 36, 37, 38, 39, 40, 41, 42, 43, 44, 45, 46, 47, 48, 49] (by decide +kernel) (by decide +kernel)
set_option maxRecDepth 20000 in
theorem gX12_lessonThen_X12_isOf : GoodIn wsX12_lessonThen (wsV RX12 182 RX12 yX12_isOf wsX12_isOf) := goodIn_app (goodIn_of _ (by decide +kernel)) ggX12_lessonThen_X12_isOf
set_option maxRecDepth 20000 in
theorem ggX12_lessonThen_X12_isAt : GoodIn wsX12_lessonThen wsX12_isAt := goodIn_r _ [14, 15, 16, 17, 18, 4, 19, 6, 20, 21, 22, 23, 24, 25, 26, 27, 28, 29, 30, 31, 32, 33, 34, 35, 36, 37, 38, 39, 40, 41, 42, 43, 44, 45, 46, 47, 48, 49] (by decide +kernel) (by decide +kernel)
set_option maxRecDepth 20000 in
theorem gX12_lessonThen_X12_isAt : GoodIn wsX12_lessonThen (wsV RX12 131 RX12 yX12_isAt wsX12_isAt) := goodIn_app (goodIn_of _ (by decide +kernel)) ggX12_lessonThen_X12_isAt
theorem dX12_lessonThen_0 : decode cX12_lessonThen 0 = .ok (.iconst 0, 1) := by decide +kernel
theorem dX12_lessonThen_1 : decode cX12_lessonThen 1 = .ok (.istore 4, 2) := by decide +kernel
theorem dX12_lessonThen_3 : decode cX12_lessonThen 3 = .ok (.iload 4, 2) := by decide +kernel
theorem dX12_lessonThen_5 : decode cX12_lessonThen 5 = .ok (.aload_n 0, 1) := by decide +kernel
theorem dX12_lessonThen_6 : decode cX12_lessonThen 6 = .ok (.invokevirtual 88, 3) := by decide +kernel
theorem dX12_lessonThen_9 : decode cX12_lessonThen 9 = .ok (.if_icmp .ge 33, 3) := by decide +kernel
theorem dX12_lessonThen_12 : decode cX12_lessonThen 12 = .ok (.aload_n 0, 1) := by decide +kernel
theorem dX12_lessonThen_13 : decode cX12_lessonThen 13 = .ok (.iload 4, 2) := by decide +kernel
theorem dX12_lessonThen_15 : decode cX12_lessonThen 15 = .ok (.iload_n 1, 1) := by decide +kernel
theorem dX12_lessonThen_16 : decode cX12_lessonThen 16 = .ok (.iload_n 2, 1) := by decide +kernel
theorem dX12_lessonThen_17 : decode cX12_lessonThen 17 = .ok (.invokevirtual 182, 3) := by decide +kernel
theorem dX12_lessonThen_20 : decode cX12_lessonThen 20 = .ok (.ifCond .eq 16, 3) := by decide +kernel
theorem dX12_lessonThen_23 : decode cX12_lessonThen 23 = .ok (.aload_n 0, 1) := by decide +kernel
theorem dX12_lessonThen_24 : decode cX12_lessonThen 24 = .ok (.iload 4, 2) := by decide +kernel
theorem dX12_lessonThen_26 : decode cX12_lessonThen 26 = .ok (.iload_n 3, 1) := by decide +kernel
theorem dX12_lessonThen_27 : decode cX12_lessonThen 27 = .ok (.invokevirtual 131, 3) := by decide +kernel
theorem dX12_lessonThen_30 : decode cX12_lessonThen 30 = .ok (.ifCond .eq 6, 3) := by decide +kernel
theorem dX12_lessonThen_33 : decode cX12_lessonThen 33 = .ok (.iload 4, 2) := by decide +kernel
theorem dX12_lessonThen_35 : decode cX12_lessonThen 35 = .ok (.ireturn, 1) := by decide +kernel
theorem dX12_lessonThen_36 : decode cX12_lessonThen 36 = .ok (.iinc 4 1, 3) := by decide +kernel
theorem dX12_lessonThen_39 : decode cX12_lessonThen 39 = .ok (.goto (-36), 3) := by decide +kernel
theorem dX12_lessonThen_42 : decode cX12_lessonThen 42 = .ok (.iconst (-1), 1) := by decide +kernel
theorem dX12_lessonThen_43 : decode cX12_lessonThen 43 = .ok (.ireturn, 1) := by decide +kernel
set_option maxRecDepth 20000 in
theorem ggX12_lessonAt_X12_noWho : GoodIn wsX12_lessonAt wsX12_noWho := goodIn_r _ [6, 7, 8, 5, 9, 10, 11, 12, 13, 1, 45, 46, 47, 48, 49, 50, 51, 52, 53, 54, 55, 56, 57, 58, 59, 60, 61, 62, 63, 64, 65, 66, 67, 68, 69, 70, 71, 72, 73, 74] (by decide +kernel) (by decide +kernel)
set_option maxRecDepth 20000 in
theorem gX12_lessonAt_X12_noWho : GoodIn wsX12_lessonAt (wsV RX12 186 RX12 yX12_noWho wsX12_noWho) := goodIn_app (goodIn_of _ (by decide +kernel)) ggX12_lessonAt_X12_noWho
set_option maxRecDepth 20000 in
theorem ggX12_lessonAt_X12_in : GoodIn wsX12_lessonAt wsX12_in := goodIn_r _ [9] (by decide +kernel) (by decide +kernel)
set_option maxRecDepth 20000 in
theorem gX12_lessonAt_X12_in : GoodIn wsX12_lessonAt (va_wsS RX12 92 yX12_in wsX12_in) := goodIn_app (goodIn_of _ (by decide +kernel)) ggX12_lessonAt_X12_in
set_option maxRecDepth 20000 in
theorem ggX12_lessonAt_X12_fails : GoodIn wsX12_lessonAt wsX12_fails := goodIn_r _ [13, 1, 45, 46, 47, 48, 49, 50, 51, 52, 53, 54, 55, 56, 57, 58, 59, 60, 61, 62, 63, 64, 65, 66, 67, 68, 69, 70, 71, 72, 73, 74] (by decide +kernel) (by decide +kernel)
set_option maxRecDepth 20000 in
theorem gX12_lessonAt_X12_fails : GoodIn wsX12_lessonAt (wsV RX12 96 RX12 yX12_fails wsX12_fails) := goodIn_app (goodIn_of _ (by decide +kernel)) ggX12_lessonAt_X12_fails
set_option maxRecDepth 20000 in
theorem ggX12_lessonAt_X12_noTable : GoodIn wsX12_lessonAt wsX12_noTable := goodIn_r _ [17, 18, 10, 11, 12, 5, 13, 1, 45, 46, 47, 48, 49, 50, 51, 52, 53, 54, 55, 56, 57, 58, 59, 60, 61, 62, 63, 64, 65, 66, 67, 68, 69, 70, 71, 72, 73, 74] (by decide +kernel) (by decide +kernel)
set_option maxRecDepth 20000 in
theorem gX12_lessonAt_X12_noTable : GoodIn wsX12_lessonAt (wsV RX12 179 RX12 yX12_noTable wsX12_noTable) := goodIn_app (goodIn_of _ (by decide +kernel)) ggX12_lessonAt_X12_noTable
set_option maxRecDepth 20000 in
theorem ggX12_lessonAt_X12_looksAtTable : GoodIn wsX12_lessonAt wsX12_looksAtTable := goodIn_r _ [22, 23, 18, 24, 25, 26, 27, 5, 28, 45, 46, 47, 48, 49, 50, 51, 52, 53, 54, 55, 56, 57, 58, 59, 60, 61, 62, 63, 64, 65, 66, 67, 68, 69, 70, 71, 72, 73, 74] (by decide +kernel) (by decide +kernel)
set_option maxRecDepth 20000 in
theorem gX12_lessonAt_X12_looksAtTable : GoodIn wsX12_lessonAt (wsV RX12 189 RX12 yX12_looksAtTable wsX12_looksAtTable) := goodIn_app (goodIn_of _ (by decide +kernel)) ggX12_lessonAt_X12_looksAtTable
set_option maxRecDepth 20000 in
theorem ggX12_lessonAt_X12_lessonThen : GoodIn wsX12_lessonAt wsX12_lessonThen := goodIn_r _ [32, 25, 26, 27, 5, 28, 18, 33, 34, 35, 36, 37, 38, 39, 40, 23, 41, 42, 43, 44, 45, 46, 47, 48, 49, 50, 51, 52, 53, 54, 55, 56, 57, 58, 59, 60, 61, 62, 63, 64, 65, 66, 67, 68, 69, 70, 71, 72, 73, 74] (by decide +kernel) (by decide +kernel)
set_option maxRecDepth 20000 in
theorem gX12_lessonAt_X12_lessonThen : GoodIn wsX12_lessonAt (wsV RX12 192 RX12 yX12_lessonThen wsX12_lessonThen) := goodIn_app (goodIn_of _ (by decide +kernel)) ggX12_lessonAt_X12_lessonThen
theorem dX12_lessonAt_0 : decode cX12_lessonAt 0 = .ok (.aload_n 0, 1) := by decide +kernel
theorem dX12_lessonAt_1 : decode cX12_lessonAt 1 = .ok (.iconst 0, 1) := by decide +kernel
theorem dX12_lessonAt_2 : decode cX12_lessonAt 2 = .ok (.putfield 1, 3) := by decide +kernel
theorem dX12_lessonAt_5 : decode cX12_lessonAt 5 = .ok (.aload_n 0, 1) := by decide +kernel
theorem dX12_lessonAt_6 : decode cX12_lessonAt 6 = .ok (.iload_n 1, 1) := by decide +kernel
theorem dX12_lessonAt_7 : decode cX12_lessonAt 7 = .ok (.iload_n 2, 1) := by decide +kernel
theorem dX12_lessonAt_8 : decode cX12_lessonAt 8 = .ok (.invokevirtual 186, 3) := by decide +kernel
theorem dX12_lessonAt_11 : decode cX12_lessonAt 11 = .ok (.ifCond .ne 26, 3) := by decide +kernel
theorem dX12_lessonAt_14 : decode cX12_lessonAt 14 = .ok (.aload_n 0, 1) := by decide +kernel
theorem dX12_lessonAt_15 : decode cX12_lessonAt 15 = .ok (.iload_n 3, 1) := by decide +kernel
theorem dX12_lessonAt_16 : decode cX12_lessonAt 16 = .ok (.iconst 0, 1) := by decide +kernel
theorem dX12_lessonAt_17 : decode cX12_lessonAt 17 = .ok (.bipush 19, 2) := by decide +kernel
theorem dX12_lessonAt_19 : decode cX12_lessonAt 19 = .ok (.invokestatic 92, 3) := by decide +kernel
theorem dX12_lessonAt_22 : decode cX12_lessonAt 22 = .ok (.iconst 1, 1) := by decide +kernel
theorem dX12_lessonAt_23 : decode cX12_lessonAt 23 = .ok (.invokevirtual 96, 3) := by decide +kernel
theorem dX12_lessonAt_26 : decode cX12_lessonAt 26 = .ok (.ifCond .ne 11, 3) := by decide +kernel
theorem dX12_lessonAt_29 : decode cX12_lessonAt 29 = .ok (.aload_n 0, 1) := by decide +kernel
theorem dX12_lessonAt_30 : decode cX12_lessonAt 30 = .ok (.iconst 2, 1) := by decide +kernel
theorem dX12_lessonAt_31 : decode cX12_lessonAt 31 = .ok (.invokevirtual 179, 3) := by decide +kernel
theorem dX12_lessonAt_34 : decode cX12_lessonAt 34 = .ok (.ifCond .eq 5, 3) := by decide +kernel
theorem dX12_lessonAt_37 : decode cX12_lessonAt 37 = .ok (.iconst 0, 1) := by decide +kernel
theorem dX12_lessonAt_38 : decode cX12_lessonAt 38 = .ok (.ireturn, 1) := by decide +kernel
theorem dX12_lessonAt_39 : decode cX12_lessonAt 39 = .ok (.aload_n 0, 1) := by decide +kernel
theorem dX12_lessonAt_40 : decode cX12_lessonAt 40 = .ok (.invokevirtual 189, 3) := by decide +kernel
theorem dX12_lessonAt_43 : decode cX12_lessonAt 43 = .ok (.aload_n 0, 1) := by decide +kernel
theorem dX12_lessonAt_44 : decode cX12_lessonAt 44 = .ok (.iload_n 1, 1) := by decide +kernel
theorem dX12_lessonAt_45 : decode cX12_lessonAt 45 = .ok (.iload_n 2, 1) := by decide +kernel
theorem dX12_lessonAt_46 : decode cX12_lessonAt 46 = .ok (.iload_n 3, 1) := by decide +kernel
theorem dX12_lessonAt_47 : decode cX12_lessonAt 47 = .ok (.invokevirtual 192, 3) := by decide +kernel
theorem dX12_lessonAt_50 : decode cX12_lessonAt 50 = .ok (.ireturn, 1) := by decide +kernel
set_option maxRecDepth 20000 in
theorem ggX12_givesRooms_X12_many : GoodIn wsX12_givesRooms wsX12_many := goodIn_r _ [8, 3, 25, 26, 27, 28, 29, 30, 31, 32, 33, 34, 35, 36, 37, 38, 39, 40, 41, 42, 43, 44, 45, 46, 47, 48, 49, 50, 51, 52, 53, 54] (by decide +kernel) (by decide +kernel)
set_option maxRecDepth 20000 in
theorem gX12_givesRooms_X12_many : GoodIn wsX12_givesRooms (wsV RX12 88 RX12 yX12_many wsX12_many) := goodIn_app (goodIn_of _ (by decide +kernel)) ggX12_givesRooms_X12_many
set_option maxRecDepth 20000 in
theorem ggX12_givesRooms_X12_isRoomTaken : GoodIn wsX12_givesRooms wsX12_isRoomTaken := goodIn_r _ [12, 1, 3, 4, 5, 6, 7, 8, 13, 14, 15, 16, 2, 17, 18, 19, 20, 21, 22, 23, 24, 25, 26, 27, 28, 29, 30, 31, 32, 33, 34, 35, 36, 37, 38, 39, 40, 41, 42, 43, 44, 45, 46, 47, 48, 49, 50, 51, 52, 53, 54] (by decide +kernel) (by decide +kernel)
set_option maxRecDepth 20000 in
theorem gX12_givesRooms_X12_isRoomTaken : GoodIn wsX12_givesRooms (wsV RX12 196 RX12 yX12_isRoomTaken wsX12_isRoomTaken) := goodIn_app (goodIn_of _ (by decide +kernel)) ggX12_givesRooms_X12_isRoomTaken
theorem dX12_givesRooms_0 : decode cX12_givesRooms 0 = .ok (.iconst 0, 1) := by decide +kernel
theorem dX12_givesRooms_1 : decode cX12_givesRooms 1 = .ok (.istore_n 1, 1) := by decide +kernel
theorem dX12_givesRooms_2 : decode cX12_givesRooms 2 = .ok (.iload_n 1, 1) := by decide +kernel
theorem dX12_givesRooms_3 : decode cX12_givesRooms 3 = .ok (.aload_n 0, 1) := by decide +kernel
theorem dX12_givesRooms_4 : decode cX12_givesRooms 4 = .ok (.invokevirtual 88, 3) := by decide +kernel
theorem dX12_givesRooms_7 : decode cX12_givesRooms 7 = .ok (.if_icmp .ge 16, 3) := by decide +kernel
theorem dX12_givesRooms_10 : decode cX12_givesRooms 10 = .ok (.aload_n 0, 1) := by decide +kernel
theorem dX12_givesRooms_11 : decode cX12_givesRooms 11 = .ok (.getfield 36, 3) := by decide +kernel
theorem dX12_givesRooms_14 : decode cX12_givesRooms 14 = .ok (.iload_n 1, 1) := by decide +kernel
theorem dX12_givesRooms_15 : decode cX12_givesRooms 15 = .ok (.iconst (-1), 1) := by decide +kernel
theorem dX12_givesRooms_16 : decode cX12_givesRooms 16 = .ok (.iastore, 1) := by decide +kernel
theorem dX12_givesRooms_17 : decode cX12_givesRooms 17 = .ok (.iinc 1 1, 3) := by decide +kernel
theorem dX12_givesRooms_20 : decode cX12_givesRooms 20 = .ok (.goto (-18), 3) := by decide +kernel
theorem dX12_givesRooms_23 : decode cX12_givesRooms 23 = .ok (.iconst 0, 1) := by decide +kernel
theorem dX12_givesRooms_24 : decode cX12_givesRooms 24 = .ok (.istore_n 1, 1) := by decide +kernel
theorem dX12_givesRooms_25 : decode cX12_givesRooms 25 = .ok (.iload_n 1, 1) := by decide +kernel
theorem dX12_givesRooms_26 : decode cX12_givesRooms 26 = .ok (.bipush 20, 2) := by decide +kernel
theorem dX12_givesRooms_28 : decode cX12_givesRooms 28 = .ok (.if_icmp .ge 75, 3) := by decide +kernel
theorem dX12_givesRooms_31 : decode cX12_givesRooms 31 = .ok (.iconst 0, 1) := by decide +kernel
theorem dX12_givesRooms_32 : decode cX12_givesRooms 32 = .ok (.istore_n 2, 1) := by decide +kernel
theorem dX12_givesRooms_33 : decode cX12_givesRooms 33 = .ok (.iload_n 2, 1) := by decide +kernel
theorem dX12_givesRooms_34 : decode cX12_givesRooms 34 = .ok (.aload_n 0, 1) := by decide +kernel
theorem dX12_givesRooms_35 : decode cX12_givesRooms 35 = .ok (.invokevirtual 88, 3) := by decide +kernel
theorem dX12_givesRooms_38 : decode cX12_givesRooms 38 = .ok (.if_icmp .ge 59, 3) := by decide +kernel
theorem dX12_givesRooms_41 : decode cX12_givesRooms 41 = .ok (.aload_n 0, 1) := by decide +kernel
theorem dX12_givesRooms_42 : decode cX12_givesRooms 42 = .ok (.getfield 20, 3) := by decide +kernel
theorem dX12_givesRooms_45 : decode cX12_givesRooms 45 = .ok (.iload_n 2, 1) := by decide +kernel
theorem dX12_givesRooms_46 : decode cX12_givesRooms 46 = .ok (.iaload, 1) := by decide +kernel
theorem dX12_givesRooms_47 : decode cX12_givesRooms 47 = .ok (.iload_n 1, 1) := by decide +kernel
theorem dX12_givesRooms_48 : decode cX12_givesRooms 48 = .ok (.if_icmp .ne 43, 3) := by decide +kernel
theorem dX12_givesRooms_51 : decode cX12_givesRooms 51 = .ok (.aload_n 0, 1) := by decide +kernel
theorem dX12_givesRooms_52 : decode cX12_givesRooms 52 = .ok (.getfield 13, 3) := by decide +kernel
theorem dX12_givesRooms_55 : decode cX12_givesRooms 55 = .ok (.bipush 27, 2) := by decide +kernel
theorem dX12_givesRooms_57 : decode cX12_givesRooms 57 = .ok (.iload_n 2, 1) := by decide +kernel
theorem dX12_givesRooms_58 : decode cX12_givesRooms 58 = .ok (.iadd, 1) := by decide +kernel
theorem dX12_givesRooms_59 : decode cX12_givesRooms 59 = .ok (.iaload, 1) := by decide +kernel
theorem dX12_givesRooms_60 : decode cX12_givesRooms 60 = .ok (.iconst (-1), 1) := by decide +kernel
theorem dX12_givesRooms_61 : decode cX12_givesRooms 61 = .ok (.if_icmp .ne 6, 3) := by decide +kernel
theorem dX12_givesRooms_64 : decode cX12_givesRooms 64 = .ok (.goto 27, 3) := by decide +kernel
theorem dX12_givesRooms_67 : decode cX12_givesRooms 67 = .ok (.iconst 0, 1) := by decide +kernel
theorem dX12_givesRooms_68 : decode cX12_givesRooms 68 = .ok (.istore_n 3, 1) := by decide +kernel
theorem dX12_givesRooms_69 : decode cX12_givesRooms 69 = .ok (.aload_n 0, 1) := by decide +kernel
theorem dX12_givesRooms_70 : decode cX12_givesRooms 70 = .ok (.iload_n 2, 1) := by decide +kernel
theorem dX12_givesRooms_71 : decode cX12_givesRooms 71 = .ok (.iload_n 3, 1) := by decide +kernel
theorem dX12_givesRooms_72 : decode cX12_givesRooms 72 = .ok (.invokevirtual 196, 3) := by decide +kernel
theorem dX12_givesRooms_75 : decode cX12_givesRooms 75 = .ok (.ifCond .eq 9, 3) := by decide +kernel
theorem dX12_givesRooms_78 : decode cX12_givesRooms 78 = .ok (.iinc 3 1, 3) := by decide +kernel
theorem dX12_givesRooms_81 : decode cX12_givesRooms 81 = .ok (.goto (-12), 3) := by decide +kernel
theorem dX12_givesRooms_84 : decode cX12_givesRooms 84 = .ok (.aload_n 0, 1) := by decide +kernel
theorem dX12_givesRooms_85 : decode cX12_givesRooms 85 = .ok (.getfield 36, 3) := by decide +kernel
theorem dX12_givesRooms_88 : decode cX12_givesRooms 88 = .ok (.iload_n 2, 1) := by decide +kernel
theorem dX12_givesRooms_89 : decode cX12_givesRooms 89 = .ok (.iload_n 3, 1) := by decide +kernel
theorem dX12_givesRooms_90 : decode cX12_givesRooms 90 = .ok (.iastore, 1) := by decide +kernel
theorem dX12_givesRooms_91 : decode cX12_givesRooms 91 = .ok (.iinc 2 1, 3) := by decide +kernel
theorem dX12_givesRooms_94 : decode cX12_givesRooms 94 = .ok (.goto (-61), 3) := by decide +kernel
theorem dX12_givesRooms_97 : decode cX12_givesRooms 97 = .ok (.iinc 1 1, 3) := by decide +kernel
theorem dX12_givesRooms_100 : decode cX12_givesRooms 100 = .ok (.goto (-75), 3) := by decide +kernel
theorem dX12_givesRooms_103 : decode cX12_givesRooms 103 = .ok (.return_, 1) := by decide +kernel
set_option maxRecDepth 20000 in
theorem ggX12_isRoomTaken_X12_many : GoodIn wsX12_isRoomTaken wsX12_many := goodIn_r _ [7, 2, 21, 22, 23, 24, 25, 26, 27, 28, 29, 30, 31, 32, 33, 34, 35, 36, 37, 38, 39, 40, 41, 42, 43, 44, 45, 46, 47, 48, 49, 50] (by decide +kernel) (by decide +kernel)
set_option maxRecDepth 20000 in
theorem gX12_isRoomTaken_X12_many : GoodIn wsX12_isRoomTaken (wsV RX12 88 RX12 yX12_many wsX12_many) := goodIn_app (goodIn_of _ (by decide +kernel)) ggX12_isRoomTaken_X12_many
set_option maxRecDepth 20000 in
theorem ggX12_isRoomTaken_X12_doMeet : GoodIn wsX12_isRoomTaken wsX12_doMeet := goodIn_r _ [11, 12, 13, 14, 15, 6, 16, 17, 18, 19, 20, 2, 21, 22, 23, 24, 25, 26, 27, 28, 29, 30, 31, 32, 33, 34, 35, 36, 37, 38, 39, 40, 41, 42, 43, 44, 45, 46, 47, 48, 49, 50] (by decide +kernel) (by decide +kernel)
set_option maxRecDepth 20000 in
theorem gX12_isRoomTaken_X12_doMeet : GoodIn wsX12_isRoomTaken (wsV RX12 143 RX12 yX12_doMeet wsX12_doMeet) := goodIn_app (goodIn_of _ (by decide +kernel)) ggX12_isRoomTaken_X12_doMeet
theorem dX12_isRoomTaken_0 : decode cX12_isRoomTaken 0 = .ok (.iconst 0, 1) := by decide +kernel
theorem dX12_isRoomTaken_1 : decode cX12_isRoomTaken 1 = .ok (.istore_n 3, 1) := by decide +kernel
theorem dX12_isRoomTaken_2 : decode cX12_isRoomTaken 2 = .ok (.iload_n 3, 1) := by decide +kernel
theorem dX12_isRoomTaken_3 : decode cX12_isRoomTaken 3 = .ok (.aload_n 0, 1) := by decide +kernel
theorem dX12_isRoomTaken_4 : decode cX12_isRoomTaken 4 = .ok (.invokevirtual 88, 3) := by decide +kernel
theorem dX12_isRoomTaken_7 : decode cX12_isRoomTaken 7 = .ok (.if_icmp .ge 56, 3) := by decide +kernel
theorem dX12_isRoomTaken_10 : decode cX12_isRoomTaken 10 = .ok (.iload_n 3, 1) := by decide +kernel
theorem dX12_isRoomTaken_11 : decode cX12_isRoomTaken 11 = .ok (.iload_n 1, 1) := by decide +kernel
theorem dX12_isRoomTaken_12 : decode cX12_isRoomTaken 12 = .ok (.if_icmp .eq 45, 3) := by decide +kernel
theorem dX12_isRoomTaken_15 : decode cX12_isRoomTaken 15 = .ok (.aload_n 0, 1) := by decide +kernel
theorem dX12_isRoomTaken_16 : decode cX12_isRoomTaken 16 = .ok (.getfield 36, 3) := by decide +kernel
theorem dX12_isRoomTaken_19 : decode cX12_isRoomTaken 19 = .ok (.iload_n 3, 1) := by decide +kernel
theorem dX12_isRoomTaken_20 : decode cX12_isRoomTaken 20 = .ok (.iaload, 1) := by decide +kernel
theorem dX12_isRoomTaken_21 : decode cX12_isRoomTaken 21 = .ok (.iload_n 2, 1) := by decide +kernel
theorem dX12_isRoomTaken_22 : decode cX12_isRoomTaken 22 = .ok (.if_icmp .ne 35, 3) := by decide +kernel
theorem dX12_isRoomTaken_25 : decode cX12_isRoomTaken 25 = .ok (.aload_n 0, 1) := by decide +kernel
theorem dX12_isRoomTaken_26 : decode cX12_isRoomTaken 26 = .ok (.getfield 13, 3) := by decide +kernel
theorem dX12_isRoomTaken_29 : decode cX12_isRoomTaken 29 = .ok (.bipush 27, 2) := by decide +kernel
theorem dX12_isRoomTaken_31 : decode cX12_isRoomTaken 31 = .ok (.iload_n 3, 1) := by decide +kernel
theorem dX12_isRoomTaken_32 : decode cX12_isRoomTaken 32 = .ok (.iadd, 1) := by decide +kernel
theorem dX12_isRoomTaken_33 : decode cX12_isRoomTaken 33 = .ok (.iaload, 1) := by decide +kernel
theorem dX12_isRoomTaken_34 : decode cX12_isRoomTaken 34 = .ok (.aload_n 0, 1) := by decide +kernel
theorem dX12_isRoomTaken_35 : decode cX12_isRoomTaken 35 = .ok (.getfield 13, 3) := by decide +kernel
theorem dX12_isRoomTaken_38 : decode cX12_isRoomTaken 38 = .ok (.bipush 27, 2) := by decide +kernel
theorem dX12_isRoomTaken_40 : decode cX12_isRoomTaken 40 = .ok (.iload_n 1, 1) := by decide +kernel
theorem dX12_isRoomTaken_41 : decode cX12_isRoomTaken 41 = .ok (.iadd, 1) := by decide +kernel
theorem dX12_isRoomTaken_42 : decode cX12_isRoomTaken 42 = .ok (.iaload, 1) := by decide +kernel
theorem dX12_isRoomTaken_43 : decode cX12_isRoomTaken 43 = .ok (.if_icmp .ne 14, 3) := by decide +kernel
theorem dX12_isRoomTaken_46 : decode cX12_isRoomTaken 46 = .ok (.aload_n 0, 1) := by decide +kernel
theorem dX12_isRoomTaken_47 : decode cX12_isRoomTaken 47 = .ok (.iload_n 1, 1) := by decide +kernel
theorem dX12_isRoomTaken_48 : decode cX12_isRoomTaken 48 = .ok (.iload_n 3, 1) := by decide +kernel
theorem dX12_isRoomTaken_49 : decode cX12_isRoomTaken 49 = .ok (.invokevirtual 143, 3) := by decide +kernel
theorem dX12_isRoomTaken_52 : decode cX12_isRoomTaken 52 = .ok (.ifCond .eq 5, 3) := by decide +kernel
theorem dX12_isRoomTaken_55 : decode cX12_isRoomTaken 55 = .ok (.iconst 1, 1) := by decide +kernel
theorem dX12_isRoomTaken_56 : decode cX12_isRoomTaken 56 = .ok (.ireturn, 1) := by decide +kernel
theorem dX12_isRoomTaken_57 : decode cX12_isRoomTaken 57 = .ok (.iinc 3 1, 3) := by decide +kernel
theorem dX12_isRoomTaken_60 : decode cX12_isRoomTaken 60 = .ok (.goto (-58), 3) := by decide +kernel
theorem dX12_isRoomTaken_63 : decode cX12_isRoomTaken 63 = .ok (.iconst 0, 1) := by decide +kernel
theorem dX12_isRoomTaken_64 : decode cX12_isRoomTaken 64 = .ok (.ireturn, 1) := by decide +kernel
set_option maxRecDepth 20000 in
theorem ggX12_roomOf_X12_noLesson : GoodIn wsX12_roomOf wsX12_noLesson := goodIn_r _ [7, 8, 9, 10, 6, 11, 12, 13, 14, 15, 16, 17, 18, 19, 1, 50, 51, 52, 53, 54, 55, 56, 57, 58, 59, 60, 61, 62, 63, 64, 65, 66, 67, 68, 69, 70, 71, 72, 73, 74, 75, 76, 77, 78, 79] (by decide +kernel) (by decide +kernel)
set_option maxRecDepth 20000 in
theorem gX12_roomOf_X12_noLesson : GoodIn wsX12_roomOf (wsV RX12 107 RX12 yX12_noLesson wsX12_noLesson) := goodIn_app (goodIn_of _ (by decide +kernel)) ggX12_roomOf_X12_noLesson
set_option maxRecDepth 20000 in
theorem ggX12_roomOf_X12_noTable : GoodIn wsX12_roomOf wsX12_noTable := goodIn_r _ [23, 12, 16, 17, 18, 6, 19, 1, 50, 51, 52, 53, 54, 55, 56, 57, 58, 59, 60, 61, 62, 63, 64, 65, 66, 67, 68, 69, 70, 71, 72, 73, 74, 75, 76, 77, 78, 79] (by decide +kernel) (by decide +kernel)
set_option maxRecDepth 20000 in
theorem gX12_roomOf_X12_noTable : GoodIn wsX12_roomOf (wsV RX12 179 RX12 yX12_noTable wsX12_noTable) := goodIn_app (goodIn_of _ (by decide +kernel)) ggX12_roomOf_X12_noTable
set_option maxRecDepth 20000 in
theorem ggX12_roomOf_X12_looksAtTable : GoodIn wsX12_roomOf wsX12_looksAtTable := goodIn_r _ [27, 28, 12, 29, 8, 9, 10, 6, 11, 50, 51, 52, 53, 54, 55, 56, 57, 58, 59, 60, 61, 62, 63, 64, 65, 66, 67, 68, 69, 70, 71, 72, 73, 74, 75, 76, 77, 78, 79] (by decide +kernel) (by decide +kernel)
set_option maxRecDepth 20000 in
theorem gX12_roomOf_X12_looksAtTable : GoodIn wsX12_roomOf (wsV RX12 189 RX12 yX12_looksAtTable wsX12_looksAtTable) := goodIn_app (goodIn_of _ (by decide +kernel)) ggX12_roomOf_X12_looksAtTable
set_option maxRecDepth 20000 in
theorem ggX12_roomOf_X12_givesRooms : GoodIn wsX12_roomOf wsX12_givesRooms := goodIn_r _ [33, 2, 28, 12, 8, 9, 10, 6, 11, 34, 35, 36, 37, 38, 39, 40, 41, 42, 43, 44, 45, 46, 47, 48, 49, 50, 51, 52, 53, 54, 55, 56, 57, 58, 59, 60, 61, 62, 63, 64, 65, 66, 67, 68, 69, 70, 71, 72, 73, 74, 75, 76, 77, 78, 79] (by decide +kernel) (by decide +kernel)
set_option maxRecDepth 20000 in
theorem gX12_roomOf_X12_givesRooms : GoodIn wsX12_roomOf (wsV RX12 199 RX12 yX12_givesRooms wsX12_givesRooms) := goodIn_app (goodIn_of _ (by decide +kernel)) ggX12_roomOf_X12_givesRooms
theorem dX12_roomOf_0 : decode cX12_roomOf 0 = .ok (.aload_n 0, 1) := by decide +kernel
theorem dX12_roomOf_1 : decode cX12_roomOf 1 = .ok (.iconst 0, 1) := by decide +kernel
theorem dX12_roomOf_2 : decode cX12_roomOf 2 = .ok (.putfield 1, 3) := by decide +kernel
theorem dX12_roomOf_5 : decode cX12_roomOf 5 = .ok (.aload_n 0, 1) := by decide +kernel
theorem dX12_roomOf_6 : decode cX12_roomOf 6 = .ok (.iload_n 1, 1) := by decide +kernel
theorem dX12_roomOf_7 : decode cX12_roomOf 7 = .ok (.iconst 1, 1) := by decide +kernel
theorem dX12_roomOf_8 : decode cX12_roomOf 8 = .ok (.invokevirtual 107, 3) := by decide +kernel
theorem dX12_roomOf_11 : decode cX12_roomOf 11 = .ok (.ifCond .ne 11, 3) := by decide +kernel
theorem dX12_roomOf_14 : decode cX12_roomOf 14 = .ok (.aload_n 0, 1) := by decide +kernel
theorem dX12_roomOf_15 : decode cX12_roomOf 15 = .ok (.iconst 2, 1) := by decide +kernel
theorem dX12_roomOf_16 : decode cX12_roomOf 16 = .ok (.invokevirtual 179, 3) := by decide +kernel
theorem dX12_roomOf_19 : decode cX12_roomOf 19 = .ok (.ifCond .eq 5, 3) := by decide +kernel
theorem dX12_roomOf_22 : decode cX12_roomOf 22 = .ok (.iconst 0, 1) := by decide +kernel
theorem dX12_roomOf_23 : decode cX12_roomOf 23 = .ok (.ireturn, 1) := by decide +kernel
theorem dX12_roomOf_24 : decode cX12_roomOf 24 = .ok (.aload_n 0, 1) := by decide +kernel
theorem dX12_roomOf_25 : decode cX12_roomOf 25 = .ok (.invokevirtual 189, 3) := by decide +kernel
theorem dX12_roomOf_28 : decode cX12_roomOf 28 = .ok (.aload_n 0, 1) := by decide +kernel
theorem dX12_roomOf_29 : decode cX12_roomOf 29 = .ok (.invokevirtual 199, 3) := by decide +kernel
theorem dX12_roomOf_32 : decode cX12_roomOf 32 = .ok (.aload_n 0, 1) := by decide +kernel
theorem dX12_roomOf_33 : decode cX12_roomOf 33 = .ok (.getfield 36, 3) := by decide +kernel
theorem dX12_roomOf_36 : decode cX12_roomOf 36 = .ok (.iload_n 1, 1) := by decide +kernel
theorem dX12_roomOf_37 : decode cX12_roomOf 37 = .ok (.iaload, 1) := by decide +kernel
theorem dX12_roomOf_38 : decode cX12_roomOf 38 = .ok (.ireturn, 1) := by decide +kernel
set_option maxRecDepth 20000 in
theorem ggX12_choices_X12_noLesson : GoodIn wsX12_choices wsX12_noLesson := goodIn_r _ [8, 9, 10, 11, 7, 12, 3, 13, 14, 15, 16, 17, 18, 19, 1, 73, 74, 75, 76, 77, 78, 79, 80, 81, 82, 83, 84, 85, 86, 87, 88, 89, 90, 91, 92, 93, 94, 95, 96, 97, 98, 99, 100, 101, 102] (by decide +kernel) (by decide +kernel)
set_option maxRecDepth 20000 in
theorem gX12_choices_X12_noLesson : GoodIn wsX12_choices (wsV RX12 107 RX12 yX12_noLesson wsX12_noLesson) := goodIn_app (goodIn_of _ (by decide +kernel)) ggX12_choices_X12_noLesson
set_option maxRecDepth 20000 in
theorem ggX12_choices_X12_noTable : GoodIn wsX12_choices wsX12_noTable := goodIn_r _ [23, 3, 16, 17, 18, 7, 19, 1, 73, 74, 75, 76, 77, 78, 79, 80, 81, 82, 83, 84, 85, 86, 87, 88, 89, 90, 91, 92, 93, 94, 95, 96, 97, 98, 99, 100, 101, 102] (by decide +kernel) (by decide +kernel)
set_option maxRecDepth 20000 in
theorem gX12_choices_X12_noTable : GoodIn wsX12_choices (wsV RX12 179 RX12 yX12_noTable wsX12_noTable) := goodIn_app (goodIn_of _ (by decide +kernel)) ggX12_choices_X12_noTable
set_option maxRecDepth 20000 in
theorem ggX12_choices_X12_looksAtTable : GoodIn wsX12_choices wsX12_looksAtTable := goodIn_r _ [27, 2, 3, 28, 9, 10, 11, 7, 12, 73, 74, 75, 76, 77, 78, 79, 80, 81, 82, 83, 84, 85, 86, 87, 88, 89, 90, 91, 92, 93, 94, 95, 96, 97, 98, 99, 100, 101, 102] (by decide +kernel) (by decide +kernel)
set_option maxRecDepth 20000 in
theorem gX12_choices_X12_looksAtTable : GoodIn wsX12_choices (wsV RX12 189 RX12 yX12_looksAtTable wsX12_looksAtTable) := goodIn_app (goodIn_of _ (by decide +kernel)) ggX12_choices_X12_looksAtTable
set_option maxRecDepth 20000 in
theorem ggX12_choices_X12_isRight : GoodIn wsX12_choices wsX12_isRight := goodIn_r _ [32, 9, 10, 11, 7, 12, 3, 33, 34, 35, 36, 2, 37, 38, 39, 40, 41, 42, 43, 44, 28, 45, 46, 47, 48, 49, 50, 51, 52, 53, 54, 55, 56, 57, 58, 59, 60, 61, 62, 63, 64, 65, 66, 67, 68, 69, 70, 71, 72, 73, 74, 75, 76, 77, 78, 79, 80, 81, 82, 83, 84, 85, 86, 87, 88, 89, 90, 91, 92, 93, 94, 95, 96, 97, 98, 99, 100, 101, 102] (by decide +kernel) (by decide +kernel)
set_option maxRecDepth 20000 in
theorem gX12_choices_X12_isRight : GoodIn wsX12_choices (wsV RX12 202 RX12 yX12_isRight wsX12_isRight) := goodIn_app (goodIn_of _ (by decide +kernel)) ggX12_choices_X12_isRight
theorem dX12_choices_0 : decode cX12_choices 0 = .ok (.aload_n 0, 1) := by decide +kernel
theorem dX12_choices_1 : decode cX12_choices 1 = .ok (.iconst 0, 1) := by decide +kernel
theorem dX12_choices_2 : decode cX12_choices 2 = .ok (.putfield 1, 3) := by decide +kernel
theorem dX12_choices_5 : decode cX12_choices 5 = .ok (.aload_n 0, 1) := by decide +kernel
theorem dX12_choices_6 : decode cX12_choices 6 = .ok (.iload_n 1, 1) := by decide +kernel
theorem dX12_choices_7 : decode cX12_choices 7 = .ok (.iconst 1, 1) := by decide +kernel
theorem dX12_choices_8 : decode cX12_choices 8 = .ok (.invokevirtual 107, 3) := by decide +kernel
theorem dX12_choices_11 : decode cX12_choices 11 = .ok (.ifCond .ne 11, 3) := by decide +kernel
theorem dX12_choices_14 : decode cX12_choices 14 = .ok (.aload_n 0, 1) := by decide +kernel
theorem dX12_choices_15 : decode cX12_choices 15 = .ok (.iconst 2, 1) := by decide +kernel
theorem dX12_choices_16 : decode cX12_choices 16 = .ok (.invokevirtual 179, 3) := by decide +kernel
theorem dX12_choices_19 : decode cX12_choices 19 = .ok (.ifCond .eq 5, 3) := by decide +kernel
theorem dX12_choices_22 : decode cX12_choices 22 = .ok (.iconst 0, 1) := by decide +kernel
theorem dX12_choices_23 : decode cX12_choices 23 = .ok (.ireturn, 1) := by decide +kernel
theorem dX12_choices_24 : decode cX12_choices 24 = .ok (.aload_n 0, 1) := by decide +kernel
theorem dX12_choices_25 : decode cX12_choices 25 = .ok (.invokevirtual 189, 3) := by decide +kernel
theorem dX12_choices_28 : decode cX12_choices 28 = .ok (.iconst 0, 1) := by decide +kernel
theorem dX12_choices_29 : decode cX12_choices 29 = .ok (.istore_n 2, 1) := by decide +kernel
theorem dX12_choices_30 : decode cX12_choices 30 = .ok (.iconst 0, 1) := by decide +kernel
theorem dX12_choices_31 : decode cX12_choices 31 = .ok (.istore_n 3, 1) := by decide +kernel
theorem dX12_choices_32 : decode cX12_choices 32 = .ok (.iload_n 3, 1) := by decide +kernel
theorem dX12_choices_33 : decode cX12_choices 33 = .ok (.bipush 20, 2) := by decide +kernel
theorem dX12_choices_35 : decode cX12_choices 35 = .ok (.if_icmp .ge 44, 3) := by decide +kernel
theorem dX12_choices_38 : decode cX12_choices 38 = .ok (.aload_n 0, 1) := by decide +kernel
theorem dX12_choices_39 : decode cX12_choices 39 = .ok (.getfield 20, 3) := by decide +kernel
theorem dX12_choices_42 : decode cX12_choices 42 = .ok (.iload_n 1, 1) := by decide +kernel
theorem dX12_choices_43 : decode cX12_choices 43 = .ok (.iload_n 3, 1) := by decide +kernel
theorem dX12_choices_44 : decode cX12_choices 44 = .ok (.iastore, 1) := by decide +kernel
theorem dX12_choices_45 : decode cX12_choices 45 = .ok (.iload_n 2, 1) := by decide +kernel
theorem dX12_choices_46 : decode cX12_choices 46 = .ok (.iload_n 3, 1) := by decide +kernel
theorem dX12_choices_47 : decode cX12_choices 47 = .ok (.aload_n 0, 1) := by decide +kernel
theorem dX12_choices_48 : decode cX12_choices 48 = .ok (.getfield 13, 3) := by decide +kernel
theorem dX12_choices_51 : decode cX12_choices 51 = .ok (.bipush 116, 2) := by decide +kernel
theorem dX12_choices_53 : decode cX12_choices 53 = .ok (.iload_n 1, 1) := by decide +kernel
theorem dX12_choices_54 : decode cX12_choices 54 = .ok (.iadd, 1) := by decide +kernel
theorem dX12_choices_55 : decode cX12_choices 55 = .ok (.iaload, 1) := by decide +kernel
theorem dX12_choices_56 : decode cX12_choices 56 = .ok (.if_icmp .eq 14, 3) := by decide +kernel
theorem dX12_choices_59 : decode cX12_choices 59 = .ok (.aload_n 0, 1) := by decide +kernel
theorem dX12_choices_60 : decode cX12_choices 60 = .ok (.invokevirtual 202, 3) := by decide +kernel
theorem dX12_choices_63 : decode cX12_choices 63 = .ok (.ifCond .eq 7, 3) := by decide +kernel
theorem dX12_choices_66 : decode cX12_choices 66 = .ok (.iconst 1, 1) := by decide +kernel
theorem dX12_choices_67 : decode cX12_choices 67 = .ok (.goto 4, 3) := by decide +kernel
theorem dX12_choices_70 : decode cX12_choices 70 = .ok (.iconst 0, 1) := by decide +kernel
theorem dX12_choices_71 : decode cX12_choices 71 = .ok (.iadd, 1) := by decide +kernel
theorem dX12_choices_72 : decode cX12_choices 72 = .ok (.istore_n 2, 1) := by decide +kernel
theorem dX12_choices_73 : decode cX12_choices 73 = .ok (.iinc 3 1, 3) := by decide +kernel
theorem dX12_choices_76 : decode cX12_choices 76 = .ok (.goto (-44), 3) := by decide +kernel
theorem dX12_choices_79 : decode cX12_choices 79 = .ok (.iload_n 2, 1) := by decide +kernel
theorem dX12_choices_80 : decode cX12_choices 80 = .ok (.ireturn, 1) := by decide +kernel
set_option maxRecDepth 20000 in
theorem ggX12_move_X12_noLesson : GoodIn wsX12_move wsX12_noLesson := goodIn_r _ [7, 8, 9, 10, 6, 11, 12, 13, 14, 15, 16, 17, 18, 19, 1, 104, 105, 106, 107, 108, 109, 110, 111, 112, 113, 114, 115, 116, 117, 118, 119, 120, 121, 122, 123, 124, 125, 126, 127, 128, 129, 130, 131, 132, 133] (by decide +kernel) (by decide +kernel)
set_option maxRecDepth 20000 in
theorem gX12_move_X12_noLesson : GoodIn wsX12_move (wsV RX12 107 RX12 yX12_noLesson wsX12_noLesson) := goodIn_app (goodIn_of _ (by decide +kernel)) ggX12_move_X12_noLesson
set_option maxRecDepth 20000 in
theorem ggX12_move_X12_in : GoodIn wsX12_move wsX12_in := goodIn_r _ [15] (by decide +kernel) (by decide +kernel)
set_option maxRecDepth 20000 in
theorem gX12_move_X12_in : GoodIn wsX12_move (va_wsS RX12 92 yX12_in wsX12_in) := goodIn_app (goodIn_of _ (by decide +kernel)) ggX12_move_X12_in
set_option maxRecDepth 20000 in
theorem ggX12_move_X12_fails : GoodIn wsX12_move wsX12_fails := goodIn_r _ [19, 1, 104, 105, 106, 107, 108, 109, 110, 111, 112, 113, 114, 115, 116, 117, 118, 119, 120, 121, 122, 123, 124, 125, 126, 127, 128, 129, 130, 131, 132, 133] (by decide +kernel) (by decide +kernel)
set_option maxRecDepth 20000 in
theorem gX12_move_X12_fails : GoodIn wsX12_move (wsV RX12 96 RX12 yX12_fails wsX12_fails) := goodIn_app (goodIn_of _ (by decide +kernel)) ggX12_move_X12_fails
set_option maxRecDepth 20000 in
theorem ggX12_move_X12_noTable : GoodIn wsX12_move wsX12_noTable := goodIn_r _ [23, 12, 16, 17, 18, 6, 19, 1, 104, 105, 106, 107, 108, 109, 110, 111, 112, 113, 114, 115, 116, 117, 118, 119, 120, 121, 122, 123, 124, 125, 126, 127, 128, 129, 130, 131, 132, 133] (by decide +kernel) (by decide +kernel)
set_option maxRecDepth 20000 in
theorem gX12_move_X12_noTable : GoodIn wsX12_move (wsV RX12 179 RX12 yX12_noTable wsX12_noTable) := goodIn_app (goodIn_of _ (by decide +kernel)) ggX12_move_X12_noTable
set_option maxRecDepth 20000 in
theorem ggX12_move_X12_looksAtTable : GoodIn wsX12_move wsX12_looksAtTable := goodIn_r _ [27, 2, 12, 28, 8, 9, 10, 6, 11, 104, 105, 106, 107, 108, 109, 110, 111, 112, 113, 114, 115, 116, 117, 118, 119, 120, 121, 122, 123, 124, 125, 126, 127, 128, 129, 130, 131, 132, 133] (by decide +kernel) (by decide +kernel)
set_option maxRecDepth 20000 in
theorem gX12_move_X12_looksAtTable : GoodIn wsX12_move (wsV RX12 189 RX12 yX12_looksAtTable wsX12_looksAtTable) := goodIn_app (goodIn_of _ (by decide +kernel)) ggX12_move_X12_looksAtTable
set_option maxRecDepth 20000 in
theorem ggX12_move_X12_isRight : GoodIn wsX12_move wsX12_isRight := goodIn_r _ [32, 8, 9, 10, 6, 11, 12, 33, 34, 35, 36, 2, 37, 38, 39, 40, 41, 42, 43, 44, 28, 45, 46, 47, 48, 49, 50, 51, 52, 53, 54, 55, 56, 57, 58, 59, 60, 61, 62, 63, 64, 65, 66, 67, 68, 69, 70, 71, 72, 104, 105, 106, 107, 108, 109, 110, 111, 112, 113, 114, 115, 116, 117, 118, 119, 120, 121, 122, 123, 124, 125, 126, 127, 128, 129, 130, 131, 132, 133] (by decide +kernel) (by decide +kernel)
set_option maxRecDepth 20000 in
theorem gX12_move_X12_isRight : GoodIn wsX12_move (wsV RX12 202 RX12 yX12_isRight wsX12_isRight) := goodIn_app (goodIn_of _ (by decide +kernel)) ggX12_move_X12_isRight
set_option maxRecDepth 20000 in
theorem ggX12_move_X12_puts : GoodIn wsX12_move wsX12_puts := goodIn_r _ [76, 12, 2, 77, 78, 79, 6, 80, 81, 82, 83, 8, 9, 10, 11, 104, 105, 106, 107, 108, 109, 110, 111, 112, 113, 114, 115, 116, 117, 118, 119, 120, 121, 122, 123, 124, 125, 126, 127, 128, 129, 130, 131, 132, 133] (by decide +kernel) (by decide +kernel)
set_option maxRecDepth 20000 in
theorem gX12_move_X12_puts : GoodIn wsX12_move (wsV RX12 176 RX12 yX12_puts wsX12_puts) := goodIn_app (goodIn_of _ (by decide +kernel)) ggX12_move_X12_puts
set_option maxRecDepth 20000 in
theorem ggX12_move_X12_costs : GoodIn wsX12_move wsX12_costs := goodIn_r _ [87, 12, 88, 89, 90, 6, 91, 92, 93, 94, 95, 8, 9, 10, 11, 96, 97, 98, 99, 53, 54, 55, 56, 2, 37, 38, 39, 40, 100, 101, 102, 103, 45, 46, 47, 48, 69, 70, 71, 72, 49, 50, 51, 52, 104, 105, 106, 107, 108, 109, 110, 111, 112, 113, 114, 115, 116, 117, 118, 119, 120, 121, 122, 123, 124, 125, 126, 127, 128, 129, 130, 131, 132, 133] (by decide +kernel) (by decide +kernel)
set_option maxRecDepth 20000 in
theorem gX12_move_X12_costs : GoodIn wsX12_move (wsV RX12 205 RX12 yX12_costs wsX12_costs) := goodIn_app (goodIn_of _ (by decide +kernel)) ggX12_move_X12_costs
theorem dX12_move_0 : decode cX12_move 0 = .ok (.aload_n 0, 1) := by decide +kernel
theorem dX12_move_1 : decode cX12_move 1 = .ok (.iconst 0, 1) := by decide +kernel
theorem dX12_move_2 : decode cX12_move 2 = .ok (.putfield 1, 3) := by decide +kernel
theorem dX12_move_5 : decode cX12_move 5 = .ok (.aload_n 0, 1) := by decide +kernel
theorem dX12_move_6 : decode cX12_move 6 = .ok (.iload_n 1, 1) := by decide +kernel
theorem dX12_move_7 : decode cX12_move 7 = .ok (.iconst 1, 1) := by decide +kernel
theorem dX12_move_8 : decode cX12_move 8 = .ok (.invokevirtual 107, 3) := by decide +kernel
theorem dX12_move_11 : decode cX12_move 11 = .ok (.ifCond .ne 26, 3) := by decide +kernel
theorem dX12_move_14 : decode cX12_move 14 = .ok (.aload_n 0, 1) := by decide +kernel
theorem dX12_move_15 : decode cX12_move 15 = .ok (.iload_n 2, 1) := by decide +kernel
theorem dX12_move_16 : decode cX12_move 16 = .ok (.iconst 0, 1) := by decide +kernel
theorem dX12_move_17 : decode cX12_move 17 = .ok (.bipush 19, 2) := by decide +kernel
theorem dX12_move_19 : decode cX12_move 19 = .ok (.invokestatic 92, 3) := by decide +kernel
theorem dX12_move_22 : decode cX12_move 22 = .ok (.iconst 2, 1) := by decide +kernel
theorem dX12_move_23 : decode cX12_move 23 = .ok (.invokevirtual 96, 3) := by decide +kernel
theorem dX12_move_26 : decode cX12_move 26 = .ok (.ifCond .ne 11, 3) := by decide +kernel
theorem dX12_move_29 : decode cX12_move 29 = .ok (.aload_n 0, 1) := by decide +kernel
theorem dX12_move_30 : decode cX12_move 30 = .ok (.iconst 3, 1) := by decide +kernel
theorem dX12_move_31 : decode cX12_move 31 = .ok (.invokevirtual 179, 3) := by decide +kernel
theorem dX12_move_34 : decode cX12_move 34 = .ok (.ifCond .eq 5, 3) := by decide +kernel
theorem dX12_move_37 : decode cX12_move 37 = .ok (.iconst 0, 1) := by decide +kernel
theorem dX12_move_38 : decode cX12_move 38 = .ok (.ireturn, 1) := by decide +kernel
theorem dX12_move_39 : decode cX12_move 39 = .ok (.aload_n 0, 1) := by decide +kernel
theorem dX12_move_40 : decode cX12_move 40 = .ok (.invokevirtual 189, 3) := by decide +kernel
theorem dX12_move_43 : decode cX12_move 43 = .ok (.aload_n 0, 1) := by decide +kernel
theorem dX12_move_44 : decode cX12_move 44 = .ok (.getfield 20, 3) := by decide +kernel
theorem dX12_move_47 : decode cX12_move 47 = .ok (.iload_n 1, 1) := by decide +kernel
theorem dX12_move_48 : decode cX12_move 48 = .ok (.iload_n 2, 1) := by decide +kernel
theorem dX12_move_49 : decode cX12_move 49 = .ok (.iastore, 1) := by decide +kernel
theorem dX12_move_50 : decode cX12_move 50 = .ok (.aload_n 0, 1) := by decide +kernel
theorem dX12_move_51 : decode cX12_move 51 = .ok (.aload_n 0, 1) := by decide +kernel
theorem dX12_move_52 : decode cX12_move 52 = .ok (.invokevirtual 202, 3) := by decide +kernel
theorem dX12_move_55 : decode cX12_move 55 = .ok (.iconst 3, 1) := by decide +kernel
theorem dX12_move_56 : decode cX12_move 56 = .ok (.invokevirtual 96, 3) := by decide +kernel
theorem dX12_move_59 : decode cX12_move 59 = .ok (.ifCond .eq 5, 3) := by decide +kernel
theorem dX12_move_62 : decode cX12_move 62 = .ok (.iconst 0, 1) := by decide +kernel
theorem dX12_move_63 : decode cX12_move 63 = .ok (.ireturn, 1) := by decide +kernel
theorem dX12_move_64 : decode cX12_move 64 = .ok (.aload_n 0, 1) := by decide +kernel
theorem dX12_move_65 : decode cX12_move 65 = .ok (.invokevirtual 176, 3) := by decide +kernel
theorem dX12_move_68 : decode cX12_move 68 = .ok (.aload_n 0, 1) := by decide +kernel
theorem dX12_move_69 : decode cX12_move 69 = .ok (.invokevirtual 205, 3) := by decide +kernel
theorem dX12_move_72 : decode cX12_move 72 = .ok (.ireturn, 1) := by decide +kernel
set_option maxRecDepth 20000 in
theorem ggX12_holds_X12_noWish : GoodIn wsX12_holds wsX12_noWish := goodIn_r _ [6, 7, 8, 9, 5, 10, 11, 12, 13, 14, 1, 53, 54, 55, 56, 57, 58, 59, 60, 61, 62, 63, 64, 65, 66, 67, 68, 69, 70, 71, 72, 73, 74, 75, 76, 77, 78, 79, 80, 81, 82] (by decide +kernel) (by decide +kernel)
set_option maxRecDepth 20000 in
theorem gX12_holds_X12_noWish : GoodIn wsX12_holds (wsV RX12 125 RX12 yX12_noWish wsX12_noWish) := goodIn_app (goodIn_of _ (by decide +kernel)) ggX12_holds_X12_noWish
set_option maxRecDepth 20000 in
theorem ggX12_holds_X12_noTable : GoodIn wsX12_holds wsX12_noTable := goodIn_r _ [18, 7, 11, 12, 13, 5, 14, 1, 53, 54, 55, 56, 57, 58, 59, 60, 61, 62, 63, 64, 65, 66, 67, 68, 69, 70, 71, 72, 73, 74, 75, 76, 77, 78, 79, 80, 81, 82] (by decide +kernel) (by decide +kernel)
set_option maxRecDepth 20000 in
theorem gX12_holds_X12_noTable : GoodIn wsX12_holds (wsV RX12 179 RX12 yX12_noTable wsX12_noTable) := goodIn_app (goodIn_of _ (by decide +kernel)) ggX12_holds_X12_noTable
set_option maxRecDepth 20000 in
theorem ggX12_holds_X12_looksAtTable : GoodIn wsX12_holds wsX12_looksAtTable := goodIn_r _ [22, 23, 7, 24, 25, 26, 27, 5, 28, 53, 54, 55, 56, 57, 58, 59, 60, 61, 62, 63, 64, 65, 66, 67, 68, 69, 70, 71, 72, 73, 74, 75, 76, 77, 78, 79, 80, 81, 82] (by decide +kernel) (by decide +kernel)
set_option maxRecDepth 20000 in
theorem gX12_holds_X12_looksAtTable : GoodIn wsX12_holds (wsV RX12 189 RX12 yX12_looksAtTable wsX12_looksAtTable) := goodIn_app (goodIn_of _ (by decide +kernel)) ggX12_holds_X12_looksAtTable
set_option maxRecDepth 20000 in
theorem ggX12_holds_X12_holdsNow : GoodIn wsX12_holds wsX12_holdsNow := goodIn_r _ [32, 7, 33, 34, 35, 5, 36, 37, 38, 39, 40, 23, 25, 26, 27, 28, 41, 42, 43, 44, 45, 46, 47, 48, 49, 50, 51, 52, 53, 54, 55, 56, 57, 58, 59, 60, 61, 62, 63, 64, 65, 66, 67, 68, 69, 70, 71, 72, 73, 74, 75, 76, 77, 78, 79, 80, 81, 82] (by decide +kernel) (by decide +kernel)
set_option maxRecDepth 20000 in
theorem gX12_holds_X12_holdsNow : GoodIn wsX12_holds (wsV RX12 208 RX12 yX12_holdsNow wsX12_holdsNow) := goodIn_app (goodIn_of _ (by decide +kernel)) ggX12_holds_X12_holdsNow
theorem dX12_holds_0 : decode cX12_holds 0 = .ok (.aload_n 0, 1) := by decide +kernel
theorem dX12_holds_1 : decode cX12_holds 1 = .ok (.iconst 0, 1) := by decide +kernel
theorem dX12_holds_2 : decode cX12_holds 2 = .ok (.putfield 1, 3) := by decide +kernel
theorem dX12_holds_5 : decode cX12_holds 5 = .ok (.aload_n 0, 1) := by decide +kernel
theorem dX12_holds_6 : decode cX12_holds 6 = .ok (.iload_n 1, 1) := by decide +kernel
theorem dX12_holds_7 : decode cX12_holds 7 = .ok (.invokevirtual 125, 3) := by decide +kernel
theorem dX12_holds_10 : decode cX12_holds 10 = .ok (.ifCond .ne 11, 3) := by decide +kernel
theorem dX12_holds_13 : decode cX12_holds 13 = .ok (.aload_n 0, 1) := by decide +kernel
theorem dX12_holds_14 : decode cX12_holds 14 = .ok (.iconst 2, 1) := by decide +kernel
theorem dX12_holds_15 : decode cX12_holds 15 = .ok (.invokevirtual 179, 3) := by decide +kernel
theorem dX12_holds_18 : decode cX12_holds 18 = .ok (.ifCond .eq 5, 3) := by decide +kernel
theorem dX12_holds_21 : decode cX12_holds 21 = .ok (.iconst 0, 1) := by decide +kernel
theorem dX12_holds_22 : decode cX12_holds 22 = .ok (.ireturn, 1) := by decide +kernel
theorem dX12_holds_23 : decode cX12_holds 23 = .ok (.aload_n 0, 1) := by decide +kernel
theorem dX12_holds_24 : decode cX12_holds 24 = .ok (.invokevirtual 189, 3) := by decide +kernel
theorem dX12_holds_27 : decode cX12_holds 27 = .ok (.aload_n 0, 1) := by decide +kernel
theorem dX12_holds_28 : decode cX12_holds 28 = .ok (.iload_n 1, 1) := by decide +kernel
theorem dX12_holds_29 : decode cX12_holds 29 = .ok (.invokevirtual 208, 3) := by decide +kernel
theorem dX12_holds_32 : decode cX12_holds 32 = .ok (.ireturn, 1) := by decide +kernel
set_option maxRecDepth 20000 in
theorem ggX12_gapsOf_X12_lessonThen : GoodIn wsX12_gapsOf wsX12_lessonThen := goodIn_r _ [5, 6, 7, 8, 4, 9, 10, 11, 12, 13, 14, 15, 16, 17, 18, 19, 20, 21, 22, 23, 24, 25, 26, 27, 28, 29, 30, 31, 32, 33, 34, 35, 36, 37, 38, 39, 40, 41, 42, 43, 44, 45, 46, 47, 48, 49, 50, 51, 52, 53] (by decide +kernel) (by decide +kernel)
set_option maxRecDepth 20000 in
theorem gX12_gapsOf_X12_lessonThen : GoodIn wsX12_gapsOf (wsV RX12 192 RX12 yX12_lessonThen wsX12_lessonThen) := goodIn_app (goodIn_of _ (by decide +kernel)) ggX12_gapsOf_X12_lessonThen
theorem dX12_gapsOf_0 : decode cX12_gapsOf 0 = .ok (.iconst 0, 1) := by decide +kernel
theorem dX12_gapsOf_1 : decode cX12_gapsOf 1 = .ok (.istore_n 3, 1) := by decide +kernel
theorem dX12_gapsOf_2 : decode cX12_gapsOf 2 = .ok (.iconst 0, 1) := by decide +kernel
theorem dX12_gapsOf_3 : decode cX12_gapsOf 3 = .ok (.istore 4, 2) := by decide +kernel
theorem dX12_gapsOf_5 : decode cX12_gapsOf 5 = .ok (.iload 4, 2) := by decide +kernel
theorem dX12_gapsOf_7 : decode cX12_gapsOf 7 = .ok (.bipush 20, 2) := by decide +kernel
theorem dX12_gapsOf_9 : decode cX12_gapsOf 9 = .ok (.if_icmp .ge 140, 3) := by decide +kernel
theorem dX12_gapsOf_12 : decode cX12_gapsOf 12 = .ok (.aload_n 0, 1) := by decide +kernel
theorem dX12_gapsOf_13 : decode cX12_gapsOf 13 = .ok (.iload_n 1, 1) := by decide +kernel
theorem dX12_gapsOf_14 : decode cX12_gapsOf 14 = .ok (.iload_n 2, 1) := by decide +kernel
theorem dX12_gapsOf_15 : decode cX12_gapsOf 15 = .ok (.iload 4, 2) := by decide +kernel
theorem dX12_gapsOf_17 : decode cX12_gapsOf 17 = .ok (.invokevirtual 192, 3) := by decide +kernel
theorem dX12_gapsOf_20 : decode cX12_gapsOf 20 = .ok (.iconst (-1), 1) := by decide +kernel
theorem dX12_gapsOf_21 : decode cX12_gapsOf 21 = .ok (.if_icmp .eq 6, 3) := by decide +kernel
theorem dX12_gapsOf_24 : decode cX12_gapsOf 24 = .ok (.goto 119, 3) := by decide +kernel
theorem dX12_gapsOf_27 : decode cX12_gapsOf 27 = .ok (.iconst 0, 1) := by decide +kernel
theorem dX12_gapsOf_28 : decode cX12_gapsOf 28 = .ok (.istore 5, 2) := by decide +kernel
theorem dX12_gapsOf_30 : decode cX12_gapsOf 30 = .ok (.iconst 0, 1) := by decide +kernel
theorem dX12_gapsOf_31 : decode cX12_gapsOf 31 = .ok (.istore 6, 2) := by decide +kernel
theorem dX12_gapsOf_33 : decode cX12_gapsOf 33 = .ok (.iload 4, 2) := by decide +kernel
theorem dX12_gapsOf_35 : decode cX12_gapsOf 35 = .ok (.iconst 4, 1) := by decide +kernel
theorem dX12_gapsOf_36 : decode cX12_gapsOf 36 = .ok (.idiv, 1) := by decide +kernel
theorem dX12_gapsOf_37 : decode cX12_gapsOf 37 = .ok (.istore 7, 2) := by decide +kernel
theorem dX12_gapsOf_39 : decode cX12_gapsOf 39 = .ok (.iconst 4, 1) := by decide +kernel
theorem dX12_gapsOf_40 : decode cX12_gapsOf 40 = .ok (.iload 7, 2) := by decide +kernel
theorem dX12_gapsOf_42 : decode cX12_gapsOf 42 = .ok (.imul, 1) := by decide +kernel
theorem dX12_gapsOf_43 : decode cX12_gapsOf 43 = .ok (.istore 8, 2) := by decide +kernel
theorem dX12_gapsOf_45 : decode cX12_gapsOf 45 = .ok (.iload 8, 2) := by decide +kernel
theorem dX12_gapsOf_47 : decode cX12_gapsOf 47 = .ok (.iconst 4, 1) := by decide +kernel
theorem dX12_gapsOf_48 : decode cX12_gapsOf 48 = .ok (.iload 7, 2) := by decide +kernel
theorem dX12_gapsOf_50 : decode cX12_gapsOf 50 = .ok (.imul, 1) := by decide +kernel
theorem dX12_gapsOf_51 : decode cX12_gapsOf 51 = .ok (.iconst 4, 1) := by decide +kernel
theorem dX12_gapsOf_52 : decode cX12_gapsOf 52 = .ok (.iadd, 1) := by decide +kernel
theorem dX12_gapsOf_53 : decode cX12_gapsOf 53 = .ok (.if_icmp .ge 72, 3) := by decide +kernel
theorem dX12_gapsOf_56 : decode cX12_gapsOf 56 = .ok (.aload_n 0, 1) := by decide +kernel
theorem dX12_gapsOf_57 : decode cX12_gapsOf 57 = .ok (.iload_n 1, 1) := by decide +kernel
theorem dX12_gapsOf_58 : decode cX12_gapsOf 58 = .ok (.iload_n 2, 1) := by decide +kernel
theorem dX12_gapsOf_59 : decode cX12_gapsOf 59 = .ok (.iload 8, 2) := by decide +kernel
theorem dX12_gapsOf_61 : decode cX12_gapsOf 61 = .ok (.invokevirtual 192, 3) := by decide +kernel
theorem dX12_gapsOf_64 : decode cX12_gapsOf 64 = .ok (.iconst (-1), 1) := by decide +kernel
theorem dX12_gapsOf_65 : decode cX12_gapsOf 65 = .ok (.if_icmp .eq 7, 3) := by decide +kernel
theorem dX12_gapsOf_68 : decode cX12_gapsOf 68 = .ok (.iconst 1, 1) := by decide +kernel
theorem dX12_gapsOf_69 : decode cX12_gapsOf 69 = .ok (.goto 4, 3) := by decide +kernel
theorem dX12_gapsOf_72 : decode cX12_gapsOf 72 = .ok (.iconst 0, 1) := by decide +kernel
theorem dX12_gapsOf_73 : decode cX12_gapsOf 73 = .ok (.istore 9, 2) := by decide +kernel
theorem dX12_gapsOf_75 : decode cX12_gapsOf 75 = .ok (.iload 5, 2) := by decide +kernel
theorem dX12_gapsOf_77 : decode cX12_gapsOf 77 = .ok (.iload 9, 2) := by decide +kernel
theorem dX12_gapsOf_79 : decode cX12_gapsOf 79 = .ok (.ifCond .eq 14, 3) := by decide +kernel
theorem dX12_gapsOf_82 : decode cX12_gapsOf 82 = .ok (.iload 8, 2) := by decide +kernel
theorem dX12_gapsOf_84 : decode cX12_gapsOf 84 = .ok (.iload 4, 2) := by decide +kernel
theorem dX12_gapsOf_86 : decode cX12_gapsOf 86 = .ok (.if_icmp .ge 7, 3) := by decide +kernel
theorem dX12_gapsOf_89 : decode cX12_gapsOf 89 = .ok (.iconst 1, 1) := by decide +kernel
theorem dX12_gapsOf_90 : decode cX12_gapsOf 90 = .ok (.goto 4, 3) := by decide +kernel
theorem dX12_gapsOf_93 : decode cX12_gapsOf 93 = .ok (.iconst 0, 1) := by decide +kernel
theorem dX12_gapsOf_94 : decode cX12_gapsOf 94 = .ok (.ior, 1) := by decide +kernel
theorem dX12_gapsOf_95 : decode cX12_gapsOf 95 = .ok (.istore 5, 2) := by decide +kernel
theorem dX12_gapsOf_97 : decode cX12_gapsOf 97 = .ok (.iload 6, 2) := by decide +kernel
theorem dX12_gapsOf_99 : decode cX12_gapsOf 99 = .ok (.iload 9, 2) := by decide +kernel
theorem dX12_gapsOf_101 : decode cX12_gapsOf 101 = .ok (.ifCond .eq 14, 3) := by decide +kernel
theorem dX12_gapsOf_104 : decode cX12_gapsOf 104 = .ok (.iload 8, 2) := by decide +kernel
theorem dX12_gapsOf_106 : decode cX12_gapsOf 106 = .ok (.iload 4, 2) := by decide +kernel
theorem dX12_gapsOf_108 : decode cX12_gapsOf 108 = .ok (.if_icmp .le 7, 3) := by decide +kernel
theorem dX12_gapsOf_111 : decode cX12_gapsOf 111 = .ok (.iconst 1, 1) := by decide +kernel
theorem dX12_gapsOf_112 : decode cX12_gapsOf 112 = .ok (.goto 4, 3) := by decide +kernel
theorem dX12_gapsOf_115 : decode cX12_gapsOf 115 = .ok (.iconst 0, 1) := by decide +kernel
theorem dX12_gapsOf_116 : decode cX12_gapsOf 116 = .ok (.ior, 1) := by decide +kernel
theorem dX12_gapsOf_117 : decode cX12_gapsOf 117 = .ok (.istore 6, 2) := by decide +kernel
theorem dX12_gapsOf_119 : decode cX12_gapsOf 119 = .ok (.iinc 8 1, 3) := by decide +kernel
theorem dX12_gapsOf_122 : decode cX12_gapsOf 122 = .ok (.goto (-77), 3) := by decide +kernel
theorem dX12_gapsOf_125 : decode cX12_gapsOf 125 = .ok (.iload_n 3, 1) := by decide +kernel
theorem dX12_gapsOf_126 : decode cX12_gapsOf 126 = .ok (.iload 5, 2) := by decide +kernel
theorem dX12_gapsOf_128 : decode cX12_gapsOf 128 = .ok (.ifCond .eq 12, 3) := by decide +kernel
theorem dX12_gapsOf_131 : decode cX12_gapsOf 131 = .ok (.iload 6, 2) := by decide +kernel
theorem dX12_gapsOf_133 : decode cX12_gapsOf 133 = .ok (.ifCond .eq 7, 3) := by decide +kernel
theorem dX12_gapsOf_136 : decode cX12_gapsOf 136 = .ok (.iconst 1, 1) := by decide +kernel
theorem dX12_gapsOf_137 : decode cX12_gapsOf 137 = .ok (.goto 4, 3) := by decide +kernel
theorem dX12_gapsOf_140 : decode cX12_gapsOf 140 = .ok (.iconst 0, 1) := by decide +kernel
theorem dX12_gapsOf_141 : decode cX12_gapsOf 141 = .ok (.iadd, 1) := by decide +kernel
theorem dX12_gapsOf_142 : decode cX12_gapsOf 142 = .ok (.istore_n 3, 1) := by decide +kernel
theorem dX12_gapsOf_143 : decode cX12_gapsOf 143 = .ok (.iinc 4 1, 3) := by decide +kernel
theorem dX12_gapsOf_146 : decode cX12_gapsOf 146 = .ok (.goto (-141), 3) := by decide +kernel
theorem dX12_gapsOf_149 : decode cX12_gapsOf 149 = .ok (.iload_n 3, 1) := by decide +kernel
theorem dX12_gapsOf_150 : decode cX12_gapsOf 150 = .ok (.ireturn, 1) := by decide +kernel
set_option maxRecDepth 20000 in
theorem ggX12_costs_X12_gapsOf : GoodIn wsX12_costs wsX12_gapsOf := goodIn_r _ [6, 7, 8, 9, 5, 10, 11, 12, 13, 14, 1, 15, 16, 17, 18, 19, 20, 21, 22, 23, 24, 25, 26, 27, 44, 45, 46, 47, 48, 49, 50, 51, 52, 53, 54, 55, 56, 57, 58, 59, 60, 61, 62, 63, 64, 65, 66, 67, 68, 69, 70, 71, 72, 73] (by decide +kernel) (by decide +kernel)
set_option maxRecDepth 20000 in
theorem gX12_costs_X12_gapsOf : GoodIn wsX12_costs (wsV RX12 211 RX12 yX12_gapsOf wsX12_gapsOf) := goodIn_app (goodIn_of _ (by decide +kernel)) ggX12_costs_X12_gapsOf
set_option maxRecDepth 20000 in
theorem ggX12_costs_X12_holdsNow : GoodIn wsX12_costs wsX12_holdsNow := goodIn_r _ [31, 1, 32, 33, 34, 5, 35, 36, 37, 38, 39, 23, 11, 12, 13, 14, 40, 41, 42, 43, 19, 20, 21, 22, 24, 25, 26, 27, 44, 45, 46, 47, 48, 49, 50, 51, 52, 53, 54, 55, 56, 57, 58, 59, 60, 61, 62, 63, 64, 65, 66, 67, 68, 69, 70, 71, 72, 73] (by decide +kernel) (by decide +kernel)
set_option maxRecDepth 20000 in
theorem gX12_costs_X12_holdsNow : GoodIn wsX12_costs (wsV RX12 208 RX12 yX12_holdsNow wsX12_holdsNow) := goodIn_app (goodIn_of _ (by decide +kernel)) ggX12_costs_X12_holdsNow
theorem dX12_costs_0 : decode cX12_costs 0 = .ok (.iconst 0, 1) := by decide +kernel
theorem dX12_costs_1 : decode cX12_costs 1 = .ok (.istore_n 1, 1) := by decide +kernel
theorem dX12_costs_2 : decode cX12_costs 2 = .ok (.iconst 0, 1) := by decide +kernel
theorem dX12_costs_3 : decode cX12_costs 3 = .ok (.istore_n 2, 1) := by decide +kernel
theorem dX12_costs_4 : decode cX12_costs 4 = .ok (.iload_n 2, 1) := by decide +kernel
theorem dX12_costs_5 : decode cX12_costs 5 = .ok (.bipush 6, 2) := by decide +kernel
theorem dX12_costs_7 : decode cX12_costs 7 = .ok (.if_icmp .ge 18, 3) := by decide +kernel
theorem dX12_costs_10 : decode cX12_costs 10 = .ok (.iload_n 1, 1) := by decide +kernel
theorem dX12_costs_11 : decode cX12_costs 11 = .ok (.aload_n 0, 1) := by decide +kernel
theorem dX12_costs_12 : decode cX12_costs 12 = .ok (.iconst 1, 1) := by decide +kernel
theorem dX12_costs_13 : decode cX12_costs 13 = .ok (.iload_n 2, 1) := by decide +kernel
theorem dX12_costs_14 : decode cX12_costs 14 = .ok (.invokevirtual 211, 3) := by decide +kernel
theorem dX12_costs_17 : decode cX12_costs 17 = .ok (.iadd, 1) := by decide +kernel
theorem dX12_costs_18 : decode cX12_costs 18 = .ok (.istore_n 1, 1) := by decide +kernel
theorem dX12_costs_19 : decode cX12_costs 19 = .ok (.iinc 2 1, 3) := by decide +kernel
theorem dX12_costs_22 : decode cX12_costs 22 = .ok (.goto (-18), 3) := by decide +kernel
theorem dX12_costs_25 : decode cX12_costs 25 = .ok (.iconst 0, 1) := by decide +kernel
theorem dX12_costs_26 : decode cX12_costs 26 = .ok (.istore_n 2, 1) := by decide +kernel
theorem dX12_costs_27 : decode cX12_costs 27 = .ok (.iload_n 2, 1) := by decide +kernel
theorem dX12_costs_28 : decode cX12_costs 28 = .ok (.iconst 4, 1) := by decide +kernel
theorem dX12_costs_29 : decode cX12_costs 29 = .ok (.if_icmp .ge 18, 3) := by decide +kernel
theorem dX12_costs_32 : decode cX12_costs 32 = .ok (.iload_n 1, 1) := by decide +kernel
theorem dX12_costs_33 : decode cX12_costs 33 = .ok (.aload_n 0, 1) := by decide +kernel
theorem dX12_costs_34 : decode cX12_costs 34 = .ok (.iconst 0, 1) := by decide +kernel
theorem dX12_costs_35 : decode cX12_costs 35 = .ok (.iload_n 2, 1) := by decide +kernel
theorem dX12_costs_36 : decode cX12_costs 36 = .ok (.invokevirtual 211, 3) := by decide +kernel
theorem dX12_costs_39 : decode cX12_costs 39 = .ok (.iadd, 1) := by decide +kernel
theorem dX12_costs_40 : decode cX12_costs 40 = .ok (.istore_n 1, 1) := by decide +kernel
theorem dX12_costs_41 : decode cX12_costs 41 = .ok (.iinc 2 1, 3) := by decide +kernel
theorem dX12_costs_44 : decode cX12_costs 44 = .ok (.goto (-17), 3) := by decide +kernel
theorem dX12_costs_47 : decode cX12_costs 47 = .ok (.iconst 0, 1) := by decide +kernel
theorem dX12_costs_48 : decode cX12_costs 48 = .ok (.istore_n 2, 1) := by decide +kernel
theorem dX12_costs_49 : decode cX12_costs 49 = .ok (.iload_n 2, 1) := by decide +kernel
theorem dX12_costs_50 : decode cX12_costs 50 = .ok (.aload_n 0, 1) := by decide +kernel
theorem dX12_costs_51 : decode cX12_costs 51 = .ok (.getfield 13, 3) := by decide +kernel
theorem dX12_costs_54 : decode cX12_costs 54 = .ok (.bipush 126, 2) := by decide +kernel
theorem dX12_costs_56 : decode cX12_costs 56 = .ok (.iaload, 1) := by decide +kernel
theorem dX12_costs_57 : decode cX12_costs 57 = .ok (.if_icmp .ge 45, 3) := by decide +kernel
theorem dX12_costs_60 : decode cX12_costs 60 = .ok (.iload_n 1, 1) := by decide +kernel
theorem dX12_costs_61 : decode cX12_costs 61 = .ok (.aload_n 0, 1) := by decide +kernel
theorem dX12_costs_62 : decode cX12_costs 62 = .ok (.getfield 13, 3) := by decide +kernel
theorem dX12_costs_65 : decode cX12_costs 65 = .ok (.bipush 81, 2) := by decide +kernel
theorem dX12_costs_67 : decode cX12_costs 67 = .ok (.iload_n 2, 1) := by decide +kernel
theorem dX12_costs_68 : decode cX12_costs 68 = .ok (.iadd, 1) := by decide +kernel
theorem dX12_costs_69 : decode cX12_costs 69 = .ok (.iaload, 1) := by decide +kernel
theorem dX12_costs_70 : decode cX12_costs 70 = .ok (.ifCond .le 23, 3) := by decide +kernel
theorem dX12_costs_73 : decode cX12_costs 73 = .ok (.aload_n 0, 1) := by decide +kernel
theorem dX12_costs_74 : decode cX12_costs 74 = .ok (.iload_n 2, 1) := by decide +kernel
theorem dX12_costs_75 : decode cX12_costs 75 = .ok (.invokevirtual 208, 3) := by decide +kernel
theorem dX12_costs_78 : decode cX12_costs 78 = .ok (.ifCond .ne 15, 3) := by decide +kernel
theorem dX12_costs_81 : decode cX12_costs 81 = .ok (.aload_n 0, 1) := by decide +kernel
theorem dX12_costs_82 : decode cX12_costs 82 = .ok (.getfield 13, 3) := by decide +kernel
theorem dX12_costs_85 : decode cX12_costs 85 = .ok (.bipush 81, 2) := by decide +kernel
theorem dX12_costs_87 : decode cX12_costs 87 = .ok (.iload_n 2, 1) := by decide +kernel
theorem dX12_costs_88 : decode cX12_costs 88 = .ok (.iadd, 1) := by decide +kernel
theorem dX12_costs_89 : decode cX12_costs 89 = .ok (.iaload, 1) := by decide +kernel
theorem dX12_costs_90 : decode cX12_costs 90 = .ok (.goto 4, 3) := by decide +kernel
theorem dX12_costs_93 : decode cX12_costs 93 = .ok (.iconst 0, 1) := by decide +kernel
theorem dX12_costs_94 : decode cX12_costs 94 = .ok (.iadd, 1) := by decide +kernel
theorem dX12_costs_95 : decode cX12_costs 95 = .ok (.istore_n 1, 1) := by decide +kernel
theorem dX12_costs_96 : decode cX12_costs 96 = .ok (.iinc 2 1, 3) := by decide +kernel
theorem dX12_costs_99 : decode cX12_costs 99 = .ok (.goto (-50), 3) := by decide +kernel
theorem dX12_costs_102 : decode cX12_costs 102 = .ok (.iload_n 1, 1) := by decide +kernel
theorem dX12_costs_103 : decode cX12_costs 103 = .ok (.ireturn, 1) := by decide +kernel
set_option maxRecDepth 20000 in
theorem ggX12_cost_X12_noTable : GoodIn wsX12_cost wsX12_noTable := goodIn_r _ [6, 7, 8, 9, 10, 5, 11, 1, 62, 63, 64, 65, 66, 67, 68, 69, 70, 71, 72, 73, 74, 75, 76, 77, 78, 79, 80, 81, 82, 83, 84, 85, 86, 87, 88, 89, 90, 91] (by decide +kernel) (by decide +kernel)
set_option maxRecDepth 20000 in
theorem gX12_cost_X12_noTable : GoodIn wsX12_cost (wsV RX12 179 RX12 yX12_noTable wsX12_noTable) := goodIn_app (goodIn_of _ (by decide +kernel)) ggX12_cost_X12_noTable
set_option maxRecDepth 20000 in
theorem ggX12_cost_X12_looksAtTable : GoodIn wsX12_cost wsX12_looksAtTable := goodIn_r _ [15, 16, 7, 17, 18, 19, 20, 5, 21, 62, 63, 64, 65, 66, 67, 68, 69, 70, 71, 72, 73, 74, 75, 76, 77, 78, 79, 80, 81, 82, 83, 84, 85, 86, 87, 88, 89, 90, 91] (by decide +kernel) (by decide +kernel)
set_option maxRecDepth 20000 in
theorem gX12_cost_X12_looksAtTable : GoodIn wsX12_cost (wsV RX12 189 RX12 yX12_looksAtTable wsX12_looksAtTable) := goodIn_app (goodIn_of _ (by decide +kernel)) ggX12_cost_X12_looksAtTable
set_option maxRecDepth 20000 in
theorem ggX12_cost_X12_costs : GoodIn wsX12_cost wsX12_costs := goodIn_r _ [25, 7, 26, 27, 28, 5, 29, 30, 31, 32, 33, 18, 19, 20, 21, 34, 35, 36, 37, 38, 39, 40, 41, 16, 42, 43, 44, 45, 46, 47, 48, 49, 50, 51, 52, 53, 54, 55, 56, 57, 58, 59, 60, 61, 62, 63, 64, 65, 66, 67, 68, 69, 70, 71, 72, 73, 74, 75, 76, 77, 78, 79, 80, 81, 82, 83, 84, 85, 86, 87, 88, 89, 90, 91] (by decide +kernel) (by decide +kernel)
set_option maxRecDepth 20000 in
theorem gX12_cost_X12_costs : GoodIn wsX12_cost (wsV RX12 205 RX12 yX12_costs wsX12_costs) := goodIn_app (goodIn_of _ (by decide +kernel)) ggX12_cost_X12_costs
theorem dX12_cost_0 : decode cX12_cost 0 = .ok (.aload_n 0, 1) := by decide +kernel
theorem dX12_cost_1 : decode cX12_cost 1 = .ok (.iconst 0, 1) := by decide +kernel
theorem dX12_cost_2 : decode cX12_cost 2 = .ok (.putfield 1, 3) := by decide +kernel
theorem dX12_cost_5 : decode cX12_cost 5 = .ok (.aload_n 0, 1) := by decide +kernel
theorem dX12_cost_6 : decode cX12_cost 6 = .ok (.iconst 1, 1) := by decide +kernel
theorem dX12_cost_7 : decode cX12_cost 7 = .ok (.invokevirtual 179, 3) := by decide +kernel
theorem dX12_cost_10 : decode cX12_cost 10 = .ok (.ifCond .eq 5, 3) := by decide +kernel
theorem dX12_cost_13 : decode cX12_cost 13 = .ok (.iconst 0, 1) := by decide +kernel
theorem dX12_cost_14 : decode cX12_cost 14 = .ok (.ireturn, 1) := by decide +kernel
theorem dX12_cost_15 : decode cX12_cost 15 = .ok (.aload_n 0, 1) := by decide +kernel
theorem dX12_cost_16 : decode cX12_cost 16 = .ok (.invokevirtual 189, 3) := by decide +kernel
theorem dX12_cost_19 : decode cX12_cost 19 = .ok (.aload_n 0, 1) := by decide +kernel
theorem dX12_cost_20 : decode cX12_cost 20 = .ok (.invokevirtual 205, 3) := by decide +kernel
theorem dX12_cost_23 : decode cX12_cost 23 = .ok (.ireturn, 1) := by decide +kernel
set_option maxRecDepth 20000 in
theorem ggX12_gaps_X12_noWho : GoodIn wsX12_gaps wsX12_noWho := goodIn_r _ [6, 7, 8, 5, 9, 10, 11, 12, 13, 1, 49, 50, 51, 52, 53, 54, 55, 56, 57, 58, 59, 60, 61, 62, 63, 64, 65, 66, 67, 68, 69, 70, 71, 72, 73, 74, 75, 76, 77, 78] (by decide +kernel) (by decide +kernel)
set_option maxRecDepth 20000 in
theorem gX12_gaps_X12_noWho : GoodIn wsX12_gaps (wsV RX12 186 RX12 yX12_noWho wsX12_noWho) := goodIn_app (goodIn_of _ (by decide +kernel)) ggX12_gaps_X12_noWho
set_option maxRecDepth 20000 in
theorem ggX12_gaps_X12_noTable : GoodIn wsX12_gaps wsX12_noTable := goodIn_r _ [17, 18, 10, 11, 12, 5, 13, 1, 49, 50, 51, 52, 53, 54, 55, 56, 57, 58, 59, 60, 61, 62, 63, 64, 65, 66, 67, 68, 69, 70, 71, 72, 73, 74, 75, 76, 77, 78] (by decide +kernel) (by decide +kernel)
set_option maxRecDepth 20000 in
theorem gX12_gaps_X12_noTable : GoodIn wsX12_gaps (wsV RX12 179 RX12 yX12_noTable wsX12_noTable) := goodIn_app (goodIn_of _ (by decide +kernel)) ggX12_gaps_X12_noTable
set_option maxRecDepth 20000 in
theorem ggX12_gaps_X12_looksAtTable : GoodIn wsX12_gaps wsX12_looksAtTable := goodIn_r _ [22, 23, 18, 24, 25, 26, 27, 5, 28, 49, 50, 51, 52, 53, 54, 55, 56, 57, 58, 59, 60, 61, 62, 63, 64, 65, 66, 67, 68, 69, 70, 71, 72, 73, 74, 75, 76, 77, 78] (by decide +kernel) (by decide +kernel)
set_option maxRecDepth 20000 in
theorem gX12_gaps_X12_looksAtTable : GoodIn wsX12_gaps (wsV RX12 189 RX12 yX12_looksAtTable wsX12_looksAtTable) := goodIn_app (goodIn_of _ (by decide +kernel)) ggX12_gaps_X12_looksAtTable
set_option maxRecDepth 20000 in
theorem ggX12_gaps_X12_gapsOf : GoodIn wsX12_gaps wsX12_gapsOf := goodIn_r _ [32, 33, 34, 35, 5, 36, 25, 26, 27, 28, 18, 37, 38, 39, 40, 41, 42, 43, 44, 23, 45, 46, 47, 48, 49, 50, 51, 52, 53, 54, 55, 56, 57, 58, 59, 60, 61, 62, 63, 64, 65, 66, 67, 68, 69, 70, 71, 72, 73, 74, 75, 76, 77, 78] (by decide +kernel) (by decide +kernel)
set_option maxRecDepth 20000 in
theorem gX12_gaps_X12_gapsOf : GoodIn wsX12_gaps (wsV RX12 211 RX12 yX12_gapsOf wsX12_gapsOf) := goodIn_app (goodIn_of _ (by decide +kernel)) ggX12_gaps_X12_gapsOf
theorem dX12_gaps_0 : decode cX12_gaps 0 = .ok (.aload_n 0, 1) := by decide +kernel
theorem dX12_gaps_1 : decode cX12_gaps 1 = .ok (.iconst 0, 1) := by decide +kernel
theorem dX12_gaps_2 : decode cX12_gaps 2 = .ok (.putfield 1, 3) := by decide +kernel
theorem dX12_gaps_5 : decode cX12_gaps 5 = .ok (.aload_n 0, 1) := by decide +kernel
theorem dX12_gaps_6 : decode cX12_gaps 6 = .ok (.iload_n 1, 1) := by decide +kernel
theorem dX12_gaps_7 : decode cX12_gaps 7 = .ok (.iload_n 2, 1) := by decide +kernel
theorem dX12_gaps_8 : decode cX12_gaps 8 = .ok (.invokevirtual 186, 3) := by decide +kernel
theorem dX12_gaps_11 : decode cX12_gaps 11 = .ok (.ifCond .ne 11, 3) := by decide +kernel
theorem dX12_gaps_14 : decode cX12_gaps 14 = .ok (.aload_n 0, 1) := by decide +kernel
theorem dX12_gaps_15 : decode cX12_gaps 15 = .ok (.iconst 2, 1) := by decide +kernel
theorem dX12_gaps_16 : decode cX12_gaps 16 = .ok (.invokevirtual 179, 3) := by decide +kernel
theorem dX12_gaps_19 : decode cX12_gaps 19 = .ok (.ifCond .eq 5, 3) := by decide +kernel
theorem dX12_gaps_22 : decode cX12_gaps 22 = .ok (.iconst 0, 1) := by decide +kernel
theorem dX12_gaps_23 : decode cX12_gaps 23 = .ok (.ireturn, 1) := by decide +kernel
theorem dX12_gaps_24 : decode cX12_gaps 24 = .ok (.aload_n 0, 1) := by decide +kernel
theorem dX12_gaps_25 : decode cX12_gaps 25 = .ok (.invokevirtual 189, 3) := by decide +kernel
theorem dX12_gaps_28 : decode cX12_gaps 28 = .ok (.aload_n 0, 1) := by decide +kernel
theorem dX12_gaps_29 : decode cX12_gaps 29 = .ok (.iload_n 1, 1) := by decide +kernel
theorem dX12_gaps_30 : decode cX12_gaps 30 = .ok (.iload_n 2, 1) := by decide +kernel
theorem dX12_gaps_31 : decode cX12_gaps 31 = .ok (.invokevirtual 211, 3) := by decide +kernel
theorem dX12_gaps_34 : decode cX12_gaps 34 = .ok (.ireturn, 1) := by decide +kernel
set_option maxRecDepth 20000 in
theorem ggX12_improve_X12_noTable : GoodIn wsX12_improve wsX12_noTable := goodIn_r _ [8, 3, 9, 10, 11, 7, 12, 1, 97, 98, 99, 100, 101, 102, 103, 104, 105, 106, 107, 108, 109, 110, 111, 112, 113, 114, 115, 116, 117, 118, 119, 120, 121, 122, 123, 124, 125, 126] (by decide +kernel) (by decide +kernel)
set_option maxRecDepth 20000 in
theorem gX12_improve_X12_noTable : GoodIn wsX12_improve (wsV RX12 179 RX12 yX12_noTable wsX12_noTable) := goodIn_app (goodIn_of _ (by decide +kernel)) ggX12_improve_X12_noTable
set_option maxRecDepth 20000 in
theorem ggX12_improve_X12_looksAtTable : GoodIn wsX12_improve wsX12_looksAtTable := goodIn_r _ [16, 2, 3, 17, 18, 19, 20, 7, 21, 97, 98, 99, 100, 101, 102, 103, 104, 105, 106, 107, 108, 109, 110, 111, 112, 113, 114, 115, 116, 117, 118, 119, 120, 121, 122, 123, 124, 125, 126] (by decide +kernel) (by decide +kernel)
set_option maxRecDepth 20000 in
theorem gX12_improve_X12_looksAtTable : GoodIn wsX12_improve (wsV RX12 189 RX12 yX12_looksAtTable wsX12_looksAtTable) := goodIn_app (goodIn_of _ (by decide +kernel)) ggX12_improve_X12_looksAtTable
set_option maxRecDepth 20000 in
theorem ggX12_improve_X12_costs : GoodIn wsX12_improve wsX12_costs := goodIn_r _ [25, 3, 26, 27, 28, 7, 29, 30, 31, 32, 33, 18, 19, 20, 21, 34, 35, 36, 37, 38, 39, 40, 41, 2, 42, 43, 44, 45, 46, 47, 48, 49, 50, 51, 52, 53, 54, 55, 56, 57, 58, 59, 60, 61, 97, 98, 99, 100, 101, 102, 103, 104, 105, 106, 107, 108, 109, 110, 111, 112, 113, 114, 115, 116, 117, 118, 119, 120, 121, 122, 123, 124, 125, 126] (by decide +kernel) (by decide +kernel)
set_option maxRecDepth 20000 in
theorem gX12_improve_X12_costs : GoodIn wsX12_improve (wsV RX12 205 RX12 yX12_costs wsX12_costs) := goodIn_app (goodIn_of _ (by decide +kernel)) ggX12_improve_X12_costs
set_option maxRecDepth 20000 in
theorem ggX12_improve_X12_many : GoodIn wsX12_improve wsX12_many := goodIn_r _ [21, 3, 97, 98, 99, 100, 101, 102, 103, 104, 105, 106, 107, 108, 109, 110, 111, 112, 113, 114, 115, 116, 117, 118, 119, 120, 121, 122, 123, 124, 125, 126] (by decide +kernel) (by decide +kernel)
set_option maxRecDepth 20000 in
theorem gX12_improve_X12_many : GoodIn wsX12_improve (wsV RX12 88 RX12 yX12_many wsX12_many) := goodIn_app (goodIn_of _ (by decide +kernel)) ggX12_improve_X12_many
set_option maxRecDepth 20000 in
theorem ggX12_improve_X12_isRight : GoodIn wsX12_improve wsX12_isRight := goodIn_r _ [65, 18, 19, 20, 7, 21, 3, 66, 67, 68, 69, 2, 42, 43, 44, 45, 70, 71, 72, 73, 17, 50, 51, 52, 53, 58, 59, 60, 61, 38, 39, 40, 41, 74, 75, 76, 77, 78, 79, 80, 81, 82, 83, 84, 85, 54, 55, 56, 57, 97, 98, 99, 100, 101, 102, 103, 104, 105, 106, 107, 108, 109, 110, 111, 112, 113, 114, 115, 116, 117, 118, 119, 120, 121, 122, 123, 124, 125, 126] (by decide +kernel) (by decide +kernel)
set_option maxRecDepth 20000 in
theorem gX12_improve_X12_isRight : GoodIn wsX12_improve (wsV RX12 202 RX12 yX12_isRight wsX12_isRight) := goodIn_app (goodIn_of _ (by decide +kernel)) ggX12_improve_X12_isRight
set_option maxRecDepth 20000 in
theorem ggX12_improve_X12_puts : GoodIn wsX12_improve wsX12_puts := goodIn_r _ [89, 3, 2, 90, 91, 92, 7, 93, 94, 95, 96, 18, 19, 20, 21, 97, 98, 99, 100, 101, 102, 103, 104, 105, 106, 107, 108, 109, 110, 111, 112, 113, 114, 115, 116, 117, 118, 119, 120, 121, 122, 123, 124, 125, 126] (by decide +kernel) (by decide +kernel)
set_option maxRecDepth 20000 in
theorem gX12_improve_X12_puts : GoodIn wsX12_improve (wsV RX12 176 RX12 yX12_puts wsX12_puts) := goodIn_app (goodIn_of _ (by decide +kernel)) ggX12_improve_X12_puts
theorem dX12_improve_0 : decode cX12_improve 0 = .ok (.aload_n 0, 1) := by decide +kernel
theorem dX12_improve_1 : decode cX12_improve 1 = .ok (.iconst 0, 1) := by decide +kernel
theorem dX12_improve_2 : decode cX12_improve 2 = .ok (.putfield 1, 3) := by decide +kernel
theorem dX12_improve_5 : decode cX12_improve 5 = .ok (.aload_n 0, 1) := by decide +kernel
theorem dX12_improve_6 : decode cX12_improve 6 = .ok (.iconst 1, 1) := by decide +kernel
theorem dX12_improve_7 : decode cX12_improve 7 = .ok (.invokevirtual 179, 3) := by decide +kernel
theorem dX12_improve_10 : decode cX12_improve 10 = .ok (.ifCond .eq 5, 3) := by decide +kernel
theorem dX12_improve_13 : decode cX12_improve 13 = .ok (.iconst 0, 1) := by decide +kernel
theorem dX12_improve_14 : decode cX12_improve 14 = .ok (.ireturn, 1) := by decide +kernel
theorem dX12_improve_15 : decode cX12_improve 15 = .ok (.aload_n 0, 1) := by decide +kernel
theorem dX12_improve_16 : decode cX12_improve 16 = .ok (.invokevirtual 189, 3) := by decide +kernel
theorem dX12_improve_19 : decode cX12_improve 19 = .ok (.aload_n 0, 1) := by decide +kernel
theorem dX12_improve_20 : decode cX12_improve 20 = .ok (.invokevirtual 205, 3) := by decide +kernel
theorem dX12_improve_23 : decode cX12_improve 23 = .ok (.istore_n 1, 1) := by decide +kernel
theorem dX12_improve_24 : decode cX12_improve 24 = .ok (.iload_n 1, 1) := by decide +kernel
theorem dX12_improve_25 : decode cX12_improve 25 = .ok (.istore_n 2, 1) := by decide +kernel
theorem dX12_improve_26 : decode cX12_improve 26 = .ok (.iconst (-1), 1) := by decide +kernel
theorem dX12_improve_27 : decode cX12_improve 27 = .ok (.istore_n 3, 1) := by decide +kernel
theorem dX12_improve_28 : decode cX12_improve 28 = .ok (.iconst (-1), 1) := by decide +kernel
theorem dX12_improve_29 : decode cX12_improve 29 = .ok (.istore 4, 2) := by decide +kernel
theorem dX12_improve_31 : decode cX12_improve 31 = .ok (.iconst (-1), 1) := by decide +kernel
theorem dX12_improve_32 : decode cX12_improve 32 = .ok (.istore 5, 2) := by decide +kernel
theorem dX12_improve_34 : decode cX12_improve 34 = .ok (.iconst 0, 1) := by decide +kernel
theorem dX12_improve_35 : decode cX12_improve 35 = .ok (.istore 6, 2) := by decide +kernel
theorem dX12_improve_37 : decode cX12_improve 37 = .ok (.iload 6, 2) := by decide +kernel
theorem dX12_improve_39 : decode cX12_improve 39 = .ok (.aload_n 0, 1) := by decide +kernel
theorem dX12_improve_40 : decode cX12_improve 40 = .ok (.invokevirtual 88, 3) := by decide +kernel
theorem dX12_improve_43 : decode cX12_improve 43 = .ok (.if_icmp .ge 108, 3) := by decide +kernel
theorem dX12_improve_46 : decode cX12_improve 46 = .ok (.iconst 0, 1) := by decide +kernel
theorem dX12_improve_47 : decode cX12_improve 47 = .ok (.istore 7, 2) := by decide +kernel
theorem dX12_improve_49 : decode cX12_improve 49 = .ok (.iload 7, 2) := by decide +kernel
theorem dX12_improve_51 : decode cX12_improve 51 = .ok (.bipush 20, 2) := by decide +kernel
theorem dX12_improve_53 : decode cX12_improve 53 = .ok (.if_icmp .ge 75, 3) := by decide +kernel
theorem dX12_improve_56 : decode cX12_improve 56 = .ok (.aload_n 0, 1) := by decide +kernel
theorem dX12_improve_57 : decode cX12_improve 57 = .ok (.getfield 20, 3) := by decide +kernel
theorem dX12_improve_60 : decode cX12_improve 60 = .ok (.iload 6, 2) := by decide +kernel
theorem dX12_improve_62 : decode cX12_improve 62 = .ok (.iload 7, 2) := by decide +kernel
theorem dX12_improve_64 : decode cX12_improve 64 = .ok (.iastore, 1) := by decide +kernel
theorem dX12_improve_65 : decode cX12_improve 65 = .ok (.iload 7, 2) := by decide +kernel
theorem dX12_improve_67 : decode cX12_improve 67 = .ok (.aload_n 0, 1) := by decide +kernel
theorem dX12_improve_68 : decode cX12_improve 68 = .ok (.getfield 13, 3) := by decide +kernel
theorem dX12_improve_71 : decode cX12_improve 71 = .ok (.bipush 116, 2) := by decide +kernel
theorem dX12_improve_73 : decode cX12_improve 73 = .ok (.iload 6, 2) := by decide +kernel
theorem dX12_improve_75 : decode cX12_improve 75 = .ok (.iadd, 1) := by decide +kernel
theorem dX12_improve_76 : decode cX12_improve 76 = .ok (.iaload, 1) := by decide +kernel
theorem dX12_improve_77 : decode cX12_improve 77 = .ok (.if_icmp .eq 22, 3) := by decide +kernel
theorem dX12_improve_80 : decode cX12_improve 80 = .ok (.aload_n 0, 1) := by decide +kernel
theorem dX12_improve_81 : decode cX12_improve 81 = .ok (.invokevirtual 202, 3) := by decide +kernel
theorem dX12_improve_84 : decode cX12_improve 84 = .ok (.ifCond .eq 15, 3) := by decide +kernel
theorem dX12_improve_87 : decode cX12_improve 87 = .ok (.aload_n 0, 1) := by decide +kernel
theorem dX12_improve_88 : decode cX12_improve 88 = .ok (.invokevirtual 205, 3) := by decide +kernel
theorem dX12_improve_91 : decode cX12_improve 91 = .ok (.iload_n 2, 1) := by decide +kernel
theorem dX12_improve_92 : decode cX12_improve 92 = .ok (.if_icmp .ge 7, 3) := by decide +kernel
theorem dX12_improve_95 : decode cX12_improve 95 = .ok (.iconst 1, 1) := by decide +kernel
theorem dX12_improve_96 : decode cX12_improve 96 = .ok (.goto 4, 3) := by decide +kernel
theorem dX12_improve_99 : decode cX12_improve 99 = .ok (.iconst 0, 1) := by decide +kernel
theorem dX12_improve_100 : decode cX12_improve 100 = .ok (.istore 8, 2) := by decide +kernel
theorem dX12_improve_102 : decode cX12_improve 102 = .ok (.iload 8, 2) := by decide +kernel
theorem dX12_improve_104 : decode cX12_improve 104 = .ok (.ifCond .ne 6, 3) := by decide +kernel
theorem dX12_improve_107 : decode cX12_improve 107 = .ok (.goto 15, 3) := by decide +kernel
theorem dX12_improve_110 : decode cX12_improve 110 = .ok (.aload_n 0, 1) := by decide +kernel
theorem dX12_improve_111 : decode cX12_improve 111 = .ok (.invokevirtual 205, 3) := by decide +kernel
theorem dX12_improve_114 : decode cX12_improve 114 = .ok (.istore_n 2, 1) := by decide +kernel
theorem dX12_improve_115 : decode cX12_improve 115 = .ok (.iload 6, 2) := by decide +kernel
theorem dX12_improve_117 : decode cX12_improve 117 = .ok (.istore_n 3, 1) := by decide +kernel
theorem dX12_improve_118 : decode cX12_improve 118 = .ok (.iload 7, 2) := by decide +kernel
theorem dX12_improve_120 : decode cX12_improve 120 = .ok (.istore 5, 2) := by decide +kernel
theorem dX12_improve_122 : decode cX12_improve 122 = .ok (.iinc 7 1, 3) := by decide +kernel
theorem dX12_improve_125 : decode cX12_improve 125 = .ok (.goto (-76), 3) := by decide +kernel
theorem dX12_improve_128 : decode cX12_improve 128 = .ok (.aload_n 0, 1) := by decide +kernel
theorem dX12_improve_129 : decode cX12_improve 129 = .ok (.getfield 20, 3) := by decide +kernel
theorem dX12_improve_132 : decode cX12_improve 132 = .ok (.iload 6, 2) := by decide +kernel
theorem dX12_improve_134 : decode cX12_improve 134 = .ok (.aload_n 0, 1) := by decide +kernel
theorem dX12_improve_135 : decode cX12_improve 135 = .ok (.getfield 13, 3) := by decide +kernel
theorem dX12_improve_138 : decode cX12_improve 138 = .ok (.bipush 116, 2) := by decide +kernel
theorem dX12_improve_140 : decode cX12_improve 140 = .ok (.iload 6, 2) := by decide +kernel
theorem dX12_improve_142 : decode cX12_improve 142 = .ok (.iadd, 1) := by decide +kernel
theorem dX12_improve_143 : decode cX12_improve 143 = .ok (.iaload, 1) := by decide +kernel
theorem dX12_improve_144 : decode cX12_improve 144 = .ok (.iastore, 1) := by decide +kernel
theorem dX12_improve_145 : decode cX12_improve 145 = .ok (.iinc 6 1, 3) := by decide +kernel
theorem dX12_improve_148 : decode cX12_improve 148 = .ok (.goto (-111), 3) := by decide +kernel
theorem dX12_improve_151 : decode cX12_improve 151 = .ok (.iconst 0, 1) := by decide +kernel
theorem dX12_improve_152 : decode cX12_improve 152 = .ok (.istore 6, 2) := by decide +kernel
theorem dX12_improve_154 : decode cX12_improve 154 = .ok (.iload 6, 2) := by decide +kernel
theorem dX12_improve_156 : decode cX12_improve 156 = .ok (.aload_n 0, 1) := by decide +kernel
theorem dX12_improve_157 : decode cX12_improve 157 = .ok (.invokevirtual 88, 3) := by decide +kernel
theorem dX12_improve_160 : decode cX12_improve 160 = .ok (.if_icmp .ge 125, 3) := by decide +kernel
theorem dX12_improve_163 : decode cX12_improve 163 = .ok (.iload 6, 2) := by decide +kernel
theorem dX12_improve_165 : decode cX12_improve 165 = .ok (.iconst 1, 1) := by decide +kernel
theorem dX12_improve_166 : decode cX12_improve 166 = .ok (.iadd, 1) := by decide +kernel
theorem dX12_improve_167 : decode cX12_improve 167 = .ok (.istore 7, 2) := by decide +kernel
theorem dX12_improve_169 : decode cX12_improve 169 = .ok (.iload 7, 2) := by decide +kernel
theorem dX12_improve_171 : decode cX12_improve 171 = .ok (.aload_n 0, 1) := by decide +kernel
theorem dX12_improve_172 : decode cX12_improve 172 = .ok (.invokevirtual 88, 3) := by decide +kernel
theorem dX12_improve_175 : decode cX12_improve 175 = .ok (.if_icmp .ge 104, 3) := by decide +kernel
theorem dX12_improve_178 : decode cX12_improve 178 = .ok (.aload_n 0, 1) := by decide +kernel
theorem dX12_improve_179 : decode cX12_improve 179 = .ok (.getfield 20, 3) := by decide +kernel
theorem dX12_improve_182 : decode cX12_improve 182 = .ok (.iload 6, 2) := by decide +kernel
theorem dX12_improve_184 : decode cX12_improve 184 = .ok (.aload_n 0, 1) := by decide +kernel
theorem dX12_improve_185 : decode cX12_improve 185 = .ok (.getfield 13, 3) := by decide +kernel
theorem dX12_improve_188 : decode cX12_improve 188 = .ok (.bipush 116, 2) := by decide +kernel
theorem dX12_improve_190 : decode cX12_improve 190 = .ok (.iload 7, 2) := by decide +kernel
theorem dX12_improve_192 : decode cX12_improve 192 = .ok (.iadd, 1) := by decide +kernel
theorem dX12_improve_193 : decode cX12_improve 193 = .ok (.iaload, 1) := by decide +kernel
theorem dX12_improve_194 : decode cX12_improve 194 = .ok (.iastore, 1) := by decide +kernel
theorem dX12_improve_195 : decode cX12_improve 195 = .ok (.aload_n 0, 1) := by decide +kernel
theorem dX12_improve_196 : decode cX12_improve 196 = .ok (.getfield 20, 3) := by decide +kernel
theorem dX12_improve_199 : decode cX12_improve 199 = .ok (.iload 7, 2) := by decide +kernel
theorem dX12_improve_201 : decode cX12_improve 201 = .ok (.aload_n 0, 1) := by decide +kernel
theorem dX12_improve_202 : decode cX12_improve 202 = .ok (.getfield 13, 3) := by decide +kernel
theorem dX12_improve_205 : decode cX12_improve 205 = .ok (.bipush 116, 2) := by decide +kernel
theorem dX12_improve_207 : decode cX12_improve 207 = .ok (.iload 6, 2) := by decide +kernel
theorem dX12_improve_209 : decode cX12_improve 209 = .ok (.iadd, 1) := by decide +kernel
theorem dX12_improve_210 : decode cX12_improve 210 = .ok (.iaload, 1) := by decide +kernel
theorem dX12_improve_211 : decode cX12_improve 211 = .ok (.iastore, 1) := by decide +kernel
theorem dX12_improve_212 : decode cX12_improve 212 = .ok (.aload_n 0, 1) := by decide +kernel
theorem dX12_improve_213 : decode cX12_improve 213 = .ok (.invokevirtual 202, 3) := by decide +kernel
theorem dX12_improve_216 : decode cX12_improve 216 = .ok (.ifCond .eq 23, 3) := by decide +kernel
theorem dX12_improve_219 : decode cX12_improve 219 = .ok (.aload_n 0, 1) := by decide +kernel
theorem dX12_improve_220 : decode cX12_improve 220 = .ok (.invokevirtual 205, 3) := by decide +kernel
theorem dX12_improve_223 : decode cX12_improve 223 = .ok (.iload_n 2, 1) := by decide +kernel
theorem dX12_improve_224 : decode cX12_improve 224 = .ok (.if_icmp .ge 15, 3) := by decide +kernel
theorem dX12_improve_227 : decode cX12_improve 227 = .ok (.aload_n 0, 1) := by decide +kernel
theorem dX12_improve_228 : decode cX12_improve 228 = .ok (.invokevirtual 205, 3) := by decide +kernel
theorem dX12_improve_231 : decode cX12_improve 231 = .ok (.istore_n 2, 1) := by decide +kernel
theorem dX12_improve_232 : decode cX12_improve 232 = .ok (.iload 6, 2) := by decide +kernel
theorem dX12_improve_234 : decode cX12_improve 234 = .ok (.istore_n 3, 1) := by decide +kernel
theorem dX12_improve_235 : decode cX12_improve 235 = .ok (.iload 7, 2) := by decide +kernel
theorem dX12_improve_237 : decode cX12_improve 237 = .ok (.istore 4, 2) := by decide +kernel
theorem dX12_improve_239 : decode cX12_improve 239 = .ok (.aload_n 0, 1) := by decide +kernel
theorem dX12_improve_240 : decode cX12_improve 240 = .ok (.getfield 20, 3) := by decide +kernel
theorem dX12_improve_243 : decode cX12_improve 243 = .ok (.iload 6, 2) := by decide +kernel
theorem dX12_improve_245 : decode cX12_improve 245 = .ok (.aload_n 0, 1) := by decide +kernel
theorem dX12_improve_246 : decode cX12_improve 246 = .ok (.getfield 13, 3) := by decide +kernel
theorem dX12_improve_249 : decode cX12_improve 249 = .ok (.bipush 116, 2) := by decide +kernel
theorem dX12_improve_251 : decode cX12_improve 251 = .ok (.iload 6, 2) := by decide +kernel
theorem dX12_improve_253 : decode cX12_improve 253 = .ok (.iadd, 1) := by decide +kernel
theorem dX12_improve_254 : decode cX12_improve 254 = .ok (.iaload, 1) := by decide +kernel
theorem dX12_improve_255 : decode cX12_improve 255 = .ok (.iastore, 1) := by decide +kernel
theorem dX12_improve_256 : decode cX12_improve 256 = .ok (.aload_n 0, 1) := by decide +kernel
theorem dX12_improve_257 : decode cX12_improve 257 = .ok (.getfield 20, 3) := by decide +kernel
theorem dX12_improve_260 : decode cX12_improve 260 = .ok (.iload 7, 2) := by decide +kernel
theorem dX12_improve_262 : decode cX12_improve 262 = .ok (.aload_n 0, 1) := by decide +kernel
theorem dX12_improve_263 : decode cX12_improve 263 = .ok (.getfield 13, 3) := by decide +kernel
theorem dX12_improve_266 : decode cX12_improve 266 = .ok (.bipush 116, 2) := by decide +kernel
theorem dX12_improve_268 : decode cX12_improve 268 = .ok (.iload 7, 2) := by decide +kernel
theorem dX12_improve_270 : decode cX12_improve 270 = .ok (.iadd, 1) := by decide +kernel
theorem dX12_improve_271 : decode cX12_improve 271 = .ok (.iaload, 1) := by decide +kernel
theorem dX12_improve_272 : decode cX12_improve 272 = .ok (.iastore, 1) := by decide +kernel
theorem dX12_improve_273 : decode cX12_improve 273 = .ok (.iinc 7 1, 3) := by decide +kernel
theorem dX12_improve_276 : decode cX12_improve 276 = .ok (.goto (-107), 3) := by decide +kernel
theorem dX12_improve_279 : decode cX12_improve 279 = .ok (.iinc 6 1, 3) := by decide +kernel
theorem dX12_improve_282 : decode cX12_improve 282 = .ok (.goto (-128), 3) := by decide +kernel
theorem dX12_improve_285 : decode cX12_improve 285 = .ok (.iload_n 3, 1) := by decide +kernel
theorem dX12_improve_286 : decode cX12_improve 286 = .ok (.iconst (-1), 1) := by decide +kernel
theorem dX12_improve_287 : decode cX12_improve 287 = .ok (.if_icmp .ne 5, 3) := by decide +kernel
theorem dX12_improve_290 : decode cX12_improve 290 = .ok (.iconst 0, 1) := by decide +kernel
theorem dX12_improve_291 : decode cX12_improve 291 = .ok (.ireturn, 1) := by decide +kernel
theorem dX12_improve_292 : decode cX12_improve 292 = .ok (.aload_n 0, 1) := by decide +kernel
theorem dX12_improve_293 : decode cX12_improve 293 = .ok (.getfield 20, 3) := by decide +kernel
theorem dX12_improve_296 : decode cX12_improve 296 = .ok (.iload_n 3, 1) := by decide +kernel
theorem dX12_improve_297 : decode cX12_improve 297 = .ok (.iload 4, 2) := by decide +kernel
theorem dX12_improve_299 : decode cX12_improve 299 = .ok (.iconst (-1), 1) := by decide +kernel
theorem dX12_improve_300 : decode cX12_improve 300 = .ok (.if_icmp .ne 8, 3) := by decide +kernel
theorem dX12_improve_303 : decode cX12_improve 303 = .ok (.iload 5, 2) := by decide +kernel
theorem dX12_improve_305 : decode cX12_improve 305 = .ok (.goto 13, 3) := by decide +kernel
theorem dX12_improve_308 : decode cX12_improve 308 = .ok (.aload_n 0, 1) := by decide +kernel
theorem dX12_improve_309 : decode cX12_improve 309 = .ok (.getfield 13, 3) := by decide +kernel
theorem dX12_improve_312 : decode cX12_improve 312 = .ok (.bipush 116, 2) := by decide +kernel
theorem dX12_improve_314 : decode cX12_improve 314 = .ok (.iload 4, 2) := by decide +kernel
theorem dX12_improve_316 : decode cX12_improve 316 = .ok (.iadd, 1) := by decide +kernel
theorem dX12_improve_317 : decode cX12_improve 317 = .ok (.iaload, 1) := by decide +kernel
theorem dX12_improve_318 : decode cX12_improve 318 = .ok (.iastore, 1) := by decide +kernel
theorem dX12_improve_319 : decode cX12_improve 319 = .ok (.iload 4, 2) := by decide +kernel
theorem dX12_improve_321 : decode cX12_improve 321 = .ok (.iconst (-1), 1) := by decide +kernel
theorem dX12_improve_322 : decode cX12_improve 322 = .ok (.if_icmp .eq 19, 3) := by decide +kernel
theorem dX12_improve_325 : decode cX12_improve 325 = .ok (.aload_n 0, 1) := by decide +kernel
theorem dX12_improve_326 : decode cX12_improve 326 = .ok (.getfield 20, 3) := by decide +kernel
theorem dX12_improve_329 : decode cX12_improve 329 = .ok (.iload 4, 2) := by decide +kernel
theorem dX12_improve_331 : decode cX12_improve 331 = .ok (.aload_n 0, 1) := by decide +kernel
theorem dX12_improve_332 : decode cX12_improve 332 = .ok (.getfield 13, 3) := by decide +kernel
theorem dX12_improve_335 : decode cX12_improve 335 = .ok (.bipush 116, 2) := by decide +kernel
theorem dX12_improve_337 : decode cX12_improve 337 = .ok (.iload_n 3, 1) := by decide +kernel
theorem dX12_improve_338 : decode cX12_improve 338 = .ok (.iadd, 1) := by decide +kernel
theorem dX12_improve_339 : decode cX12_improve 339 = .ok (.iaload, 1) := by decide +kernel
theorem dX12_improve_340 : decode cX12_improve 340 = .ok (.iastore, 1) := by decide +kernel
theorem dX12_improve_341 : decode cX12_improve 341 = .ok (.aload_n 0, 1) := by decide +kernel
theorem dX12_improve_342 : decode cX12_improve 342 = .ok (.invokevirtual 176, 3) := by decide +kernel
theorem dX12_improve_345 : decode cX12_improve 345 = .ok (.iload_n 1, 1) := by decide +kernel
theorem dX12_improve_346 : decode cX12_improve 346 = .ok (.iload_n 2, 1) := by decide +kernel
theorem dX12_improve_347 : decode cX12_improve 347 = .ok (.isub, 1) := by decide +kernel
theorem dX12_improve_348 : decode cX12_improve 348 = .ok (.ireturn, 1) := by decide +kernel
set_option maxRecDepth 20000 in
theorem ggX12_mostOf_X12_many : GoodIn wsX12_mostOf wsX12_many := goodIn_r _ [5, 6, 11, 12, 13, 14, 15, 16, 17, 18, 19, 20, 21, 22, 23, 24, 25, 26, 27, 28, 29, 30, 31, 32, 33, 34, 35, 36, 37, 38, 39, 40] (by decide +kernel) (by decide +kernel)
set_option maxRecDepth 20000 in
theorem gX12_mostOf_X12_many : GoodIn wsX12_mostOf (wsV RX12 88 RX12 yX12_many wsX12_many) := goodIn_app (goodIn_of _ (by decide +kernel)) ggX12_mostOf_X12_many
set_option maxRecDepth 20000 in
theorem ggX12_mostOf_X12_isOf : GoodIn wsX12_mostOf wsX12_isOf := goodIn_r _ [10, 6, 11, 12, 13, 14, 15, 16, 17, 18, 19, 20, 21, 22, 23, 24, 25, 26, 27, 28, 29, 30, 31, 32, 33, 34, 35, 36, 37, 38, 39, 40] (by decide +kernel) (by decide +kernel)
set_option maxRecDepth 20000 in
theorem gX12_mostOf_X12_isOf : GoodIn wsX12_mostOf (wsV RX12 182 RX12 yX12_isOf wsX12_isOf) := goodIn_app (goodIn_of _ (by decide +kernel)) ggX12_mostOf_X12_isOf
theorem dX12_mostOf_0 : decode cX12_mostOf 0 = .ok (.iconst 0, 1) := by decide +kernel
theorem dX12_mostOf_1 : decode cX12_mostOf 1 = .ok (.istore_n 1, 1) := by decide +kernel
theorem dX12_mostOf_2 : decode cX12_mostOf 2 = .ok (.iconst 0, 1) := by decide +kernel
theorem dX12_mostOf_3 : decode cX12_mostOf 3 = .ok (.istore_n 2, 1) := by decide +kernel
theorem dX12_mostOf_4 : decode cX12_mostOf 4 = .ok (.iload_n 2, 1) := by decide +kernel
theorem dX12_mostOf_5 : decode cX12_mostOf 5 = .ok (.bipush 10, 2) := by decide +kernel
theorem dX12_mostOf_7 : decode cX12_mostOf 7 = .ok (.if_icmp .ge 78, 3) := by decide +kernel
theorem dX12_mostOf_10 : decode cX12_mostOf 10 = .ok (.iconst 0, 1) := by decide +kernel
theorem dX12_mostOf_11 : decode cX12_mostOf 11 = .ok (.istore_n 3, 1) := by decide +kernel
theorem dX12_mostOf_12 : decode cX12_mostOf 12 = .ok (.iconst 0, 1) := by decide +kernel
theorem dX12_mostOf_13 : decode cX12_mostOf 13 = .ok (.istore 4, 2) := by decide +kernel
theorem dX12_mostOf_15 : decode cX12_mostOf 15 = .ok (.iload 4, 2) := by decide +kernel
theorem dX12_mostOf_17 : decode cX12_mostOf 17 = .ok (.aload_n 0, 1) := by decide +kernel
theorem dX12_mostOf_18 : decode cX12_mostOf 18 = .ok (.invokevirtual 88, 3) := by decide +kernel
theorem dX12_mostOf_21 : decode cX12_mostOf 21 = .ok (.if_icmp .ge 51, 3) := by decide +kernel
theorem dX12_mostOf_24 : decode cX12_mostOf 24 = .ok (.iload_n 3, 1) := by decide +kernel
theorem dX12_mostOf_25 : decode cX12_mostOf 25 = .ok (.aload_n 0, 1) := by decide +kernel
theorem dX12_mostOf_26 : decode cX12_mostOf 26 = .ok (.iload 4, 2) := by decide +kernel
theorem dX12_mostOf_28 : decode cX12_mostOf 28 = .ok (.iload_n 2, 1) := by decide +kernel
theorem dX12_mostOf_29 : decode cX12_mostOf 29 = .ok (.bipush 6, 2) := by decide +kernel
theorem dX12_mostOf_31 : decode cX12_mostOf 31 = .ok (.if_icmp .ge 7, 3) := by decide +kernel
theorem dX12_mostOf_34 : decode cX12_mostOf 34 = .ok (.iconst 1, 1) := by decide +kernel
theorem dX12_mostOf_35 : decode cX12_mostOf 35 = .ok (.goto 4, 3) := by decide +kernel
theorem dX12_mostOf_38 : decode cX12_mostOf 38 = .ok (.iconst 0, 1) := by decide +kernel
theorem dX12_mostOf_39 : decode cX12_mostOf 39 = .ok (.iload_n 2, 1) := by decide +kernel
theorem dX12_mostOf_40 : decode cX12_mostOf 40 = .ok (.bipush 6, 2) := by decide +kernel
theorem dX12_mostOf_42 : decode cX12_mostOf 42 = .ok (.if_icmp .ge 7, 3) := by decide +kernel
theorem dX12_mostOf_45 : decode cX12_mostOf 45 = .ok (.iload_n 2, 1) := by decide +kernel
theorem dX12_mostOf_46 : decode cX12_mostOf 46 = .ok (.goto 7, 3) := by decide +kernel
theorem dX12_mostOf_49 : decode cX12_mostOf 49 = .ok (.iload_n 2, 1) := by decide +kernel
theorem dX12_mostOf_50 : decode cX12_mostOf 50 = .ok (.bipush 6, 2) := by decide +kernel
theorem dX12_mostOf_52 : decode cX12_mostOf 52 = .ok (.isub, 1) := by decide +kernel
theorem dX12_mostOf_53 : decode cX12_mostOf 53 = .ok (.invokevirtual 182, 3) := by decide +kernel
theorem dX12_mostOf_56 : decode cX12_mostOf 56 = .ok (.ifCond .eq 7, 3) := by decide +kernel
theorem dX12_mostOf_59 : decode cX12_mostOf 59 = .ok (.iconst 1, 1) := by decide +kernel
theorem dX12_mostOf_60 : decode cX12_mostOf 60 = .ok (.goto 4, 3) := by decide +kernel
theorem dX12_mostOf_63 : decode cX12_mostOf 63 = .ok (.iconst 0, 1) := by decide +kernel
theorem dX12_mostOf_64 : decode cX12_mostOf 64 = .ok (.iadd, 1) := by decide +kernel
theorem dX12_mostOf_65 : decode cX12_mostOf 65 = .ok (.istore_n 3, 1) := by decide +kernel
theorem dX12_mostOf_66 : decode cX12_mostOf 66 = .ok (.iinc 4 1, 3) := by decide +kernel
theorem dX12_mostOf_69 : decode cX12_mostOf 69 = .ok (.goto (-54), 3) := by decide +kernel
theorem dX12_mostOf_72 : decode cX12_mostOf 72 = .ok (.iload_n 3, 1) := by decide +kernel
theorem dX12_mostOf_73 : decode cX12_mostOf 73 = .ok (.iload_n 1, 1) := by decide +kernel
theorem dX12_mostOf_74 : decode cX12_mostOf 74 = .ok (.if_icmp .le 5, 3) := by decide +kernel
theorem dX12_mostOf_77 : decode cX12_mostOf 77 = .ok (.iload_n 3, 1) := by decide +kernel
theorem dX12_mostOf_78 : decode cX12_mostOf 78 = .ok (.istore_n 1, 1) := by decide +kernel
theorem dX12_mostOf_79 : decode cX12_mostOf 79 = .ok (.iinc 2 1, 3) := by decide +kernel
theorem dX12_mostOf_82 : decode cX12_mostOf 82 = .ok (.goto (-78), 3) := by decide +kernel
theorem dX12_mostOf_85 : decode cX12_mostOf 85 = .ok (.iload_n 1, 1) := by decide +kernel
theorem dX12_mostOf_86 : decode cX12_mostOf 86 = .ok (.ireturn, 1) := by decide +kernel
set_option maxRecDepth 20000 in
theorem ggX12_coloured_X12_isOf : GoodIn wsX12_coloured wsX12_isOf := goodIn_r _ [6, 7, 8, 9, 10, 11, 12, 13, 14, 15, 16, 17, 18, 19, 20, 21, 22, 23, 24, 25, 26, 27, 28, 29, 30, 31, 32, 33, 34, 35, 36, 37] (by decide +kernel) (by decide +kernel)
set_option maxRecDepth 20000 in
theorem gX12_coloured_X12_isOf : GoodIn wsX12_coloured (wsV RX12 182 RX12 yX12_isOf wsX12_isOf) := goodIn_app (goodIn_of _ (by decide +kernel)) ggX12_coloured_X12_isOf
theorem dX12_coloured_0 : decode cX12_coloured 0 = .ok (.iconst 0, 1) := by decide +kernel
theorem dX12_coloured_1 : decode cX12_coloured 1 = .ok (.istore 5, 2) := by decide +kernel
theorem dX12_coloured_3 : decode cX12_coloured 3 = .ok (.iload 5, 2) := by decide +kernel
theorem dX12_coloured_5 : decode cX12_coloured 5 = .ok (.iload_n 1, 1) := by decide +kernel
theorem dX12_coloured_6 : decode cX12_coloured 6 = .ok (.if_icmp .ge 35, 3) := by decide +kernel
theorem dX12_coloured_9 : decode cX12_coloured 9 = .ok (.aload_n 0, 1) := by decide +kernel
theorem dX12_coloured_10 : decode cX12_coloured 10 = .ok (.iload 5, 2) := by decide +kernel
theorem dX12_coloured_12 : decode cX12_coloured 12 = .ok (.iload_n 2, 1) := by decide +kernel
theorem dX12_coloured_13 : decode cX12_coloured 13 = .ok (.iload_n 3, 1) := by decide +kernel
theorem dX12_coloured_14 : decode cX12_coloured 14 = .ok (.invokevirtual 182, 3) := by decide +kernel
theorem dX12_coloured_17 : decode cX12_coloured 17 = .ok (.ifCond .eq 18, 3) := by decide +kernel
theorem dX12_coloured_20 : decode cX12_coloured 20 = .ok (.aload_n 0, 1) := by decide +kernel
theorem dX12_coloured_21 : decode cX12_coloured 21 = .ok (.getfield 39, 3) := by decide +kernel
theorem dX12_coloured_24 : decode cX12_coloured 24 = .ok (.iload 5, 2) := by decide +kernel
theorem dX12_coloured_26 : decode cX12_coloured 26 = .ok (.iaload, 1) := by decide +kernel
theorem dX12_coloured_27 : decode cX12_coloured 27 = .ok (.iload 4, 2) := by decide +kernel
theorem dX12_coloured_29 : decode cX12_coloured 29 = .ok (.if_icmp .ne 6, 3) := by decide +kernel
theorem dX12_coloured_32 : decode cX12_coloured 32 = .ok (.iload 5, 2) := by decide +kernel
theorem dX12_coloured_34 : decode cX12_coloured 34 = .ok (.ireturn, 1) := by decide +kernel
theorem dX12_coloured_35 : decode cX12_coloured 35 = .ok (.iinc 5 1, 3) := by decide +kernel
theorem dX12_coloured_38 : decode cX12_coloured 38 = .ok (.goto (-35), 3) := by decide +kernel
theorem dX12_coloured_41 : decode cX12_coloured 41 = .ok (.iconst (-1), 1) := by decide +kernel
theorem dX12_coloured_42 : decode cX12_coloured 42 = .ok (.ireturn, 1) := by decide +kernel
set_option maxRecDepth 20000 in
theorem ggX12_free_X12_coloured : GoodIn wsX12_free wsX12_coloured := goodIn_r _ [5, 6, 7, 8, 9, 4, 10, 11, 12, 13, 14, 15, 16, 17, 18, 19, 20, 21, 22, 23, 24, 25, 26, 27, 28, 29, 30, 31, 32, 33, 34, 35, 36, 37, 38, 39, 40, 41] (by decide +kernel) (by decide +kernel)
set_option maxRecDepth 20000 in
theorem gX12_free_X12_coloured : GoodIn wsX12_free (wsV RX12 215 RX12 yX12_coloured wsX12_coloured) := goodIn_app (goodIn_of _ (by decide +kernel)) ggX12_free_X12_coloured
theorem dX12_free_0 : decode cX12_free 0 = .ok (.iconst 0, 1) := by decide +kernel
theorem dX12_free_1 : decode cX12_free 1 = .ok (.istore 4, 2) := by decide +kernel
theorem dX12_free_3 : decode cX12_free 3 = .ok (.aload_n 0, 1) := by decide +kernel
theorem dX12_free_4 : decode cX12_free 4 = .ok (.iload_n 1, 1) := by decide +kernel
theorem dX12_free_5 : decode cX12_free 5 = .ok (.iload_n 2, 1) := by decide +kernel
theorem dX12_free_6 : decode cX12_free 6 = .ok (.iload_n 3, 1) := by decide +kernel
theorem dX12_free_7 : decode cX12_free 7 = .ok (.iload 4, 2) := by decide +kernel
theorem dX12_free_9 : decode cX12_free 9 = .ok (.invokevirtual 215, 3) := by decide +kernel
theorem dX12_free_12 : decode cX12_free 12 = .ok (.iconst (-1), 1) := by decide +kernel
theorem dX12_free_13 : decode cX12_free 13 = .ok (.if_icmp .eq 9, 3) := by decide +kernel
theorem dX12_free_16 : decode cX12_free 16 = .ok (.iinc 4 1, 3) := by decide +kernel
theorem dX12_free_19 : decode cX12_free 19 = .ok (.goto (-16), 3) := by decide +kernel
theorem dX12_free_22 : decode cX12_free 22 = .ok (.iload 4, 2) := by decide +kernel
theorem dX12_free_24 : decode cX12_free 24 = .ok (.ireturn, 1) := by decide +kernel
set_option maxRecDepth 20000 in
theorem ggX12_colours_X12_mostOf : GoodIn wsX12_colours wsX12_mostOf := goodIn_r _ [8, 9, 10, 11, 7, 12, 1, 13, 14, 15, 16, 25, 26, 27, 28, 29, 30, 31, 32, 33, 34, 35, 36, 37, 38, 39, 40, 41, 42, 43, 44, 45, 46, 47, 48, 49, 50, 51, 52, 53, 54] (by decide +kernel) (by decide +kernel)
set_option maxRecDepth 20000 in
theorem gX12_colours_X12_mostOf : GoodIn wsX12_colours (wsV RX12 219 RX12 yX12_mostOf wsX12_mostOf) := goodIn_app (goodIn_of _ (by decide +kernel)) ggX12_colours_X12_mostOf
set_option maxRecDepth 20000 in
theorem ggX12_colours_X12_many : GoodIn wsX12_colours wsX12_many := goodIn_r _ [12, 1, 25, 26, 27, 28, 29, 30, 31, 32, 33, 34, 35, 36, 37, 38, 39, 40, 41, 42, 43, 44, 45, 46, 47, 48, 49, 50, 51, 52, 53, 54] (by decide +kernel) (by decide +kernel)
set_option maxRecDepth 20000 in
theorem gX12_colours_X12_many : GoodIn wsX12_colours (wsV RX12 88 RX12 yX12_many wsX12_many) := goodIn_app (goodIn_of _ (by decide +kernel)) ggX12_colours_X12_many
set_option maxRecDepth 20000 in
theorem ggX12_colours_X12_coloured : GoodIn wsX12_colours wsX12_coloured := goodIn_r _ [20, 2, 13, 14, 15, 7, 16, 1, 25, 26, 27, 28, 29, 30, 31, 32, 33, 34, 35, 36, 37, 38, 39, 40, 41, 42, 43, 44, 45, 46, 47, 48, 49, 50, 51, 52, 53, 54] (by decide +kernel) (by decide +kernel)
set_option maxRecDepth 20000 in
theorem gX12_colours_X12_coloured : GoodIn wsX12_colours (wsV RX12 215 RX12 yX12_coloured wsX12_coloured) := goodIn_app (goodIn_of _ (by decide +kernel)) ggX12_colours_X12_coloured
set_option maxRecDepth 20000 in
theorem ggX12_colours_X12_free : GoodIn wsX12_colours wsX12_free := goodIn_r _ [24, 17, 18, 19, 7, 20, 2, 13, 14, 15, 16, 1, 25, 26, 27, 28, 29, 30, 31, 32, 33, 34, 35, 36, 37, 38, 39, 40, 41, 42, 43, 44, 45, 46, 47, 48, 49, 50, 51, 52, 53, 54] (by decide +kernel) (by decide +kernel)
set_option maxRecDepth 20000 in
theorem gX12_colours_X12_free : GoodIn wsX12_colours (wsV RX12 222 RX12 yX12_free wsX12_free) := goodIn_app (goodIn_of _ (by decide +kernel)) ggX12_colours_X12_free
theorem dX12_colours_0 : decode cX12_colours 0 = .ok (.aload_n 0, 1) := by decide +kernel
theorem dX12_colours_1 : decode cX12_colours 1 = .ok (.invokevirtual 219, 3) := by decide +kernel
theorem dX12_colours_4 : decode cX12_colours 4 = .ok (.istore_n 1, 1) := by decide +kernel
theorem dX12_colours_5 : decode cX12_colours 5 = .ok (.iconst 0, 1) := by decide +kernel
theorem dX12_colours_6 : decode cX12_colours 6 = .ok (.istore_n 2, 1) := by decide +kernel
theorem dX12_colours_7 : decode cX12_colours 7 = .ok (.iload_n 2, 1) := by decide +kernel
theorem dX12_colours_8 : decode cX12_colours 8 = .ok (.aload_n 0, 1) := by decide +kernel
theorem dX12_colours_9 : decode cX12_colours 9 = .ok (.invokevirtual 88, 3) := by decide +kernel
theorem dX12_colours_12 : decode cX12_colours 12 = .ok (.if_icmp .ge 261, 3) := by decide +kernel
theorem dX12_colours_15 : decode cX12_colours 15 = .ok (.aload_n 0, 1) := by decide +kernel
theorem dX12_colours_16 : decode cX12_colours 16 = .ok (.getfield 13, 3) := by decide +kernel
theorem dX12_colours_19 : decode cX12_colours 19 = .ok (.bipush 9, 2) := by decide +kernel
theorem dX12_colours_21 : decode cX12_colours 21 = .ok (.iload_n 2, 1) := by decide +kernel
theorem dX12_colours_22 : decode cX12_colours 22 = .ok (.iadd, 1) := by decide +kernel
theorem dX12_colours_23 : decode cX12_colours 23 = .ok (.iaload, 1) := by decide +kernel
theorem dX12_colours_24 : decode cX12_colours 24 = .ok (.istore_n 3, 1) := by decide +kernel
theorem dX12_colours_25 : decode cX12_colours 25 = .ok (.aload_n 0, 1) := by decide +kernel
theorem dX12_colours_26 : decode cX12_colours 26 = .ok (.getfield 13, 3) := by decide +kernel
theorem dX12_colours_29 : decode cX12_colours 29 = .ok (.iconst 0, 1) := by decide +kernel
theorem dX12_colours_30 : decode cX12_colours 30 = .ok (.iload_n 2, 1) := by decide +kernel
theorem dX12_colours_31 : decode cX12_colours 31 = .ok (.iadd, 1) := by decide +kernel
theorem dX12_colours_32 : decode cX12_colours 32 = .ok (.iaload, 1) := by decide +kernel
theorem dX12_colours_33 : decode cX12_colours 33 = .ok (.istore 4, 2) := by decide +kernel
theorem dX12_colours_35 : decode cX12_colours 35 = .ok (.iconst 0, 1) := by decide +kernel
theorem dX12_colours_36 : decode cX12_colours 36 = .ok (.istore 5, 2) := by decide +kernel
theorem dX12_colours_38 : decode cX12_colours 38 = .ok (.aload_n 0, 1) := by decide +kernel
theorem dX12_colours_39 : decode cX12_colours 39 = .ok (.iload_n 2, 1) := by decide +kernel
theorem dX12_colours_40 : decode cX12_colours 40 = .ok (.iconst 1, 1) := by decide +kernel
theorem dX12_colours_41 : decode cX12_colours 41 = .ok (.iload_n 3, 1) := by decide +kernel
theorem dX12_colours_42 : decode cX12_colours 42 = .ok (.iload 5, 2) := by decide +kernel
theorem dX12_colours_44 : decode cX12_colours 44 = .ok (.invokevirtual 215, 3) := by decide +kernel
theorem dX12_colours_47 : decode cX12_colours 47 = .ok (.iconst (-1), 1) := by decide +kernel
theorem dX12_colours_48 : decode cX12_colours 48 = .ok (.if_icmp .ne 17, 3) := by decide +kernel
theorem dX12_colours_51 : decode cX12_colours 51 = .ok (.aload_n 0, 1) := by decide +kernel
theorem dX12_colours_52 : decode cX12_colours 52 = .ok (.iload_n 2, 1) := by decide +kernel
theorem dX12_colours_53 : decode cX12_colours 53 = .ok (.iconst 0, 1) := by decide +kernel
theorem dX12_colours_54 : decode cX12_colours 54 = .ok (.iload 4, 2) := by decide +kernel
theorem dX12_colours_56 : decode cX12_colours 56 = .ok (.iload 5, 2) := by decide +kernel
theorem dX12_colours_58 : decode cX12_colours 58 = .ok (.invokevirtual 215, 3) := by decide +kernel
theorem dX12_colours_61 : decode cX12_colours 61 = .ok (.iconst (-1), 1) := by decide +kernel
theorem dX12_colours_62 : decode cX12_colours 62 = .ok (.if_icmp .eq 9, 3) := by decide +kernel
theorem dX12_colours_65 : decode cX12_colours 65 = .ok (.iinc 5 1, 3) := by decide +kernel
theorem dX12_colours_68 : decode cX12_colours 68 = .ok (.goto (-30), 3) := by decide +kernel
theorem dX12_colours_71 : decode cX12_colours 71 = .ok (.aload_n 0, 1) := by decide +kernel
theorem dX12_colours_72 : decode cX12_colours 72 = .ok (.getfield 39, 3) := by decide +kernel
theorem dX12_colours_75 : decode cX12_colours 75 = .ok (.iload_n 2, 1) := by decide +kernel
theorem dX12_colours_76 : decode cX12_colours 76 = .ok (.iload 5, 2) := by decide +kernel
theorem dX12_colours_78 : decode cX12_colours 78 = .ok (.iastore, 1) := by decide +kernel
theorem dX12_colours_79 : decode cX12_colours 79 = .ok (.iload 5, 2) := by decide +kernel
theorem dX12_colours_81 : decode cX12_colours 81 = .ok (.iload_n 1, 1) := by decide +kernel
theorem dX12_colours_82 : decode cX12_colours 82 = .ok (.if_icmp .ge 6, 3) := by decide +kernel
theorem dX12_colours_85 : decode cX12_colours 85 = .ok (.goto 182, 3) := by decide +kernel
theorem dX12_colours_88 : decode cX12_colours 88 = .ok (.aload_n 0, 1) := by decide +kernel
theorem dX12_colours_89 : decode cX12_colours 89 = .ok (.iload_n 2, 1) := by decide +kernel
theorem dX12_colours_90 : decode cX12_colours 90 = .ok (.iconst 0, 1) := by decide +kernel
theorem dX12_colours_91 : decode cX12_colours 91 = .ok (.iload 4, 2) := by decide +kernel
theorem dX12_colours_93 : decode cX12_colours 93 = .ok (.invokevirtual 222, 3) := by decide +kernel
theorem dX12_colours_96 : decode cX12_colours 96 = .ok (.istore 6, 2) := by decide +kernel
theorem dX12_colours_98 : decode cX12_colours 98 = .ok (.aload_n 0, 1) := by decide +kernel
theorem dX12_colours_99 : decode cX12_colours 99 = .ok (.iload_n 2, 1) := by decide +kernel
theorem dX12_colours_100 : decode cX12_colours 100 = .ok (.iconst 1, 1) := by decide +kernel
theorem dX12_colours_101 : decode cX12_colours 101 = .ok (.iload_n 3, 1) := by decide +kernel
theorem dX12_colours_102 : decode cX12_colours 102 = .ok (.invokevirtual 222, 3) := by decide +kernel
theorem dX12_colours_105 : decode cX12_colours 105 = .ok (.istore 7, 2) := by decide +kernel
theorem dX12_colours_107 : decode cX12_colours 107 = .ok (.iconst 0, 1) := by decide +kernel
theorem dX12_colours_108 : decode cX12_colours 108 = .ok (.istore 8, 2) := by decide +kernel
theorem dX12_colours_110 : decode cX12_colours 110 = .ok (.aload_n 0, 1) := by decide +kernel
theorem dX12_colours_111 : decode cX12_colours 111 = .ok (.iload_n 2, 1) := by decide +kernel
theorem dX12_colours_112 : decode cX12_colours 112 = .ok (.iconst 1, 1) := by decide +kernel
theorem dX12_colours_113 : decode cX12_colours 113 = .ok (.iload_n 3, 1) := by decide +kernel
theorem dX12_colours_114 : decode cX12_colours 114 = .ok (.iload 6, 2) := by decide +kernel
theorem dX12_colours_116 : decode cX12_colours 116 = .ok (.invokevirtual 215, 3) := by decide +kernel
theorem dX12_colours_119 : decode cX12_colours 119 = .ok (.istore 9, 2) := by decide +kernel
theorem dX12_colours_121 : decode cX12_colours 121 = .ok (.iload 9, 2) := by decide +kernel
theorem dX12_colours_123 : decode cX12_colours 123 = .ok (.iconst (-1), 1) := by decide +kernel
theorem dX12_colours_124 : decode cX12_colours 124 = .ok (.if_icmp .eq 89, 3) := by decide +kernel
theorem dX12_colours_127 : decode cX12_colours 127 = .ok (.aload_n 0, 1) := by decide +kernel
theorem dX12_colours_128 : decode cX12_colours 128 = .ok (.getfield 42, 3) := by decide +kernel
theorem dX12_colours_131 : decode cX12_colours 131 = .ok (.iload 8, 2) := by decide +kernel
theorem dX12_colours_133 : decode cX12_colours 133 = .ok (.iload 9, 2) := by decide +kernel
theorem dX12_colours_135 : decode cX12_colours 135 = .ok (.iastore, 1) := by decide +kernel
theorem dX12_colours_136 : decode cX12_colours 136 = .ok (.iinc 8 1, 3) := by decide +kernel
theorem dX12_colours_139 : decode cX12_colours 139 = .ok (.iload 8, 2) := by decide +kernel
theorem dX12_colours_141 : decode cX12_colours 141 = .ok (.iconst 2, 1) := by decide +kernel
theorem dX12_colours_142 : decode cX12_colours 142 = .ok (.irem, 1) := by decide +kernel
theorem dX12_colours_143 : decode cX12_colours 143 = .ok (.iconst 1, 1) := by decide +kernel
theorem dX12_colours_144 : decode cX12_colours 144 = .ok (.if_icmp .ne 7, 3) := by decide +kernel
theorem dX12_colours_147 : decode cX12_colours 147 = .ok (.iconst 1, 1) := by decide +kernel
theorem dX12_colours_148 : decode cX12_colours 148 = .ok (.goto 4, 3) := by decide +kernel
theorem dX12_colours_151 : decode cX12_colours 151 = .ok (.iconst 0, 1) := by decide +kernel
theorem dX12_colours_152 : decode cX12_colours 152 = .ok (.istore 10, 2) := by decide +kernel
theorem dX12_colours_154 : decode cX12_colours 154 = .ok (.aload_n 0, 1) := by decide +kernel
theorem dX12_colours_155 : decode cX12_colours 155 = .ok (.iload_n 2, 1) := by decide +kernel
theorem dX12_colours_156 : decode cX12_colours 156 = .ok (.iload 10, 2) := by decide +kernel
theorem dX12_colours_158 : decode cX12_colours 158 = .ok (.ifCond .ne 7, 3) := by decide +kernel
theorem dX12_colours_161 : decode cX12_colours 161 = .ok (.iconst 1, 1) := by decide +kernel
theorem dX12_colours_162 : decode cX12_colours 162 = .ok (.goto 4, 3) := by decide +kernel
theorem dX12_colours_165 : decode cX12_colours 165 = .ok (.iconst 0, 1) := by decide +kernel
theorem dX12_colours_166 : decode cX12_colours 166 = .ok (.iload 10, 2) := by decide +kernel
theorem dX12_colours_168 : decode cX12_colours 168 = .ok (.ifCond .eq 15, 3) := by decide +kernel
theorem dX12_colours_171 : decode cX12_colours 171 = .ok (.aload_n 0, 1) := by decide +kernel
theorem dX12_colours_172 : decode cX12_colours 172 = .ok (.getfield 13, 3) := by decide +kernel
theorem dX12_colours_175 : decode cX12_colours 175 = .ok (.iconst 0, 1) := by decide +kernel
theorem dX12_colours_176 : decode cX12_colours 176 = .ok (.iload 9, 2) := by decide +kernel
theorem dX12_colours_178 : decode cX12_colours 178 = .ok (.iadd, 1) := by decide +kernel
theorem dX12_colours_179 : decode cX12_colours 179 = .ok (.iaload, 1) := by decide +kernel
theorem dX12_colours_180 : decode cX12_colours 180 = .ok (.goto 13, 3) := by decide +kernel
theorem dX12_colours_183 : decode cX12_colours 183 = .ok (.aload_n 0, 1) := by decide +kernel
theorem dX12_colours_184 : decode cX12_colours 184 = .ok (.getfield 13, 3) := by decide +kernel
theorem dX12_colours_187 : decode cX12_colours 187 = .ok (.bipush 9, 2) := by decide +kernel
theorem dX12_colours_189 : decode cX12_colours 189 = .ok (.iload 9, 2) := by decide +kernel
theorem dX12_colours_191 : decode cX12_colours 191 = .ok (.iadd, 1) := by decide +kernel
theorem dX12_colours_192 : decode cX12_colours 192 = .ok (.iaload, 1) := by decide +kernel
theorem dX12_colours_193 : decode cX12_colours 193 = .ok (.iload 10, 2) := by decide +kernel
theorem dX12_colours_195 : decode cX12_colours 195 = .ok (.ifCond .eq 8, 3) := by decide +kernel
theorem dX12_colours_198 : decode cX12_colours 198 = .ok (.iload 7, 2) := by decide +kernel
theorem dX12_colours_200 : decode cX12_colours 200 = .ok (.goto 5, 3) := by decide +kernel
theorem dX12_colours_203 : decode cX12_colours 203 = .ok (.iload 6, 2) := by decide +kernel
theorem dX12_colours_205 : decode cX12_colours 205 = .ok (.invokevirtual 215, 3) := by decide +kernel
theorem dX12_colours_208 : decode cX12_colours 208 = .ok (.istore 9, 2) := by decide +kernel
theorem dX12_colours_210 : decode cX12_colours 210 = .ok (.goto (-89), 3) := by decide +kernel
theorem dX12_colours_213 : decode cX12_colours 213 = .ok (.iconst 0, 1) := by decide +kernel
theorem dX12_colours_214 : decode cX12_colours 214 = .ok (.istore 10, 2) := by decide +kernel
theorem dX12_colours_216 : decode cX12_colours 216 = .ok (.iload 10, 2) := by decide +kernel
theorem dX12_colours_218 : decode cX12_colours 218 = .ok (.iload 8, 2) := by decide +kernel
theorem dX12_colours_220 : decode cX12_colours 220 = .ok (.if_icmp .ge 39, 3) := by decide +kernel
theorem dX12_colours_223 : decode cX12_colours 223 = .ok (.aload_n 0, 1) := by decide +kernel
theorem dX12_colours_224 : decode cX12_colours 224 = .ok (.getfield 39, 3) := by decide +kernel
theorem dX12_colours_227 : decode cX12_colours 227 = .ok (.aload_n 0, 1) := by decide +kernel
theorem dX12_colours_228 : decode cX12_colours 228 = .ok (.getfield 42, 3) := by decide +kernel
theorem dX12_colours_231 : decode cX12_colours 231 = .ok (.iload 10, 2) := by decide +kernel
theorem dX12_colours_233 : decode cX12_colours 233 = .ok (.iaload, 1) := by decide +kernel
theorem dX12_colours_234 : decode cX12_colours 234 = .ok (.iload 6, 2) := by decide +kernel
theorem dX12_colours_236 : decode cX12_colours 236 = .ok (.iload 7, 2) := by decide +kernel
theorem dX12_colours_238 : decode cX12_colours 238 = .ok (.iadd, 1) := by decide +kernel
theorem dX12_colours_239 : decode cX12_colours 239 = .ok (.aload_n 0, 1) := by decide +kernel
theorem dX12_colours_240 : decode cX12_colours 240 = .ok (.getfield 39, 3) := by decide +kernel
theorem dX12_colours_243 : decode cX12_colours 243 = .ok (.aload_n 0, 1) := by decide +kernel
theorem dX12_colours_244 : decode cX12_colours 244 = .ok (.getfield 42, 3) := by decide +kernel
theorem dX12_colours_247 : decode cX12_colours 247 = .ok (.iload 10, 2) := by decide +kernel
theorem dX12_colours_249 : decode cX12_colours 249 = .ok (.iaload, 1) := by decide +kernel
theorem dX12_colours_250 : decode cX12_colours 250 = .ok (.iaload, 1) := by decide +kernel
theorem dX12_colours_251 : decode cX12_colours 251 = .ok (.isub, 1) := by decide +kernel
theorem dX12_colours_252 : decode cX12_colours 252 = .ok (.iastore, 1) := by decide +kernel
theorem dX12_colours_253 : decode cX12_colours 253 = .ok (.iinc 10 1, 3) := by decide +kernel
theorem dX12_colours_256 : decode cX12_colours 256 = .ok (.goto (-40), 3) := by decide +kernel
theorem dX12_colours_259 : decode cX12_colours 259 = .ok (.aload_n 0, 1) := by decide +kernel
theorem dX12_colours_260 : decode cX12_colours 260 = .ok (.getfield 39, 3) := by decide +kernel
theorem dX12_colours_263 : decode cX12_colours 263 = .ok (.iload_n 2, 1) := by decide +kernel
theorem dX12_colours_264 : decode cX12_colours 264 = .ok (.iload 6, 2) := by decide +kernel
theorem dX12_colours_266 : decode cX12_colours 266 = .ok (.iastore, 1) := by decide +kernel
theorem dX12_colours_267 : decode cX12_colours 267 = .ok (.iinc 2 1, 3) := by decide +kernel
theorem dX12_colours_270 : decode cX12_colours 270 = .ok (.goto (-263), 3) := by decide +kernel
theorem dX12_colours_273 : decode cX12_colours 273 = .ok (.return_, 1) := by decide +kernel
set_option maxRecDepth 20000 in
theorem ggX12_most_X12_mostOf : GoodIn wsX12_most wsX12_mostOf := goodIn_r _ [6, 7, 8, 9, 5, 10, 11, 12, 13, 14, 15, 16, 17, 18, 19, 20, 21, 22, 23, 24, 25, 26, 27, 28, 29, 30, 31, 32, 33, 34, 35, 36, 37, 38, 39, 40, 41, 42, 43, 44, 45] (by decide +kernel) (by decide +kernel)
set_option maxRecDepth 20000 in
theorem gX12_most_X12_mostOf : GoodIn wsX12_most (wsV RX12 219 RX12 yX12_mostOf wsX12_mostOf) := goodIn_app (goodIn_of _ (by decide +kernel)) ggX12_most_X12_mostOf
theorem dX12_most_0 : decode cX12_most 0 = .ok (.aload_n 0, 1) := by decide +kernel
theorem dX12_most_1 : decode cX12_most 1 = .ok (.iconst 0, 1) := by decide +kernel
theorem dX12_most_2 : decode cX12_most 2 = .ok (.putfield 1, 3) := by decide +kernel
theorem dX12_most_5 : decode cX12_most 5 = .ok (.aload_n 0, 1) := by decide +kernel
theorem dX12_most_6 : decode cX12_most 6 = .ok (.invokevirtual 219, 3) := by decide +kernel
theorem dX12_most_9 : decode cX12_most 9 = .ok (.ireturn, 1) := by decide +kernel
set_option maxRecDepth 20000 in
theorem ggX12_colour_X12_noLesson : GoodIn wsX12_colour wsX12_noLesson := goodIn_r _ [7, 8, 9, 10, 6, 11, 12, 13, 14, 15, 16, 17, 18, 19, 1, 41, 42, 43, 44, 45, 46, 47, 48, 49, 50, 51, 52, 53, 54, 55, 56, 57, 58, 59, 60, 61, 62, 63, 64, 65, 66, 67, 68, 69, 70] (by decide +kernel) (by decide +kernel)
set_option maxRecDepth 20000 in
theorem gX12_colour_X12_noLesson : GoodIn wsX12_colour (wsV RX12 107 RX12 yX12_noLesson wsX12_noLesson) := goodIn_app (goodIn_of _ (by decide +kernel)) ggX12_colour_X12_noLesson
set_option maxRecDepth 20000 in
theorem ggX12_colour_X12_colours : GoodIn wsX12_colour wsX12_colours := goodIn_r _ [23, 12, 2, 24, 25, 26, 27, 6, 28, 8, 9, 10, 11, 29, 30, 31, 32, 33, 34, 35, 36, 37, 38, 39, 40, 41, 42, 43, 44, 45, 46, 47, 48, 49, 50, 51, 52, 53, 54, 55, 56, 57, 58, 59, 60, 61, 62, 63, 64, 65, 66, 67, 68, 69, 70] (by decide +kernel) (by decide +kernel)
set_option maxRecDepth 20000 in
theorem gX12_colour_X12_colours : GoodIn wsX12_colour (wsV RX12 226 RX12 yX12_colours wsX12_colours) := goodIn_app (goodIn_of _ (by decide +kernel)) ggX12_colour_X12_colours
theorem dX12_colour_0 : decode cX12_colour 0 = .ok (.aload_n 0, 1) := by decide +kernel
theorem dX12_colour_1 : decode cX12_colour 1 = .ok (.iconst 0, 1) := by decide +kernel
theorem dX12_colour_2 : decode cX12_colour 2 = .ok (.putfield 1, 3) := by decide +kernel
theorem dX12_colour_5 : decode cX12_colour 5 = .ok (.aload_n 0, 1) := by decide +kernel
theorem dX12_colour_6 : decode cX12_colour 6 = .ok (.iload_n 1, 1) := by decide +kernel
theorem dX12_colour_7 : decode cX12_colour 7 = .ok (.iconst 1, 1) := by decide +kernel
theorem dX12_colour_8 : decode cX12_colour 8 = .ok (.invokevirtual 107, 3) := by decide +kernel
theorem dX12_colour_11 : decode cX12_colour 11 = .ok (.ifCond .eq 5, 3) := by decide +kernel
theorem dX12_colour_14 : decode cX12_colour 14 = .ok (.iconst 0, 1) := by decide +kernel
theorem dX12_colour_15 : decode cX12_colour 15 = .ok (.ireturn, 1) := by decide +kernel
theorem dX12_colour_16 : decode cX12_colour 16 = .ok (.aload_n 0, 1) := by decide +kernel
theorem dX12_colour_17 : decode cX12_colour 17 = .ok (.invokevirtual 226, 3) := by decide +kernel
theorem dX12_colour_20 : decode cX12_colour 20 = .ok (.aload_n 0, 1) := by decide +kernel
theorem dX12_colour_21 : decode cX12_colour 21 = .ok (.getfield 39, 3) := by decide +kernel
theorem dX12_colour_24 : decode cX12_colour 24 = .ok (.iload_n 1, 1) := by decide +kernel
theorem dX12_colour_25 : decode cX12_colour 25 = .ok (.iaload, 1) := by decide +kernel
theorem dX12_colour_26 : decode cX12_colour 26 = .ok (.ireturn, 1) := by decide +kernel
theorem dX12_isIll_0 : decode cX12_isIll 0 = .ok (.aload_n 0, 1) := by decide +kernel
theorem dX12_isIll_1 : decode cX12_isIll 1 = .ok (.getfield 13, 3) := by decide +kernel
theorem dX12_isIll_4 : decode cX12_isIll 4 = .ok (.bipush 102, 2) := by decide +kernel
theorem dX12_isIll_6 : decode cX12_isIll 6 = .ok (.iload_n 1, 1) := by decide +kernel
theorem dX12_isIll_7 : decode cX12_isIll 7 = .ok (.iadd, 1) := by decide +kernel
theorem dX12_isIll_8 : decode cX12_isIll 8 = .ok (.iaload, 1) := by decide +kernel
theorem dX12_isIll_9 : decode cX12_isIll 9 = .ok (.iload_n 2, 1) := by decide +kernel
theorem dX12_isIll_10 : decode cX12_isIll 10 = .ok (.ishr, 1) := by decide +kernel
theorem dX12_isIll_11 : decode cX12_isIll 11 = .ok (.iconst 1, 1) := by decide +kernel
theorem dX12_isIll_12 : decode cX12_isIll 12 = .ok (.iand, 1) := by decide +kernel
theorem dX12_isIll_13 : decode cX12_isIll 13 = .ok (.iconst 1, 1) := by decide +kernel
theorem dX12_isIll_14 : decode cX12_isIll 14 = .ok (.if_icmp .ne 7, 3) := by decide +kernel
theorem dX12_isIll_17 : decode cX12_isIll 17 = .ok (.iconst 1, 1) := by decide +kernel
theorem dX12_isIll_18 : decode cX12_isIll 18 = .ok (.goto 4, 3) := by decide +kernel
theorem dX12_isIll_21 : decode cX12_isIll 21 = .ok (.iconst 0, 1) := by decide +kernel
theorem dX12_isIll_22 : decode cX12_isIll 22 = .ok (.ireturn, 1) := by decide +kernel
set_option maxRecDepth 20000 in
theorem ggX12_canTake_X12_isIll : GoodIn wsX12_canTake wsX12_isIll := goodIn_r _ [6, 1, 28, 29, 30, 31, 32, 33, 34, 35, 36, 37, 38, 39, 40, 41, 42, 43, 44, 45, 46, 47, 48, 49, 50, 51, 52, 53, 54, 55, 56, 57] (by decide +kernel) (by decide +kernel)
set_option maxRecDepth 20000 in
theorem gX12_canTake_X12_isIll : GoodIn wsX12_canTake (wsV RX12 229 RX12 yX12_isIll wsX12_isIll) := goodIn_app (goodIn_of _ (by decide +kernel)) ggX12_canTake_X12_isIll
set_option maxRecDepth 20000 in
theorem ggX12_canTake_X12_lessonThen : GoodIn wsX12_canTake wsX12_lessonThen := goodIn_r _ [10, 11, 12, 13, 5, 14, 1, 15, 16, 17, 18, 19, 20, 21, 22, 23, 24, 25, 26, 27, 28, 29, 30, 31, 32, 33, 34, 35, 36, 37, 38, 39, 40, 41, 42, 43, 44, 45, 46, 47, 48, 49, 50, 51, 52, 53, 54, 55, 56, 57] (by decide +kernel) (by decide +kernel)
set_option maxRecDepth 20000 in
theorem gX12_canTake_X12_lessonThen : GoodIn wsX12_canTake (wsV RX12 192 RX12 yX12_lessonThen wsX12_lessonThen) := goodIn_app (goodIn_of _ (by decide +kernel)) ggX12_canTake_X12_lessonThen
theorem dX12_canTake_0 : decode cX12_canTake 0 = .ok (.aload_n 0, 1) := by decide +kernel
theorem dX12_canTake_1 : decode cX12_canTake 1 = .ok (.getfield 13, 3) := by decide +kernel
theorem dX12_canTake_4 : decode cX12_canTake 4 = .ok (.bipush 93, 2) := by decide +kernel
theorem dX12_canTake_6 : decode cX12_canTake 6 = .ok (.iload_n 1, 1) := by decide +kernel
theorem dX12_canTake_7 : decode cX12_canTake 7 = .ok (.iadd, 1) := by decide +kernel
theorem dX12_canTake_8 : decode cX12_canTake 8 = .ok (.iaload, 1) := by decide +kernel
theorem dX12_canTake_9 : decode cX12_canTake 9 = .ok (.aload_n 0, 1) := by decide +kernel
theorem dX12_canTake_10 : decode cX12_canTake 10 = .ok (.getfield 13, 3) := by decide +kernel
theorem dX12_canTake_13 : decode cX12_canTake 13 = .ok (.bipush 18, 2) := by decide +kernel
theorem dX12_canTake_15 : decode cX12_canTake 15 = .ok (.iload_n 2, 1) := by decide +kernel
theorem dX12_canTake_16 : decode cX12_canTake 16 = .ok (.iadd, 1) := by decide +kernel
theorem dX12_canTake_17 : decode cX12_canTake 17 = .ok (.iaload, 1) := by decide +kernel
theorem dX12_canTake_18 : decode cX12_canTake 18 = .ok (.ishr, 1) := by decide +kernel
theorem dX12_canTake_19 : decode cX12_canTake 19 = .ok (.iconst 1, 1) := by decide +kernel
theorem dX12_canTake_20 : decode cX12_canTake 20 = .ok (.iand, 1) := by decide +kernel
theorem dX12_canTake_21 : decode cX12_canTake 21 = .ok (.iconst 1, 1) := by decide +kernel
theorem dX12_canTake_22 : decode cX12_canTake 22 = .ok (.if_icmp .ne 29, 3) := by decide +kernel
theorem dX12_canTake_25 : decode cX12_canTake 25 = .ok (.aload_n 0, 1) := by decide +kernel
theorem dX12_canTake_26 : decode cX12_canTake 26 = .ok (.iload_n 1, 1) := by decide +kernel
theorem dX12_canTake_27 : decode cX12_canTake 27 = .ok (.iload_n 3, 1) := by decide +kernel
theorem dX12_canTake_28 : decode cX12_canTake 28 = .ok (.iconst 4, 1) := by decide +kernel
theorem dX12_canTake_29 : decode cX12_canTake 29 = .ok (.idiv, 1) := by decide +kernel
theorem dX12_canTake_30 : decode cX12_canTake 30 = .ok (.invokevirtual 229, 3) := by decide +kernel
theorem dX12_canTake_33 : decode cX12_canTake 33 = .ok (.ifCond .ne 18, 3) := by decide +kernel
theorem dX12_canTake_36 : decode cX12_canTake 36 = .ok (.aload_n 0, 1) := by decide +kernel
theorem dX12_canTake_37 : decode cX12_canTake 37 = .ok (.iconst 1, 1) := by decide +kernel
theorem dX12_canTake_38 : decode cX12_canTake 38 = .ok (.iload_n 1, 1) := by decide +kernel
theorem dX12_canTake_39 : decode cX12_canTake 39 = .ok (.iload_n 3, 1) := by decide +kernel
theorem dX12_canTake_40 : decode cX12_canTake 40 = .ok (.invokevirtual 192, 3) := by decide +kernel
theorem dX12_canTake_43 : decode cX12_canTake 43 = .ok (.iconst (-1), 1) := by decide +kernel
theorem dX12_canTake_44 : decode cX12_canTake 44 = .ok (.if_icmp .ne 7, 3) := by decide +kernel
theorem dX12_canTake_47 : decode cX12_canTake 47 = .ok (.iconst 1, 1) := by decide +kernel
theorem dX12_canTake_48 : decode cX12_canTake 48 = .ok (.goto 4, 3) := by decide +kernel
theorem dX12_canTake_51 : decode cX12_canTake 51 = .ok (.iconst 0, 1) := by decide +kernel
theorem dX12_canTake_52 : decode cX12_canTake 52 = .ok (.ireturn, 1) := by decide +kernel
set_option maxRecDepth 20000 in
theorem ggX12_plans_X12_many : GoodIn wsX12_plans wsX12_many := goodIn_r _ [11, 2, 41, 42, 43, 44, 45, 46, 47, 48, 49, 50, 51, 52, 53, 54, 55, 56, 57, 58, 59, 60, 61, 62, 63, 64, 65, 66, 67, 68, 69, 70] (by decide +kernel) (by decide +kernel)
set_option maxRecDepth 20000 in
theorem gX12_plans_X12_many : GoodIn wsX12_plans (wsV RX12 88 RX12 yX12_many wsX12_many) := goodIn_app (goodIn_of _ (by decide +kernel)) ggX12_plans_X12_many
set_option maxRecDepth 20000 in
theorem ggX12_plans_X12_isAt : GoodIn wsX12_plans wsX12_isAt := goodIn_r _ [15, 16, 17, 18, 19, 10, 20, 2, 41, 42, 43, 44, 45, 46, 47, 48, 49, 50, 51, 52, 53, 54, 55, 56, 57, 58, 59, 60, 61, 62, 63, 64, 65, 66, 67, 68, 69, 70] (by decide +kernel) (by decide +kernel)
set_option maxRecDepth 20000 in
theorem gX12_plans_X12_isAt : GoodIn wsX12_plans (wsV RX12 131 RX12 yX12_isAt wsX12_isAt) := goodIn_app (goodIn_of _ (by decide +kernel)) ggX12_plans_X12_isAt
set_option maxRecDepth 20000 in
theorem ggX12_plans_X12_isIll : GoodIn wsX12_plans wsX12_isIll := goodIn_r _ [24, 2, 41, 42, 43, 44, 45, 46, 47, 48, 49, 50, 51, 52, 53, 54, 55, 56, 57, 58, 59, 60, 61, 62, 63, 64, 65, 66, 67, 68, 69, 70] (by decide +kernel) (by decide +kernel)
set_option maxRecDepth 20000 in
theorem gX12_plans_X12_isIll : GoodIn wsX12_plans (wsV RX12 229 RX12 yX12_isIll wsX12_isIll) := goodIn_app (goodIn_of _ (by decide +kernel)) ggX12_plans_X12_isIll
set_option maxRecDepth 20000 in
theorem ggX12_plans_X12_serves : GoodIn wsX12_plans wsX12_serves := goodIn_r _ [28, 1, 5, 3, 29, 30, 31, 10, 32, 2, 21, 22, 23, 24, 33, 34, 35, 36, 7, 8, 9, 11, 37, 38, 39, 40, 12, 13, 14, 15, 16, 17, 18, 19, 20, 41, 42, 43, 44, 45, 46, 47, 48, 49, 50, 51, 52, 53, 54, 55, 56, 57, 58, 59, 60, 61, 62, 63, 64, 65, 66, 67, 68, 69, 70] (by decide +kernel) (by decide +kernel)
set_option maxRecDepth 20000 in
theorem gX12_plans_X12_serves : GoodIn wsX12_plans (wsV RX12 238 RX12 yX12_serves wsX12_serves) := goodIn_app (goodIn_of _ (by decide +kernel)) ggX12_plans_X12_serves
theorem dX12_plans_0 : decode cX12_plans 0 = .ok (.aload_n 0, 1) := by decide +kernel
theorem dX12_plans_1 : decode cX12_plans 1 = .ok (.iconst 0, 1) := by decide +kernel
theorem dX12_plans_2 : decode cX12_plans 2 = .ok (.putfield 232, 3) := by decide +kernel
theorem dX12_plans_5 : decode cX12_plans 5 = .ok (.iconst 0, 1) := by decide +kernel
theorem dX12_plans_6 : decode cX12_plans 6 = .ok (.istore_n 2, 1) := by decide +kernel
theorem dX12_plans_7 : decode cX12_plans 7 = .ok (.iload_n 2, 1) := by decide +kernel
theorem dX12_plans_8 : decode cX12_plans 8 = .ok (.aload_n 0, 1) := by decide +kernel
theorem dX12_plans_9 : decode cX12_plans 9 = .ok (.invokevirtual 88, 3) := by decide +kernel
theorem dX12_plans_12 : decode cX12_plans 12 = .ok (.if_icmp .ge 60, 3) := by decide +kernel
theorem dX12_plans_15 : decode cX12_plans 15 = .ok (.aload_n 0, 1) := by decide +kernel
theorem dX12_plans_16 : decode cX12_plans 16 = .ok (.iload_n 2, 1) := by decide +kernel
theorem dX12_plans_17 : decode cX12_plans 17 = .ok (.iload_n 1, 1) := by decide +kernel
theorem dX12_plans_18 : decode cX12_plans 18 = .ok (.invokevirtual 131, 3) := by decide +kernel
theorem dX12_plans_21 : decode cX12_plans 21 = .ok (.ifCond .eq 45, 3) := by decide +kernel
theorem dX12_plans_24 : decode cX12_plans 24 = .ok (.aload_n 0, 1) := by decide +kernel
theorem dX12_plans_25 : decode cX12_plans 25 = .ok (.aload_n 0, 1) := by decide +kernel
theorem dX12_plans_26 : decode cX12_plans 26 = .ok (.getfield 13, 3) := by decide +kernel
theorem dX12_plans_29 : decode cX12_plans 29 = .ok (.bipush 9, 2) := by decide +kernel
theorem dX12_plans_31 : decode cX12_plans 31 = .ok (.iload_n 2, 1) := by decide +kernel
theorem dX12_plans_32 : decode cX12_plans 32 = .ok (.iadd, 1) := by decide +kernel
theorem dX12_plans_33 : decode cX12_plans 33 = .ok (.iaload, 1) := by decide +kernel
theorem dX12_plans_34 : decode cX12_plans 34 = .ok (.iload_n 1, 1) := by decide +kernel
theorem dX12_plans_35 : decode cX12_plans 35 = .ok (.iconst 4, 1) := by decide +kernel
theorem dX12_plans_36 : decode cX12_plans 36 = .ok (.idiv, 1) := by decide +kernel
theorem dX12_plans_37 : decode cX12_plans 37 = .ok (.invokevirtual 229, 3) := by decide +kernel
theorem dX12_plans_40 : decode cX12_plans 40 = .ok (.ifCond .ne 6, 3) := by decide +kernel
theorem dX12_plans_43 : decode cX12_plans 43 = .ok (.goto 23, 3) := by decide +kernel
theorem dX12_plans_46 : decode cX12_plans 46 = .ok (.aload_n 0, 1) := by decide +kernel
theorem dX12_plans_47 : decode cX12_plans 47 = .ok (.getfield 45, 3) := by decide +kernel
theorem dX12_plans_50 : decode cX12_plans 50 = .ok (.aload_n 0, 1) := by decide +kernel
theorem dX12_plans_51 : decode cX12_plans 51 = .ok (.getfield 232, 3) := by decide +kernel
theorem dX12_plans_54 : decode cX12_plans 54 = .ok (.iload_n 2, 1) := by decide +kernel
theorem dX12_plans_55 : decode cX12_plans 55 = .ok (.iastore, 1) := by decide +kernel
theorem dX12_plans_56 : decode cX12_plans 56 = .ok (.aload_n 0, 1) := by decide +kernel
theorem dX12_plans_57 : decode cX12_plans 57 = .ok (.dup, 1) := by decide +kernel
theorem dX12_plans_58 : decode cX12_plans 58 = .ok (.getfield 232, 3) := by decide +kernel
theorem dX12_plans_61 : decode cX12_plans 61 = .ok (.iconst 1, 1) := by decide +kernel
theorem dX12_plans_62 : decode cX12_plans 62 = .ok (.iadd, 1) := by decide +kernel
theorem dX12_plans_63 : decode cX12_plans 63 = .ok (.putfield 232, 3) := by decide +kernel
theorem dX12_plans_66 : decode cX12_plans 66 = .ok (.iinc 2 1, 3) := by decide +kernel
theorem dX12_plans_69 : decode cX12_plans 69 = .ok (.goto (-62), 3) := by decide +kernel
theorem dX12_plans_72 : decode cX12_plans 72 = .ok (.aload_n 0, 1) := by decide +kernel
theorem dX12_plans_73 : decode cX12_plans 73 = .ok (.iconst (-1), 1) := by decide +kernel
theorem dX12_plans_74 : decode cX12_plans 74 = .ok (.putfield 235, 3) := by decide +kernel
theorem dX12_plans_77 : decode cX12_plans 77 = .ok (.iconst 1, 1) := by decide +kernel
theorem dX12_plans_78 : decode cX12_plans 78 = .ok (.istore_n 2, 1) := by decide +kernel
theorem dX12_plans_79 : decode cX12_plans 79 = .ok (.iconst 0, 1) := by decide +kernel
theorem dX12_plans_80 : decode cX12_plans 80 = .ok (.istore_n 3, 1) := by decide +kernel
theorem dX12_plans_81 : decode cX12_plans 81 = .ok (.iload_n 3, 1) := by decide +kernel
theorem dX12_plans_82 : decode cX12_plans 82 = .ok (.aload_n 0, 1) := by decide +kernel
theorem dX12_plans_83 : decode cX12_plans 83 = .ok (.getfield 232, 3) := by decide +kernel
theorem dX12_plans_86 : decode cX12_plans 86 = .ok (.if_icmp .ge 14, 3) := by decide +kernel
theorem dX12_plans_89 : decode cX12_plans 89 = .ok (.iload_n 2, 1) := by decide +kernel
theorem dX12_plans_90 : decode cX12_plans 90 = .ok (.bipush 7, 2) := by decide +kernel
theorem dX12_plans_92 : decode cX12_plans 92 = .ok (.imul, 1) := by decide +kernel
theorem dX12_plans_93 : decode cX12_plans 93 = .ok (.istore_n 2, 1) := by decide +kernel
theorem dX12_plans_94 : decode cX12_plans 94 = .ok (.iinc 3 1, 3) := by decide +kernel
theorem dX12_plans_97 : decode cX12_plans 97 = .ok (.goto (-16), 3) := by decide +kernel
theorem dX12_plans_100 : decode cX12_plans 100 = .ok (.iconst 0, 1) := by decide +kernel
theorem dX12_plans_101 : decode cX12_plans 101 = .ok (.istore_n 3, 1) := by decide +kernel
theorem dX12_plans_102 : decode cX12_plans 102 = .ok (.iload_n 3, 1) := by decide +kernel
theorem dX12_plans_103 : decode cX12_plans 103 = .ok (.iload_n 2, 1) := by decide +kernel
theorem dX12_plans_104 : decode cX12_plans 104 = .ok (.if_icmp .ge 107, 3) := by decide +kernel
theorem dX12_plans_107 : decode cX12_plans 107 = .ok (.iload_n 3, 1) := by decide +kernel
theorem dX12_plans_108 : decode cX12_plans 108 = .ok (.istore 4, 2) := by decide +kernel
theorem dX12_plans_110 : decode cX12_plans 110 = .ok (.aload_n 0, 1) := by decide +kernel
theorem dX12_plans_111 : decode cX12_plans 111 = .ok (.getfield 232, 3) := by decide +kernel
theorem dX12_plans_114 : decode cX12_plans 114 = .ok (.iconst 1, 1) := by decide +kernel
theorem dX12_plans_115 : decode cX12_plans 115 = .ok (.isub, 1) := by decide +kernel
theorem dX12_plans_116 : decode cX12_plans 116 = .ok (.istore 5, 2) := by decide +kernel
theorem dX12_plans_118 : decode cX12_plans 118 = .ok (.iload 5, 2) := by decide +kernel
theorem dX12_plans_120 : decode cX12_plans 120 = .ok (.ifCond .lt 28, 3) := by decide +kernel
theorem dX12_plans_123 : decode cX12_plans 123 = .ok (.aload_n 0, 1) := by decide +kernel
theorem dX12_plans_124 : decode cX12_plans 124 = .ok (.getfield 48, 3) := by decide +kernel
theorem dX12_plans_127 : decode cX12_plans 127 = .ok (.iload 5, 2) := by decide +kernel
theorem dX12_plans_129 : decode cX12_plans 129 = .ok (.iload 4, 2) := by decide +kernel
theorem dX12_plans_131 : decode cX12_plans 131 = .ok (.bipush 7, 2) := by decide +kernel
theorem dX12_plans_133 : decode cX12_plans 133 = .ok (.irem, 1) := by decide +kernel
theorem dX12_plans_134 : decode cX12_plans 134 = .ok (.iastore, 1) := by decide +kernel
theorem dX12_plans_135 : decode cX12_plans 135 = .ok (.iload 4, 2) := by decide +kernel
theorem dX12_plans_137 : decode cX12_plans 137 = .ok (.bipush 7, 2) := by decide +kernel
theorem dX12_plans_139 : decode cX12_plans 139 = .ok (.idiv, 1) := by decide +kernel
theorem dX12_plans_140 : decode cX12_plans 140 = .ok (.istore 4, 2) := by decide +kernel
theorem dX12_plans_142 : decode cX12_plans 142 = .ok (.iinc 5 (-1), 3) := by decide +kernel
theorem dX12_plans_145 : decode cX12_plans 145 = .ok (.goto (-27), 3) := by decide +kernel
theorem dX12_plans_148 : decode cX12_plans 148 = .ok (.aload_n 0, 1) := by decide +kernel
theorem dX12_plans_149 : decode cX12_plans 149 = .ok (.iload_n 1, 1) := by decide +kernel
theorem dX12_plans_150 : decode cX12_plans 150 = .ok (.invokevirtual 238, 3) := by decide +kernel
theorem dX12_plans_153 : decode cX12_plans 153 = .ok (.istore 5, 2) := by decide +kernel
theorem dX12_plans_155 : decode cX12_plans 155 = .ok (.iload 5, 2) := by decide +kernel
theorem dX12_plans_157 : decode cX12_plans 157 = .ok (.aload_n 0, 1) := by decide +kernel
theorem dX12_plans_158 : decode cX12_plans 158 = .ok (.getfield 235, 3) := by decide +kernel
theorem dX12_plans_161 : decode cX12_plans 161 = .ok (.if_icmp .gt 6, 3) := by decide +kernel
theorem dX12_plans_164 : decode cX12_plans 164 = .ok (.goto 41, 3) := by decide +kernel
theorem dX12_plans_167 : decode cX12_plans 167 = .ok (.aload_n 0, 1) := by decide +kernel
theorem dX12_plans_168 : decode cX12_plans 168 = .ok (.iload 5, 2) := by decide +kernel
theorem dX12_plans_170 : decode cX12_plans 170 = .ok (.putfield 235, 3) := by decide +kernel
theorem dX12_plans_173 : decode cX12_plans 173 = .ok (.iconst 0, 1) := by decide +kernel
theorem dX12_plans_174 : decode cX12_plans 174 = .ok (.istore 6, 2) := by decide +kernel
theorem dX12_plans_176 : decode cX12_plans 176 = .ok (.iload 6, 2) := by decide +kernel
theorem dX12_plans_178 : decode cX12_plans 178 = .ok (.aload_n 0, 1) := by decide +kernel
theorem dX12_plans_179 : decode cX12_plans 179 = .ok (.getfield 232, 3) := by decide +kernel
theorem dX12_plans_182 : decode cX12_plans 182 = .ok (.if_icmp .ge 23, 3) := by decide +kernel
theorem dX12_plans_185 : decode cX12_plans 185 = .ok (.aload_n 0, 1) := by decide +kernel
theorem dX12_plans_186 : decode cX12_plans 186 = .ok (.getfield 51, 3) := by decide +kernel
theorem dX12_plans_189 : decode cX12_plans 189 = .ok (.iload 6, 2) := by decide +kernel
theorem dX12_plans_191 : decode cX12_plans 191 = .ok (.aload_n 0, 1) := by decide +kernel
theorem dX12_plans_192 : decode cX12_plans 192 = .ok (.getfield 48, 3) := by decide +kernel
theorem dX12_plans_195 : decode cX12_plans 195 = .ok (.iload 6, 2) := by decide +kernel
theorem dX12_plans_197 : decode cX12_plans 197 = .ok (.iaload, 1) := by decide +kernel
theorem dX12_plans_198 : decode cX12_plans 198 = .ok (.iastore, 1) := by decide +kernel
theorem dX12_plans_199 : decode cX12_plans 199 = .ok (.iinc 6 1, 3) := by decide +kernel
theorem dX12_plans_202 : decode cX12_plans 202 = .ok (.goto (-26), 3) := by decide +kernel
theorem dX12_plans_205 : decode cX12_plans 205 = .ok (.iinc 3 1, 3) := by decide +kernel
theorem dX12_plans_208 : decode cX12_plans 208 = .ok (.goto (-106), 3) := by decide +kernel
theorem dX12_plans_211 : decode cX12_plans 211 = .ok (.return_, 1) := by decide +kernel
set_option maxRecDepth 20000 in
theorem ggX12_serves_X12_canTake : GoodIn wsX12_serves wsX12_canTake := goodIn_r _ [8, 9, 10, 11, 12, 7, 13, 14, 15, 16, 17, 18, 19, 20, 21, 22, 23, 24, 25, 26, 27, 28, 29, 30, 31, 32, 33, 34, 35, 36, 37, 38, 39, 40, 41, 42, 43, 44, 45, 46, 47, 48, 49, 50, 51, 52, 53, 54, 55, 56, 57, 58, 59, 60, 61, 62, 63, 64] (by decide +kernel) (by decide +kernel)
set_option maxRecDepth 20000 in
theorem gX12_serves_X12_canTake : GoodIn wsX12_serves (wsV RX12 241 RX12 yX12_canTake wsX12_canTake) := goodIn_app (goodIn_of _ (by decide +kernel)) ggX12_serves_X12_canTake
theorem dX12_serves_0 : decode cX12_serves 0 = .ok (.iconst 0, 1) := by decide +kernel
theorem dX12_serves_1 : decode cX12_serves 1 = .ok (.istore_n 2, 1) := by decide +kernel
theorem dX12_serves_2 : decode cX12_serves 2 = .ok (.iconst 0, 1) := by decide +kernel
theorem dX12_serves_3 : decode cX12_serves 3 = .ok (.istore_n 3, 1) := by decide +kernel
theorem dX12_serves_4 : decode cX12_serves 4 = .ok (.iload_n 3, 1) := by decide +kernel
theorem dX12_serves_5 : decode cX12_serves 5 = .ok (.aload_n 0, 1) := by decide +kernel
theorem dX12_serves_6 : decode cX12_serves 6 = .ok (.getfield 232, 3) := by decide +kernel
theorem dX12_serves_9 : decode cX12_serves 9 = .ok (.if_icmp .ge 81, 3) := by decide +kernel
theorem dX12_serves_12 : decode cX12_serves 12 = .ok (.aload_n 0, 1) := by decide +kernel
theorem dX12_serves_13 : decode cX12_serves 13 = .ok (.getfield 48, 3) := by decide +kernel
theorem dX12_serves_16 : decode cX12_serves 16 = .ok (.iload_n 3, 1) := by decide +kernel
theorem dX12_serves_17 : decode cX12_serves 17 = .ok (.iaload, 1) := by decide +kernel
theorem dX12_serves_18 : decode cX12_serves 18 = .ok (.bipush 6, 2) := by decide +kernel
theorem dX12_serves_20 : decode cX12_serves 20 = .ok (.if_icmp .ne 6, 3) := by decide +kernel
theorem dX12_serves_23 : decode cX12_serves 23 = .ok (.goto 61, 3) := by decide +kernel
theorem dX12_serves_26 : decode cX12_serves 26 = .ok (.aload_n 0, 1) := by decide +kernel
theorem dX12_serves_27 : decode cX12_serves 27 = .ok (.aload_n 0, 1) := by decide +kernel
theorem dX12_serves_28 : decode cX12_serves 28 = .ok (.getfield 48, 3) := by decide +kernel
theorem dX12_serves_31 : decode cX12_serves 31 = .ok (.iload_n 3, 1) := by decide +kernel
theorem dX12_serves_32 : decode cX12_serves 32 = .ok (.iaload, 1) := by decide +kernel
theorem dX12_serves_33 : decode cX12_serves 33 = .ok (.aload_n 0, 1) := by decide +kernel
theorem dX12_serves_34 : decode cX12_serves 34 = .ok (.getfield 45, 3) := by decide +kernel
theorem dX12_serves_37 : decode cX12_serves 37 = .ok (.iload_n 3, 1) := by decide +kernel
theorem dX12_serves_38 : decode cX12_serves 38 = .ok (.iaload, 1) := by decide +kernel
theorem dX12_serves_39 : decode cX12_serves 39 = .ok (.iload_n 1, 1) := by decide +kernel
theorem dX12_serves_40 : decode cX12_serves 40 = .ok (.invokevirtual 241, 3) := by decide +kernel
theorem dX12_serves_43 : decode cX12_serves 43 = .ok (.ifCond .ne 5, 3) := by decide +kernel
theorem dX12_serves_46 : decode cX12_serves 46 = .ok (.iconst (-1), 1) := by decide +kernel
theorem dX12_serves_47 : decode cX12_serves 47 = .ok (.ireturn, 1) := by decide +kernel
theorem dX12_serves_48 : decode cX12_serves 48 = .ok (.iconst 0, 1) := by decide +kernel
theorem dX12_serves_49 : decode cX12_serves 49 = .ok (.istore 4, 2) := by decide +kernel
theorem dX12_serves_51 : decode cX12_serves 51 = .ok (.iload 4, 2) := by decide +kernel
theorem dX12_serves_53 : decode cX12_serves 53 = .ok (.iload_n 3, 1) := by decide +kernel
theorem dX12_serves_54 : decode cX12_serves 54 = .ok (.if_icmp .ge 27, 3) := by decide +kernel
theorem dX12_serves_57 : decode cX12_serves 57 = .ok (.aload_n 0, 1) := by decide +kernel
theorem dX12_serves_58 : decode cX12_serves 58 = .ok (.getfield 48, 3) := by decide +kernel
theorem dX12_serves_61 : decode cX12_serves 61 = .ok (.iload 4, 2) := by decide +kernel
theorem dX12_serves_63 : decode cX12_serves 63 = .ok (.iaload, 1) := by decide +kernel
theorem dX12_serves_64 : decode cX12_serves 64 = .ok (.aload_n 0, 1) := by decide +kernel
theorem dX12_serves_65 : decode cX12_serves 65 = .ok (.getfield 48, 3) := by decide +kernel
theorem dX12_serves_68 : decode cX12_serves 68 = .ok (.iload_n 3, 1) := by decide +kernel
theorem dX12_serves_69 : decode cX12_serves 69 = .ok (.iaload, 1) := by decide +kernel
theorem dX12_serves_70 : decode cX12_serves 70 = .ok (.if_icmp .ne 5, 3) := by decide +kernel
theorem dX12_serves_73 : decode cX12_serves 73 = .ok (.iconst (-1), 1) := by decide +kernel
theorem dX12_serves_74 : decode cX12_serves 74 = .ok (.ireturn, 1) := by decide +kernel
theorem dX12_serves_75 : decode cX12_serves 75 = .ok (.iinc 4 1, 3) := by decide +kernel
theorem dX12_serves_78 : decode cX12_serves 78 = .ok (.goto (-27), 3) := by decide +kernel
theorem dX12_serves_81 : decode cX12_serves 81 = .ok (.iinc 2 1, 3) := by decide +kernel
theorem dX12_serves_84 : decode cX12_serves 84 = .ok (.iinc 3 1, 3) := by decide +kernel
theorem dX12_serves_87 : decode cX12_serves 87 = .ok (.goto (-83), 3) := by decide +kernel
theorem dX12_serves_90 : decode cX12_serves 90 = .ok (.iload_n 2, 1) := by decide +kernel
theorem dX12_serves_91 : decode cX12_serves 91 = .ok (.ireturn, 1) := by decide +kernel
set_option maxRecDepth 20000 in
theorem ggX12_setIll_X12_noTeacher : GoodIn wsX12_setIll wsX12_noTeacher := goodIn_r _ [7, 8, 9, 6, 10, 11, 12, 13, 14, 1, 26, 27, 28, 29, 30, 31, 32, 33, 34, 35, 36, 37, 38, 39, 40, 41, 42, 43, 44, 45, 46, 47, 48, 49, 50, 51, 52, 53, 54, 55] (by decide +kernel) (by decide +kernel)
set_option maxRecDepth 20000 in
theorem gX12_setIll_X12_noTeacher : GoodIn wsX12_setIll (wsV RX12 122 RX12 yX12_noTeacher wsX12_noTeacher) := goodIn_app (goodIn_of _ (by decide +kernel)) ggX12_setIll_X12_noTeacher
set_option maxRecDepth 20000 in
theorem ggX12_setIll_X12_in : GoodIn wsX12_setIll wsX12_in := goodIn_r _ [10] (by decide +kernel) (by decide +kernel)
set_option maxRecDepth 20000 in
theorem gX12_setIll_X12_in : GoodIn wsX12_setIll (va_wsS RX12 92 yX12_in wsX12_in) := goodIn_app (goodIn_of _ (by decide +kernel)) ggX12_setIll_X12_in
set_option maxRecDepth 20000 in
theorem ggX12_setIll_X12_fails : GoodIn wsX12_setIll wsX12_fails := goodIn_r _ [14, 1, 26, 27, 28, 29, 30, 31, 32, 33, 34, 35, 36, 37, 38, 39, 40, 41, 42, 43, 44, 45, 46, 47, 48, 49, 50, 51, 52, 53, 54, 55] (by decide +kernel) (by decide +kernel)
set_option maxRecDepth 20000 in
theorem gX12_setIll_X12_fails : GoodIn wsX12_setIll (wsV RX12 96 RX12 yX12_fails wsX12_fails) := goodIn_app (goodIn_of _ (by decide +kernel)) ggX12_setIll_X12_fails
set_option maxRecDepth 20000 in
theorem ggX12_setIll_X12_keeps : GoodIn wsX12_setIll wsX12_keeps := goodIn_r _ [18, 19, 20, 2, 21, 26, 27, 28, 29, 30, 31, 32, 33, 34, 35, 36, 37, 38, 39, 40, 41, 42, 43, 44, 45, 46, 47, 48, 49, 50, 51, 52, 53, 54, 55] (by decide +kernel) (by decide +kernel)
set_option maxRecDepth 20000 in
theorem gX12_setIll_X12_keeps : GoodIn wsX12_setIll (wsV RX12 100 RX12 yX12_keeps wsX12_keeps) := goodIn_app (goodIn_of _ (by decide +kernel)) ggX12_setIll_X12_keeps
set_option maxRecDepth 20000 in
theorem ggX12_setIll_X12_isIll : GoodIn wsX12_setIll wsX12_isIll := goodIn_r _ [25, 2, 26, 27, 28, 29, 30, 31, 32, 33, 34, 35, 36, 37, 38, 39, 40, 41, 42, 43, 44, 45, 46, 47, 48, 49, 50, 51, 52, 53, 54, 55] (by decide +kernel) (by decide +kernel)
set_option maxRecDepth 20000 in
theorem gX12_setIll_X12_isIll : GoodIn wsX12_setIll (wsV RX12 229 RX12 yX12_isIll wsX12_isIll) := goodIn_app (goodIn_of _ (by decide +kernel)) ggX12_setIll_X12_isIll
theorem dX12_setIll_0 : decode cX12_setIll 0 = .ok (.aload_n 0, 1) := by decide +kernel
theorem dX12_setIll_1 : decode cX12_setIll 1 = .ok (.iconst 0, 1) := by decide +kernel
theorem dX12_setIll_2 : decode cX12_setIll 2 = .ok (.putfield 1, 3) := by decide +kernel
theorem dX12_setIll_5 : decode cX12_setIll 5 = .ok (.aload_n 0, 1) := by decide +kernel
theorem dX12_setIll_6 : decode cX12_setIll 6 = .ok (.iload_n 1, 1) := by decide +kernel
theorem dX12_setIll_7 : decode cX12_setIll 7 = .ok (.invokevirtual 122, 3) := by decide +kernel
theorem dX12_setIll_10 : decode cX12_setIll 10 = .ok (.ifCond .ne 17, 3) := by decide +kernel
theorem dX12_setIll_13 : decode cX12_setIll 13 = .ok (.aload_n 0, 1) := by decide +kernel
theorem dX12_setIll_14 : decode cX12_setIll 14 = .ok (.iload_n 2, 1) := by decide +kernel
theorem dX12_setIll_15 : decode cX12_setIll 15 = .ok (.iconst 0, 1) := by decide +kernel
theorem dX12_setIll_16 : decode cX12_setIll 16 = .ok (.iconst 4, 1) := by decide +kernel
theorem dX12_setIll_17 : decode cX12_setIll 17 = .ok (.invokestatic 92, 3) := by decide +kernel
theorem dX12_setIll_20 : decode cX12_setIll 20 = .ok (.iconst 1, 1) := by decide +kernel
theorem dX12_setIll_21 : decode cX12_setIll 21 = .ok (.invokevirtual 96, 3) := by decide +kernel
theorem dX12_setIll_24 : decode cX12_setIll 24 = .ok (.ifCond .eq 5, 3) := by decide +kernel
theorem dX12_setIll_27 : decode cX12_setIll 27 = .ok (.iconst 0, 1) := by decide +kernel
theorem dX12_setIll_28 : decode cX12_setIll 28 = .ok (.ireturn, 1) := by decide +kernel
theorem dX12_setIll_29 : decode cX12_setIll 29 = .ok (.aload_n 0, 1) := by decide +kernel
theorem dX12_setIll_30 : decode cX12_setIll 30 = .ok (.invokevirtual 100, 3) := by decide +kernel
theorem dX12_setIll_33 : decode cX12_setIll 33 = .ok (.aload_n 0, 1) := by decide +kernel
theorem dX12_setIll_34 : decode cX12_setIll 34 = .ok (.iload_n 1, 1) := by decide +kernel
theorem dX12_setIll_35 : decode cX12_setIll 35 = .ok (.iload_n 2, 1) := by decide +kernel
theorem dX12_setIll_36 : decode cX12_setIll 36 = .ok (.invokevirtual 229, 3) := by decide +kernel
theorem dX12_setIll_39 : decode cX12_setIll 39 = .ok (.istore 4, 2) := by decide +kernel
theorem dX12_setIll_41 : decode cX12_setIll 41 = .ok (.aload_n 0, 1) := by decide +kernel
theorem dX12_setIll_42 : decode cX12_setIll 42 = .ok (.getfield 13, 3) := by decide +kernel
theorem dX12_setIll_45 : decode cX12_setIll 45 = .ok (.bipush 102, 2) := by decide +kernel
theorem dX12_setIll_47 : decode cX12_setIll 47 = .ok (.iload_n 1, 1) := by decide +kernel
theorem dX12_setIll_48 : decode cX12_setIll 48 = .ok (.iadd, 1) := by decide +kernel
theorem dX12_setIll_49 : decode cX12_setIll 49 = .ok (.iload_n 3, 1) := by decide +kernel
theorem dX12_setIll_50 : decode cX12_setIll 50 = .ok (.ifCond .eq 19, 3) := by decide +kernel
theorem dX12_setIll_53 : decode cX12_setIll 53 = .ok (.aload_n 0, 1) := by decide +kernel
theorem dX12_setIll_54 : decode cX12_setIll 54 = .ok (.getfield 13, 3) := by decide +kernel
theorem dX12_setIll_57 : decode cX12_setIll 57 = .ok (.bipush 102, 2) := by decide +kernel
theorem dX12_setIll_59 : decode cX12_setIll 59 = .ok (.iload_n 1, 1) := by decide +kernel
theorem dX12_setIll_60 : decode cX12_setIll 60 = .ok (.iadd, 1) := by decide +kernel
theorem dX12_setIll_61 : decode cX12_setIll 61 = .ok (.iaload, 1) := by decide +kernel
theorem dX12_setIll_62 : decode cX12_setIll 62 = .ok (.iconst 1, 1) := by decide +kernel
theorem dX12_setIll_63 : decode cX12_setIll 63 = .ok (.iload_n 2, 1) := by decide +kernel
theorem dX12_setIll_64 : decode cX12_setIll 64 = .ok (.ishl, 1) := by decide +kernel
theorem dX12_setIll_65 : decode cX12_setIll 65 = .ok (.ior, 1) := by decide +kernel
theorem dX12_setIll_66 : decode cX12_setIll 66 = .ok (.goto 18, 3) := by decide +kernel
theorem dX12_setIll_69 : decode cX12_setIll 69 = .ok (.aload_n 0, 1) := by decide +kernel
theorem dX12_setIll_70 : decode cX12_setIll 70 = .ok (.getfield 13, 3) := by decide +kernel
theorem dX12_setIll_73 : decode cX12_setIll 73 = .ok (.bipush 102, 2) := by decide +kernel
theorem dX12_setIll_75 : decode cX12_setIll 75 = .ok (.iload_n 1, 1) := by decide +kernel
theorem dX12_setIll_76 : decode cX12_setIll 76 = .ok (.iadd, 1) := by decide +kernel
theorem dX12_setIll_77 : decode cX12_setIll 77 = .ok (.iaload, 1) := by decide +kernel
theorem dX12_setIll_78 : decode cX12_setIll 78 = .ok (.iconst 1, 1) := by decide +kernel
theorem dX12_setIll_79 : decode cX12_setIll 79 = .ok (.iload_n 2, 1) := by decide +kernel
theorem dX12_setIll_80 : decode cX12_setIll 80 = .ok (.ishl, 1) := by decide +kernel
theorem dX12_setIll_81 : decode cX12_setIll 81 = .ok (.iconst (-1), 1) := by decide +kernel
theorem dX12_setIll_82 : decode cX12_setIll 82 = .ok (.ixor, 1) := by decide +kernel
theorem dX12_setIll_83 : decode cX12_setIll 83 = .ok (.iand, 1) := by decide +kernel
theorem dX12_setIll_84 : decode cX12_setIll 84 = .ok (.iastore, 1) := by decide +kernel
theorem dX12_setIll_85 : decode cX12_setIll 85 = .ok (.iload 4, 2) := by decide +kernel
theorem dX12_setIll_87 : decode cX12_setIll 87 = .ok (.ireturn, 1) := by decide +kernel
set_option maxRecDepth 20000 in
theorem ggX12_ill_X12_in : GoodIn wsX12_ill wsX12_in := goodIn_r _ [7] (by decide +kernel) (by decide +kernel)
set_option maxRecDepth 20000 in
theorem gX12_ill_X12_in : GoodIn wsX12_ill (va_wsS RX12 92 yX12_in wsX12_in) := goodIn_app (goodIn_of _ (by decide +kernel)) ggX12_ill_X12_in
set_option maxRecDepth 20000 in
theorem ggX12_ill_X12_fails : GoodIn wsX12_ill wsX12_fails := goodIn_r _ [11, 1, 62, 63, 64, 65, 66, 67, 68, 69, 70, 71, 72, 73, 74, 75, 76, 77, 78, 79, 80, 81, 82, 83, 84, 85, 86, 87, 88, 89, 90, 91] (by decide +kernel) (by decide +kernel)
set_option maxRecDepth 20000 in
theorem gX12_ill_X12_fails : GoodIn wsX12_ill (wsV RX12 96 RX12 yX12_fails wsX12_fails) := goodIn_app (goodIn_of _ (by decide +kernel)) ggX12_ill_X12_fails
set_option maxRecDepth 20000 in
theorem ggX12_ill_X12_noTable : GoodIn wsX12_ill wsX12_noTable := goodIn_r _ [15, 16, 8, 9, 10, 6, 11, 1, 62, 63, 64, 65, 66, 67, 68, 69, 70, 71, 72, 73, 74, 75, 76, 77, 78, 79, 80, 81, 82, 83, 84, 85, 86, 87, 88, 89, 90, 91] (by decide +kernel) (by decide +kernel)
set_option maxRecDepth 20000 in
theorem gX12_ill_X12_noTable : GoodIn wsX12_ill (wsV RX12 179 RX12 yX12_noTable wsX12_noTable) := goodIn_app (goodIn_of _ (by decide +kernel)) ggX12_ill_X12_noTable
set_option maxRecDepth 20000 in
theorem ggX12_ill_X12_looksAtTable : GoodIn wsX12_ill wsX12_looksAtTable := goodIn_r _ [20, 21, 16, 22, 23, 24, 25, 6, 26, 62, 63, 64, 65, 66, 67, 68, 69, 70, 71, 72, 73, 74, 75, 76, 77, 78, 79, 80, 81, 82, 83, 84, 85, 86, 87, 88, 89, 90, 91] (by decide +kernel) (by decide +kernel)
set_option maxRecDepth 20000 in
theorem gX12_ill_X12_looksAtTable : GoodIn wsX12_ill (wsV RX12 189 RX12 yX12_looksAtTable wsX12_looksAtTable) := goodIn_app (goodIn_of _ (by decide +kernel)) ggX12_ill_X12_looksAtTable
set_option maxRecDepth 20000 in
theorem ggX12_ill_X12_plans : GoodIn wsX12_ill wsX12_plans := goodIn_r _ [30, 2, 16, 31, 3, 32, 33, 23, 24, 25, 6, 26, 34, 35, 36, 37, 21, 38, 39, 40, 41, 42, 43, 44, 45, 46, 47, 48, 49, 50, 51, 52, 53, 54, 55, 56, 57, 58, 59, 60, 61, 62, 63, 64, 65, 66, 67, 68, 69, 70, 71, 72, 73, 74, 75, 76, 77, 78, 79, 80, 81, 82, 83, 84, 85, 86, 87, 88, 89, 90, 91] (by decide +kernel) (by decide +kernel)
set_option maxRecDepth 20000 in
theorem gX12_ill_X12_plans : GoodIn wsX12_ill (wsV RX12 244 RX12 yX12_plans wsX12_plans) := goodIn_app (goodIn_of _ (by decide +kernel)) ggX12_ill_X12_plans
theorem dX12_ill_0 : decode cX12_ill 0 = .ok (.aload_n 0, 1) := by decide +kernel
theorem dX12_ill_1 : decode cX12_ill 1 = .ok (.iconst 0, 1) := by decide +kernel
theorem dX12_ill_2 : decode cX12_ill 2 = .ok (.putfield 1, 3) := by decide +kernel
theorem dX12_ill_5 : decode cX12_ill 5 = .ok (.aload_n 0, 1) := by decide +kernel
theorem dX12_ill_6 : decode cX12_ill 6 = .ok (.iload_n 1, 1) := by decide +kernel
theorem dX12_ill_7 : decode cX12_ill 7 = .ok (.iconst 0, 1) := by decide +kernel
theorem dX12_ill_8 : decode cX12_ill 8 = .ok (.iconst 4, 1) := by decide +kernel
theorem dX12_ill_9 : decode cX12_ill 9 = .ok (.invokestatic 92, 3) := by decide +kernel
theorem dX12_ill_12 : decode cX12_ill 12 = .ok (.iconst 1, 1) := by decide +kernel
theorem dX12_ill_13 : decode cX12_ill 13 = .ok (.invokevirtual 96, 3) := by decide +kernel
theorem dX12_ill_16 : decode cX12_ill 16 = .ok (.ifCond .ne 11, 3) := by decide +kernel
theorem dX12_ill_19 : decode cX12_ill 19 = .ok (.aload_n 0, 1) := by decide +kernel
theorem dX12_ill_20 : decode cX12_ill 20 = .ok (.iconst 2, 1) := by decide +kernel
theorem dX12_ill_21 : decode cX12_ill 21 = .ok (.invokevirtual 179, 3) := by decide +kernel
theorem dX12_ill_24 : decode cX12_ill 24 = .ok (.ifCond .eq 5, 3) := by decide +kernel
theorem dX12_ill_27 : decode cX12_ill 27 = .ok (.iconst 0, 1) := by decide +kernel
theorem dX12_ill_28 : decode cX12_ill 28 = .ok (.ireturn, 1) := by decide +kernel
theorem dX12_ill_29 : decode cX12_ill 29 = .ok (.aload_n 0, 1) := by decide +kernel
theorem dX12_ill_30 : decode cX12_ill 30 = .ok (.invokevirtual 189, 3) := by decide +kernel
theorem dX12_ill_33 : decode cX12_ill 33 = .ok (.iconst 0, 1) := by decide +kernel
theorem dX12_ill_34 : decode cX12_ill 34 = .ok (.istore_n 3, 1) := by decide +kernel
theorem dX12_ill_35 : decode cX12_ill 35 = .ok (.iconst 4, 1) := by decide +kernel
theorem dX12_ill_36 : decode cX12_ill 36 = .ok (.iload_n 1, 1) := by decide +kernel
theorem dX12_ill_37 : decode cX12_ill 37 = .ok (.imul, 1) := by decide +kernel
theorem dX12_ill_38 : decode cX12_ill 38 = .ok (.istore 4, 2) := by decide +kernel
theorem dX12_ill_40 : decode cX12_ill 40 = .ok (.iload 4, 2) := by decide +kernel
theorem dX12_ill_42 : decode cX12_ill 42 = .ok (.iconst 4, 1) := by decide +kernel
theorem dX12_ill_43 : decode cX12_ill 43 = .ok (.iload_n 1, 1) := by decide +kernel
theorem dX12_ill_44 : decode cX12_ill 44 = .ok (.imul, 1) := by decide +kernel
theorem dX12_ill_45 : decode cX12_ill 45 = .ok (.iconst 4, 1) := by decide +kernel
theorem dX12_ill_46 : decode cX12_ill 46 = .ok (.iadd, 1) := by decide +kernel
theorem dX12_ill_47 : decode cX12_ill 47 = .ok (.if_icmp .ge 38, 3) := by decide +kernel
theorem dX12_ill_50 : decode cX12_ill 50 = .ok (.aload_n 0, 1) := by decide +kernel
theorem dX12_ill_51 : decode cX12_ill 51 = .ok (.iload 4, 2) := by decide +kernel
theorem dX12_ill_53 : decode cX12_ill 53 = .ok (.invokevirtual 244, 3) := by decide +kernel
theorem dX12_ill_56 : decode cX12_ill 56 = .ok (.iload_n 3, 1) := by decide +kernel
theorem dX12_ill_57 : decode cX12_ill 57 = .ok (.iload_n 2, 1) := by decide +kernel
theorem dX12_ill_58 : decode cX12_ill 58 = .ok (.ifCond .eq 15, 3) := by decide +kernel
theorem dX12_ill_61 : decode cX12_ill 61 = .ok (.aload_n 0, 1) := by decide +kernel
theorem dX12_ill_62 : decode cX12_ill 62 = .ok (.getfield 232, 3) := by decide +kernel
theorem dX12_ill_65 : decode cX12_ill 65 = .ok (.aload_n 0, 1) := by decide +kernel
theorem dX12_ill_66 : decode cX12_ill 66 = .ok (.getfield 235, 3) := by decide +kernel
theorem dX12_ill_69 : decode cX12_ill 69 = .ok (.isub, 1) := by decide +kernel
theorem dX12_ill_70 : decode cX12_ill 70 = .ok (.goto 7, 3) := by decide +kernel
theorem dX12_ill_73 : decode cX12_ill 73 = .ok (.aload_n 0, 1) := by decide +kernel
theorem dX12_ill_74 : decode cX12_ill 74 = .ok (.getfield 232, 3) := by decide +kernel
theorem dX12_ill_77 : decode cX12_ill 77 = .ok (.iadd, 1) := by decide +kernel
theorem dX12_ill_78 : decode cX12_ill 78 = .ok (.istore_n 3, 1) := by decide +kernel
theorem dX12_ill_79 : decode cX12_ill 79 = .ok (.iinc 4 1, 3) := by decide +kernel
theorem dX12_ill_82 : decode cX12_ill 82 = .ok (.goto (-42), 3) := by decide +kernel
theorem dX12_ill_85 : decode cX12_ill 85 = .ok (.iload_n 3, 1) := by decide +kernel
theorem dX12_ill_86 : decode cX12_ill 86 = .ok (.ireturn, 1) := by decide +kernel
set_option maxRecDepth 20000 in
theorem ggX12_substitute_X12_noLesson : GoodIn wsX12_substitute wsX12_noLesson := goodIn_r _ [9, 10, 11, 12, 8, 13, 14, 15, 16, 17, 18, 19, 20, 21, 1, 66, 67, 68, 69, 70, 71, 72, 73, 74, 75, 76, 77, 78, 79, 80, 81, 82, 83, 84, 85, 86, 87, 88, 89, 90, 91, 92, 93, 94, 95] (by decide +kernel) (by decide +kernel)
set_option maxRecDepth 20000 in
theorem gX12_substitute_X12_noLesson : GoodIn wsX12_substitute (wsV RX12 107 RX12 yX12_noLesson wsX12_noLesson) := goodIn_app (goodIn_of _ (by decide +kernel)) ggX12_substitute_X12_noLesson
set_option maxRecDepth 20000 in
theorem ggX12_substitute_X12_in : GoodIn wsX12_substitute wsX12_in := goodIn_r _ [17] (by decide +kernel) (by decide +kernel)
set_option maxRecDepth 20000 in
theorem gX12_substitute_X12_in : GoodIn wsX12_substitute (va_wsS RX12 92 yX12_in wsX12_in) := goodIn_app (goodIn_of _ (by decide +kernel)) ggX12_substitute_X12_in
set_option maxRecDepth 20000 in
theorem ggX12_substitute_X12_fails : GoodIn wsX12_substitute wsX12_fails := goodIn_r _ [21, 1, 66, 67, 68, 69, 70, 71, 72, 73, 74, 75, 76, 77, 78, 79, 80, 81, 82, 83, 84, 85, 86, 87, 88, 89, 90, 91, 92, 93, 94, 95] (by decide +kernel) (by decide +kernel)
set_option maxRecDepth 20000 in
theorem gX12_substitute_X12_fails : GoodIn wsX12_substitute (wsV RX12 96 RX12 yX12_fails wsX12_fails) := goodIn_app (goodIn_of _ (by decide +kernel)) ggX12_substitute_X12_fails
set_option maxRecDepth 20000 in
theorem ggX12_substitute_X12_noTable : GoodIn wsX12_substitute wsX12_noTable := goodIn_r _ [25, 14, 18, 19, 20, 8, 21, 1, 66, 67, 68, 69, 70, 71, 72, 73, 74, 75, 76, 77, 78, 79, 80, 81, 82, 83, 84, 85, 86, 87, 88, 89, 90, 91, 92, 93, 94, 95] (by decide +kernel) (by decide +kernel)
set_option maxRecDepth 20000 in
theorem gX12_substitute_X12_noTable : GoodIn wsX12_substitute (wsV RX12 179 RX12 yX12_noTable wsX12_noTable) := goodIn_app (goodIn_of _ (by decide +kernel)) ggX12_substitute_X12_noTable
set_option maxRecDepth 20000 in
theorem ggX12_substitute_X12_looksAtTable : GoodIn wsX12_substitute wsX12_looksAtTable := goodIn_r _ [29, 30, 14, 31, 10, 11, 12, 8, 13, 66, 67, 68, 69, 70, 71, 72, 73, 74, 75, 76, 77, 78, 79, 80, 81, 82, 83, 84, 85, 86, 87, 88, 89, 90, 91, 92, 93, 94, 95] (by decide +kernel) (by decide +kernel)
set_option maxRecDepth 20000 in
theorem gX12_substitute_X12_looksAtTable : GoodIn wsX12_substitute (wsV RX12 189 RX12 yX12_looksAtTable wsX12_looksAtTable) := goodIn_app (goodIn_of _ (by decide +kernel)) ggX12_substitute_X12_looksAtTable
set_option maxRecDepth 20000 in
theorem ggX12_substitute_X12_plans : GoodIn wsX12_substitute wsX12_plans := goodIn_r _ [35, 2, 14, 3, 36, 37, 4, 10, 11, 12, 8, 13, 38, 39, 40, 41, 30, 42, 43, 44, 45, 46, 47, 48, 49, 50, 51, 52, 53, 54, 55, 56, 57, 58, 59, 60, 61, 62, 63, 64, 65, 66, 67, 68, 69, 70, 71, 72, 73, 74, 75, 76, 77, 78, 79, 80, 81, 82, 83, 84, 85, 86, 87, 88, 89, 90, 91, 92, 93, 94, 95] (by decide +kernel) (by decide +kernel)
set_option maxRecDepth 20000 in
theorem gX12_substitute_X12_plans : GoodIn wsX12_substitute (wsV RX12 244 RX12 yX12_plans wsX12_plans) := goodIn_app (goodIn_of _ (by decide +kernel)) ggX12_substitute_X12_plans
theorem dX12_substitute_0 : decode cX12_substitute 0 = .ok (.aload_n 0, 1) := by decide +kernel
theorem dX12_substitute_1 : decode cX12_substitute 1 = .ok (.iconst 0, 1) := by decide +kernel
theorem dX12_substitute_2 : decode cX12_substitute 2 = .ok (.putfield 1, 3) := by decide +kernel
theorem dX12_substitute_5 : decode cX12_substitute 5 = .ok (.aload_n 0, 1) := by decide +kernel
theorem dX12_substitute_6 : decode cX12_substitute 6 = .ok (.iload_n 1, 1) := by decide +kernel
theorem dX12_substitute_7 : decode cX12_substitute 7 = .ok (.iconst 1, 1) := by decide +kernel
theorem dX12_substitute_8 : decode cX12_substitute 8 = .ok (.invokevirtual 107, 3) := by decide +kernel
theorem dX12_substitute_11 : decode cX12_substitute 11 = .ok (.ifCond .ne 26, 3) := by decide +kernel
theorem dX12_substitute_14 : decode cX12_substitute 14 = .ok (.aload_n 0, 1) := by decide +kernel
theorem dX12_substitute_15 : decode cX12_substitute 15 = .ok (.iload_n 2, 1) := by decide +kernel
theorem dX12_substitute_16 : decode cX12_substitute 16 = .ok (.iconst 0, 1) := by decide +kernel
theorem dX12_substitute_17 : decode cX12_substitute 17 = .ok (.bipush 19, 2) := by decide +kernel
theorem dX12_substitute_19 : decode cX12_substitute 19 = .ok (.invokestatic 92, 3) := by decide +kernel
theorem dX12_substitute_22 : decode cX12_substitute 22 = .ok (.iconst 2, 1) := by decide +kernel
theorem dX12_substitute_23 : decode cX12_substitute 23 = .ok (.invokevirtual 96, 3) := by decide +kernel
theorem dX12_substitute_26 : decode cX12_substitute 26 = .ok (.ifCond .ne 11, 3) := by decide +kernel
theorem dX12_substitute_29 : decode cX12_substitute 29 = .ok (.aload_n 0, 1) := by decide +kernel
theorem dX12_substitute_30 : decode cX12_substitute 30 = .ok (.iconst 3, 1) := by decide +kernel
theorem dX12_substitute_31 : decode cX12_substitute 31 = .ok (.invokevirtual 179, 3) := by decide +kernel
theorem dX12_substitute_34 : decode cX12_substitute 34 = .ok (.ifCond .eq 5, 3) := by decide +kernel
theorem dX12_substitute_37 : decode cX12_substitute 37 = .ok (.iconst 0, 1) := by decide +kernel
theorem dX12_substitute_38 : decode cX12_substitute 38 = .ok (.ireturn, 1) := by decide +kernel
theorem dX12_substitute_39 : decode cX12_substitute 39 = .ok (.aload_n 0, 1) := by decide +kernel
theorem dX12_substitute_40 : decode cX12_substitute 40 = .ok (.invokevirtual 189, 3) := by decide +kernel
theorem dX12_substitute_43 : decode cX12_substitute 43 = .ok (.aload_n 0, 1) := by decide +kernel
theorem dX12_substitute_44 : decode cX12_substitute 44 = .ok (.iload_n 2, 1) := by decide +kernel
theorem dX12_substitute_45 : decode cX12_substitute 45 = .ok (.invokevirtual 244, 3) := by decide +kernel
theorem dX12_substitute_48 : decode cX12_substitute 48 = .ok (.iconst 0, 1) := by decide +kernel
theorem dX12_substitute_49 : decode cX12_substitute 49 = .ok (.istore_n 3, 1) := by decide +kernel
theorem dX12_substitute_50 : decode cX12_substitute 50 = .ok (.iload_n 3, 1) := by decide +kernel
theorem dX12_substitute_51 : decode cX12_substitute 51 = .ok (.aload_n 0, 1) := by decide +kernel
theorem dX12_substitute_52 : decode cX12_substitute 52 = .ok (.getfield 232, 3) := by decide +kernel
theorem dX12_substitute_55 : decode cX12_substitute 55 = .ok (.if_icmp .ge 37, 3) := by decide +kernel
theorem dX12_substitute_58 : decode cX12_substitute 58 = .ok (.aload_n 0, 1) := by decide +kernel
theorem dX12_substitute_59 : decode cX12_substitute 59 = .ok (.getfield 45, 3) := by decide +kernel
theorem dX12_substitute_62 : decode cX12_substitute 62 = .ok (.iload_n 3, 1) := by decide +kernel
theorem dX12_substitute_63 : decode cX12_substitute 63 = .ok (.iaload, 1) := by decide +kernel
theorem dX12_substitute_64 : decode cX12_substitute 64 = .ok (.iload_n 1, 1) := by decide +kernel
theorem dX12_substitute_65 : decode cX12_substitute 65 = .ok (.if_icmp .ne 21, 3) := by decide +kernel
theorem dX12_substitute_68 : decode cX12_substitute 68 = .ok (.aload_n 0, 1) := by decide +kernel
theorem dX12_substitute_69 : decode cX12_substitute 69 = .ok (.getfield 51, 3) := by decide +kernel
theorem dX12_substitute_72 : decode cX12_substitute 72 = .ok (.iload_n 3, 1) := by decide +kernel
theorem dX12_substitute_73 : decode cX12_substitute 73 = .ok (.iaload, 1) := by decide +kernel
theorem dX12_substitute_74 : decode cX12_substitute 74 = .ok (.bipush 6, 2) := by decide +kernel
theorem dX12_substitute_76 : decode cX12_substitute 76 = .ok (.if_icmp .ge 10, 3) := by decide +kernel
theorem dX12_substitute_79 : decode cX12_substitute 79 = .ok (.aload_n 0, 1) := by decide +kernel
theorem dX12_substitute_80 : decode cX12_substitute 80 = .ok (.getfield 51, 3) := by decide +kernel
theorem dX12_substitute_83 : decode cX12_substitute 83 = .ok (.iload_n 3, 1) := by decide +kernel
theorem dX12_substitute_84 : decode cX12_substitute 84 = .ok (.iaload, 1) := by decide +kernel
theorem dX12_substitute_85 : decode cX12_substitute 85 = .ok (.ireturn, 1) := by decide +kernel
theorem dX12_substitute_86 : decode cX12_substitute 86 = .ok (.iinc 3 1, 3) := by decide +kernel
theorem dX12_substitute_89 : decode cX12_substitute 89 = .ok (.goto (-39), 3) := by decide +kernel
theorem dX12_substitute_92 : decode cX12_substitute 92 = .ok (.iconst (-1), 1) := by decide +kernel
theorem dX12_substitute_93 : decode cX12_substitute 93 = .ok (.ireturn, 1) := by decide +kernel
set_option maxRecDepth 20000 in
theorem ggX12_takes_X12_noTeacher : GoodIn wsX12_takes wsX12_noTeacher := goodIn_r _ [8, 9, 10, 7, 11, 12, 13, 14, 15, 1, 66, 67, 68, 69, 70, 71, 72, 73, 74, 75, 76, 77, 78, 79, 80, 81, 82, 83, 84, 85, 86, 87, 88, 89, 90, 91, 92, 93, 94, 95] (by decide +kernel) (by decide +kernel)
set_option maxRecDepth 20000 in
theorem gX12_takes_X12_noTeacher : GoodIn wsX12_takes (wsV RX12 122 RX12 yX12_noTeacher wsX12_noTeacher) := goodIn_app (goodIn_of _ (by decide +kernel)) ggX12_takes_X12_noTeacher
set_option maxRecDepth 20000 in
theorem ggX12_takes_X12_noTable : GoodIn wsX12_takes wsX12_noTable := goodIn_r _ [19, 20, 12, 13, 14, 7, 15, 1, 66, 67, 68, 69, 70, 71, 72, 73, 74, 75, 76, 77, 78, 79, 80, 81, 82, 83, 84, 85, 86, 87, 88, 89, 90, 91, 92, 93, 94, 95] (by decide +kernel) (by decide +kernel)
set_option maxRecDepth 20000 in
theorem gX12_takes_X12_noTable : GoodIn wsX12_takes (wsV RX12 179 RX12 yX12_noTable wsX12_noTable) := goodIn_app (goodIn_of _ (by decide +kernel)) ggX12_takes_X12_noTable
set_option maxRecDepth 20000 in
theorem ggX12_takes_X12_looksAtTable : GoodIn wsX12_takes wsX12_looksAtTable := goodIn_r _ [24, 25, 20, 26, 27, 28, 29, 7, 30, 66, 67, 68, 69, 70, 71, 72, 73, 74, 75, 76, 77, 78, 79, 80, 81, 82, 83, 84, 85, 86, 87, 88, 89, 90, 91, 92, 93, 94, 95] (by decide +kernel) (by decide +kernel)
set_option maxRecDepth 20000 in
theorem gX12_takes_X12_looksAtTable : GoodIn wsX12_takes (wsV RX12 189 RX12 yX12_looksAtTable wsX12_looksAtTable) := goodIn_app (goodIn_of _ (by decide +kernel)) ggX12_takes_X12_looksAtTable
set_option maxRecDepth 20000 in
theorem ggX12_takes_X12_plans : GoodIn wsX12_takes wsX12_plans := goodIn_r _ [34, 2, 20, 35, 36, 37, 3, 27, 28, 29, 7, 30, 38, 39, 40, 41, 25, 42, 43, 44, 45, 46, 47, 48, 49, 50, 51, 52, 53, 54, 55, 56, 57, 58, 59, 60, 61, 62, 63, 64, 65, 66, 67, 68, 69, 70, 71, 72, 73, 74, 75, 76, 77, 78, 79, 80, 81, 82, 83, 84, 85, 86, 87, 88, 89, 90, 91, 92, 93, 94, 95] (by decide +kernel) (by decide +kernel)
set_option maxRecDepth 20000 in
theorem gX12_takes_X12_plans : GoodIn wsX12_takes (wsV RX12 244 RX12 yX12_plans wsX12_plans) := goodIn_app (goodIn_of _ (by decide +kernel)) ggX12_takes_X12_plans
theorem dX12_takes_0 : decode cX12_takes 0 = .ok (.aload_n 0, 1) := by decide +kernel
theorem dX12_takes_1 : decode cX12_takes 1 = .ok (.iconst 0, 1) := by decide +kernel
theorem dX12_takes_2 : decode cX12_takes 2 = .ok (.putfield 1, 3) := by decide +kernel
theorem dX12_takes_5 : decode cX12_takes 5 = .ok (.aload_n 0, 1) := by decide +kernel
theorem dX12_takes_6 : decode cX12_takes 6 = .ok (.iload_n 1, 1) := by decide +kernel
theorem dX12_takes_7 : decode cX12_takes 7 = .ok (.invokevirtual 122, 3) := by decide +kernel
theorem dX12_takes_10 : decode cX12_takes 10 = .ok (.ifCond .ne 11, 3) := by decide +kernel
theorem dX12_takes_13 : decode cX12_takes 13 = .ok (.aload_n 0, 1) := by decide +kernel
theorem dX12_takes_14 : decode cX12_takes 14 = .ok (.iconst 2, 1) := by decide +kernel
theorem dX12_takes_15 : decode cX12_takes 15 = .ok (.invokevirtual 179, 3) := by decide +kernel
theorem dX12_takes_18 : decode cX12_takes 18 = .ok (.ifCond .eq 5, 3) := by decide +kernel
theorem dX12_takes_21 : decode cX12_takes 21 = .ok (.iconst 0, 1) := by decide +kernel
theorem dX12_takes_22 : decode cX12_takes 22 = .ok (.ireturn, 1) := by decide +kernel
theorem dX12_takes_23 : decode cX12_takes 23 = .ok (.aload_n 0, 1) := by decide +kernel
theorem dX12_takes_24 : decode cX12_takes 24 = .ok (.invokevirtual 189, 3) := by decide +kernel
theorem dX12_takes_27 : decode cX12_takes 27 = .ok (.iconst 0, 1) := by decide +kernel
theorem dX12_takes_28 : decode cX12_takes 28 = .ok (.istore_n 2, 1) := by decide +kernel
theorem dX12_takes_29 : decode cX12_takes 29 = .ok (.iconst 0, 1) := by decide +kernel
theorem dX12_takes_30 : decode cX12_takes 30 = .ok (.istore_n 3, 1) := by decide +kernel
theorem dX12_takes_31 : decode cX12_takes 31 = .ok (.iload_n 3, 1) := by decide +kernel
theorem dX12_takes_32 : decode cX12_takes 32 = .ok (.bipush 20, 2) := by decide +kernel
theorem dX12_takes_34 : decode cX12_takes 34 = .ok (.if_icmp .ge 51, 3) := by decide +kernel
theorem dX12_takes_37 : decode cX12_takes 37 = .ok (.aload_n 0, 1) := by decide +kernel
theorem dX12_takes_38 : decode cX12_takes 38 = .ok (.iload_n 3, 1) := by decide +kernel
theorem dX12_takes_39 : decode cX12_takes 39 = .ok (.invokevirtual 244, 3) := by decide +kernel
theorem dX12_takes_42 : decode cX12_takes 42 = .ok (.iconst 0, 1) := by decide +kernel
theorem dX12_takes_43 : decode cX12_takes 43 = .ok (.istore 4, 2) := by decide +kernel
theorem dX12_takes_45 : decode cX12_takes 45 = .ok (.iload 4, 2) := by decide +kernel
theorem dX12_takes_47 : decode cX12_takes 47 = .ok (.aload_n 0, 1) := by decide +kernel
theorem dX12_takes_48 : decode cX12_takes 48 = .ok (.getfield 232, 3) := by decide +kernel
theorem dX12_takes_51 : decode cX12_takes 51 = .ok (.if_icmp .ge 28, 3) := by decide +kernel
theorem dX12_takes_54 : decode cX12_takes 54 = .ok (.iload_n 2, 1) := by decide +kernel
theorem dX12_takes_55 : decode cX12_takes 55 = .ok (.aload_n 0, 1) := by decide +kernel
theorem dX12_takes_56 : decode cX12_takes 56 = .ok (.getfield 51, 3) := by decide +kernel
theorem dX12_takes_59 : decode cX12_takes 59 = .ok (.iload 4, 2) := by decide +kernel
theorem dX12_takes_61 : decode cX12_takes 61 = .ok (.iaload, 1) := by decide +kernel
theorem dX12_takes_62 : decode cX12_takes 62 = .ok (.iload_n 1, 1) := by decide +kernel
theorem dX12_takes_63 : decode cX12_takes 63 = .ok (.if_icmp .ne 7, 3) := by decide +kernel
theorem dX12_takes_66 : decode cX12_takes 66 = .ok (.iconst 1, 1) := by decide +kernel
theorem dX12_takes_67 : decode cX12_takes 67 = .ok (.goto 4, 3) := by decide +kernel
theorem dX12_takes_70 : decode cX12_takes 70 = .ok (.iconst 0, 1) := by decide +kernel
theorem dX12_takes_71 : decode cX12_takes 71 = .ok (.iadd, 1) := by decide +kernel
theorem dX12_takes_72 : decode cX12_takes 72 = .ok (.istore_n 2, 1) := by decide +kernel
theorem dX12_takes_73 : decode cX12_takes 73 = .ok (.iinc 4 1, 3) := by decide +kernel
theorem dX12_takes_76 : decode cX12_takes 76 = .ok (.goto (-31), 3) := by decide +kernel
theorem dX12_takes_79 : decode cX12_takes 79 = .ok (.iinc 3 1, 3) := by decide +kernel
theorem dX12_takes_82 : decode cX12_takes 82 = .ok (.goto (-51), 3) := by decide +kernel
theorem dX12_takes_85 : decode cX12_takes 85 = .ok (.iload_n 2, 1) := by decide +kernel
theorem dX12_takes_86 : decode cX12_takes 86 = .ok (.ireturn, 1) := by decide +kernel
theorem dX12_areApart_0 : decode cX12_areApart 0 = .ok (.aload_n 0, 1) := by decide +kernel
theorem dX12_areApart_1 : decode cX12_areApart 1 = .ok (.getfield 13, 3) := by decide +kernel
theorem dX12_areApart_4 : decode cX12_areApart 4 = .ok (.bipush 108, 2) := by decide +kernel
theorem dX12_areApart_6 : decode cX12_areApart 6 = .ok (.iload_n 1, 1) := by decide +kernel
theorem dX12_areApart_7 : decode cX12_areApart 7 = .ok (.iadd, 1) := by decide +kernel
theorem dX12_areApart_8 : decode cX12_areApart 8 = .ok (.iaload, 1) := by decide +kernel
theorem dX12_areApart_9 : decode cX12_areApart 9 = .ok (.iload_n 2, 1) := by decide +kernel
theorem dX12_areApart_10 : decode cX12_areApart 10 = .ok (.ishr, 1) := by decide +kernel
theorem dX12_areApart_11 : decode cX12_areApart 11 = .ok (.iconst 1, 1) := by decide +kernel
theorem dX12_areApart_12 : decode cX12_areApart 12 = .ok (.iand, 1) := by decide +kernel
theorem dX12_areApart_13 : decode cX12_areApart 13 = .ok (.iconst 1, 1) := by decide +kernel
theorem dX12_areApart_14 : decode cX12_areApart 14 = .ok (.if_icmp .ne 7, 3) := by decide +kernel
theorem dX12_areApart_17 : decode cX12_areApart 17 = .ok (.iconst 1, 1) := by decide +kernel
theorem dX12_areApart_18 : decode cX12_areApart 18 = .ok (.goto 4, 3) := by decide +kernel
theorem dX12_areApart_21 : decode cX12_areApart 21 = .ok (.iconst 0, 1) := by decide +kernel
theorem dX12_areApart_22 : decode cX12_areApart 22 = .ok (.ireturn, 1) := by decide +kernel
set_option maxRecDepth 20000 in
theorem ggX12_isDayGood_X12_areApart : GoodIn wsX12_isDayGood wsX12_areApart := goodIn_r _ [6, 7, 8, 9, 10, 11, 12, 13, 14, 15, 16, 17, 18, 19, 20, 21, 22, 23, 24, 25, 26, 27, 28, 29, 30, 31, 32, 33, 34, 35, 36, 37] (by decide +kernel) (by decide +kernel)
set_option maxRecDepth 20000 in
theorem gX12_isDayGood_X12_areApart : GoodIn wsX12_isDayGood (wsV RX12 247 RX12 yX12_areApart wsX12_areApart) := goodIn_app (goodIn_of _ (by decide +kernel)) ggX12_isDayGood_X12_areApart
theorem dX12_isDayGood_0 : decode cX12_isDayGood 0 = .ok (.iconst 0, 1) := by decide +kernel
theorem dX12_isDayGood_1 : decode cX12_isDayGood 1 = .ok (.istore_n 2, 1) := by decide +kernel
theorem dX12_isDayGood_2 : decode cX12_isDayGood 2 = .ok (.iload_n 2, 1) := by decide +kernel
theorem dX12_isDayGood_3 : decode cX12_isDayGood 3 = .ok (.iload_n 1, 1) := by decide +kernel
theorem dX12_isDayGood_4 : decode cX12_isDayGood 4 = .ok (.if_icmp .ge 35, 3) := by decide +kernel
theorem dX12_isDayGood_7 : decode cX12_isDayGood 7 = .ok (.aload_n 0, 1) := by decide +kernel
theorem dX12_isDayGood_8 : decode cX12_isDayGood 8 = .ok (.iload_n 1, 1) := by decide +kernel
theorem dX12_isDayGood_9 : decode cX12_isDayGood 9 = .ok (.iload_n 2, 1) := by decide +kernel
theorem dX12_isDayGood_10 : decode cX12_isDayGood 10 = .ok (.invokevirtual 247, 3) := by decide +kernel
theorem dX12_isDayGood_13 : decode cX12_isDayGood 13 = .ok (.ifCond .eq 20, 3) := by decide +kernel
theorem dX12_isDayGood_16 : decode cX12_isDayGood 16 = .ok (.aload_n 0, 1) := by decide +kernel
theorem dX12_isDayGood_17 : decode cX12_isDayGood 17 = .ok (.getfield 54, 3) := by decide +kernel
theorem dX12_isDayGood_20 : decode cX12_isDayGood 20 = .ok (.iload_n 2, 1) := by decide +kernel
theorem dX12_isDayGood_21 : decode cX12_isDayGood 21 = .ok (.iaload, 1) := by decide +kernel
theorem dX12_isDayGood_22 : decode cX12_isDayGood 22 = .ok (.aload_n 0, 1) := by decide +kernel
theorem dX12_isDayGood_23 : decode cX12_isDayGood 23 = .ok (.getfield 54, 3) := by decide +kernel
theorem dX12_isDayGood_26 : decode cX12_isDayGood 26 = .ok (.iload_n 1, 1) := by decide +kernel
theorem dX12_isDayGood_27 : decode cX12_isDayGood 27 = .ok (.iaload, 1) := by decide +kernel
theorem dX12_isDayGood_28 : decode cX12_isDayGood 28 = .ok (.if_icmp .ne 5, 3) := by decide +kernel
theorem dX12_isDayGood_31 : decode cX12_isDayGood 31 = .ok (.iconst 0, 1) := by decide +kernel
theorem dX12_isDayGood_32 : decode cX12_isDayGood 32 = .ok (.ireturn, 1) := by decide +kernel
theorem dX12_isDayGood_33 : decode cX12_isDayGood 33 = .ok (.iinc 2 1, 3) := by decide +kernel
theorem dX12_isDayGood_36 : decode cX12_isDayGood 36 = .ok (.goto (-34), 3) := by decide +kernel
theorem dX12_isDayGood_39 : decode cX12_isDayGood 39 = .ok (.iconst 1, 1) := by decide +kernel
theorem dX12_isDayGood_40 : decode cX12_isDayGood 40 = .ok (.ireturn, 1) := by decide +kernel
set_option maxRecDepth 20000 in
theorem ggX12_plansDays_X12_isDayGood : GoodIn wsX12_plansDays wsX12_isDayGood := goodIn_r _ [6, 1, 7, 8, 9, 5, 10, 11, 12, 13, 14, 15, 16, 17, 18, 19, 20, 21, 22, 23, 24, 25, 26, 27, 28, 29, 30, 31, 32, 33, 34, 35, 36, 37, 38, 39, 40, 41] (by decide +kernel) (by decide +kernel)
set_option maxRecDepth 20000 in
theorem gX12_plansDays_X12_isDayGood : GoodIn wsX12_plansDays (wsV RX12 250 RX12 yX12_isDayGood wsX12_isDayGood) := goodIn_app (goodIn_of _ (by decide +kernel)) ggX12_plansDays_X12_isDayGood
theorem dX12_plansDays_0 : decode cX12_plansDays 0 = .ok (.iconst 0, 1) := by decide +kernel
theorem dX12_plansDays_1 : decode cX12_plansDays 1 = .ok (.istore_n 2, 1) := by decide +kernel
theorem dX12_plansDays_2 : decode cX12_plansDays 2 = .ok (.aload_n 0, 1) := by decide +kernel
theorem dX12_plansDays_3 : decode cX12_plansDays 3 = .ok (.getfield 54, 3) := by decide +kernel
theorem dX12_plansDays_6 : decode cX12_plansDays 6 = .ok (.iconst 0, 1) := by decide +kernel
theorem dX12_plansDays_7 : decode cX12_plansDays 7 = .ok (.iconst (-1), 1) := by decide +kernel
theorem dX12_plansDays_8 : decode cX12_plansDays 8 = .ok (.iastore, 1) := by decide +kernel
theorem dX12_plansDays_9 : decode cX12_plansDays 9 = .ok (.iload_n 2, 1) := by decide +kernel
theorem dX12_plansDays_10 : decode cX12_plansDays 10 = .ok (.bipush 8, 2) := by decide +kernel
theorem dX12_plansDays_12 : decode cX12_plansDays 12 = .ok (.if_icmp .ge 85, 3) := by decide +kernel
theorem dX12_plansDays_15 : decode cX12_plansDays 15 = .ok (.aload_n 0, 1) := by decide +kernel
theorem dX12_plansDays_16 : decode cX12_plansDays 16 = .ok (.getfield 54, 3) := by decide +kernel
theorem dX12_plansDays_19 : decode cX12_plansDays 19 = .ok (.iload_n 2, 1) := by decide +kernel
theorem dX12_plansDays_20 : decode cX12_plansDays 20 = .ok (.dup2, 1) := by decide +kernel
theorem dX12_plansDays_21 : decode cX12_plansDays 21 = .ok (.iaload, 1) := by decide +kernel
theorem dX12_plansDays_22 : decode cX12_plansDays 22 = .ok (.iconst 1, 1) := by decide +kernel
theorem dX12_plansDays_23 : decode cX12_plansDays 23 = .ok (.iadd, 1) := by decide +kernel
theorem dX12_plansDays_24 : decode cX12_plansDays 24 = .ok (.iastore, 1) := by decide +kernel
theorem dX12_plansDays_25 : decode cX12_plansDays 25 = .ok (.aload_n 0, 1) := by decide +kernel
theorem dX12_plansDays_26 : decode cX12_plansDays 26 = .ok (.getfield 54, 3) := by decide +kernel
theorem dX12_plansDays_29 : decode cX12_plansDays 29 = .ok (.iload_n 2, 1) := by decide +kernel
theorem dX12_plansDays_30 : decode cX12_plansDays 30 = .ok (.iaload, 1) := by decide +kernel
theorem dX12_plansDays_31 : decode cX12_plansDays 31 = .ok (.iload_n 1, 1) := by decide +kernel
theorem dX12_plansDays_32 : decode cX12_plansDays 32 = .ok (.if_icmp .ge 24, 3) := by decide +kernel
theorem dX12_plansDays_35 : decode cX12_plansDays 35 = .ok (.aload_n 0, 1) := by decide +kernel
theorem dX12_plansDays_36 : decode cX12_plansDays 36 = .ok (.iload_n 2, 1) := by decide +kernel
theorem dX12_plansDays_37 : decode cX12_plansDays 37 = .ok (.invokevirtual 250, 3) := by decide +kernel
theorem dX12_plansDays_40 : decode cX12_plansDays 40 = .ok (.ifCond .ne 16, 3) := by decide +kernel
theorem dX12_plansDays_43 : decode cX12_plansDays 43 = .ok (.aload_n 0, 1) := by decide +kernel
theorem dX12_plansDays_44 : decode cX12_plansDays 44 = .ok (.getfield 54, 3) := by decide +kernel
theorem dX12_plansDays_47 : decode cX12_plansDays 47 = .ok (.iload_n 2, 1) := by decide +kernel
theorem dX12_plansDays_48 : decode cX12_plansDays 48 = .ok (.dup2, 1) := by decide +kernel
theorem dX12_plansDays_49 : decode cX12_plansDays 49 = .ok (.iaload, 1) := by decide +kernel
theorem dX12_plansDays_50 : decode cX12_plansDays 50 = .ok (.iconst 1, 1) := by decide +kernel
theorem dX12_plansDays_51 : decode cX12_plansDays 51 = .ok (.iadd, 1) := by decide +kernel
theorem dX12_plansDays_52 : decode cX12_plansDays 52 = .ok (.iastore, 1) := by decide +kernel
theorem dX12_plansDays_53 : decode cX12_plansDays 53 = .ok (.goto (-28), 3) := by decide +kernel
theorem dX12_plansDays_56 : decode cX12_plansDays 56 = .ok (.aload_n 0, 1) := by decide +kernel
theorem dX12_plansDays_57 : decode cX12_plansDays 57 = .ok (.getfield 54, 3) := by decide +kernel
theorem dX12_plansDays_60 : decode cX12_plansDays 60 = .ok (.iload_n 2, 1) := by decide +kernel
theorem dX12_plansDays_61 : decode cX12_plansDays 61 = .ok (.iaload, 1) := by decide +kernel
theorem dX12_plansDays_62 : decode cX12_plansDays 62 = .ok (.iload_n 1, 1) := by decide +kernel
theorem dX12_plansDays_63 : decode cX12_plansDays 63 = .ok (.if_icmp .ge 22, 3) := by decide +kernel
theorem dX12_plansDays_66 : decode cX12_plansDays 66 = .ok (.iinc 2 1, 3) := by decide +kernel
theorem dX12_plansDays_69 : decode cX12_plansDays 69 = .ok (.iload_n 2, 1) := by decide +kernel
theorem dX12_plansDays_70 : decode cX12_plansDays 70 = .ok (.bipush 8, 2) := by decide +kernel
theorem dX12_plansDays_72 : decode cX12_plansDays 72 = .ok (.if_icmp .ge (-63), 3) := by decide +kernel
theorem dX12_plansDays_75 : decode cX12_plansDays 75 = .ok (.aload_n 0, 1) := by decide +kernel
theorem dX12_plansDays_76 : decode cX12_plansDays 76 = .ok (.getfield 54, 3) := by decide +kernel
theorem dX12_plansDays_79 : decode cX12_plansDays 79 = .ok (.iload_n 2, 1) := by decide +kernel
theorem dX12_plansDays_80 : decode cX12_plansDays 80 = .ok (.iconst (-1), 1) := by decide +kernel
theorem dX12_plansDays_81 : decode cX12_plansDays 81 = .ok (.iastore, 1) := by decide +kernel
theorem dX12_plansDays_82 : decode cX12_plansDays 82 = .ok (.goto (-73), 3) := by decide +kernel
theorem dX12_plansDays_85 : decode cX12_plansDays 85 = .ok (.iload_n 2, 1) := by decide +kernel
theorem dX12_plansDays_86 : decode cX12_plansDays 86 = .ok (.ifCond .ne 5, 3) := by decide +kernel
theorem dX12_plansDays_89 : decode cX12_plansDays 89 = .ok (.iconst 0, 1) := by decide +kernel
theorem dX12_plansDays_90 : decode cX12_plansDays 90 = .ok (.ireturn, 1) := by decide +kernel
theorem dX12_plansDays_91 : decode cX12_plansDays 91 = .ok (.iinc 2 (-1), 3) := by decide +kernel
theorem dX12_plansDays_94 : decode cX12_plansDays 94 = .ok (.goto (-85), 3) := by decide +kernel
theorem dX12_plansDays_97 : decode cX12_plansDays 97 = .ok (.iconst 1, 1) := by decide +kernel
theorem dX12_plansDays_98 : decode cX12_plansDays 98 = .ok (.ireturn, 1) := by decide +kernel
set_option maxRecDepth 20000 in
theorem ggX12_fewest_X12_plansDays : GoodIn wsX12_fewest wsX12_plansDays := goodIn_r _ [5, 6, 7, 8, 9, 4, 10, 11, 12, 13, 14, 15, 16, 17, 18, 19, 20, 21, 22, 23, 24, 25, 26, 27, 28, 29, 30, 31, 32, 33, 34, 35, 36, 37, 38, 39, 40, 41, 42, 43, 44, 45] (by decide +kernel) (by decide +kernel)
set_option maxRecDepth 20000 in
theorem gX12_fewest_X12_plansDays : GoodIn wsX12_fewest (wsV RX12 253 RX12 yX12_plansDays wsX12_plansDays) := goodIn_app (goodIn_of _ (by decide +kernel)) ggX12_fewest_X12_plansDays
theorem dX12_fewest_0 : decode cX12_fewest 0 = .ok (.iconst 1, 1) := by decide +kernel
theorem dX12_fewest_1 : decode cX12_fewest 1 = .ok (.istore_n 1, 1) := by decide +kernel
theorem dX12_fewest_2 : decode cX12_fewest 2 = .ok (.aload_n 0, 1) := by decide +kernel
theorem dX12_fewest_3 : decode cX12_fewest 3 = .ok (.iload_n 1, 1) := by decide +kernel
theorem dX12_fewest_4 : decode cX12_fewest 4 = .ok (.invokevirtual 253, 3) := by decide +kernel
theorem dX12_fewest_7 : decode cX12_fewest 7 = .ok (.ifCond .ne 9, 3) := by decide +kernel
theorem dX12_fewest_10 : decode cX12_fewest 10 = .ok (.iinc 1 1, 3) := by decide +kernel
theorem dX12_fewest_13 : decode cX12_fewest 13 = .ok (.goto (-11), 3) := by decide +kernel
theorem dX12_fewest_16 : decode cX12_fewest 16 = .ok (.iload_n 1, 1) := by decide +kernel
theorem dX12_fewest_17 : decode cX12_fewest 17 = .ok (.ireturn, 1) := by decide +kernel
set_option maxRecDepth 20000 in
theorem ggX12_setApart_X12_in : GoodIn wsX12_setApart wsX12_in := goodIn_r _ [6] (by decide +kernel) (by decide +kernel)
set_option maxRecDepth 20000 in
theorem gX12_setApart_X12_in : GoodIn wsX12_setApart (va_wsS RX12 92 yX12_in wsX12_in) := goodIn_app (goodIn_of _ (by decide +kernel)) ggX12_setApart_X12_in
set_option maxRecDepth 20000 in
theorem ggX12_setApart_X12_fails : GoodIn wsX12_setApart wsX12_fails := goodIn_r _ [10, 1, 22, 23, 24, 25, 26, 27, 28, 29, 30, 31, 32, 33, 34, 35, 36, 37, 38, 39, 40, 41, 42, 43, 44, 45, 46, 47, 48, 49, 50, 51] (by decide +kernel) (by decide +kernel)
set_option maxRecDepth 20000 in
theorem gX12_setApart_X12_fails : GoodIn wsX12_setApart (wsV RX12 96 RX12 yX12_fails wsX12_fails) := goodIn_app (goodIn_of _ (by decide +kernel)) ggX12_setApart_X12_fails
set_option maxRecDepth 20000 in
theorem ggX12_setApart_X12_keeps : GoodIn wsX12_setApart wsX12_keeps := goodIn_r _ [14, 15, 16, 2, 17, 22, 23, 24, 25, 26, 27, 28, 29, 30, 31, 32, 33, 34, 35, 36, 37, 38, 39, 40, 41, 42, 43, 44, 45, 46, 47, 48, 49, 50, 51] (by decide +kernel) (by decide +kernel)
set_option maxRecDepth 20000 in
theorem gX12_setApart_X12_keeps : GoodIn wsX12_setApart (wsV RX12 100 RX12 yX12_keeps wsX12_keeps) := goodIn_app (goodIn_of _ (by decide +kernel)) ggX12_setApart_X12_keeps
set_option maxRecDepth 20000 in
theorem ggX12_setApart_X12_areApart : GoodIn wsX12_setApart wsX12_areApart := goodIn_r _ [21, 2, 22, 23, 24, 25, 26, 27, 28, 29, 30, 31, 32, 33, 34, 35, 36, 37, 38, 39, 40, 41, 42, 43, 44, 45, 46, 47, 48, 49, 50, 51] (by decide +kernel) (by decide +kernel)
set_option maxRecDepth 20000 in
theorem gX12_setApart_X12_areApart : GoodIn wsX12_setApart (wsV RX12 247 RX12 yX12_areApart wsX12_areApart) := goodIn_app (goodIn_of _ (by decide +kernel)) ggX12_setApart_X12_areApart
theorem dX12_setApart_0 : decode cX12_setApart 0 = .ok (.aload_n 0, 1) := by decide +kernel
theorem dX12_setApart_1 : decode cX12_setApart 1 = .ok (.iconst 0, 1) := by decide +kernel
theorem dX12_setApart_2 : decode cX12_setApart 2 = .ok (.putfield 1, 3) := by decide +kernel
theorem dX12_setApart_5 : decode cX12_setApart 5 = .ok (.aload_n 0, 1) := by decide +kernel
theorem dX12_setApart_6 : decode cX12_setApart 6 = .ok (.iload_n 1, 1) := by decide +kernel
theorem dX12_setApart_7 : decode cX12_setApart 7 = .ok (.iconst 0, 1) := by decide +kernel
theorem dX12_setApart_8 : decode cX12_setApart 8 = .ok (.bipush 7, 2) := by decide +kernel
theorem dX12_setApart_10 : decode cX12_setApart 10 = .ok (.invokestatic 92, 3) := by decide +kernel
theorem dX12_setApart_13 : decode cX12_setApart 13 = .ok (.ifCond .eq 22, 3) := by decide +kernel
theorem dX12_setApart_16 : decode cX12_setApart 16 = .ok (.iload_n 2, 1) := by decide +kernel
theorem dX12_setApart_17 : decode cX12_setApart 17 = .ok (.iconst 0, 1) := by decide +kernel
theorem dX12_setApart_18 : decode cX12_setApart 18 = .ok (.bipush 7, 2) := by decide +kernel
theorem dX12_setApart_20 : decode cX12_setApart 20 = .ok (.invokestatic 92, 3) := by decide +kernel
theorem dX12_setApart_23 : decode cX12_setApart 23 = .ok (.ifCond .eq 12, 3) := by decide +kernel
theorem dX12_setApart_26 : decode cX12_setApart 26 = .ok (.iload_n 1, 1) := by decide +kernel
theorem dX12_setApart_27 : decode cX12_setApart 27 = .ok (.iload_n 2, 1) := by decide +kernel
theorem dX12_setApart_28 : decode cX12_setApart 28 = .ok (.if_icmp .eq 7, 3) := by decide +kernel
theorem dX12_setApart_31 : decode cX12_setApart 31 = .ok (.iconst 1, 1) := by decide +kernel
theorem dX12_setApart_32 : decode cX12_setApart 32 = .ok (.goto 4, 3) := by decide +kernel
theorem dX12_setApart_35 : decode cX12_setApart 35 = .ok (.iconst 0, 1) := by decide +kernel
theorem dX12_setApart_36 : decode cX12_setApart 36 = .ok (.iconst 1, 1) := by decide +kernel
theorem dX12_setApart_37 : decode cX12_setApart 37 = .ok (.invokevirtual 96, 3) := by decide +kernel
theorem dX12_setApart_40 : decode cX12_setApart 40 = .ok (.ifCond .eq 5, 3) := by decide +kernel
theorem dX12_setApart_43 : decode cX12_setApart 43 = .ok (.iconst 0, 1) := by decide +kernel
theorem dX12_setApart_44 : decode cX12_setApart 44 = .ok (.ireturn, 1) := by decide +kernel
theorem dX12_setApart_45 : decode cX12_setApart 45 = .ok (.aload_n 0, 1) := by decide +kernel
theorem dX12_setApart_46 : decode cX12_setApart 46 = .ok (.invokevirtual 100, 3) := by decide +kernel
theorem dX12_setApart_49 : decode cX12_setApart 49 = .ok (.aload_n 0, 1) := by decide +kernel
theorem dX12_setApart_50 : decode cX12_setApart 50 = .ok (.iload_n 1, 1) := by decide +kernel
theorem dX12_setApart_51 : decode cX12_setApart 51 = .ok (.iload_n 2, 1) := by decide +kernel
theorem dX12_setApart_52 : decode cX12_setApart 52 = .ok (.invokevirtual 247, 3) := by decide +kernel
theorem dX12_setApart_55 : decode cX12_setApart 55 = .ok (.istore 4, 2) := by decide +kernel
theorem dX12_setApart_57 : decode cX12_setApart 57 = .ok (.aload_n 0, 1) := by decide +kernel
theorem dX12_setApart_58 : decode cX12_setApart 58 = .ok (.getfield 13, 3) := by decide +kernel
theorem dX12_setApart_61 : decode cX12_setApart 61 = .ok (.bipush 108, 2) := by decide +kernel
theorem dX12_setApart_63 : decode cX12_setApart 63 = .ok (.iload_n 1, 1) := by decide +kernel
theorem dX12_setApart_64 : decode cX12_setApart 64 = .ok (.iadd, 1) := by decide +kernel
theorem dX12_setApart_65 : decode cX12_setApart 65 = .ok (.iload_n 3, 1) := by decide +kernel
theorem dX12_setApart_66 : decode cX12_setApart 66 = .ok (.ifCond .eq 19, 3) := by decide +kernel
theorem dX12_setApart_69 : decode cX12_setApart 69 = .ok (.aload_n 0, 1) := by decide +kernel
theorem dX12_setApart_70 : decode cX12_setApart 70 = .ok (.getfield 13, 3) := by decide +kernel
theorem dX12_setApart_73 : decode cX12_setApart 73 = .ok (.bipush 108, 2) := by decide +kernel
theorem dX12_setApart_75 : decode cX12_setApart 75 = .ok (.iload_n 1, 1) := by decide +kernel
theorem dX12_setApart_76 : decode cX12_setApart 76 = .ok (.iadd, 1) := by decide +kernel
theorem dX12_setApart_77 : decode cX12_setApart 77 = .ok (.iaload, 1) := by decide +kernel
theorem dX12_setApart_78 : decode cX12_setApart 78 = .ok (.iconst 1, 1) := by decide +kernel
theorem dX12_setApart_79 : decode cX12_setApart 79 = .ok (.iload_n 2, 1) := by decide +kernel
theorem dX12_setApart_80 : decode cX12_setApart 80 = .ok (.ishl, 1) := by decide +kernel
theorem dX12_setApart_81 : decode cX12_setApart 81 = .ok (.ior, 1) := by decide +kernel
theorem dX12_setApart_82 : decode cX12_setApart 82 = .ok (.goto 18, 3) := by decide +kernel
theorem dX12_setApart_85 : decode cX12_setApart 85 = .ok (.aload_n 0, 1) := by decide +kernel
theorem dX12_setApart_86 : decode cX12_setApart 86 = .ok (.getfield 13, 3) := by decide +kernel
theorem dX12_setApart_89 : decode cX12_setApart 89 = .ok (.bipush 108, 2) := by decide +kernel
theorem dX12_setApart_91 : decode cX12_setApart 91 = .ok (.iload_n 1, 1) := by decide +kernel
theorem dX12_setApart_92 : decode cX12_setApart 92 = .ok (.iadd, 1) := by decide +kernel
theorem dX12_setApart_93 : decode cX12_setApart 93 = .ok (.iaload, 1) := by decide +kernel
theorem dX12_setApart_94 : decode cX12_setApart 94 = .ok (.iconst 1, 1) := by decide +kernel
theorem dX12_setApart_95 : decode cX12_setApart 95 = .ok (.iload_n 2, 1) := by decide +kernel
theorem dX12_setApart_96 : decode cX12_setApart 96 = .ok (.ishl, 1) := by decide +kernel
theorem dX12_setApart_97 : decode cX12_setApart 97 = .ok (.iconst (-1), 1) := by decide +kernel
theorem dX12_setApart_98 : decode cX12_setApart 98 = .ok (.ixor, 1) := by decide +kernel
theorem dX12_setApart_99 : decode cX12_setApart 99 = .ok (.iand, 1) := by decide +kernel
theorem dX12_setApart_100 : decode cX12_setApart 100 = .ok (.iastore, 1) := by decide +kernel
theorem dX12_setApart_101 : decode cX12_setApart 101 = .ok (.aload_n 0, 1) := by decide +kernel
theorem dX12_setApart_102 : decode cX12_setApart 102 = .ok (.getfield 13, 3) := by decide +kernel
theorem dX12_setApart_105 : decode cX12_setApart 105 = .ok (.bipush 108, 2) := by decide +kernel
theorem dX12_setApart_107 : decode cX12_setApart 107 = .ok (.iload_n 2, 1) := by decide +kernel
theorem dX12_setApart_108 : decode cX12_setApart 108 = .ok (.iadd, 1) := by decide +kernel
theorem dX12_setApart_109 : decode cX12_setApart 109 = .ok (.iload_n 3, 1) := by decide +kernel
theorem dX12_setApart_110 : decode cX12_setApart 110 = .ok (.ifCond .eq 19, 3) := by decide +kernel
theorem dX12_setApart_113 : decode cX12_setApart 113 = .ok (.aload_n 0, 1) := by decide +kernel
theorem dX12_setApart_114 : decode cX12_setApart 114 = .ok (.getfield 13, 3) := by decide +kernel
theorem dX12_setApart_117 : decode cX12_setApart 117 = .ok (.bipush 108, 2) := by decide +kernel
theorem dX12_setApart_119 : decode cX12_setApart 119 = .ok (.iload_n 2, 1) := by decide +kernel
theorem dX12_setApart_120 : decode cX12_setApart 120 = .ok (.iadd, 1) := by decide +kernel
theorem dX12_setApart_121 : decode cX12_setApart 121 = .ok (.iaload, 1) := by decide +kernel
theorem dX12_setApart_122 : decode cX12_setApart 122 = .ok (.iconst 1, 1) := by decide +kernel
theorem dX12_setApart_123 : decode cX12_setApart 123 = .ok (.iload_n 1, 1) := by decide +kernel
theorem dX12_setApart_124 : decode cX12_setApart 124 = .ok (.ishl, 1) := by decide +kernel
theorem dX12_setApart_125 : decode cX12_setApart 125 = .ok (.ior, 1) := by decide +kernel
theorem dX12_setApart_126 : decode cX12_setApart 126 = .ok (.goto 18, 3) := by decide +kernel
theorem dX12_setApart_129 : decode cX12_setApart 129 = .ok (.aload_n 0, 1) := by decide +kernel
theorem dX12_setApart_130 : decode cX12_setApart 130 = .ok (.getfield 13, 3) := by decide +kernel
theorem dX12_setApart_133 : decode cX12_setApart 133 = .ok (.bipush 108, 2) := by decide +kernel
theorem dX12_setApart_135 : decode cX12_setApart 135 = .ok (.iload_n 2, 1) := by decide +kernel
theorem dX12_setApart_136 : decode cX12_setApart 136 = .ok (.iadd, 1) := by decide +kernel
theorem dX12_setApart_137 : decode cX12_setApart 137 = .ok (.iaload, 1) := by decide +kernel
theorem dX12_setApart_138 : decode cX12_setApart 138 = .ok (.iconst 1, 1) := by decide +kernel
theorem dX12_setApart_139 : decode cX12_setApart 139 = .ok (.iload_n 1, 1) := by decide +kernel
theorem dX12_setApart_140 : decode cX12_setApart 140 = .ok (.ishl, 1) := by decide +kernel
theorem dX12_setApart_141 : decode cX12_setApart 141 = .ok (.iconst (-1), 1) := by decide +kernel
theorem dX12_setApart_142 : decode cX12_setApart 142 = .ok (.ixor, 1) := by decide +kernel
theorem dX12_setApart_143 : decode cX12_setApart 143 = .ok (.iand, 1) := by decide +kernel
theorem dX12_setApart_144 : decode cX12_setApart 144 = .ok (.iastore, 1) := by decide +kernel
theorem dX12_setApart_145 : decode cX12_setApart 145 = .ok (.iload 4, 2) := by decide +kernel
theorem dX12_setApart_147 : decode cX12_setApart 147 = .ok (.ireturn, 1) := by decide +kernel
set_option maxRecDepth 20000 in
theorem ggX12_daysNeeded_X12_fewest : GoodIn wsX12_daysNeeded wsX12_fewest := goodIn_r _ [6, 7, 8, 9, 5, 10, 11, 12, 13, 14, 15, 16, 17, 18, 19, 20, 21, 22, 23, 24, 25, 26, 27, 28, 29, 30, 31, 32, 33, 34, 35, 36, 37, 38, 39, 40, 41, 42, 43, 44, 45, 46, 47, 48, 49, 50] (by decide +kernel) (by decide +kernel)
set_option maxRecDepth 20000 in
theorem gX12_daysNeeded_X12_fewest : GoodIn wsX12_daysNeeded (wsV RX12 256 RX12 yX12_fewest wsX12_fewest) := goodIn_app (goodIn_of _ (by decide +kernel)) ggX12_daysNeeded_X12_fewest
theorem dX12_daysNeeded_0 : decode cX12_daysNeeded 0 = .ok (.aload_n 0, 1) := by decide +kernel
theorem dX12_daysNeeded_1 : decode cX12_daysNeeded 1 = .ok (.iconst 0, 1) := by decide +kernel
theorem dX12_daysNeeded_2 : decode cX12_daysNeeded 2 = .ok (.putfield 1, 3) := by decide +kernel
theorem dX12_daysNeeded_5 : decode cX12_daysNeeded 5 = .ok (.aload_n 0, 1) := by decide +kernel
theorem dX12_daysNeeded_6 : decode cX12_daysNeeded 6 = .ok (.invokevirtual 256, 3) := by decide +kernel
theorem dX12_daysNeeded_9 : decode cX12_daysNeeded 9 = .ok (.ireturn, 1) := by decide +kernel
set_option maxRecDepth 20000 in
theorem ggX12_examDay_X12_in : GoodIn wsX12_examDay wsX12_in := goodIn_r _ [6] (by decide +kernel) (by decide +kernel)
set_option maxRecDepth 20000 in
theorem gX12_examDay_X12_in : GoodIn wsX12_examDay (va_wsS RX12 92 yX12_in wsX12_in) := goodIn_app (goodIn_of _ (by decide +kernel)) ggX12_examDay_X12_in
set_option maxRecDepth 20000 in
theorem ggX12_examDay_X12_fails : GoodIn wsX12_examDay wsX12_fails := goodIn_r _ [10, 1, 28, 29, 30, 31, 32, 33, 34, 35, 36, 37, 38, 39, 40, 41, 42, 43, 44, 45, 46, 47, 48, 49, 50, 51, 52, 53, 54, 55, 56, 57] (by decide +kernel) (by decide +kernel)
set_option maxRecDepth 20000 in
theorem gX12_examDay_X12_fails : GoodIn wsX12_examDay (wsV RX12 96 RX12 yX12_fails wsX12_fails) := goodIn_app (goodIn_of _ (by decide +kernel)) ggX12_examDay_X12_fails
set_option maxRecDepth 20000 in
theorem ggX12_examDay_X12_fewest : GoodIn wsX12_examDay wsX12_fewest := goodIn_r _ [14, 15, 16, 17, 5, 18, 2, 19, 20, 21, 22, 23, 24, 25, 26, 27, 28, 29, 30, 31, 32, 33, 34, 35, 36, 37, 38, 39, 40, 41, 42, 43, 44, 45, 46, 47, 48, 49, 50, 51, 52, 53, 54, 55, 56, 57] (by decide +kernel) (by decide +kernel)
set_option maxRecDepth 20000 in
theorem gX12_examDay_X12_fewest : GoodIn wsX12_examDay (wsV RX12 256 RX12 yX12_fewest wsX12_fewest) := goodIn_app (goodIn_of _ (by decide +kernel)) ggX12_examDay_X12_fewest
theorem dX12_examDay_0 : decode cX12_examDay 0 = .ok (.aload_n 0, 1) := by decide +kernel
theorem dX12_examDay_1 : decode cX12_examDay 1 = .ok (.iconst 0, 1) := by decide +kernel
theorem dX12_examDay_2 : decode cX12_examDay 2 = .ok (.putfield 1, 3) := by decide +kernel
theorem dX12_examDay_5 : decode cX12_examDay 5 = .ok (.aload_n 0, 1) := by decide +kernel
theorem dX12_examDay_6 : decode cX12_examDay 6 = .ok (.iload_n 1, 1) := by decide +kernel
theorem dX12_examDay_7 : decode cX12_examDay 7 = .ok (.iconst 0, 1) := by decide +kernel
theorem dX12_examDay_8 : decode cX12_examDay 8 = .ok (.bipush 7, 2) := by decide +kernel
theorem dX12_examDay_10 : decode cX12_examDay 10 = .ok (.invokestatic 92, 3) := by decide +kernel
theorem dX12_examDay_13 : decode cX12_examDay 13 = .ok (.iconst 1, 1) := by decide +kernel
theorem dX12_examDay_14 : decode cX12_examDay 14 = .ok (.invokevirtual 96, 3) := by decide +kernel
theorem dX12_examDay_17 : decode cX12_examDay 17 = .ok (.ifCond .eq 5, 3) := by decide +kernel
theorem dX12_examDay_20 : decode cX12_examDay 20 = .ok (.iconst 0, 1) := by decide +kernel
theorem dX12_examDay_21 : decode cX12_examDay 21 = .ok (.ireturn, 1) := by decide +kernel
theorem dX12_examDay_22 : decode cX12_examDay 22 = .ok (.aload_n 0, 1) := by decide +kernel
theorem dX12_examDay_23 : decode cX12_examDay 23 = .ok (.invokevirtual 256, 3) := by decide +kernel
theorem dX12_examDay_26 : decode cX12_examDay 26 = .ok (.istore_n 2, 1) := by decide +kernel
theorem dX12_examDay_27 : decode cX12_examDay 27 = .ok (.aload_n 0, 1) := by decide +kernel
theorem dX12_examDay_28 : decode cX12_examDay 28 = .ok (.getfield 54, 3) := by decide +kernel
theorem dX12_examDay_31 : decode cX12_examDay 31 = .ok (.iload_n 1, 1) := by decide +kernel
theorem dX12_examDay_32 : decode cX12_examDay 32 = .ok (.iaload, 1) := by decide +kernel
theorem dX12_examDay_33 : decode cX12_examDay 33 = .ok (.ireturn, 1) := by decide +kernel
set_option maxRecDepth 20000 in
theorem ggX12_group_X12_areApart : GoodIn wsX12_group wsX12_areApart := goodIn_r _ [6, 7, 8, 9, 10, 11, 12, 13, 14, 15, 16, 17, 18, 19, 20, 21, 22, 23, 24, 25, 26, 27, 28, 29, 30, 31, 32, 33, 34, 35, 36, 37] (by decide +kernel) (by decide +kernel)
set_option maxRecDepth 20000 in
theorem gX12_group_X12_areApart : GoodIn wsX12_group (wsV RX12 247 RX12 yX12_areApart wsX12_areApart) := goodIn_app (goodIn_of _ (by decide +kernel)) ggX12_group_X12_areApart
theorem dX12_group_0 : decode cX12_group 0 = .ok (.aload_n 0, 1) := by decide +kernel
theorem dX12_group_1 : decode cX12_group 1 = .ok (.iconst 0, 1) := by decide +kernel
theorem dX12_group_2 : decode cX12_group 2 = .ok (.putfield 1, 3) := by decide +kernel
theorem dX12_group_5 : decode cX12_group 5 = .ok (.iconst 0, 1) := by decide +kernel
theorem dX12_group_6 : decode cX12_group 6 = .ok (.istore_n 1, 1) := by decide +kernel
theorem dX12_group_7 : decode cX12_group 7 = .ok (.iconst 0, 1) := by decide +kernel
theorem dX12_group_8 : decode cX12_group 8 = .ok (.istore_n 2, 1) := by decide +kernel
theorem dX12_group_9 : decode cX12_group 9 = .ok (.iconst 1, 1) := by decide +kernel
theorem dX12_group_10 : decode cX12_group 10 = .ok (.istore_n 3, 1) := by decide +kernel
theorem dX12_group_11 : decode cX12_group 11 = .ok (.iload_n 3, 1) := by decide +kernel
theorem dX12_group_12 : decode cX12_group 12 = .ok (.sipush 256, 3) := by decide +kernel
theorem dX12_group_15 : decode cX12_group 15 = .ok (.if_icmp .ge 111, 3) := by decide +kernel
theorem dX12_group_18 : decode cX12_group 18 = .ok (.iconst 0, 1) := by decide +kernel
theorem dX12_group_19 : decode cX12_group 19 = .ok (.istore 4, 2) := by decide +kernel
theorem dX12_group_21 : decode cX12_group 21 = .ok (.iconst 1, 1) := by decide +kernel
theorem dX12_group_22 : decode cX12_group 22 = .ok (.istore 5, 2) := by decide +kernel
theorem dX12_group_24 : decode cX12_group 24 = .ok (.iconst 0, 1) := by decide +kernel
theorem dX12_group_25 : decode cX12_group 25 = .ok (.istore 6, 2) := by decide +kernel
theorem dX12_group_27 : decode cX12_group 27 = .ok (.iload 6, 2) := by decide +kernel
theorem dX12_group_29 : decode cX12_group 29 = .ok (.bipush 8, 2) := by decide +kernel
theorem dX12_group_31 : decode cX12_group 31 = .ok (.if_icmp .ge 70, 3) := by decide +kernel
theorem dX12_group_34 : decode cX12_group 34 = .ok (.iload_n 3, 1) := by decide +kernel
theorem dX12_group_35 : decode cX12_group 35 = .ok (.iload 6, 2) := by decide +kernel
theorem dX12_group_37 : decode cX12_group 37 = .ok (.ishr, 1) := by decide +kernel
theorem dX12_group_38 : decode cX12_group 38 = .ok (.iconst 1, 1) := by decide +kernel
theorem dX12_group_39 : decode cX12_group 39 = .ok (.iand, 1) := by decide +kernel
theorem dX12_group_40 : decode cX12_group 40 = .ok (.ifCond .ne 6, 3) := by decide +kernel
theorem dX12_group_43 : decode cX12_group 43 = .ok (.goto 52, 3) := by decide +kernel
theorem dX12_group_46 : decode cX12_group 46 = .ok (.iinc 4 1, 3) := by decide +kernel
theorem dX12_group_49 : decode cX12_group 49 = .ok (.iconst 0, 1) := by decide +kernel
theorem dX12_group_50 : decode cX12_group 50 = .ok (.istore 7, 2) := by decide +kernel
theorem dX12_group_52 : decode cX12_group 52 = .ok (.iload 7, 2) := by decide +kernel
theorem dX12_group_54 : decode cX12_group 54 = .ok (.iload 6, 2) := by decide +kernel
theorem dX12_group_56 : decode cX12_group 56 = .ok (.if_icmp .ge 39, 3) := by decide +kernel
theorem dX12_group_59 : decode cX12_group 59 = .ok (.iload 5, 2) := by decide +kernel
theorem dX12_group_61 : decode cX12_group 61 = .ok (.iload_n 3, 1) := by decide +kernel
theorem dX12_group_62 : decode cX12_group 62 = .ok (.iload 7, 2) := by decide +kernel
theorem dX12_group_64 : decode cX12_group 64 = .ok (.ishr, 1) := by decide +kernel
theorem dX12_group_65 : decode cX12_group 65 = .ok (.iconst 1, 1) := by decide +kernel
theorem dX12_group_66 : decode cX12_group 66 = .ok (.iand, 1) := by decide +kernel
theorem dX12_group_67 : decode cX12_group 67 = .ok (.ifCond .eq 14, 3) := by decide +kernel
theorem dX12_group_70 : decode cX12_group 70 = .ok (.aload_n 0, 1) := by decide +kernel
theorem dX12_group_71 : decode cX12_group 71 = .ok (.iload 6, 2) := by decide +kernel
theorem dX12_group_73 : decode cX12_group 73 = .ok (.iload 7, 2) := by decide +kernel
theorem dX12_group_75 : decode cX12_group 75 = .ok (.invokevirtual 247, 3) := by decide +kernel
theorem dX12_group_78 : decode cX12_group 78 = .ok (.ifCond .eq 7, 3) := by decide +kernel
theorem dX12_group_81 : decode cX12_group 81 = .ok (.iconst 1, 1) := by decide +kernel
theorem dX12_group_82 : decode cX12_group 82 = .ok (.goto 4, 3) := by decide +kernel
theorem dX12_group_85 : decode cX12_group 85 = .ok (.iconst 0, 1) := by decide +kernel
theorem dX12_group_86 : decode cX12_group 86 = .ok (.iand, 1) := by decide +kernel
theorem dX12_group_87 : decode cX12_group 87 = .ok (.istore 5, 2) := by decide +kernel
theorem dX12_group_89 : decode cX12_group 89 = .ok (.iinc 7 1, 3) := by decide +kernel
theorem dX12_group_92 : decode cX12_group 92 = .ok (.goto (-40), 3) := by decide +kernel
theorem dX12_group_95 : decode cX12_group 95 = .ok (.iinc 6 1, 3) := by decide +kernel
theorem dX12_group_98 : decode cX12_group 98 = .ok (.goto (-71), 3) := by decide +kernel
theorem dX12_group_101 : decode cX12_group 101 = .ok (.iload 5, 2) := by decide +kernel
theorem dX12_group_103 : decode cX12_group 103 = .ok (.ifCond .eq 17, 3) := by decide +kernel
theorem dX12_group_106 : decode cX12_group 106 = .ok (.iload 4, 2) := by decide +kernel
theorem dX12_group_108 : decode cX12_group 108 = .ok (.iload_n 2, 1) := by decide +kernel
theorem dX12_group_109 : decode cX12_group 109 = .ok (.if_icmp .gt 6, 3) := by decide +kernel
theorem dX12_group_112 : decode cX12_group 112 = .ok (.goto 8, 3) := by decide +kernel
theorem dX12_group_115 : decode cX12_group 115 = .ok (.iload 4, 2) := by decide +kernel
theorem dX12_group_117 : decode cX12_group 117 = .ok (.istore_n 2, 1) := by decide +kernel
theorem dX12_group_118 : decode cX12_group 118 = .ok (.iload_n 3, 1) := by decide +kernel
theorem dX12_group_119 : decode cX12_group 119 = .ok (.istore_n 1, 1) := by decide +kernel
theorem dX12_group_120 : decode cX12_group 120 = .ok (.iinc 3 1, 3) := by decide +kernel
theorem dX12_group_123 : decode cX12_group 123 = .ok (.goto (-112), 3) := by decide +kernel
theorem dX12_group_126 : decode cX12_group 126 = .ok (.iload_n 1, 1) := by decide +kernel
theorem dX12_group_127 : decode cX12_group 127 = .ok (.ireturn, 1) := by decide +kernel
theorem dX12_minute_0 : decode cX12_minute 0 = .ok (.iload_n 1, 1) := by decide +kernel
theorem dX12_minute_1 : decode cX12_minute 1 = .ok (.iconst 4, 1) := by decide +kernel
theorem dX12_minute_2 : decode cX12_minute 2 = .ok (.idiv, 1) := by decide +kernel
theorem dX12_minute_3 : decode cX12_minute 3 = .ok (.istore_n 3, 1) := by decide +kernel
theorem dX12_minute_4 : decode cX12_minute 4 = .ok (.iload_n 1, 1) := by decide +kernel
theorem dX12_minute_5 : decode cX12_minute 5 = .ok (.iconst 4, 1) := by decide +kernel
theorem dX12_minute_6 : decode cX12_minute 6 = .ok (.irem, 1) := by decide +kernel
theorem dX12_minute_7 : decode cX12_minute 7 = .ok (.istore 4, 2) := by decide +kernel
theorem dX12_minute_9 : decode cX12_minute 9 = .ok (.aload_n 0, 1) := by decide +kernel
theorem dX12_minute_10 : decode cX12_minute 10 = .ok (.getfield 57, 3) := by decide +kernel
theorem dX12_minute_13 : decode cX12_minute 13 = .ok (.iload_n 3, 1) := by decide +kernel
theorem dX12_minute_14 : decode cX12_minute 14 = .ok (.iaload, 1) := by decide +kernel
theorem dX12_minute_15 : decode cX12_minute 15 = .ok (.iload 4, 2) := by decide +kernel
theorem dX12_minute_17 : decode cX12_minute 17 = .ok (.aload_n 0, 1) := by decide +kernel
theorem dX12_minute_18 : decode cX12_minute 18 = .ok (.getfield 60, 3) := by decide +kernel
theorem dX12_minute_21 : decode cX12_minute 21 = .ok (.iload_n 3, 1) := by decide +kernel
theorem dX12_minute_22 : decode cX12_minute 22 = .ok (.iaload, 1) := by decide +kernel
theorem dX12_minute_23 : decode cX12_minute 23 = .ok (.aload_n 0, 1) := by decide +kernel
theorem dX12_minute_24 : decode cX12_minute 24 = .ok (.getfield 63, 3) := by decide +kernel
theorem dX12_minute_27 : decode cX12_minute 27 = .ok (.iload_n 3, 1) := by decide +kernel
theorem dX12_minute_28 : decode cX12_minute 28 = .ok (.iaload, 1) := by decide +kernel
theorem dX12_minute_29 : decode cX12_minute 29 = .ok (.iadd, 1) := by decide +kernel
theorem dX12_minute_30 : decode cX12_minute 30 = .ok (.imul, 1) := by decide +kernel
theorem dX12_minute_31 : decode cX12_minute 31 = .ok (.iadd, 1) := by decide +kernel
theorem dX12_minute_32 : decode cX12_minute 32 = .ok (.iload_n 2, 1) := by decide +kernel
theorem dX12_minute_33 : decode cX12_minute 33 = .ok (.ifCond .eq 12, 3) := by decide +kernel
theorem dX12_minute_36 : decode cX12_minute 36 = .ok (.aload_n 0, 1) := by decide +kernel
theorem dX12_minute_37 : decode cX12_minute 37 = .ok (.getfield 60, 3) := by decide +kernel
theorem dX12_minute_40 : decode cX12_minute 40 = .ok (.iload_n 3, 1) := by decide +kernel
theorem dX12_minute_41 : decode cX12_minute 41 = .ok (.iaload, 1) := by decide +kernel
theorem dX12_minute_42 : decode cX12_minute 42 = .ok (.goto 4, 3) := by decide +kernel
theorem dX12_minute_45 : decode cX12_minute 45 = .ok (.iconst 0, 1) := by decide +kernel
theorem dX12_minute_46 : decode cX12_minute 46 = .ok (.iadd, 1) := by decide +kernel
theorem dX12_minute_47 : decode cX12_minute 47 = .ok (.ireturn, 1) := by decide +kernel
set_option maxRecDepth 20000 in
theorem ggX12_setBells_X12_in : GoodIn wsX12_setBells wsX12_in := goodIn_r _ [8] (by decide +kernel) (by decide +kernel)
set_option maxRecDepth 20000 in
theorem gX12_setBells_X12_in : GoodIn wsX12_setBells (va_wsS RX12 92 yX12_in wsX12_in) := goodIn_app (goodIn_of _ (by decide +kernel)) ggX12_setBells_X12_in
set_option maxRecDepth 20000 in
theorem ggX12_setBells_X12_fails : GoodIn wsX12_setBells wsX12_fails := goodIn_r _ [12, 1, 17, 18, 19, 20, 21, 22, 23, 24, 25, 26, 27, 28, 29, 30, 31, 32, 33, 34, 35, 36, 37, 38, 39, 40, 41, 42, 43, 44, 45, 46] (by decide +kernel) (by decide +kernel)
set_option maxRecDepth 20000 in
theorem gX12_setBells_X12_fails : GoodIn wsX12_setBells (wsV RX12 96 RX12 yX12_fails wsX12_fails) := goodIn_app (goodIn_of _ (by decide +kernel)) ggX12_setBells_X12_fails
set_option maxRecDepth 20000 in
theorem ggX12_setBells_X12_minute : GoodIn wsX12_setBells wsX12_minute := goodIn_r _ [16, 2, 3, 4, 17, 18, 19, 20, 21, 22, 23, 24, 25, 26, 27, 28, 29, 30, 31, 32, 33, 34, 35, 36, 37, 38, 39, 40, 41, 42, 43, 44, 45, 46] (by decide +kernel) (by decide +kernel)
set_option maxRecDepth 20000 in
theorem gX12_setBells_X12_minute : GoodIn wsX12_setBells (wsV RX12 259 RX12 yX12_minute wsX12_minute) := goodIn_app (goodIn_of _ (by decide +kernel)) ggX12_setBells_X12_minute
theorem dX12_setBells_0 : decode cX12_setBells 0 = .ok (.aload_n 0, 1) := by decide +kernel
theorem dX12_setBells_1 : decode cX12_setBells 1 = .ok (.iconst 0, 1) := by decide +kernel
theorem dX12_setBells_2 : decode cX12_setBells 2 = .ok (.putfield 1, 3) := by decide +kernel
theorem dX12_setBells_5 : decode cX12_setBells 5 = .ok (.aload_n 0, 1) := by decide +kernel
theorem dX12_setBells_6 : decode cX12_setBells 6 = .ok (.iload_n 1, 1) := by decide +kernel
theorem dX12_setBells_7 : decode cX12_setBells 7 = .ok (.iconst 0, 1) := by decide +kernel
theorem dX12_setBells_8 : decode cX12_setBells 8 = .ok (.iconst 4, 1) := by decide +kernel
theorem dX12_setBells_9 : decode cX12_setBells 9 = .ok (.invokestatic 92, 3) := by decide +kernel
theorem dX12_setBells_12 : decode cX12_setBells 12 = .ok (.ifCond .eq 42, 3) := by decide +kernel
theorem dX12_setBells_15 : decode cX12_setBells 15 = .ok (.iload_n 2, 1) := by decide +kernel
theorem dX12_setBells_16 : decode cX12_setBells 16 = .ok (.sipush 420, 3) := by decide +kernel
theorem dX12_setBells_19 : decode cX12_setBells 19 = .ok (.sipush 600, 3) := by decide +kernel
theorem dX12_setBells_22 : decode cX12_setBells 22 = .ok (.invokestatic 92, 3) := by decide +kernel
theorem dX12_setBells_25 : decode cX12_setBells 25 = .ok (.ifCond .eq 29, 3) := by decide +kernel
theorem dX12_setBells_28 : decode cX12_setBells 28 = .ok (.iload_n 3, 1) := by decide +kernel
theorem dX12_setBells_29 : decode cX12_setBells 29 = .ok (.bipush 30, 2) := by decide +kernel
theorem dX12_setBells_31 : decode cX12_setBells 31 = .ok (.bipush 60, 2) := by decide +kernel
theorem dX12_setBells_33 : decode cX12_setBells 33 = .ok (.invokestatic 92, 3) := by decide +kernel
theorem dX12_setBells_36 : decode cX12_setBells 36 = .ok (.ifCond .eq 18, 3) := by decide +kernel
theorem dX12_setBells_39 : decode cX12_setBells 39 = .ok (.iload 4, 2) := by decide +kernel
theorem dX12_setBells_41 : decode cX12_setBells 41 = .ok (.iconst 0, 1) := by decide +kernel
theorem dX12_setBells_42 : decode cX12_setBells 42 = .ok (.bipush 30, 2) := by decide +kernel
theorem dX12_setBells_44 : decode cX12_setBells 44 = .ok (.invokestatic 92, 3) := by decide +kernel
theorem dX12_setBells_47 : decode cX12_setBells 47 = .ok (.ifCond .eq 7, 3) := by decide +kernel
theorem dX12_setBells_50 : decode cX12_setBells 50 = .ok (.iconst 1, 1) := by decide +kernel
theorem dX12_setBells_51 : decode cX12_setBells 51 = .ok (.goto 4, 3) := by decide +kernel
theorem dX12_setBells_54 : decode cX12_setBells 54 = .ok (.iconst 0, 1) := by decide +kernel
theorem dX12_setBells_55 : decode cX12_setBells 55 = .ok (.iconst 1, 1) := by decide +kernel
theorem dX12_setBells_56 : decode cX12_setBells 56 = .ok (.invokevirtual 96, 3) := by decide +kernel
theorem dX12_setBells_59 : decode cX12_setBells 59 = .ok (.ifCond .eq 5, 3) := by decide +kernel
theorem dX12_setBells_62 : decode cX12_setBells 62 = .ok (.iconst 0, 1) := by decide +kernel
theorem dX12_setBells_63 : decode cX12_setBells 63 = .ok (.ireturn, 1) := by decide +kernel
theorem dX12_setBells_64 : decode cX12_setBells 64 = .ok (.aload_n 0, 1) := by decide +kernel
theorem dX12_setBells_65 : decode cX12_setBells 65 = .ok (.getfield 57, 3) := by decide +kernel
theorem dX12_setBells_68 : decode cX12_setBells 68 = .ok (.iload_n 1, 1) := by decide +kernel
theorem dX12_setBells_69 : decode cX12_setBells 69 = .ok (.iload_n 2, 1) := by decide +kernel
theorem dX12_setBells_70 : decode cX12_setBells 70 = .ok (.iastore, 1) := by decide +kernel
theorem dX12_setBells_71 : decode cX12_setBells 71 = .ok (.aload_n 0, 1) := by decide +kernel
theorem dX12_setBells_72 : decode cX12_setBells 72 = .ok (.getfield 60, 3) := by decide +kernel
theorem dX12_setBells_75 : decode cX12_setBells 75 = .ok (.iload_n 1, 1) := by decide +kernel
theorem dX12_setBells_76 : decode cX12_setBells 76 = .ok (.iload_n 3, 1) := by decide +kernel
theorem dX12_setBells_77 : decode cX12_setBells 77 = .ok (.iastore, 1) := by decide +kernel
theorem dX12_setBells_78 : decode cX12_setBells 78 = .ok (.aload_n 0, 1) := by decide +kernel
theorem dX12_setBells_79 : decode cX12_setBells 79 = .ok (.getfield 63, 3) := by decide +kernel
theorem dX12_setBells_82 : decode cX12_setBells 82 = .ok (.iload_n 1, 1) := by decide +kernel
theorem dX12_setBells_83 : decode cX12_setBells 83 = .ok (.iload 4, 2) := by decide +kernel
theorem dX12_setBells_85 : decode cX12_setBells 85 = .ok (.iastore, 1) := by decide +kernel
theorem dX12_setBells_86 : decode cX12_setBells 86 = .ok (.aload_n 0, 1) := by decide +kernel
theorem dX12_setBells_87 : decode cX12_setBells 87 = .ok (.iconst 4, 1) := by decide +kernel
theorem dX12_setBells_88 : decode cX12_setBells 88 = .ok (.iload_n 1, 1) := by decide +kernel
theorem dX12_setBells_89 : decode cX12_setBells 89 = .ok (.imul, 1) := by decide +kernel
theorem dX12_setBells_90 : decode cX12_setBells 90 = .ok (.iconst 4, 1) := by decide +kernel
theorem dX12_setBells_91 : decode cX12_setBells 91 = .ok (.iadd, 1) := by decide +kernel
theorem dX12_setBells_92 : decode cX12_setBells 92 = .ok (.iconst 1, 1) := by decide +kernel
theorem dX12_setBells_93 : decode cX12_setBells 93 = .ok (.isub, 1) := by decide +kernel
theorem dX12_setBells_94 : decode cX12_setBells 94 = .ok (.iconst 1, 1) := by decide +kernel
theorem dX12_setBells_95 : decode cX12_setBells 95 = .ok (.invokevirtual 259, 3) := by decide +kernel
theorem dX12_setBells_98 : decode cX12_setBells 98 = .ok (.ireturn, 1) := by decide +kernel
set_option maxRecDepth 20000 in
theorem ggX12_bell_X12_in : GoodIn wsX12_bell wsX12_in := goodIn_r _ [5] (by decide +kernel) (by decide +kernel)
set_option maxRecDepth 20000 in
theorem gX12_bell_X12_in : GoodIn wsX12_bell (va_wsS RX12 92 yX12_in wsX12_in) := goodIn_app (goodIn_of _ (by decide +kernel)) ggX12_bell_X12_in
set_option maxRecDepth 20000 in
theorem ggX12_bell_X12_fails : GoodIn wsX12_bell wsX12_fails := goodIn_r _ [9, 1, 17, 18, 19, 20, 21, 22, 23, 24, 25, 26, 27, 28, 29, 30, 31, 32, 33, 34, 35, 36, 37, 38, 39, 40, 41, 42, 43, 44, 45, 46] (by decide +kernel) (by decide +kernel)
set_option maxRecDepth 20000 in
theorem gX12_bell_X12_fails : GoodIn wsX12_bell (wsV RX12 96 RX12 yX12_fails wsX12_fails) := goodIn_app (goodIn_of _ (by decide +kernel)) ggX12_bell_X12_fails
set_option maxRecDepth 20000 in
theorem ggX12_bell_X12_minute : GoodIn wsX12_bell wsX12_minute := goodIn_r _ [13, 14, 15, 16, 17, 18, 19, 20, 21, 22, 23, 24, 25, 26, 27, 28, 29, 30, 31, 32, 33, 34, 35, 36, 37, 38, 39, 40, 41, 42, 43, 44, 45, 46] (by decide +kernel) (by decide +kernel)
set_option maxRecDepth 20000 in
theorem gX12_bell_X12_minute : GoodIn wsX12_bell (wsV RX12 259 RX12 yX12_minute wsX12_minute) := goodIn_app (goodIn_of _ (by decide +kernel)) ggX12_bell_X12_minute
theorem dX12_bell_0 : decode cX12_bell 0 = .ok (.aload_n 0, 1) := by decide +kernel
theorem dX12_bell_1 : decode cX12_bell 1 = .ok (.iconst 0, 1) := by decide +kernel
theorem dX12_bell_2 : decode cX12_bell 2 = .ok (.putfield 1, 3) := by decide +kernel
theorem dX12_bell_5 : decode cX12_bell 5 = .ok (.aload_n 0, 1) := by decide +kernel
theorem dX12_bell_6 : decode cX12_bell 6 = .ok (.iload_n 1, 1) := by decide +kernel
theorem dX12_bell_7 : decode cX12_bell 7 = .ok (.iconst 0, 1) := by decide +kernel
theorem dX12_bell_8 : decode cX12_bell 8 = .ok (.bipush 19, 2) := by decide +kernel
theorem dX12_bell_10 : decode cX12_bell 10 = .ok (.invokestatic 92, 3) := by decide +kernel
theorem dX12_bell_13 : decode cX12_bell 13 = .ok (.iconst 1, 1) := by decide +kernel
theorem dX12_bell_14 : decode cX12_bell 14 = .ok (.invokevirtual 96, 3) := by decide +kernel
theorem dX12_bell_17 : decode cX12_bell 17 = .ok (.ifCond .eq 7, 3) := by decide +kernel
theorem dX12_bell_20 : decode cX12_bell 20 = .ok (.iconst 0, 1) := by decide +kernel
theorem dX12_bell_21 : decode cX12_bell 21 = .ok (.goto 9, 3) := by decide +kernel
theorem dX12_bell_24 : decode cX12_bell 24 = .ok (.aload_n 0, 1) := by decide +kernel
theorem dX12_bell_25 : decode cX12_bell 25 = .ok (.iload_n 1, 1) := by decide +kernel
theorem dX12_bell_26 : decode cX12_bell 26 = .ok (.iload_n 2, 1) := by decide +kernel
theorem dX12_bell_27 : decode cX12_bell 27 = .ok (.invokevirtual 259, 3) := by decide +kernel
theorem dX12_bell_30 : decode cX12_bell 30 = .ok (.ireturn, 1) := by decide +kernel
set_option maxRecDepth 20000 in
theorem ggX12_slotAt_X12_in : GoodIn wsX12_slotAt wsX12_in := goodIn_r _ [5] (by decide +kernel) (by decide +kernel)
set_option maxRecDepth 20000 in
theorem gX12_slotAt_X12_in : GoodIn wsX12_slotAt (va_wsS RX12 92 yX12_in wsX12_in) := goodIn_app (goodIn_of _ (by decide +kernel)) ggX12_slotAt_X12_in
set_option maxRecDepth 20000 in
theorem ggX12_slotAt_X12_fails : GoodIn wsX12_slotAt wsX12_fails := goodIn_r _ [9, 1, 17, 18, 19, 20, 21, 22, 23, 24, 25, 26, 27, 28, 29, 30, 31, 32, 33, 34, 35, 36, 37, 38, 39, 40, 41, 42, 43, 44, 45, 46] (by decide +kernel) (by decide +kernel)
set_option maxRecDepth 20000 in
theorem gX12_slotAt_X12_fails : GoodIn wsX12_slotAt (wsV RX12 96 RX12 yX12_fails wsX12_fails) := goodIn_app (goodIn_of _ (by decide +kernel)) ggX12_slotAt_X12_fails
set_option maxRecDepth 20000 in
theorem ggX12_slotAt_X12_minute : GoodIn wsX12_slotAt wsX12_minute := goodIn_r _ [13, 14, 15, 16, 17, 18, 19, 20, 21, 22, 23, 24, 25, 26, 27, 28, 29, 30, 31, 32, 33, 34, 35, 36, 37, 38, 39, 40, 41, 42, 43, 44, 45, 46] (by decide +kernel) (by decide +kernel)
set_option maxRecDepth 20000 in
theorem gX12_slotAt_X12_minute : GoodIn wsX12_slotAt (wsV RX12 259 RX12 yX12_minute wsX12_minute) := goodIn_app (goodIn_of _ (by decide +kernel)) ggX12_slotAt_X12_minute
theorem dX12_slotAt_0 : decode cX12_slotAt 0 = .ok (.aload_n 0, 1) := by decide +kernel
theorem dX12_slotAt_1 : decode cX12_slotAt 1 = .ok (.iconst 0, 1) := by decide +kernel
theorem dX12_slotAt_2 : decode cX12_slotAt 2 = .ok (.putfield 1, 3) := by decide +kernel
theorem dX12_slotAt_5 : decode cX12_slotAt 5 = .ok (.aload_n 0, 1) := by decide +kernel
theorem dX12_slotAt_6 : decode cX12_slotAt 6 = .ok (.iload_n 1, 1) := by decide +kernel
theorem dX12_slotAt_7 : decode cX12_slotAt 7 = .ok (.iconst 0, 1) := by decide +kernel
theorem dX12_slotAt_8 : decode cX12_slotAt 8 = .ok (.iconst 4, 1) := by decide +kernel
theorem dX12_slotAt_9 : decode cX12_slotAt 9 = .ok (.invokestatic 92, 3) := by decide +kernel
theorem dX12_slotAt_12 : decode cX12_slotAt 12 = .ok (.ifCond .eq 18, 3) := by decide +kernel
theorem dX12_slotAt_15 : decode cX12_slotAt 15 = .ok (.iload_n 2, 1) := by decide +kernel
theorem dX12_slotAt_16 : decode cX12_slotAt 16 = .ok (.iconst 0, 1) := by decide +kernel
theorem dX12_slotAt_17 : decode cX12_slotAt 17 = .ok (.sipush 1439, 3) := by decide +kernel
theorem dX12_slotAt_20 : decode cX12_slotAt 20 = .ok (.invokestatic 92, 3) := by decide +kernel
theorem dX12_slotAt_23 : decode cX12_slotAt 23 = .ok (.ifCond .eq 7, 3) := by decide +kernel
theorem dX12_slotAt_26 : decode cX12_slotAt 26 = .ok (.iconst 1, 1) := by decide +kernel
theorem dX12_slotAt_27 : decode cX12_slotAt 27 = .ok (.goto 4, 3) := by decide +kernel
theorem dX12_slotAt_30 : decode cX12_slotAt 30 = .ok (.iconst 0, 1) := by decide +kernel
theorem dX12_slotAt_31 : decode cX12_slotAt 31 = .ok (.iconst 1, 1) := by decide +kernel
theorem dX12_slotAt_32 : decode cX12_slotAt 32 = .ok (.invokevirtual 96, 3) := by decide +kernel
theorem dX12_slotAt_35 : decode cX12_slotAt 35 = .ok (.ifCond .eq 5, 3) := by decide +kernel
theorem dX12_slotAt_38 : decode cX12_slotAt 38 = .ok (.iconst 0, 1) := by decide +kernel
theorem dX12_slotAt_39 : decode cX12_slotAt 39 = .ok (.ireturn, 1) := by decide +kernel
theorem dX12_slotAt_40 : decode cX12_slotAt 40 = .ok (.iconst 4, 1) := by decide +kernel
theorem dX12_slotAt_41 : decode cX12_slotAt 41 = .ok (.iload_n 1, 1) := by decide +kernel
theorem dX12_slotAt_42 : decode cX12_slotAt 42 = .ok (.imul, 1) := by decide +kernel
theorem dX12_slotAt_43 : decode cX12_slotAt 43 = .ok (.istore_n 3, 1) := by decide +kernel
theorem dX12_slotAt_44 : decode cX12_slotAt 44 = .ok (.iload_n 3, 1) := by decide +kernel
theorem dX12_slotAt_45 : decode cX12_slotAt 45 = .ok (.iconst 4, 1) := by decide +kernel
theorem dX12_slotAt_46 : decode cX12_slotAt 46 = .ok (.iload_n 1, 1) := by decide +kernel
theorem dX12_slotAt_47 : decode cX12_slotAt 47 = .ok (.imul, 1) := by decide +kernel
theorem dX12_slotAt_48 : decode cX12_slotAt 48 = .ok (.iconst 4, 1) := by decide +kernel
theorem dX12_slotAt_49 : decode cX12_slotAt 49 = .ok (.iadd, 1) := by decide +kernel
theorem dX12_slotAt_50 : decode cX12_slotAt 50 = .ok (.if_icmp .ge 31, 3) := by decide +kernel
theorem dX12_slotAt_53 : decode cX12_slotAt 53 = .ok (.iload_n 2, 1) := by decide +kernel
theorem dX12_slotAt_54 : decode cX12_slotAt 54 = .ok (.aload_n 0, 1) := by decide +kernel
theorem dX12_slotAt_55 : decode cX12_slotAt 55 = .ok (.iload_n 3, 1) := by decide +kernel
theorem dX12_slotAt_56 : decode cX12_slotAt 56 = .ok (.iconst 0, 1) := by decide +kernel
theorem dX12_slotAt_57 : decode cX12_slotAt 57 = .ok (.invokevirtual 259, 3) := by decide +kernel
theorem dX12_slotAt_60 : decode cX12_slotAt 60 = .ok (.if_icmp .lt 15, 3) := by decide +kernel
theorem dX12_slotAt_63 : decode cX12_slotAt 63 = .ok (.iload_n 2, 1) := by decide +kernel
theorem dX12_slotAt_64 : decode cX12_slotAt 64 = .ok (.aload_n 0, 1) := by decide +kernel
theorem dX12_slotAt_65 : decode cX12_slotAt 65 = .ok (.iload_n 3, 1) := by decide +kernel
theorem dX12_slotAt_66 : decode cX12_slotAt 66 = .ok (.iconst 1, 1) := by decide +kernel
theorem dX12_slotAt_67 : decode cX12_slotAt 67 = .ok (.invokevirtual 259, 3) := by decide +kernel
theorem dX12_slotAt_70 : decode cX12_slotAt 70 = .ok (.if_icmp .ge 5, 3) := by decide +kernel
theorem dX12_slotAt_73 : decode cX12_slotAt 73 = .ok (.iload_n 3, 1) := by decide +kernel
theorem dX12_slotAt_74 : decode cX12_slotAt 74 = .ok (.ireturn, 1) := by decide +kernel
theorem dX12_slotAt_75 : decode cX12_slotAt 75 = .ok (.iinc 3 1, 3) := by decide +kernel
theorem dX12_slotAt_78 : decode cX12_slotAt 78 = .ok (.goto (-34), 3) := by decide +kernel
theorem dX12_slotAt_81 : decode cX12_slotAt 81 = .ok (.iconst (-1), 1) := by decide +kernel
theorem dX12_slotAt_82 : decode cX12_slotAt 82 = .ok (.ireturn, 1) := by decide +kernel
theorem dX12_isLeap_0 : decode cX12_isLeap 0 = .ok (.iload_n 0, 1) := by decide +kernel
theorem dX12_isLeap_1 : decode cX12_isLeap 1 = .ok (.iconst 4, 1) := by decide +kernel
theorem dX12_isLeap_2 : decode cX12_isLeap 2 = .ok (.irem, 1) := by decide +kernel
theorem dX12_isLeap_3 : decode cX12_isLeap 3 = .ok (.ifCond .ne 10, 3) := by decide +kernel
theorem dX12_isLeap_6 : decode cX12_isLeap 6 = .ok (.iload_n 0, 1) := by decide +kernel
theorem dX12_isLeap_7 : decode cX12_isLeap 7 = .ok (.bipush 100, 2) := by decide +kernel
theorem dX12_isLeap_9 : decode cX12_isLeap 9 = .ok (.irem, 1) := by decide +kernel
theorem dX12_isLeap_10 : decode cX12_isLeap 10 = .ok (.ifCond .ne 11, 3) := by decide +kernel
theorem dX12_isLeap_13 : decode cX12_isLeap 13 = .ok (.iload_n 0, 1) := by decide +kernel
theorem dX12_isLeap_14 : decode cX12_isLeap 14 = .ok (.sipush 400, 3) := by decide +kernel
theorem dX12_isLeap_17 : decode cX12_isLeap 17 = .ok (.irem, 1) := by decide +kernel
theorem dX12_isLeap_18 : decode cX12_isLeap 18 = .ok (.ifCond .ne 7, 3) := by decide +kernel
theorem dX12_isLeap_21 : decode cX12_isLeap 21 = .ok (.iconst 1, 1) := by decide +kernel
theorem dX12_isLeap_22 : decode cX12_isLeap 22 = .ok (.goto 4, 3) := by decide +kernel
theorem dX12_isLeap_25 : decode cX12_isLeap 25 = .ok (.iconst 0, 1) := by decide +kernel
theorem dX12_isLeap_26 : decode cX12_isLeap 26 = .ok (.ireturn, 1) := by decide +kernel
set_option maxRecDepth 20000 in
theorem ggX12_monthDays_X12_isLeap : GoodIn wsX12_monthDays wsX12_isLeap := goodIn_r _ [4] (by decide +kernel) (by decide +kernel)
set_option maxRecDepth 20000 in
theorem gX12_monthDays_X12_isLeap : GoodIn wsX12_monthDays (va_wsS RX12 263 yX12_isLeap wsX12_isLeap) := goodIn_app (goodIn_of _ (by decide +kernel)) ggX12_monthDays_X12_isLeap
theorem dX12_monthDays_0 : decode cX12_monthDays 0 = .ok (.iload_n 1, 1) := by decide +kernel
theorem dX12_monthDays_1 : decode cX12_monthDays 1 = .ok (.iconst 2, 1) := by decide +kernel
theorem dX12_monthDays_2 : decode cX12_monthDays 2 = .ok (.if_icmp .ne 20, 3) := by decide +kernel
theorem dX12_monthDays_5 : decode cX12_monthDays 5 = .ok (.iload_n 0, 1) := by decide +kernel
theorem dX12_monthDays_6 : decode cX12_monthDays 6 = .ok (.invokestatic 263, 3) := by decide +kernel
theorem dX12_monthDays_9 : decode cX12_monthDays 9 = .ok (.ifCond .eq 8, 3) := by decide +kernel
theorem dX12_monthDays_12 : decode cX12_monthDays 12 = .ok (.bipush 29, 2) := by decide +kernel
theorem dX12_monthDays_14 : decode cX12_monthDays 14 = .ok (.goto 38, 3) := by decide +kernel
theorem dX12_monthDays_17 : decode cX12_monthDays 17 = .ok (.bipush 28, 2) := by decide +kernel
theorem dX12_monthDays_19 : decode cX12_monthDays 19 = .ok (.goto 33, 3) := by decide +kernel
theorem dX12_monthDays_22 : decode cX12_monthDays 22 = .ok (.iload_n 1, 1) := by decide +kernel
theorem dX12_monthDays_23 : decode cX12_monthDays 23 = .ok (.iconst 4, 1) := by decide +kernel
theorem dX12_monthDays_24 : decode cX12_monthDays 24 = .ok (.if_icmp .eq 21, 3) := by decide +kernel
theorem dX12_monthDays_27 : decode cX12_monthDays 27 = .ok (.iload_n 1, 1) := by decide +kernel
theorem dX12_monthDays_28 : decode cX12_monthDays 28 = .ok (.bipush 6, 2) := by decide +kernel
theorem dX12_monthDays_30 : decode cX12_monthDays 30 = .ok (.if_icmp .eq 15, 3) := by decide +kernel
theorem dX12_monthDays_33 : decode cX12_monthDays 33 = .ok (.iload_n 1, 1) := by decide +kernel
theorem dX12_monthDays_34 : decode cX12_monthDays 34 = .ok (.bipush 9, 2) := by decide +kernel
theorem dX12_monthDays_36 : decode cX12_monthDays 36 = .ok (.if_icmp .eq 9, 3) := by decide +kernel
theorem dX12_monthDays_39 : decode cX12_monthDays 39 = .ok (.iload_n 1, 1) := by decide +kernel
theorem dX12_monthDays_40 : decode cX12_monthDays 40 = .ok (.bipush 11, 2) := by decide +kernel
theorem dX12_monthDays_42 : decode cX12_monthDays 42 = .ok (.if_icmp .ne 8, 3) := by decide +kernel
theorem dX12_monthDays_45 : decode cX12_monthDays 45 = .ok (.bipush 30, 2) := by decide +kernel
theorem dX12_monthDays_47 : decode cX12_monthDays 47 = .ok (.goto 5, 3) := by decide +kernel
theorem dX12_monthDays_50 : decode cX12_monthDays 50 = .ok (.bipush 31, 2) := by decide +kernel
theorem dX12_monthDays_52 : decode cX12_monthDays 52 = .ok (.ireturn, 1) := by decide +kernel
set_option maxRecDepth 20000 in
theorem ggX12_isDate_X12_in : GoodIn wsX12_isDate wsX12_in := goodIn_r _ [6] (by decide +kernel) (by decide +kernel)
set_option maxRecDepth 20000 in
theorem gX12_isDate_X12_in : GoodIn wsX12_isDate (va_wsS RX12 92 yX12_in wsX12_in) := goodIn_app (goodIn_of _ (by decide +kernel)) ggX12_isDate_X12_in
set_option maxRecDepth 20000 in
theorem ggX12_isDate_X12_monthDays : GoodIn wsX12_isDate wsX12_monthDays := goodIn_r _ [9, 10, 11, 5, 12] (by decide +kernel) (by decide +kernel)
set_option maxRecDepth 20000 in
theorem gX12_isDate_X12_monthDays : GoodIn wsX12_isDate (va_wsS RX12 268 yX12_monthDays wsX12_monthDays) := goodIn_app (goodIn_of _ (by decide +kernel)) ggX12_isDate_X12_monthDays
theorem dX12_isDate_0 : decode cX12_isDate 0 = .ok (.iload_n 0, 1) := by decide +kernel
theorem dX12_isDate_1 : decode cX12_isDate 1 = .ok (.sipush 10000, 3) := by decide +kernel
theorem dX12_isDate_4 : decode cX12_isDate 4 = .ok (.idiv, 1) := by decide +kernel
theorem dX12_isDate_5 : decode cX12_isDate 5 = .ok (.istore_n 1, 1) := by decide +kernel
theorem dX12_isDate_6 : decode cX12_isDate 6 = .ok (.iload_n 0, 1) := by decide +kernel
theorem dX12_isDate_7 : decode cX12_isDate 7 = .ok (.bipush 100, 2) := by decide +kernel
theorem dX12_isDate_9 : decode cX12_isDate 9 = .ok (.idiv, 1) := by decide +kernel
theorem dX12_isDate_10 : decode cX12_isDate 10 = .ok (.bipush 100, 2) := by decide +kernel
theorem dX12_isDate_12 : decode cX12_isDate 12 = .ok (.irem, 1) := by decide +kernel
theorem dX12_isDate_13 : decode cX12_isDate 13 = .ok (.istore_n 2, 1) := by decide +kernel
theorem dX12_isDate_14 : decode cX12_isDate 14 = .ok (.iload_n 0, 1) := by decide +kernel
theorem dX12_isDate_15 : decode cX12_isDate 15 = .ok (.bipush 100, 2) := by decide +kernel
theorem dX12_isDate_17 : decode cX12_isDate 17 = .ok (.irem, 1) := by decide +kernel
theorem dX12_isDate_18 : decode cX12_isDate 18 = .ok (.istore_n 3, 1) := by decide +kernel
theorem dX12_isDate_19 : decode cX12_isDate 19 = .ok (.iload_n 0, 1) := by decide +kernel
theorem dX12_isDate_20 : decode cX12_isDate 20 = .ok (.ldc_w 266, 3) := by decide +kernel
theorem dX12_isDate_23 : decode cX12_isDate 23 = .ok (.ldc_w 267, 3) := by decide +kernel
theorem dX12_isDate_26 : decode cX12_isDate 26 = .ok (.invokestatic 92, 3) := by decide +kernel
theorem dX12_isDate_29 : decode cX12_isDate 29 = .ok (.ifCond .eq 30, 3) := by decide +kernel
theorem dX12_isDate_32 : decode cX12_isDate 32 = .ok (.iload_n 2, 1) := by decide +kernel
theorem dX12_isDate_33 : decode cX12_isDate 33 = .ok (.iconst 1, 1) := by decide +kernel
theorem dX12_isDate_34 : decode cX12_isDate 34 = .ok (.bipush 12, 2) := by decide +kernel
theorem dX12_isDate_36 : decode cX12_isDate 36 = .ok (.invokestatic 92, 3) := by decide +kernel
theorem dX12_isDate_39 : decode cX12_isDate 39 = .ok (.ifCond .eq 20, 3) := by decide +kernel
theorem dX12_isDate_42 : decode cX12_isDate 42 = .ok (.iload_n 3, 1) := by decide +kernel
theorem dX12_isDate_43 : decode cX12_isDate 43 = .ok (.iconst 1, 1) := by decide +kernel
theorem dX12_isDate_44 : decode cX12_isDate 44 = .ok (.iload_n 1, 1) := by decide +kernel
theorem dX12_isDate_45 : decode cX12_isDate 45 = .ok (.iload_n 2, 1) := by decide +kernel
theorem dX12_isDate_46 : decode cX12_isDate 46 = .ok (.invokestatic 268, 3) := by decide +kernel
theorem dX12_isDate_49 : decode cX12_isDate 49 = .ok (.invokestatic 92, 3) := by decide +kernel
theorem dX12_isDate_52 : decode cX12_isDate 52 = .ok (.ifCond .eq 7, 3) := by decide +kernel
theorem dX12_isDate_55 : decode cX12_isDate 55 = .ok (.iconst 1, 1) := by decide +kernel
theorem dX12_isDate_56 : decode cX12_isDate 56 = .ok (.goto 4, 3) := by decide +kernel
theorem dX12_isDate_59 : decode cX12_isDate 59 = .ok (.iconst 0, 1) := by decide +kernel
theorem dX12_isDate_60 : decode cX12_isDate 60 = .ok (.ireturn, 1) := by decide +kernel
set_option maxRecDepth 20000 in
theorem ggX12_dayOf_X12_isLeap : GoodIn wsX12_dayOf wsX12_isLeap := goodIn_r _ [4] (by decide +kernel) (by decide +kernel)
set_option maxRecDepth 20000 in
theorem gX12_dayOf_X12_isLeap : GoodIn wsX12_dayOf (va_wsS RX12 263 yX12_isLeap wsX12_isLeap) := goodIn_app (goodIn_of _ (by decide +kernel)) ggX12_dayOf_X12_isLeap
set_option maxRecDepth 20000 in
theorem ggX12_dayOf_X12_monthDays : GoodIn wsX12_dayOf wsX12_monthDays := goodIn_r _ [7, 1, 2, 3, 4] (by decide +kernel) (by decide +kernel)
set_option maxRecDepth 20000 in
theorem gX12_dayOf_X12_monthDays : GoodIn wsX12_dayOf (va_wsS RX12 268 yX12_monthDays wsX12_monthDays) := goodIn_app (goodIn_of _ (by decide +kernel)) ggX12_dayOf_X12_monthDays
theorem dX12_dayOf_0 : decode cX12_dayOf 0 = .ok (.iload_n 0, 1) := by decide +kernel
theorem dX12_dayOf_1 : decode cX12_dayOf 1 = .ok (.bipush 100, 2) := by decide +kernel
theorem dX12_dayOf_3 : decode cX12_dayOf 3 = .ok (.irem, 1) := by decide +kernel
theorem dX12_dayOf_4 : decode cX12_dayOf 4 = .ok (.iconst 1, 1) := by decide +kernel
theorem dX12_dayOf_5 : decode cX12_dayOf 5 = .ok (.isub, 1) := by decide +kernel
theorem dX12_dayOf_6 : decode cX12_dayOf 6 = .ok (.istore_n 1, 1) := by decide +kernel
theorem dX12_dayOf_7 : decode cX12_dayOf 7 = .ok (.sipush 1990, 3) := by decide +kernel
theorem dX12_dayOf_10 : decode cX12_dayOf 10 = .ok (.istore_n 2, 1) := by decide +kernel
theorem dX12_dayOf_11 : decode cX12_dayOf 11 = .ok (.iload_n 2, 1) := by decide +kernel
theorem dX12_dayOf_12 : decode cX12_dayOf 12 = .ok (.iload_n 0, 1) := by decide +kernel
theorem dX12_dayOf_13 : decode cX12_dayOf 13 = .ok (.sipush 10000, 3) := by decide +kernel
theorem dX12_dayOf_16 : decode cX12_dayOf 16 = .ok (.idiv, 1) := by decide +kernel
theorem dX12_dayOf_17 : decode cX12_dayOf 17 = .ok (.if_icmp .ge 28, 3) := by decide +kernel
theorem dX12_dayOf_20 : decode cX12_dayOf 20 = .ok (.iload_n 1, 1) := by decide +kernel
theorem dX12_dayOf_21 : decode cX12_dayOf 21 = .ok (.iload_n 2, 1) := by decide +kernel
theorem dX12_dayOf_22 : decode cX12_dayOf 22 = .ok (.invokestatic 263, 3) := by decide +kernel
theorem dX12_dayOf_25 : decode cX12_dayOf 25 = .ok (.ifCond .eq 9, 3) := by decide +kernel
theorem dX12_dayOf_28 : decode cX12_dayOf 28 = .ok (.sipush 366, 3) := by decide +kernel
theorem dX12_dayOf_31 : decode cX12_dayOf 31 = .ok (.goto 6, 3) := by decide +kernel
theorem dX12_dayOf_34 : decode cX12_dayOf 34 = .ok (.sipush 365, 3) := by decide +kernel
theorem dX12_dayOf_37 : decode cX12_dayOf 37 = .ok (.iadd, 1) := by decide +kernel
theorem dX12_dayOf_38 : decode cX12_dayOf 38 = .ok (.istore_n 1, 1) := by decide +kernel
theorem dX12_dayOf_39 : decode cX12_dayOf 39 = .ok (.iinc 2 1, 3) := by decide +kernel
theorem dX12_dayOf_42 : decode cX12_dayOf 42 = .ok (.goto (-31), 3) := by decide +kernel
theorem dX12_dayOf_45 : decode cX12_dayOf 45 = .ok (.iconst 1, 1) := by decide +kernel
theorem dX12_dayOf_46 : decode cX12_dayOf 46 = .ok (.istore_n 2, 1) := by decide +kernel
theorem dX12_dayOf_47 : decode cX12_dayOf 47 = .ok (.iload_n 2, 1) := by decide +kernel
theorem dX12_dayOf_48 : decode cX12_dayOf 48 = .ok (.iload_n 0, 1) := by decide +kernel
theorem dX12_dayOf_49 : decode cX12_dayOf 49 = .ok (.bipush 100, 2) := by decide +kernel
theorem dX12_dayOf_51 : decode cX12_dayOf 51 = .ok (.idiv, 1) := by decide +kernel
theorem dX12_dayOf_52 : decode cX12_dayOf 52 = .ok (.bipush 100, 2) := by decide +kernel
theorem dX12_dayOf_54 : decode cX12_dayOf 54 = .ok (.irem, 1) := by decide +kernel
theorem dX12_dayOf_55 : decode cX12_dayOf 55 = .ok (.if_icmp .ge 21, 3) := by decide +kernel
theorem dX12_dayOf_58 : decode cX12_dayOf 58 = .ok (.iload_n 1, 1) := by decide +kernel
theorem dX12_dayOf_59 : decode cX12_dayOf 59 = .ok (.iload_n 0, 1) := by decide +kernel
theorem dX12_dayOf_60 : decode cX12_dayOf 60 = .ok (.sipush 10000, 3) := by decide +kernel
theorem dX12_dayOf_63 : decode cX12_dayOf 63 = .ok (.idiv, 1) := by decide +kernel
theorem dX12_dayOf_64 : decode cX12_dayOf 64 = .ok (.iload_n 2, 1) := by decide +kernel
theorem dX12_dayOf_65 : decode cX12_dayOf 65 = .ok (.invokestatic 268, 3) := by decide +kernel
theorem dX12_dayOf_68 : decode cX12_dayOf 68 = .ok (.iadd, 1) := by decide +kernel
theorem dX12_dayOf_69 : decode cX12_dayOf 69 = .ok (.istore_n 1, 1) := by decide +kernel
theorem dX12_dayOf_70 : decode cX12_dayOf 70 = .ok (.iinc 2 1, 3) := by decide +kernel
theorem dX12_dayOf_73 : decode cX12_dayOf 73 = .ok (.goto (-26), 3) := by decide +kernel
theorem dX12_dayOf_76 : decode cX12_dayOf 76 = .ok (.iload_n 1, 1) := by decide +kernel
theorem dX12_dayOf_77 : decode cX12_dayOf 77 = .ok (.ireturn, 1) := by decide +kernel
set_option maxRecDepth 20000 in
theorem ggX12_dateOfDay_X12_isLeap : GoodIn wsX12_dateOfDay wsX12_isLeap := goodIn_r _ [4] (by decide +kernel) (by decide +kernel)
set_option maxRecDepth 20000 in
theorem gX12_dateOfDay_X12_isLeap : GoodIn wsX12_dateOfDay (va_wsS RX12 263 yX12_isLeap wsX12_isLeap) := goodIn_app (goodIn_of _ (by decide +kernel)) ggX12_dateOfDay_X12_isLeap
set_option maxRecDepth 20000 in
theorem ggX12_dateOfDay_X12_monthDays : GoodIn wsX12_dateOfDay wsX12_monthDays := goodIn_r _ [7, 1, 2, 3, 4] (by decide +kernel) (by decide +kernel)
set_option maxRecDepth 20000 in
theorem gX12_dateOfDay_X12_monthDays : GoodIn wsX12_dateOfDay (va_wsS RX12 268 yX12_monthDays wsX12_monthDays) := goodIn_app (goodIn_of _ (by decide +kernel)) ggX12_dateOfDay_X12_monthDays
theorem dX12_dateOfDay_0 : decode cX12_dateOfDay 0 = .ok (.iload_n 0, 1) := by decide +kernel
theorem dX12_dateOfDay_1 : decode cX12_dateOfDay 1 = .ok (.istore_n 1, 1) := by decide +kernel
theorem dX12_dateOfDay_2 : decode cX12_dateOfDay 2 = .ok (.sipush 1990, 3) := by decide +kernel
theorem dX12_dateOfDay_5 : decode cX12_dateOfDay 5 = .ok (.istore_n 2, 1) := by decide +kernel
theorem dX12_dateOfDay_6 : decode cX12_dateOfDay 6 = .ok (.iload_n 1, 1) := by decide +kernel
theorem dX12_dateOfDay_7 : decode cX12_dateOfDay 7 = .ok (.iload_n 2, 1) := by decide +kernel
theorem dX12_dateOfDay_8 : decode cX12_dateOfDay 8 = .ok (.invokestatic 263, 3) := by decide +kernel
theorem dX12_dateOfDay_11 : decode cX12_dateOfDay 11 = .ok (.ifCond .eq 9, 3) := by decide +kernel
theorem dX12_dateOfDay_14 : decode cX12_dateOfDay 14 = .ok (.sipush 366, 3) := by decide +kernel
theorem dX12_dateOfDay_17 : decode cX12_dateOfDay 17 = .ok (.goto 6, 3) := by decide +kernel
theorem dX12_dateOfDay_20 : decode cX12_dateOfDay 20 = .ok (.sipush 365, 3) := by decide +kernel
theorem dX12_dateOfDay_23 : decode cX12_dateOfDay 23 = .ok (.if_icmp .lt 28, 3) := by decide +kernel
theorem dX12_dateOfDay_26 : decode cX12_dateOfDay 26 = .ok (.iload_n 1, 1) := by decide +kernel
theorem dX12_dateOfDay_27 : decode cX12_dateOfDay 27 = .ok (.iload_n 2, 1) := by decide +kernel
theorem dX12_dateOfDay_28 : decode cX12_dateOfDay 28 = .ok (.invokestatic 263, 3) := by decide +kernel
theorem dX12_dateOfDay_31 : decode cX12_dateOfDay 31 = .ok (.ifCond .eq 9, 3) := by decide +kernel
theorem dX12_dateOfDay_34 : decode cX12_dateOfDay 34 = .ok (.sipush 366, 3) := by decide +kernel
theorem dX12_dateOfDay_37 : decode cX12_dateOfDay 37 = .ok (.goto 6, 3) := by decide +kernel
theorem dX12_dateOfDay_40 : decode cX12_dateOfDay 40 = .ok (.sipush 365, 3) := by decide +kernel
theorem dX12_dateOfDay_43 : decode cX12_dateOfDay 43 = .ok (.isub, 1) := by decide +kernel
theorem dX12_dateOfDay_44 : decode cX12_dateOfDay 44 = .ok (.istore_n 1, 1) := by decide +kernel
theorem dX12_dateOfDay_45 : decode cX12_dateOfDay 45 = .ok (.iinc 2 1, 3) := by decide +kernel
theorem dX12_dateOfDay_48 : decode cX12_dateOfDay 48 = .ok (.goto (-42), 3) := by decide +kernel
theorem dX12_dateOfDay_51 : decode cX12_dateOfDay 51 = .ok (.iconst 1, 1) := by decide +kernel
theorem dX12_dateOfDay_52 : decode cX12_dateOfDay 52 = .ok (.istore_n 3, 1) := by decide +kernel
theorem dX12_dateOfDay_53 : decode cX12_dateOfDay 53 = .ok (.iload_n 1, 1) := by decide +kernel
theorem dX12_dateOfDay_54 : decode cX12_dateOfDay 54 = .ok (.iload_n 2, 1) := by decide +kernel
theorem dX12_dateOfDay_55 : decode cX12_dateOfDay 55 = .ok (.iload_n 3, 1) := by decide +kernel
theorem dX12_dateOfDay_56 : decode cX12_dateOfDay 56 = .ok (.invokestatic 268, 3) := by decide +kernel
theorem dX12_dateOfDay_59 : decode cX12_dateOfDay 59 = .ok (.if_icmp .lt 17, 3) := by decide +kernel
theorem dX12_dateOfDay_62 : decode cX12_dateOfDay 62 = .ok (.iload_n 1, 1) := by decide +kernel
theorem dX12_dateOfDay_63 : decode cX12_dateOfDay 63 = .ok (.iload_n 2, 1) := by decide +kernel
theorem dX12_dateOfDay_64 : decode cX12_dateOfDay 64 = .ok (.iload_n 3, 1) := by decide +kernel
theorem dX12_dateOfDay_65 : decode cX12_dateOfDay 65 = .ok (.invokestatic 268, 3) := by decide +kernel
theorem dX12_dateOfDay_68 : decode cX12_dateOfDay 68 = .ok (.isub, 1) := by decide +kernel
theorem dX12_dateOfDay_69 : decode cX12_dateOfDay 69 = .ok (.istore_n 1, 1) := by decide +kernel
theorem dX12_dateOfDay_70 : decode cX12_dateOfDay 70 = .ok (.iinc 3 1, 3) := by decide +kernel
theorem dX12_dateOfDay_73 : decode cX12_dateOfDay 73 = .ok (.goto (-20), 3) := by decide +kernel
theorem dX12_dateOfDay_76 : decode cX12_dateOfDay 76 = .ok (.sipush 10000, 3) := by decide +kernel
theorem dX12_dateOfDay_79 : decode cX12_dateOfDay 79 = .ok (.iload_n 2, 1) := by decide +kernel
theorem dX12_dateOfDay_80 : decode cX12_dateOfDay 80 = .ok (.imul, 1) := by decide +kernel
theorem dX12_dateOfDay_81 : decode cX12_dateOfDay 81 = .ok (.bipush 100, 2) := by decide +kernel
theorem dX12_dateOfDay_83 : decode cX12_dateOfDay 83 = .ok (.iload_n 3, 1) := by decide +kernel
theorem dX12_dateOfDay_84 : decode cX12_dateOfDay 84 = .ok (.imul, 1) := by decide +kernel
theorem dX12_dateOfDay_85 : decode cX12_dateOfDay 85 = .ok (.iadd, 1) := by decide +kernel
theorem dX12_dateOfDay_86 : decode cX12_dateOfDay 86 = .ok (.iload_n 1, 1) := by decide +kernel
theorem dX12_dateOfDay_87 : decode cX12_dateOfDay 87 = .ok (.iadd, 1) := by decide +kernel
theorem dX12_dateOfDay_88 : decode cX12_dateOfDay 88 = .ok (.iconst 1, 1) := by decide +kernel
theorem dX12_dateOfDay_89 : decode cX12_dateOfDay 89 = .ok (.iadd, 1) := by decide +kernel
theorem dX12_dateOfDay_90 : decode cX12_dateOfDay 90 = .ok (.ireturn, 1) := by decide +kernel
set_option maxRecDepth 20000 in
theorem ggX12_noDate_X12_isDate : GoodIn wsX12_noDate wsX12_isDate := goodIn_r _ [4, 5, 6, 7, 8, 3, 9, 10, 11, 12, 13, 14, 15] (by decide +kernel) (by decide +kernel)
set_option maxRecDepth 20000 in
theorem gX12_noDate_X12_isDate : GoodIn wsX12_noDate (va_wsS RX12 271 yX12_isDate wsX12_isDate) := goodIn_app (goodIn_of _ (by decide +kernel)) ggX12_noDate_X12_isDate
set_option maxRecDepth 20000 in
theorem ggX12_noDate_X12_fails : GoodIn wsX12_noDate wsX12_fails := goodIn_r _ [19, 20, 21, 22, 23, 24, 25, 26, 27, 28, 29, 30, 31, 32, 33, 34, 35, 36, 37, 38, 39, 40, 41, 42, 43, 44, 45, 46, 47, 48, 49, 50] (by decide +kernel) (by decide +kernel)
set_option maxRecDepth 20000 in
theorem gX12_noDate_X12_fails : GoodIn wsX12_noDate (wsV RX12 96 RX12 yX12_fails wsX12_fails) := goodIn_app (goodIn_of _ (by decide +kernel)) ggX12_noDate_X12_fails
theorem dX12_noDate_0 : decode cX12_noDate 0 = .ok (.aload_n 0, 1) := by decide +kernel
theorem dX12_noDate_1 : decode cX12_noDate 1 = .ok (.iload_n 1, 1) := by decide +kernel
theorem dX12_noDate_2 : decode cX12_noDate 2 = .ok (.invokestatic 271, 3) := by decide +kernel
theorem dX12_noDate_5 : decode cX12_noDate 5 = .ok (.iconst 1, 1) := by decide +kernel
theorem dX12_noDate_6 : decode cX12_noDate 6 = .ok (.invokevirtual 96, 3) := by decide +kernel
theorem dX12_noDate_9 : decode cX12_noDate 9 = .ok (.ireturn, 1) := by decide +kernel
set_option maxRecDepth 20000 in
theorem ggX12_setYear_X12_noDate : GoodIn wsX12_setYear wsX12_noDate := goodIn_r _ [8, 9, 10, 7, 11, 12, 13, 14, 15, 16, 17, 18, 19, 20, 21, 22, 23, 24, 25, 26, 1, 30, 31, 32, 33, 34, 35, 36, 37, 38, 39, 40, 41, 42, 43, 44, 45, 46, 47, 48, 49, 50, 51, 52, 53, 54, 55, 56, 57, 58, 59] (by decide +kernel) (by decide +kernel)
set_option maxRecDepth 20000 in
theorem gX12_setYear_X12_noDate : GoodIn wsX12_setYear (wsV RX12 274 RX12 yX12_noDate wsX12_noDate) := goodIn_app (goodIn_of _ (by decide +kernel)) ggX12_setYear_X12_noDate
set_option maxRecDepth 20000 in
theorem ggX12_setYear_X12_dayOf : GoodIn wsX12_setYear wsX12_dayOf := goodIn_r _ [29, 20, 21, 7, 22, 17, 18, 19] (by decide +kernel) (by decide +kernel)
set_option maxRecDepth 20000 in
theorem gX12_setYear_X12_dayOf : GoodIn wsX12_setYear (va_wsS RX12 277 yX12_dayOf wsX12_dayOf) := goodIn_app (goodIn_of _ (by decide +kernel)) ggX12_setYear_X12_dayOf
set_option maxRecDepth 20000 in
theorem ggX12_setYear_X12_fails : GoodIn wsX12_setYear wsX12_fails := goodIn_r _ [26, 1, 30, 31, 32, 33, 34, 35, 36, 37, 38, 39, 40, 41, 42, 43, 44, 45, 46, 47, 48, 49, 50, 51, 52, 53, 54, 55, 56, 57, 58, 59] (by decide +kernel) (by decide +kernel)
set_option maxRecDepth 20000 in
theorem gX12_setYear_X12_fails : GoodIn wsX12_setYear (wsV RX12 96 RX12 yX12_fails wsX12_fails) := goodIn_app (goodIn_of _ (by decide +kernel)) ggX12_setYear_X12_fails
theorem dX12_setYear_0 : decode cX12_setYear 0 = .ok (.aload_n 0, 1) := by decide +kernel
theorem dX12_setYear_1 : decode cX12_setYear 1 = .ok (.iconst 0, 1) := by decide +kernel
theorem dX12_setYear_2 : decode cX12_setYear 2 = .ok (.putfield 1, 3) := by decide +kernel
theorem dX12_setYear_5 : decode cX12_setYear 5 = .ok (.aload_n 0, 1) := by decide +kernel
theorem dX12_setYear_6 : decode cX12_setYear 6 = .ok (.iload_n 1, 1) := by decide +kernel
theorem dX12_setYear_7 : decode cX12_setYear 7 = .ok (.invokevirtual 274, 3) := by decide +kernel
theorem dX12_setYear_10 : decode cX12_setYear 10 = .ok (.ifCond .ne 26, 3) := by decide +kernel
theorem dX12_setYear_13 : decode cX12_setYear 13 = .ok (.aload_n 0, 1) := by decide +kernel
theorem dX12_setYear_14 : decode cX12_setYear 14 = .ok (.iload_n 1, 1) := by decide +kernel
theorem dX12_setYear_15 : decode cX12_setYear 15 = .ok (.invokestatic 277, 3) := by decide +kernel
theorem dX12_setYear_18 : decode cX12_setYear 18 = .ok (.bipush 7, 2) := by decide +kernel
theorem dX12_setYear_20 : decode cX12_setYear 20 = .ok (.irem, 1) := by decide +kernel
theorem dX12_setYear_21 : decode cX12_setYear 21 = .ok (.ifCond .ne 7, 3) := by decide +kernel
theorem dX12_setYear_24 : decode cX12_setYear 24 = .ok (.iconst 1, 1) := by decide +kernel
theorem dX12_setYear_25 : decode cX12_setYear 25 = .ok (.goto 4, 3) := by decide +kernel
theorem dX12_setYear_28 : decode cX12_setYear 28 = .ok (.iconst 0, 1) := by decide +kernel
theorem dX12_setYear_29 : decode cX12_setYear 29 = .ok (.iconst 1, 1) := by decide +kernel
theorem dX12_setYear_30 : decode cX12_setYear 30 = .ok (.invokevirtual 96, 3) := by decide +kernel
theorem dX12_setYear_33 : decode cX12_setYear 33 = .ok (.ifCond .eq 5, 3) := by decide +kernel
theorem dX12_setYear_36 : decode cX12_setYear 36 = .ok (.iconst 0, 1) := by decide +kernel
theorem dX12_setYear_37 : decode cX12_setYear 37 = .ok (.ireturn, 1) := by decide +kernel
theorem dX12_setYear_38 : decode cX12_setYear 38 = .ok (.aload_n 0, 1) := by decide +kernel
theorem dX12_setYear_39 : decode cX12_setYear 39 = .ok (.getfield 67, 3) := by decide +kernel
theorem dX12_setYear_42 : decode cX12_setYear 42 = .ok (.istore_n 2, 1) := by decide +kernel
theorem dX12_setYear_43 : decode cX12_setYear 43 = .ok (.aload_n 0, 1) := by decide +kernel
theorem dX12_setYear_44 : decode cX12_setYear 44 = .ok (.iload_n 1, 1) := by decide +kernel
theorem dX12_setYear_45 : decode cX12_setYear 45 = .ok (.putfield 67, 3) := by decide +kernel
theorem dX12_setYear_48 : decode cX12_setYear 48 = .ok (.aload_n 0, 1) := by decide +kernel
theorem dX12_setYear_49 : decode cX12_setYear 49 = .ok (.iconst 0, 1) := by decide +kernel
theorem dX12_setYear_50 : decode cX12_setYear 50 = .ok (.putfield 280, 3) := by decide +kernel
theorem dX12_setYear_53 : decode cX12_setYear 53 = .ok (.iload_n 2, 1) := by decide +kernel
theorem dX12_setYear_54 : decode cX12_setYear 54 = .ok (.ireturn, 1) := by decide +kernel
set_option maxRecDepth 20000 in
theorem ggX12_holiday_X12_noDate : GoodIn wsX12_holiday wsX12_noDate := goodIn_r _ [9, 10, 11, 8, 12, 13, 14, 15, 16, 17, 18, 19, 20, 21, 22, 23, 24, 25, 26, 27, 1, 31, 32, 33, 34, 35, 36, 37, 38, 39, 40, 41, 42, 43, 44, 45, 46, 47, 48, 49, 50, 51, 52, 53, 54, 55, 56, 57, 58, 59, 60] (by decide +kernel) (by decide +kernel)
set_option maxRecDepth 20000 in
theorem gX12_holiday_X12_noDate : GoodIn wsX12_holiday (wsV RX12 274 RX12 yX12_noDate wsX12_noDate) := goodIn_app (goodIn_of _ (by decide +kernel)) ggX12_holiday_X12_noDate
set_option maxRecDepth 20000 in
theorem ggX12_holiday_X12_fails : GoodIn wsX12_holiday wsX12_fails := goodIn_r _ [27, 1, 31, 32, 33, 34, 35, 36, 37, 38, 39, 40, 41, 42, 43, 44, 45, 46, 47, 48, 49, 50, 51, 52, 53, 54, 55, 56, 57, 58, 59, 60] (by decide +kernel) (by decide +kernel)
set_option maxRecDepth 20000 in
theorem gX12_holiday_X12_fails : GoodIn wsX12_holiday (wsV RX12 96 RX12 yX12_fails wsX12_fails) := goodIn_app (goodIn_of _ (by decide +kernel)) ggX12_holiday_X12_fails
set_option maxRecDepth 20000 in
theorem ggX12_holiday_X12_dayOf : GoodIn wsX12_holiday wsX12_dayOf := goodIn_r _ [30, 21, 22, 8, 23, 18, 19, 20] (by decide +kernel) (by decide +kernel)
set_option maxRecDepth 20000 in
theorem gX12_holiday_X12_dayOf : GoodIn wsX12_holiday (va_wsS RX12 277 yX12_dayOf wsX12_dayOf) := goodIn_app (goodIn_of _ (by decide +kernel)) ggX12_holiday_X12_dayOf
theorem dX12_holiday_0 : decode cX12_holiday 0 = .ok (.aload_n 0, 1) := by decide +kernel
theorem dX12_holiday_1 : decode cX12_holiday 1 = .ok (.iconst 0, 1) := by decide +kernel
theorem dX12_holiday_2 : decode cX12_holiday 2 = .ok (.putfield 1, 3) := by decide +kernel
theorem dX12_holiday_5 : decode cX12_holiday 5 = .ok (.aload_n 0, 1) := by decide +kernel
theorem dX12_holiday_6 : decode cX12_holiday 6 = .ok (.iload_n 1, 1) := by decide +kernel
theorem dX12_holiday_7 : decode cX12_holiday 7 = .ok (.invokevirtual 274, 3) := by decide +kernel
theorem dX12_holiday_10 : decode cX12_holiday 10 = .ok (.ifCond .ne 51, 3) := by decide +kernel
theorem dX12_holiday_13 : decode cX12_holiday 13 = .ok (.aload_n 0, 1) := by decide +kernel
theorem dX12_holiday_14 : decode cX12_holiday 14 = .ok (.iload_n 2, 1) := by decide +kernel
theorem dX12_holiday_15 : decode cX12_holiday 15 = .ok (.invokevirtual 274, 3) := by decide +kernel
theorem dX12_holiday_18 : decode cX12_holiday 18 = .ok (.ifCond .ne 43, 3) := by decide +kernel
theorem dX12_holiday_21 : decode cX12_holiday 21 = .ok (.aload_n 0, 1) := by decide +kernel
theorem dX12_holiday_22 : decode cX12_holiday 22 = .ok (.iload_n 1, 1) := by decide +kernel
theorem dX12_holiday_23 : decode cX12_holiday 23 = .ok (.iload_n 2, 1) := by decide +kernel
theorem dX12_holiday_24 : decode cX12_holiday 24 = .ok (.if_icmp .gt 7, 3) := by decide +kernel
theorem dX12_holiday_27 : decode cX12_holiday 27 = .ok (.iconst 1, 1) := by decide +kernel
theorem dX12_holiday_28 : decode cX12_holiday 28 = .ok (.goto 4, 3) := by decide +kernel
theorem dX12_holiday_31 : decode cX12_holiday 31 = .ok (.iconst 0, 1) := by decide +kernel
theorem dX12_holiday_32 : decode cX12_holiday 32 = .ok (.iconst 1, 1) := by decide +kernel
theorem dX12_holiday_33 : decode cX12_holiday 33 = .ok (.invokevirtual 96, 3) := by decide +kernel
theorem dX12_holiday_36 : decode cX12_holiday 36 = .ok (.ifCond .ne 25, 3) := by decide +kernel
theorem dX12_holiday_39 : decode cX12_holiday 39 = .ok (.aload_n 0, 1) := by decide +kernel
theorem dX12_holiday_40 : decode cX12_holiday 40 = .ok (.aload_n 0, 1) := by decide +kernel
theorem dX12_holiday_41 : decode cX12_holiday 41 = .ok (.getfield 280, 3) := by decide +kernel
theorem dX12_holiday_44 : decode cX12_holiday 44 = .ok (.bipush 10, 2) := by decide +kernel
theorem dX12_holiday_46 : decode cX12_holiday 46 = .ok (.if_icmp .ge 7, 3) := by decide +kernel
theorem dX12_holiday_49 : decode cX12_holiday 49 = .ok (.iconst 1, 1) := by decide +kernel
theorem dX12_holiday_50 : decode cX12_holiday 50 = .ok (.goto 4, 3) := by decide +kernel
theorem dX12_holiday_53 : decode cX12_holiday 53 = .ok (.iconst 0, 1) := by decide +kernel
theorem dX12_holiday_54 : decode cX12_holiday 54 = .ok (.iconst 2, 1) := by decide +kernel
theorem dX12_holiday_55 : decode cX12_holiday 55 = .ok (.invokevirtual 96, 3) := by decide +kernel
theorem dX12_holiday_58 : decode cX12_holiday 58 = .ok (.ifCond .eq 5, 3) := by decide +kernel
theorem dX12_holiday_61 : decode cX12_holiday 61 = .ok (.iconst 0, 1) := by decide +kernel
theorem dX12_holiday_62 : decode cX12_holiday 62 = .ok (.ireturn, 1) := by decide +kernel
theorem dX12_holiday_63 : decode cX12_holiday 63 = .ok (.aload_n 0, 1) := by decide +kernel
theorem dX12_holiday_64 : decode cX12_holiday 64 = .ok (.getfield 70, 3) := by decide +kernel
theorem dX12_holiday_67 : decode cX12_holiday 67 = .ok (.aload_n 0, 1) := by decide +kernel
theorem dX12_holiday_68 : decode cX12_holiday 68 = .ok (.getfield 280, 3) := by decide +kernel
theorem dX12_holiday_71 : decode cX12_holiday 71 = .ok (.iload_n 1, 1) := by decide +kernel
theorem dX12_holiday_72 : decode cX12_holiday 72 = .ok (.invokestatic 277, 3) := by decide +kernel
theorem dX12_holiday_75 : decode cX12_holiday 75 = .ok (.iastore, 1) := by decide +kernel
theorem dX12_holiday_76 : decode cX12_holiday 76 = .ok (.aload_n 0, 1) := by decide +kernel
theorem dX12_holiday_77 : decode cX12_holiday 77 = .ok (.getfield 73, 3) := by decide +kernel
theorem dX12_holiday_80 : decode cX12_holiday 80 = .ok (.aload_n 0, 1) := by decide +kernel
theorem dX12_holiday_81 : decode cX12_holiday 81 = .ok (.getfield 280, 3) := by decide +kernel
theorem dX12_holiday_84 : decode cX12_holiday 84 = .ok (.iload_n 2, 1) := by decide +kernel
theorem dX12_holiday_85 : decode cX12_holiday 85 = .ok (.invokestatic 277, 3) := by decide +kernel
theorem dX12_holiday_88 : decode cX12_holiday 88 = .ok (.iastore, 1) := by decide +kernel
theorem dX12_holiday_89 : decode cX12_holiday 89 = .ok (.aload_n 0, 1) := by decide +kernel
theorem dX12_holiday_90 : decode cX12_holiday 90 = .ok (.dup, 1) := by decide +kernel
theorem dX12_holiday_91 : decode cX12_holiday 91 = .ok (.getfield 280, 3) := by decide +kernel
theorem dX12_holiday_94 : decode cX12_holiday 94 = .ok (.iconst 1, 1) := by decide +kernel
theorem dX12_holiday_95 : decode cX12_holiday 95 = .ok (.iadd, 1) := by decide +kernel
theorem dX12_holiday_96 : decode cX12_holiday 96 = .ok (.putfield 280, 3) := by decide +kernel
theorem dX12_holiday_99 : decode cX12_holiday 99 = .ok (.aload_n 0, 1) := by decide +kernel
theorem dX12_holiday_100 : decode cX12_holiday 100 = .ok (.getfield 280, 3) := by decide +kernel
theorem dX12_holiday_103 : decode cX12_holiday 103 = .ok (.ireturn, 1) := by decide +kernel
set_option maxRecDepth 20000 in
theorem ggX12_isHoliday_X12_in : GoodIn wsX12_isHoliday wsX12_in := goodIn_r _ [7] (by decide +kernel) (by decide +kernel)
set_option maxRecDepth 20000 in
theorem gX12_isHoliday_X12_in : GoodIn wsX12_isHoliday (va_wsS RX12 92 yX12_in wsX12_in) := goodIn_app (goodIn_of _ (by decide +kernel)) ggX12_isHoliday_X12_in
theorem dX12_isHoliday_0 : decode cX12_isHoliday 0 = .ok (.iconst 0, 1) := by decide +kernel
theorem dX12_isHoliday_1 : decode cX12_isHoliday 1 = .ok (.istore_n 2, 1) := by decide +kernel
theorem dX12_isHoliday_2 : decode cX12_isHoliday 2 = .ok (.iload_n 2, 1) := by decide +kernel
theorem dX12_isHoliday_3 : decode cX12_isHoliday 3 = .ok (.aload_n 0, 1) := by decide +kernel
theorem dX12_isHoliday_4 : decode cX12_isHoliday 4 = .ok (.getfield 280, 3) := by decide +kernel
theorem dX12_isHoliday_7 : decode cX12_isHoliday 7 = .ok (.if_icmp .ge 30, 3) := by decide +kernel
theorem dX12_isHoliday_10 : decode cX12_isHoliday 10 = .ok (.iload_n 1, 1) := by decide +kernel
theorem dX12_isHoliday_11 : decode cX12_isHoliday 11 = .ok (.aload_n 0, 1) := by decide +kernel
theorem dX12_isHoliday_12 : decode cX12_isHoliday 12 = .ok (.getfield 70, 3) := by decide +kernel
theorem dX12_isHoliday_15 : decode cX12_isHoliday 15 = .ok (.iload_n 2, 1) := by decide +kernel
theorem dX12_isHoliday_16 : decode cX12_isHoliday 16 = .ok (.iaload, 1) := by decide +kernel
theorem dX12_isHoliday_17 : decode cX12_isHoliday 17 = .ok (.aload_n 0, 1) := by decide +kernel
theorem dX12_isHoliday_18 : decode cX12_isHoliday 18 = .ok (.getfield 73, 3) := by decide +kernel
theorem dX12_isHoliday_21 : decode cX12_isHoliday 21 = .ok (.iload_n 2, 1) := by decide +kernel
theorem dX12_isHoliday_22 : decode cX12_isHoliday 22 = .ok (.iaload, 1) := by decide +kernel
theorem dX12_isHoliday_23 : decode cX12_isHoliday 23 = .ok (.invokestatic 92, 3) := by decide +kernel
theorem dX12_isHoliday_26 : decode cX12_isHoliday 26 = .ok (.ifCond .eq 5, 3) := by decide +kernel
theorem dX12_isHoliday_29 : decode cX12_isHoliday 29 = .ok (.iconst 1, 1) := by decide +kernel
theorem dX12_isHoliday_30 : decode cX12_isHoliday 30 = .ok (.ireturn, 1) := by decide +kernel
theorem dX12_isHoliday_31 : decode cX12_isHoliday 31 = .ok (.iinc 2 1, 3) := by decide +kernel
theorem dX12_isHoliday_34 : decode cX12_isHoliday 34 = .ok (.goto (-32), 3) := by decide +kernel
theorem dX12_isHoliday_37 : decode cX12_isHoliday 37 = .ok (.iconst 0, 1) := by decide +kernel
theorem dX12_isHoliday_38 : decode cX12_isHoliday 38 = .ok (.ireturn, 1) := by decide +kernel
set_option maxRecDepth 20000 in
theorem ggX12_isInYear_X12_dayOf : GoodIn wsX12_isInYear wsX12_dayOf := goodIn_r _ [5, 6, 7, 4, 8, 9, 10, 11] (by decide +kernel) (by decide +kernel)
set_option maxRecDepth 20000 in
theorem gX12_isInYear_X12_dayOf : GoodIn wsX12_isInYear (va_wsS RX12 277 yX12_dayOf wsX12_dayOf) := goodIn_app (goodIn_of _ (by decide +kernel)) ggX12_isInYear_X12_dayOf
set_option maxRecDepth 20000 in
theorem ggX12_isInYear_X12_in : GoodIn wsX12_isInYear wsX12_in := goodIn_r _ [14] (by decide +kernel) (by decide +kernel)
set_option maxRecDepth 20000 in
theorem gX12_isInYear_X12_in : GoodIn wsX12_isInYear (va_wsS RX12 92 yX12_in wsX12_in) := goodIn_app (goodIn_of _ (by decide +kernel)) ggX12_isInYear_X12_in
theorem dX12_isInYear_0 : decode cX12_isInYear 0 = .ok (.iload_n 1, 1) := by decide +kernel
theorem dX12_isInYear_1 : decode cX12_isInYear 1 = .ok (.aload_n 0, 1) := by decide +kernel
theorem dX12_isInYear_2 : decode cX12_isInYear 2 = .ok (.getfield 67, 3) := by decide +kernel
theorem dX12_isInYear_5 : decode cX12_isInYear 5 = .ok (.invokestatic 277, 3) := by decide +kernel
theorem dX12_isInYear_8 : decode cX12_isInYear 8 = .ok (.aload_n 0, 1) := by decide +kernel
theorem dX12_isInYear_9 : decode cX12_isInYear 9 = .ok (.getfield 67, 3) := by decide +kernel
theorem dX12_isInYear_12 : decode cX12_isInYear 12 = .ok (.invokestatic 277, 3) := by decide +kernel
theorem dX12_isInYear_15 : decode cX12_isInYear 15 = .ok (.sipush 280, 3) := by decide +kernel
theorem dX12_isInYear_18 : decode cX12_isInYear 18 = .ok (.iadd, 1) := by decide +kernel
theorem dX12_isInYear_19 : decode cX12_isInYear 19 = .ok (.iconst 1, 1) := by decide +kernel
theorem dX12_isInYear_20 : decode cX12_isInYear 20 = .ok (.isub, 1) := by decide +kernel
theorem dX12_isInYear_21 : decode cX12_isInYear 21 = .ok (.invokestatic 92, 3) := by decide +kernel
theorem dX12_isInYear_24 : decode cX12_isInYear 24 = .ok (.ireturn, 1) := by decide +kernel
set_option maxRecDepth 20000 in
theorem ggX12_isSchoolDay_X12_isInYear : GoodIn wsX12_isSchoolDay wsX12_isInYear := goodIn_r _ [5, 6, 7, 8, 4, 9, 10, 11, 12, 13, 14, 15, 16, 17, 18, 26, 27, 28, 29, 30, 31, 32, 33, 34, 35, 36, 37, 38, 39, 40, 41, 42, 43, 44, 45, 46, 47, 48, 49, 50, 51, 52, 53, 54, 55] (by decide +kernel) (by decide +kernel)
set_option maxRecDepth 20000 in
theorem gX12_isSchoolDay_X12_isInYear : GoodIn wsX12_isSchoolDay (wsV RX12 283 RX12 yX12_isInYear wsX12_isInYear) := goodIn_app (goodIn_of _ (by decide +kernel)) ggX12_isSchoolDay_X12_isInYear
set_option maxRecDepth 20000 in
theorem ggX12_isSchoolDay_X12_isHoliday : GoodIn wsX12_isSchoolDay wsX12_isHoliday := goodIn_r _ [22, 23, 24, 25, 16, 17, 4, 18, 26, 27, 28, 29, 30, 31, 32, 33, 34, 35, 36, 37, 38, 39, 40, 41, 42, 43, 44, 45, 46, 47, 48, 49, 50, 51, 52, 53, 54, 55] (by decide +kernel) (by decide +kernel)
set_option maxRecDepth 20000 in
theorem gX12_isSchoolDay_X12_isHoliday : GoodIn wsX12_isSchoolDay (wsV RX12 286 RX12 yX12_isHoliday wsX12_isHoliday) := goodIn_app (goodIn_of _ (by decide +kernel)) ggX12_isSchoolDay_X12_isHoliday
theorem dX12_isSchoolDay_0 : decode cX12_isSchoolDay 0 = .ok (.aload_n 0, 1) := by decide +kernel
theorem dX12_isSchoolDay_1 : decode cX12_isSchoolDay 1 = .ok (.iload_n 1, 1) := by decide +kernel
theorem dX12_isSchoolDay_2 : decode cX12_isSchoolDay 2 = .ok (.invokevirtual 283, 3) := by decide +kernel
theorem dX12_isSchoolDay_5 : decode cX12_isSchoolDay 5 = .ok (.ifCond .eq 23, 3) := by decide +kernel
theorem dX12_isSchoolDay_8 : decode cX12_isSchoolDay 8 = .ok (.iload_n 1, 1) := by decide +kernel
theorem dX12_isSchoolDay_9 : decode cX12_isSchoolDay 9 = .ok (.bipush 7, 2) := by decide +kernel
theorem dX12_isSchoolDay_11 : decode cX12_isSchoolDay 11 = .ok (.irem, 1) := by decide +kernel
theorem dX12_isSchoolDay_12 : decode cX12_isSchoolDay 12 = .ok (.iconst 5, 1) := by decide +kernel
theorem dX12_isSchoolDay_13 : decode cX12_isSchoolDay 13 = .ok (.if_icmp .ge 15, 3) := by decide +kernel
theorem dX12_isSchoolDay_16 : decode cX12_isSchoolDay 16 = .ok (.aload_n 0, 1) := by decide +kernel
theorem dX12_isSchoolDay_17 : decode cX12_isSchoolDay 17 = .ok (.iload_n 1, 1) := by decide +kernel
theorem dX12_isSchoolDay_18 : decode cX12_isSchoolDay 18 = .ok (.invokevirtual 286, 3) := by decide +kernel
theorem dX12_isSchoolDay_21 : decode cX12_isSchoolDay 21 = .ok (.ifCond .ne 7, 3) := by decide +kernel
theorem dX12_isSchoolDay_24 : decode cX12_isSchoolDay 24 = .ok (.iconst 1, 1) := by decide +kernel
theorem dX12_isSchoolDay_25 : decode cX12_isSchoolDay 25 = .ok (.goto 4, 3) := by decide +kernel
theorem dX12_isSchoolDay_28 : decode cX12_isSchoolDay 28 = .ok (.iconst 0, 1) := by decide +kernel
theorem dX12_isSchoolDay_29 : decode cX12_isSchoolDay 29 = .ok (.ireturn, 1) := by decide +kernel
set_option maxRecDepth 20000 in
theorem ggX12_ahead_X12_dayOf : GoodIn wsX12_ahead wsX12_dayOf := goodIn_r _ [5, 6, 7, 4, 8, 9, 10, 11] (by decide +kernel) (by decide +kernel)
set_option maxRecDepth 20000 in
theorem gX12_ahead_X12_dayOf : GoodIn wsX12_ahead (va_wsS RX12 277 yX12_dayOf wsX12_dayOf) := goodIn_app (goodIn_of _ (by decide +kernel)) ggX12_ahead_X12_dayOf
set_option maxRecDepth 20000 in
theorem ggX12_ahead_X12_isInYear : GoodIn wsX12_ahead wsX12_isInYear := goodIn_r _ [15, 1, 2, 3, 4, 5, 6, 7, 8, 9, 10, 11, 16, 17, 18, 30, 31, 32, 33, 34, 35, 36, 37, 38, 39, 40, 41, 42, 43, 44, 45, 46, 47, 48, 49, 50, 51, 52, 53, 54, 55, 56, 57, 58, 59] (by decide +kernel) (by decide +kernel)
set_option maxRecDepth 20000 in
theorem gX12_ahead_X12_isInYear : GoodIn wsX12_ahead (wsV RX12 283 RX12 yX12_isInYear wsX12_isInYear) := goodIn_app (goodIn_of _ (by decide +kernel)) ggX12_ahead_X12_isInYear
set_option maxRecDepth 20000 in
theorem ggX12_ahead_X12_isSchoolDay : GoodIn wsX12_ahead wsX12_isSchoolDay := goodIn_r _ [22, 12, 13, 14, 4, 15, 1, 2, 3, 5, 6, 7, 8, 9, 10, 11, 16, 17, 18, 23, 24, 25, 26, 27, 28, 29, 30, 31, 32, 33, 34, 35, 36, 37, 38, 39, 40, 41, 42, 43, 44, 45, 46, 47, 48, 49, 50, 51, 52, 53, 54, 55, 56, 57, 58, 59] (by decide +kernel) (by decide +kernel)
set_option maxRecDepth 20000 in
theorem gX12_ahead_X12_isSchoolDay : GoodIn wsX12_ahead (wsV RX12 289 RX12 yX12_isSchoolDay wsX12_isSchoolDay) := goodIn_app (goodIn_of _ (by decide +kernel)) ggX12_ahead_X12_isSchoolDay
theorem dX12_ahead_0 : decode cX12_ahead 0 = .ok (.iconst 0, 1) := by decide +kernel
theorem dX12_ahead_1 : decode cX12_ahead 1 = .ok (.istore_n 2, 1) := by decide +kernel
theorem dX12_ahead_2 : decode cX12_ahead 2 = .ok (.aload_n 0, 1) := by decide +kernel
theorem dX12_ahead_3 : decode cX12_ahead 3 = .ok (.getfield 67, 3) := by decide +kernel
theorem dX12_ahead_6 : decode cX12_ahead 6 = .ok (.invokestatic 277, 3) := by decide +kernel
theorem dX12_ahead_9 : decode cX12_ahead 9 = .ok (.istore_n 3, 1) := by decide +kernel
theorem dX12_ahead_10 : decode cX12_ahead 10 = .ok (.iload_n 3, 1) := by decide +kernel
theorem dX12_ahead_11 : decode cX12_ahead 11 = .ok (.iload_n 1, 1) := by decide +kernel
theorem dX12_ahead_12 : decode cX12_ahead 12 = .ok (.if_icmp .ge 33, 3) := by decide +kernel
theorem dX12_ahead_15 : decode cX12_ahead 15 = .ok (.aload_n 0, 1) := by decide +kernel
theorem dX12_ahead_16 : decode cX12_ahead 16 = .ok (.iload_n 3, 1) := by decide +kernel
theorem dX12_ahead_17 : decode cX12_ahead 17 = .ok (.invokevirtual 283, 3) := by decide +kernel
theorem dX12_ahead_20 : decode cX12_ahead 20 = .ok (.ifCond .eq 25, 3) := by decide +kernel
theorem dX12_ahead_23 : decode cX12_ahead 23 = .ok (.iload_n 2, 1) := by decide +kernel
theorem dX12_ahead_24 : decode cX12_ahead 24 = .ok (.aload_n 0, 1) := by decide +kernel
theorem dX12_ahead_25 : decode cX12_ahead 25 = .ok (.iload_n 3, 1) := by decide +kernel
theorem dX12_ahead_26 : decode cX12_ahead 26 = .ok (.invokevirtual 289, 3) := by decide +kernel
theorem dX12_ahead_29 : decode cX12_ahead 29 = .ok (.ifCond .eq 7, 3) := by decide +kernel
theorem dX12_ahead_32 : decode cX12_ahead 32 = .ok (.iconst 1, 1) := by decide +kernel
theorem dX12_ahead_33 : decode cX12_ahead 33 = .ok (.goto 4, 3) := by decide +kernel
theorem dX12_ahead_36 : decode cX12_ahead 36 = .ok (.iconst 0, 1) := by decide +kernel
theorem dX12_ahead_37 : decode cX12_ahead 37 = .ok (.iadd, 1) := by decide +kernel
theorem dX12_ahead_38 : decode cX12_ahead 38 = .ok (.istore_n 2, 1) := by decide +kernel
theorem dX12_ahead_39 : decode cX12_ahead 39 = .ok (.iinc 3 1, 3) := by decide +kernel
theorem dX12_ahead_42 : decode cX12_ahead 42 = .ok (.goto (-32), 3) := by decide +kernel
theorem dX12_ahead_45 : decode cX12_ahead 45 = .ok (.iload_n 2, 1) := by decide +kernel
theorem dX12_ahead_46 : decode cX12_ahead 46 = .ok (.ireturn, 1) := by decide +kernel
set_option maxRecDepth 20000 in
theorem ggX12_schoolDays_X12_dayOf : GoodIn wsX12_schoolDays wsX12_dayOf := goodIn_r _ [6, 7, 8, 5, 9, 10, 11, 12] (by decide +kernel) (by decide +kernel)
set_option maxRecDepth 20000 in
theorem gX12_schoolDays_X12_dayOf : GoodIn wsX12_schoolDays (va_wsS RX12 277 yX12_dayOf wsX12_dayOf) := goodIn_app (goodIn_of _ (by decide +kernel)) ggX12_schoolDays_X12_dayOf
set_option maxRecDepth 20000 in
theorem ggX12_schoolDays_X12_ahead : GoodIn wsX12_schoolDays wsX12_ahead := goodIn_r _ [16, 2, 3, 4, 5, 6, 7, 8, 9, 10, 11, 12, 17, 18, 19, 20, 21, 22, 23, 24, 25, 26, 27, 28, 29, 30, 31, 32, 33, 34, 35, 36, 37, 38, 39, 40, 41, 42, 43, 44, 45, 46, 47, 48, 49, 50, 51, 52, 53, 54, 55, 56, 57, 58, 59, 60, 61, 62, 63, 64] (by decide +kernel) (by decide +kernel)
set_option maxRecDepth 20000 in
theorem gX12_schoolDays_X12_ahead : GoodIn wsX12_schoolDays (wsV RX12 292 RX12 yX12_ahead wsX12_ahead) := goodIn_app (goodIn_of _ (by decide +kernel)) ggX12_schoolDays_X12_ahead
theorem dX12_schoolDays_0 : decode cX12_schoolDays 0 = .ok (.aload_n 0, 1) := by decide +kernel
theorem dX12_schoolDays_1 : decode cX12_schoolDays 1 = .ok (.iconst 0, 1) := by decide +kernel
theorem dX12_schoolDays_2 : decode cX12_schoolDays 2 = .ok (.putfield 1, 3) := by decide +kernel
theorem dX12_schoolDays_5 : decode cX12_schoolDays 5 = .ok (.aload_n 0, 1) := by decide +kernel
theorem dX12_schoolDays_6 : decode cX12_schoolDays 6 = .ok (.aload_n 0, 1) := by decide +kernel
theorem dX12_schoolDays_7 : decode cX12_schoolDays 7 = .ok (.getfield 67, 3) := by decide +kernel
theorem dX12_schoolDays_10 : decode cX12_schoolDays 10 = .ok (.invokestatic 277, 3) := by decide +kernel
theorem dX12_schoolDays_13 : decode cX12_schoolDays 13 = .ok (.sipush 280, 3) := by decide +kernel
theorem dX12_schoolDays_16 : decode cX12_schoolDays 16 = .ok (.iadd, 1) := by decide +kernel
theorem dX12_schoolDays_17 : decode cX12_schoolDays 17 = .ok (.invokevirtual 292, 3) := by decide +kernel
theorem dX12_schoolDays_20 : decode cX12_schoolDays 20 = .ok (.ireturn, 1) := by decide +kernel
set_option maxRecDepth 20000 in
theorem ggX12_dateOf_X12_dayOf : GoodIn wsX12_dateOf wsX12_dayOf := goodIn_r _ [6, 7, 8, 5, 9, 10, 11, 12] (by decide +kernel) (by decide +kernel)
set_option maxRecDepth 20000 in
theorem gX12_dateOf_X12_dayOf : GoodIn wsX12_dateOf (va_wsS RX12 277 yX12_dayOf wsX12_dayOf) := goodIn_app (goodIn_of _ (by decide +kernel)) ggX12_dateOf_X12_dayOf
set_option maxRecDepth 20000 in
theorem ggX12_dateOf_X12_ahead : GoodIn wsX12_dateOf wsX12_ahead := goodIn_r _ [16, 2, 3, 4, 5, 6, 7, 8, 9, 10, 11, 12, 17, 18, 19, 20, 21, 22, 23, 24, 25, 26, 27, 28, 29, 30, 31, 32, 33, 34, 42, 43, 44, 45, 46, 47, 48, 49, 50, 51, 52, 53, 54, 55, 56, 57, 58, 59, 60, 61, 62, 63, 64, 65, 66, 67, 68, 69, 70, 71] (by decide +kernel) (by decide +kernel)
set_option maxRecDepth 20000 in
theorem gX12_dateOf_X12_ahead : GoodIn wsX12_dateOf (wsV RX12 292 RX12 yX12_ahead wsX12_ahead) := goodIn_app (goodIn_of _ (by decide +kernel)) ggX12_dateOf_X12_ahead
set_option maxRecDepth 20000 in
theorem ggX12_dateOf_X12_in : GoodIn wsX12_dateOf wsX12_in := goodIn_r _ [23] (by decide +kernel) (by decide +kernel)
set_option maxRecDepth 20000 in
theorem gX12_dateOf_X12_in : GoodIn wsX12_dateOf (va_wsS RX12 92 yX12_in wsX12_in) := goodIn_app (goodIn_of _ (by decide +kernel)) ggX12_dateOf_X12_in
set_option maxRecDepth 20000 in
theorem ggX12_dateOf_X12_fails : GoodIn wsX12_dateOf wsX12_fails := goodIn_r _ [38, 1, 42, 43, 44, 45, 46, 47, 48, 49, 50, 51, 52, 53, 54, 55, 56, 57, 58, 59, 60, 61, 62, 63, 64, 65, 66, 67, 68, 69, 70, 71] (by decide +kernel) (by decide +kernel)
set_option maxRecDepth 20000 in
theorem gX12_dateOf_X12_fails : GoodIn wsX12_dateOf (wsV RX12 96 RX12 yX12_fails wsX12_fails) := goodIn_app (goodIn_of _ (by decide +kernel)) ggX12_dateOf_X12_fails
set_option maxRecDepth 20000 in
theorem ggX12_dateOf_X12_isSchoolDay : GoodIn wsX12_dateOf wsX12_isSchoolDay := goodIn_r _ [27, 17, 18, 19, 5, 20, 2, 3, 4, 6, 7, 8, 9, 10, 11, 12, 21, 22, 23, 28, 29, 30, 31, 32, 33, 34, 42, 43, 44, 45, 46, 47, 48, 49, 50, 51, 52, 53, 54, 55, 56, 57, 58, 59, 60, 61, 62, 63, 64, 65, 66, 67, 68, 69, 70, 71] (by decide +kernel) (by decide +kernel)
set_option maxRecDepth 20000 in
theorem gX12_dateOf_X12_isSchoolDay : GoodIn wsX12_dateOf (wsV RX12 289 RX12 yX12_isSchoolDay wsX12_isSchoolDay) := goodIn_app (goodIn_of _ (by decide +kernel)) ggX12_dateOf_X12_isSchoolDay
set_option maxRecDepth 20000 in
theorem ggX12_dateOf_X12_dateOfDay : GoodIn wsX12_dateOf wsX12_dateOfDay := goodIn_r _ [41, 7, 8, 5, 9, 10, 11, 12] (by decide +kernel) (by decide +kernel)
set_option maxRecDepth 20000 in
theorem gX12_dateOf_X12_dateOfDay : GoodIn wsX12_dateOf (va_wsS RX12 295 yX12_dateOfDay wsX12_dateOfDay) := goodIn_app (goodIn_of _ (by decide +kernel)) ggX12_dateOf_X12_dateOfDay
theorem dX12_dateOf_0 : decode cX12_dateOf 0 = .ok (.aload_n 0, 1) := by decide +kernel
theorem dX12_dateOf_1 : decode cX12_dateOf 1 = .ok (.iconst 0, 1) := by decide +kernel
theorem dX12_dateOf_2 : decode cX12_dateOf 2 = .ok (.putfield 1, 3) := by decide +kernel
theorem dX12_dateOf_5 : decode cX12_dateOf 5 = .ok (.aload_n 0, 1) := by decide +kernel
theorem dX12_dateOf_6 : decode cX12_dateOf 6 = .ok (.iload_n 1, 1) := by decide +kernel
theorem dX12_dateOf_7 : decode cX12_dateOf 7 = .ok (.iconst 0, 1) := by decide +kernel
theorem dX12_dateOf_8 : decode cX12_dateOf 8 = .ok (.aload_n 0, 1) := by decide +kernel
theorem dX12_dateOf_9 : decode cX12_dateOf 9 = .ok (.aload_n 0, 1) := by decide +kernel
theorem dX12_dateOf_10 : decode cX12_dateOf 10 = .ok (.getfield 67, 3) := by decide +kernel
theorem dX12_dateOf_13 : decode cX12_dateOf 13 = .ok (.invokestatic 277, 3) := by decide +kernel
theorem dX12_dateOf_16 : decode cX12_dateOf 16 = .ok (.sipush 280, 3) := by decide +kernel
theorem dX12_dateOf_19 : decode cX12_dateOf 19 = .ok (.iadd, 1) := by decide +kernel
theorem dX12_dateOf_20 : decode cX12_dateOf 20 = .ok (.invokevirtual 292, 3) := by decide +kernel
theorem dX12_dateOf_23 : decode cX12_dateOf 23 = .ok (.iconst 1, 1) := by decide +kernel
theorem dX12_dateOf_24 : decode cX12_dateOf 24 = .ok (.isub, 1) := by decide +kernel
theorem dX12_dateOf_25 : decode cX12_dateOf 25 = .ok (.invokestatic 92, 3) := by decide +kernel
theorem dX12_dateOf_28 : decode cX12_dateOf 28 = .ok (.iconst 1, 1) := by decide +kernel
theorem dX12_dateOf_29 : decode cX12_dateOf 29 = .ok (.invokevirtual 96, 3) := by decide +kernel
theorem dX12_dateOf_32 : decode cX12_dateOf 32 = .ok (.ifCond .eq 5, 3) := by decide +kernel
theorem dX12_dateOf_35 : decode cX12_dateOf 35 = .ok (.iconst 0, 1) := by decide +kernel
theorem dX12_dateOf_36 : decode cX12_dateOf 36 = .ok (.ireturn, 1) := by decide +kernel
theorem dX12_dateOf_37 : decode cX12_dateOf 37 = .ok (.aload_n 0, 1) := by decide +kernel
theorem dX12_dateOf_38 : decode cX12_dateOf 38 = .ok (.getfield 67, 3) := by decide +kernel
theorem dX12_dateOf_41 : decode cX12_dateOf 41 = .ok (.invokestatic 277, 3) := by decide +kernel
theorem dX12_dateOf_44 : decode cX12_dateOf 44 = .ok (.istore_n 2, 1) := by decide +kernel
theorem dX12_dateOf_45 : decode cX12_dateOf 45 = .ok (.aload_n 0, 1) := by decide +kernel
theorem dX12_dateOf_46 : decode cX12_dateOf 46 = .ok (.iload_n 2, 1) := by decide +kernel
theorem dX12_dateOf_47 : decode cX12_dateOf 47 = .ok (.invokevirtual 289, 3) := by decide +kernel
theorem dX12_dateOf_50 : decode cX12_dateOf 50 = .ok (.ifCond .eq 12, 3) := by decide +kernel
theorem dX12_dateOf_53 : decode cX12_dateOf 53 = .ok (.aload_n 0, 1) := by decide +kernel
theorem dX12_dateOf_54 : decode cX12_dateOf 54 = .ok (.iload_n 2, 1) := by decide +kernel
theorem dX12_dateOf_55 : decode cX12_dateOf 55 = .ok (.invokevirtual 292, 3) := by decide +kernel
theorem dX12_dateOf_58 : decode cX12_dateOf 58 = .ok (.iload_n 1, 1) := by decide +kernel
theorem dX12_dateOf_59 : decode cX12_dateOf 59 = .ok (.if_icmp .eq 9, 3) := by decide +kernel
theorem dX12_dateOf_62 : decode cX12_dateOf 62 = .ok (.iinc 2 1, 3) := by decide +kernel
theorem dX12_dateOf_65 : decode cX12_dateOf 65 = .ok (.goto (-20), 3) := by decide +kernel
theorem dX12_dateOf_68 : decode cX12_dateOf 68 = .ok (.iload_n 2, 1) := by decide +kernel
theorem dX12_dateOf_69 : decode cX12_dateOf 69 = .ok (.invokestatic 295, 3) := by decide +kernel
theorem dX12_dateOf_72 : decode cX12_dateOf 72 = .ok (.ireturn, 1) := by decide +kernel
set_option maxRecDepth 20000 in
theorem ggX12_numberOf_X12_noDate : GoodIn wsX12_numberOf wsX12_noDate := goodIn_r _ [6, 7, 8, 5, 9, 10, 11, 12, 13, 14, 15, 16, 17, 18, 19, 20, 21, 22, 23, 24, 1, 48, 49, 50, 51, 52, 53, 54, 55, 56, 57, 58, 59, 60, 61, 62, 63, 64, 65, 66, 67, 68, 69, 70, 71, 72, 73, 74, 75, 76, 77] (by decide +kernel) (by decide +kernel)
set_option maxRecDepth 20000 in
theorem gX12_numberOf_X12_noDate : GoodIn wsX12_numberOf (wsV RX12 274 RX12 yX12_noDate wsX12_noDate) := goodIn_app (goodIn_of _ (by decide +kernel)) ggX12_numberOf_X12_noDate
set_option maxRecDepth 20000 in
theorem ggX12_numberOf_X12_dayOf : GoodIn wsX12_numberOf wsX12_dayOf := goodIn_r _ [27, 18, 19, 5, 20, 15, 16, 17] (by decide +kernel) (by decide +kernel)
set_option maxRecDepth 20000 in
theorem gX12_numberOf_X12_dayOf : GoodIn wsX12_numberOf (va_wsS RX12 277 yX12_dayOf wsX12_dayOf) := goodIn_app (goodIn_of _ (by decide +kernel)) ggX12_numberOf_X12_dayOf
set_option maxRecDepth 20000 in
theorem ggX12_numberOf_X12_isSchoolDay : GoodIn wsX12_numberOf wsX12_isSchoolDay := goodIn_r _ [31, 32, 33, 34, 5, 35, 36, 25, 26, 27, 18, 19, 20, 15, 16, 17, 12, 13, 14, 37, 38, 39, 40, 41, 42, 43, 48, 49, 50, 51, 52, 53, 54, 55, 56, 57, 58, 59, 60, 61, 62, 63, 64, 65, 66, 67, 68, 69, 70, 71, 72, 73, 74, 75, 76, 77] (by decide +kernel) (by decide +kernel)
set_option maxRecDepth 20000 in
theorem gX12_numberOf_X12_isSchoolDay : GoodIn wsX12_numberOf (wsV RX12 289 RX12 yX12_isSchoolDay wsX12_isSchoolDay) := goodIn_app (goodIn_of _ (by decide +kernel)) ggX12_numberOf_X12_isSchoolDay
set_option maxRecDepth 20000 in
theorem ggX12_numberOf_X12_ahead : GoodIn wsX12_numberOf wsX12_ahead := goodIn_r _ [47, 36, 25, 26, 5, 27, 18, 19, 20, 15, 16, 17, 32, 33, 34, 35, 12, 13, 14, 28, 29, 30, 31, 37, 38, 39, 40, 41, 42, 43, 48, 49, 50, 51, 52, 53, 54, 55, 56, 57, 58, 59, 60, 61, 62, 63, 64, 65, 66, 67, 68, 69, 70, 71, 72, 73, 74, 75, 76, 77] (by decide +kernel) (by decide +kernel)
set_option maxRecDepth 20000 in
theorem gX12_numberOf_X12_ahead : GoodIn wsX12_numberOf (wsV RX12 292 RX12 yX12_ahead wsX12_ahead) := goodIn_app (goodIn_of _ (by decide +kernel)) ggX12_numberOf_X12_ahead
theorem dX12_numberOf_0 : decode cX12_numberOf 0 = .ok (.aload_n 0, 1) := by decide +kernel
theorem dX12_numberOf_1 : decode cX12_numberOf 1 = .ok (.iconst 0, 1) := by decide +kernel
theorem dX12_numberOf_2 : decode cX12_numberOf 2 = .ok (.putfield 1, 3) := by decide +kernel
theorem dX12_numberOf_5 : decode cX12_numberOf 5 = .ok (.aload_n 0, 1) := by decide +kernel
theorem dX12_numberOf_6 : decode cX12_numberOf 6 = .ok (.iload_n 1, 1) := by decide +kernel
theorem dX12_numberOf_7 : decode cX12_numberOf 7 = .ok (.invokevirtual 274, 3) := by decide +kernel
theorem dX12_numberOf_10 : decode cX12_numberOf 10 = .ok (.ifCond .eq 5, 3) := by decide +kernel
theorem dX12_numberOf_13 : decode cX12_numberOf 13 = .ok (.iconst 0, 1) := by decide +kernel
theorem dX12_numberOf_14 : decode cX12_numberOf 14 = .ok (.ireturn, 1) := by decide +kernel
theorem dX12_numberOf_15 : decode cX12_numberOf 15 = .ok (.iload_n 1, 1) := by decide +kernel
theorem dX12_numberOf_16 : decode cX12_numberOf 16 = .ok (.invokestatic 277, 3) := by decide +kernel
theorem dX12_numberOf_19 : decode cX12_numberOf 19 = .ok (.istore_n 2, 1) := by decide +kernel
theorem dX12_numberOf_20 : decode cX12_numberOf 20 = .ok (.aload_n 0, 1) := by decide +kernel
theorem dX12_numberOf_21 : decode cX12_numberOf 21 = .ok (.iload_n 2, 1) := by decide +kernel
theorem dX12_numberOf_22 : decode cX12_numberOf 22 = .ok (.invokevirtual 289, 3) := by decide +kernel
theorem dX12_numberOf_25 : decode cX12_numberOf 25 = .ok (.ifCond .eq 11, 3) := by decide +kernel
theorem dX12_numberOf_28 : decode cX12_numberOf 28 = .ok (.aload_n 0, 1) := by decide +kernel
theorem dX12_numberOf_29 : decode cX12_numberOf 29 = .ok (.iload_n 2, 1) := by decide +kernel
theorem dX12_numberOf_30 : decode cX12_numberOf 30 = .ok (.invokevirtual 292, 3) := by decide +kernel
theorem dX12_numberOf_33 : decode cX12_numberOf 33 = .ok (.goto 4, 3) := by decide +kernel
theorem dX12_numberOf_36 : decode cX12_numberOf 36 = .ok (.iconst (-1), 1) := by decide +kernel
theorem dX12_numberOf_37 : decode cX12_numberOf 37 = .ok (.ireturn, 1) := by decide +kernel
set_option maxRecDepth 20000 in
theorem ggX12_nextDay_X12_noDate : GoodIn wsX12_nextDay wsX12_noDate := goodIn_r _ [7, 8, 9, 6, 10, 11, 12, 13, 14, 15, 16, 17, 18, 19, 20, 21, 22, 23, 24, 25, 1, 47, 48, 49, 50, 51, 52, 53, 54, 55, 56, 57, 58, 59, 60, 61, 62, 63, 64, 65, 66, 67, 68, 69, 70, 71, 72, 73, 74, 75, 76] (by decide +kernel) (by decide +kernel)
set_option maxRecDepth 20000 in
theorem gX12_nextDay_X12_noDate : GoodIn wsX12_nextDay (wsV RX12 274 RX12 yX12_noDate wsX12_noDate) := goodIn_app (goodIn_of _ (by decide +kernel)) ggX12_nextDay_X12_noDate
set_option maxRecDepth 20000 in
theorem ggX12_nextDay_X12_dayOf : GoodIn wsX12_nextDay wsX12_dayOf := goodIn_r _ [28, 19, 20, 6, 21, 16, 17, 18] (by decide +kernel) (by decide +kernel)
set_option maxRecDepth 20000 in
theorem gX12_nextDay_X12_dayOf : GoodIn wsX12_nextDay (va_wsS RX12 277 yX12_dayOf wsX12_dayOf) := goodIn_app (goodIn_of _ (by decide +kernel)) ggX12_nextDay_X12_dayOf
set_option maxRecDepth 20000 in
theorem ggX12_nextDay_X12_isSchoolDay : GoodIn wsX12_nextDay wsX12_isSchoolDay := goodIn_r _ [32, 33, 34, 35, 6, 36, 2, 26, 27, 28, 19, 20, 21, 16, 17, 18, 13, 14, 15, 37, 38, 39, 40, 41, 42, 43, 47, 48, 49, 50, 51, 52, 53, 54, 55, 56, 57, 58, 59, 60, 61, 62, 63, 64, 65, 66, 67, 68, 69, 70, 71, 72, 73, 74, 75, 76] (by decide +kernel) (by decide +kernel)
set_option maxRecDepth 20000 in
theorem gX12_nextDay_X12_isSchoolDay : GoodIn wsX12_nextDay (wsV RX12 289 RX12 yX12_isSchoolDay wsX12_isSchoolDay) := goodIn_app (goodIn_of _ (by decide +kernel)) ggX12_nextDay_X12_isSchoolDay
set_option maxRecDepth 20000 in
theorem ggX12_nextDay_X12_dateOfDay : GoodIn wsX12_nextDay wsX12_dateOfDay := goodIn_r _ [46, 19, 20, 6, 21, 16, 17, 18] (by decide +kernel) (by decide +kernel)
set_option maxRecDepth 20000 in
theorem gX12_nextDay_X12_dateOfDay : GoodIn wsX12_nextDay (va_wsS RX12 295 yX12_dateOfDay wsX12_dateOfDay) := goodIn_app (goodIn_of _ (by decide +kernel)) ggX12_nextDay_X12_dateOfDay
theorem dX12_nextDay_0 : decode cX12_nextDay 0 = .ok (.aload_n 0, 1) := by decide +kernel
theorem dX12_nextDay_1 : decode cX12_nextDay 1 = .ok (.iconst 0, 1) := by decide +kernel
theorem dX12_nextDay_2 : decode cX12_nextDay 2 = .ok (.putfield 1, 3) := by decide +kernel
theorem dX12_nextDay_5 : decode cX12_nextDay 5 = .ok (.aload_n 0, 1) := by decide +kernel
theorem dX12_nextDay_6 : decode cX12_nextDay 6 = .ok (.iload_n 1, 1) := by decide +kernel
theorem dX12_nextDay_7 : decode cX12_nextDay 7 = .ok (.invokevirtual 274, 3) := by decide +kernel
theorem dX12_nextDay_10 : decode cX12_nextDay 10 = .ok (.ifCond .eq 5, 3) := by decide +kernel
theorem dX12_nextDay_13 : decode cX12_nextDay 13 = .ok (.iconst 0, 1) := by decide +kernel
theorem dX12_nextDay_14 : decode cX12_nextDay 14 = .ok (.ireturn, 1) := by decide +kernel
theorem dX12_nextDay_15 : decode cX12_nextDay 15 = .ok (.aload_n 0, 1) := by decide +kernel
theorem dX12_nextDay_16 : decode cX12_nextDay 16 = .ok (.getfield 67, 3) := by decide +kernel
theorem dX12_nextDay_19 : decode cX12_nextDay 19 = .ok (.invokestatic 277, 3) := by decide +kernel
theorem dX12_nextDay_22 : decode cX12_nextDay 22 = .ok (.istore_n 2, 1) := by decide +kernel
theorem dX12_nextDay_23 : decode cX12_nextDay 23 = .ok (.iload_n 2, 1) := by decide +kernel
theorem dX12_nextDay_24 : decode cX12_nextDay 24 = .ok (.istore_n 3, 1) := by decide +kernel
theorem dX12_nextDay_25 : decode cX12_nextDay 25 = .ok (.iload_n 3, 1) := by decide +kernel
theorem dX12_nextDay_26 : decode cX12_nextDay 26 = .ok (.iload_n 2, 1) := by decide +kernel
theorem dX12_nextDay_27 : decode cX12_nextDay 27 = .ok (.sipush 280, 3) := by decide +kernel
theorem dX12_nextDay_30 : decode cX12_nextDay 30 = .ok (.iadd, 1) := by decide +kernel
theorem dX12_nextDay_31 : decode cX12_nextDay 31 = .ok (.if_icmp .ge 30, 3) := by decide +kernel
theorem dX12_nextDay_34 : decode cX12_nextDay 34 = .ok (.iload_n 3, 1) := by decide +kernel
theorem dX12_nextDay_35 : decode cX12_nextDay 35 = .ok (.iload_n 1, 1) := by decide +kernel
theorem dX12_nextDay_36 : decode cX12_nextDay 36 = .ok (.invokestatic 277, 3) := by decide +kernel
theorem dX12_nextDay_39 : decode cX12_nextDay 39 = .ok (.if_icmp .le 16, 3) := by decide +kernel
theorem dX12_nextDay_42 : decode cX12_nextDay 42 = .ok (.aload_n 0, 1) := by decide +kernel
theorem dX12_nextDay_43 : decode cX12_nextDay 43 = .ok (.iload_n 3, 1) := by decide +kernel
theorem dX12_nextDay_44 : decode cX12_nextDay 44 = .ok (.invokevirtual 289, 3) := by decide +kernel
theorem dX12_nextDay_47 : decode cX12_nextDay 47 = .ok (.ifCond .eq 8, 3) := by decide +kernel
theorem dX12_nextDay_50 : decode cX12_nextDay 50 = .ok (.iload_n 3, 1) := by decide +kernel
theorem dX12_nextDay_51 : decode cX12_nextDay 51 = .ok (.invokestatic 295, 3) := by decide +kernel
theorem dX12_nextDay_54 : decode cX12_nextDay 54 = .ok (.ireturn, 1) := by decide +kernel
theorem dX12_nextDay_55 : decode cX12_nextDay 55 = .ok (.iinc 3 1, 3) := by decide +kernel
theorem dX12_nextDay_58 : decode cX12_nextDay 58 = .ok (.goto (-33), 3) := by decide +kernel
theorem dX12_nextDay_61 : decode cX12_nextDay 61 = .ok (.iconst (-1), 1) := by decide +kernel
theorem dX12_nextDay_62 : decode cX12_nextDay 62 = .ok (.ireturn, 1) := by decide +kernel
set_option maxRecDepth 20000 in
theorem ggX12_daysOfWeek_X12_dayOf : GoodIn wsX12_daysOfWeek wsX12_dayOf := goodIn_r _ [5, 6, 7, 4, 8, 9, 10, 11] (by decide +kernel) (by decide +kernel)
set_option maxRecDepth 20000 in
theorem gX12_daysOfWeek_X12_dayOf : GoodIn wsX12_daysOfWeek (va_wsS RX12 277 yX12_dayOf wsX12_dayOf) := goodIn_app (goodIn_of _ (by decide +kernel)) ggX12_daysOfWeek_X12_dayOf
set_option maxRecDepth 20000 in
theorem ggX12_daysOfWeek_X12_isSchoolDay : GoodIn wsX12_daysOfWeek wsX12_isSchoolDay := goodIn_r _ [15, 16, 17, 18, 4, 19, 1, 2, 3, 5, 6, 7, 8, 9, 10, 11, 20, 21, 22, 23, 24, 25, 26, 27, 28, 29, 30, 31, 32, 33, 34, 35, 36, 37, 38, 39, 40, 41, 42, 43, 44, 45, 46, 47, 48, 49, 50, 51, 52, 53, 54, 55, 56, 57, 58, 59] (by decide +kernel) (by decide +kernel)
set_option maxRecDepth 20000 in
theorem gX12_daysOfWeek_X12_isSchoolDay : GoodIn wsX12_daysOfWeek (wsV RX12 289 RX12 yX12_isSchoolDay wsX12_isSchoolDay) := goodIn_app (goodIn_of _ (by decide +kernel)) ggX12_daysOfWeek_X12_isSchoolDay
theorem dX12_daysOfWeek_0 : decode cX12_daysOfWeek 0 = .ok (.iconst 0, 1) := by decide +kernel
theorem dX12_daysOfWeek_1 : decode cX12_daysOfWeek 1 = .ok (.istore_n 2, 1) := by decide +kernel
theorem dX12_daysOfWeek_2 : decode cX12_daysOfWeek 2 = .ok (.iconst 0, 1) := by decide +kernel
theorem dX12_daysOfWeek_3 : decode cX12_daysOfWeek 3 = .ok (.istore_n 3, 1) := by decide +kernel
theorem dX12_daysOfWeek_4 : decode cX12_daysOfWeek 4 = .ok (.iload_n 3, 1) := by decide +kernel
theorem dX12_daysOfWeek_5 : decode cX12_daysOfWeek 5 = .ok (.bipush 7, 2) := by decide +kernel
theorem dX12_daysOfWeek_7 : decode cX12_daysOfWeek 7 = .ok (.if_icmp .ge 38, 3) := by decide +kernel
theorem dX12_daysOfWeek_10 : decode cX12_daysOfWeek 10 = .ok (.iload_n 2, 1) := by decide +kernel
theorem dX12_daysOfWeek_11 : decode cX12_daysOfWeek 11 = .ok (.aload_n 0, 1) := by decide +kernel
theorem dX12_daysOfWeek_12 : decode cX12_daysOfWeek 12 = .ok (.aload_n 0, 1) := by decide +kernel

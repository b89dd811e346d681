theorem dX7_takeLesson_156 : decode cX7_takeLesson 156 = .ok (.getfield 51, 3) := by decide +kernel
theorem dX7_takeLesson_159 : decode cX7_takeLesson 159 = .ok (.if_icmp .ge 23, 3) := by decide +kernel
theorem dX7_takeLesson_162 : decode cX7_takeLesson 162 = .ok (.iload 5, 2) := by decide +kernel
theorem dX7_takeLesson_164 : decode cX7_takeLesson 164 = .ok (.iload_n 2, 1) := by decide +kernel
theorem dX7_takeLesson_165 : decode cX7_takeLesson 165 = .ok (.if_icmp .eq 11, 3) := by decide +kernel
theorem dX7_takeLesson_168 : decode cX7_takeLesson 168 = .ok (.aload_n 0, 1) := by decide +kernel
theorem dX7_takeLesson_169 : decode cX7_takeLesson 169 = .ok (.aload_n 1, 1) := by decide +kernel
theorem dX7_takeLesson_170 : decode cX7_takeLesson 170 = .ok (.iload_n 2, 1) := by decide +kernel
theorem dX7_takeLesson_171 : decode cX7_takeLesson 171 = .ok (.iload 5, 2) := by decide +kernel
theorem dX7_takeLesson_173 : decode cX7_takeLesson 173 = .ok (.invokevirtual 79, 3) := by decide +kernel
theorem dX7_takeLesson_176 : decode cX7_takeLesson 176 = .ok (.iinc 5 1, 3) := by decide +kernel
theorem dX7_takeLesson_179 : decode cX7_takeLesson 179 = .ok (.goto (-26), 3) := by decide +kernel
theorem dX7_takeLesson_182 : decode cX7_takeLesson 182 = .ok (.return_, 1) := by decide +kernel
set_option maxRecDepth 20000 in
theorem ggX7_compare_X8_ofLesson : GoodIn wsX7_compare wsX8_ofLesson := goodIn_r _ [8, 9, 22, 23] (by decide +kernel) (by decide +kernel)
set_option maxRecDepth 20000 in
theorem gX7_compare_X8_ofLesson : GoodIn wsX7_compare (wsV RX7 70 RX8 yX8_ofLesson wsX8_ofLesson) := goodIn_app (goodIn_of _ (by decide +kernel)) ggX7_compare_X8_ofLesson
theorem dX7_compare_0 : decode cX7_compare 0 = .ok (.aload_n 1, 1) := by decide +kernel
theorem dX7_compare_1 : decode cX7_compare 1 = .ok (.iload_n 3, 1) := by decide +kernel
theorem dX7_compare_2 : decode cX7_compare 2 = .ok (.iconst 0, 1) := by decide +kernel
theorem dX7_compare_3 : decode cX7_compare 3 = .ok (.invokevirtual 70, 3) := by decide +kernel
theorem dX7_compare_6 : decode cX7_compare 6 = .ok (.aload_n 1, 1) := by decide +kernel
theorem dX7_compare_7 : decode cX7_compare 7 = .ok (.iload_n 2, 1) := by decide +kernel
theorem dX7_compare_8 : decode cX7_compare 8 = .ok (.iconst 0, 1) := by decide +kernel
theorem dX7_compare_9 : decode cX7_compare 9 = .ok (.invokevirtual 70, 3) := by decide +kernel
theorem dX7_compare_12 : decode cX7_compare 12 = .ok (.if_icmp .ne 7, 3) := by decide +kernel
theorem dX7_compare_15 : decode cX7_compare 15 = .ok (.iconst 1, 1) := by decide +kernel
theorem dX7_compare_16 : decode cX7_compare 16 = .ok (.goto 4, 3) := by decide +kernel
theorem dX7_compare_19 : decode cX7_compare 19 = .ok (.iconst 0, 1) := by decide +kernel
theorem dX7_compare_20 : decode cX7_compare 20 = .ok (.istore 4, 2) := by decide +kernel
theorem dX7_compare_22 : decode cX7_compare 22 = .ok (.iload 4, 2) := by decide +kernel
theorem dX7_compare_24 : decode cX7_compare 24 = .ok (.ifCond .ne 18, 3) := by decide +kernel
theorem dX7_compare_27 : decode cX7_compare 27 = .ok (.aload_n 1, 1) := by decide +kernel
theorem dX7_compare_28 : decode cX7_compare 28 = .ok (.iload_n 3, 1) := by decide +kernel
theorem dX7_compare_29 : decode cX7_compare 29 = .ok (.iconst 1, 1) := by decide +kernel
theorem dX7_compare_30 : decode cX7_compare 30 = .ok (.invokevirtual 70, 3) := by decide +kernel
theorem dX7_compare_33 : decode cX7_compare 33 = .ok (.aload_n 1, 1) := by decide +kernel
theorem dX7_compare_34 : decode cX7_compare 34 = .ok (.iload_n 2, 1) := by decide +kernel
theorem dX7_compare_35 : decode cX7_compare 35 = .ok (.iconst 1, 1) := by decide +kernel
theorem dX7_compare_36 : decode cX7_compare 36 = .ok (.invokevirtual 70, 3) := by decide +kernel
theorem dX7_compare_39 : decode cX7_compare 39 = .ok (.if_icmp .ne 15, 3) := by decide +kernel
theorem dX7_compare_42 : decode cX7_compare 42 = .ok (.aload_n 0, 1) := by decide +kernel
theorem dX7_compare_43 : decode cX7_compare 43 = .ok (.getfield 21, 3) := by decide +kernel
theorem dX7_compare_46 : decode cX7_compare 46 = .ok (.iload_n 2, 1) := by decide +kernel
theorem dX7_compare_47 : decode cX7_compare 47 = .ok (.dup2, 1) := by decide +kernel
theorem dX7_compare_48 : decode cX7_compare 48 = .ok (.iaload, 1) := by decide +kernel
theorem dX7_compare_49 : decode cX7_compare 49 = .ok (.iconst 1, 1) := by decide +kernel
theorem dX7_compare_50 : decode cX7_compare 50 = .ok (.iload_n 3, 1) := by decide +kernel
theorem dX7_compare_51 : decode cX7_compare 51 = .ok (.ishl, 1) := by decide +kernel
theorem dX7_compare_52 : decode cX7_compare 52 = .ok (.ior, 1) := by decide +kernel
theorem dX7_compare_53 : decode cX7_compare 53 = .ok (.iastore, 1) := by decide +kernel
theorem dX7_compare_54 : decode cX7_compare 54 = .ok (.iload 4, 2) := by decide +kernel
theorem dX7_compare_56 : decode cX7_compare 56 = .ok (.ifCond .eq 30, 3) := by decide +kernel
theorem dX7_compare_59 : decode cX7_compare 59 = .ok (.aload_n 1, 1) := by decide +kernel
theorem dX7_compare_60 : decode cX7_compare 60 = .ok (.iload_n 3, 1) := by decide +kernel
theorem dX7_compare_61 : decode cX7_compare 61 = .ok (.iconst 2, 1) := by decide +kernel
theorem dX7_compare_62 : decode cX7_compare 62 = .ok (.invokevirtual 70, 3) := by decide +kernel
theorem dX7_compare_65 : decode cX7_compare 65 = .ok (.aload_n 1, 1) := by decide +kernel
theorem dX7_compare_66 : decode cX7_compare 66 = .ok (.iload_n 2, 1) := by decide +kernel
theorem dX7_compare_67 : decode cX7_compare 67 = .ok (.iconst 2, 1) := by decide +kernel
theorem dX7_compare_68 : decode cX7_compare 68 = .ok (.invokevirtual 70, 3) := by decide +kernel
theorem dX7_compare_71 : decode cX7_compare 71 = .ok (.if_icmp .ne 15, 3) := by decide +kernel
theorem dX7_compare_74 : decode cX7_compare 74 = .ok (.aload_n 0, 1) := by decide +kernel
theorem dX7_compare_75 : decode cX7_compare 75 = .ok (.getfield 27, 3) := by decide +kernel
theorem dX7_compare_78 : decode cX7_compare 78 = .ok (.iload_n 2, 1) := by decide +kernel
theorem dX7_compare_79 : decode cX7_compare 79 = .ok (.dup2, 1) := by decide +kernel
theorem dX7_compare_80 : decode cX7_compare 80 = .ok (.iaload, 1) := by decide +kernel
theorem dX7_compare_81 : decode cX7_compare 81 = .ok (.iconst 1, 1) := by decide +kernel
theorem dX7_compare_82 : decode cX7_compare 82 = .ok (.iload_n 3, 1) := by decide +kernel
theorem dX7_compare_83 : decode cX7_compare 83 = .ok (.ishl, 1) := by decide +kernel
theorem dX7_compare_84 : decode cX7_compare 84 = .ok (.ior, 1) := by decide +kernel
theorem dX7_compare_85 : decode cX7_compare 85 = .ok (.iastore, 1) := by decide +kernel
theorem dX7_compare_86 : decode cX7_compare 86 = .ok (.aload_n 1, 1) := by decide +kernel
theorem dX7_compare_87 : decode cX7_compare 87 = .ok (.iload_n 2, 1) := by decide +kernel
theorem dX7_compare_88 : decode cX7_compare 88 = .ok (.iconst 3, 1) := by decide +kernel
theorem dX7_compare_89 : decode cX7_compare 89 = .ok (.invokevirtual 70, 3) := by decide +kernel
theorem dX7_compare_92 : decode cX7_compare 92 = .ok (.istore 5, 2) := by decide +kernel
theorem dX7_compare_94 : decode cX7_compare 94 = .ok (.iload 5, 2) := by decide +kernel
theorem dX7_compare_96 : decode cX7_compare 96 = .ok (.iconst (-1), 1) := by decide +kernel
theorem dX7_compare_97 : decode cX7_compare 97 = .ok (.if_icmp .eq 26, 3) := by decide +kernel
theorem dX7_compare_100 : decode cX7_compare 100 = .ok (.aload_n 1, 1) := by decide +kernel
theorem dX7_compare_101 : decode cX7_compare 101 = .ok (.iload_n 3, 1) := by decide +kernel
theorem dX7_compare_102 : decode cX7_compare 102 = .ok (.iconst 3, 1) := by decide +kernel
theorem dX7_compare_103 : decode cX7_compare 103 = .ok (.invokevirtual 70, 3) := by decide +kernel
theorem dX7_compare_106 : decode cX7_compare 106 = .ok (.iload 5, 2) := by decide +kernel
theorem dX7_compare_108 : decode cX7_compare 108 = .ok (.if_icmp .ne 15, 3) := by decide +kernel
theorem dX7_compare_111 : decode cX7_compare 111 = .ok (.aload_n 0, 1) := by decide +kernel
theorem dX7_compare_112 : decode cX7_compare 112 = .ok (.getfield 36, 3) := by decide +kernel
theorem dX7_compare_115 : decode cX7_compare 115 = .ok (.iload_n 2, 1) := by decide +kernel
theorem dX7_compare_116 : decode cX7_compare 116 = .ok (.dup2, 1) := by decide +kernel
theorem dX7_compare_117 : decode cX7_compare 117 = .ok (.iaload, 1) := by decide +kernel
theorem dX7_compare_118 : decode cX7_compare 118 = .ok (.iconst 1, 1) := by decide +kernel
theorem dX7_compare_119 : decode cX7_compare 119 = .ok (.iload_n 3, 1) := by decide +kernel
theorem dX7_compare_120 : decode cX7_compare 120 = .ok (.ishl, 1) := by decide +kernel
theorem dX7_compare_121 : decode cX7_compare 121 = .ok (.ior, 1) := by decide +kernel
theorem dX7_compare_122 : decode cX7_compare 122 = .ok (.iastore, 1) := by decide +kernel
theorem dX7_compare_123 : decode cX7_compare 123 = .ok (.return_, 1) := by decide +kernel
set_option maxRecDepth 20000 in
theorem ggX7_takeWish_X8_isOf : GoodIn wsX7_takeWish wsX8_isOf := goodIn_r _ [12, 13, 26, 27] (by decide +kernel) (by decide +kernel)
set_option maxRecDepth 20000 in
theorem gX7_takeWish_X8_isOf : GoodIn wsX7_takeWish (wsV RX7 83 RX8 yX8_isOf wsX8_isOf) := goodIn_app (goodIn_of _ (by decide +kernel)) ggX7_takeWish_X8_isOf
theorem dX7_takeWish_0 : decode cX7_takeWish 0 = .ok (.iload_n 2, 1) := by decide +kernel
theorem dX7_takeWish_1 : decode cX7_takeWish 1 = .ok (.ifCond .eq 8, 3) := by decide +kernel
theorem dX7_takeWish_4 : decode cX7_takeWish 4 = .ok (.iload_n 2, 1) := by decide +kernel
theorem dX7_takeWish_5 : decode cX7_takeWish 5 = .ok (.iconst 1, 1) := by decide +kernel
theorem dX7_takeWish_6 : decode cX7_takeWish 6 = .ok (.if_icmp .ne 72, 3) := by decide +kernel
theorem dX7_takeWish_9 : decode cX7_takeWish 9 = .ok (.iconst 0, 1) := by decide +kernel
theorem dX7_takeWish_10 : decode cX7_takeWish 10 = .ok (.istore 5, 2) := by decide +kernel
theorem dX7_takeWish_12 : decode cX7_takeWish 12 = .ok (.iload 5, 2) := by decide +kernel
theorem dX7_takeWish_14 : decode cX7_takeWish 14 = .ok (.aload_n 0, 1) := by decide +kernel
theorem dX7_takeWish_15 : decode cX7_takeWish 15 = .ok (.getfield 51, 3) := by decide +kernel
theorem dX7_takeWish_18 : decode cX7_takeWish 18 = .ok (.if_icmp .ge 57, 3) := by decide +kernel
theorem dX7_takeWish_21 : decode cX7_takeWish 21 = .ok (.aload_n 1, 1) := by decide +kernel
theorem dX7_takeWish_22 : decode cX7_takeWish 22 = .ok (.iload 5, 2) := by decide +kernel
theorem dX7_takeWish_24 : decode cX7_takeWish 24 = .ok (.iload_n 2, 1) := by decide +kernel
theorem dX7_takeWish_25 : decode cX7_takeWish 25 = .ok (.ifCond .ne 7, 3) := by decide +kernel
theorem dX7_takeWish_28 : decode cX7_takeWish 28 = .ok (.iconst 1, 1) := by decide +kernel
theorem dX7_takeWish_29 : decode cX7_takeWish 29 = .ok (.goto 4, 3) := by decide +kernel
theorem dX7_takeWish_32 : decode cX7_takeWish 32 = .ok (.iconst 0, 1) := by decide +kernel
theorem dX7_takeWish_33 : decode cX7_takeWish 33 = .ok (.iload_n 3, 1) := by decide +kernel
theorem dX7_takeWish_34 : decode cX7_takeWish 34 = .ok (.invokevirtual 83, 3) := by decide +kernel
theorem dX7_takeWish_37 : decode cX7_takeWish 37 = .ok (.ifCond .eq 32, 3) := by decide +kernel
theorem dX7_takeWish_40 : decode cX7_takeWish 40 = .ok (.aload_n 0, 1) := by decide +kernel
theorem dX7_takeWish_41 : decode cX7_takeWish 41 = .ok (.getfield 9, 3) := by decide +kernel
theorem dX7_takeWish_44 : decode cX7_takeWish 44 = .ok (.iload 5, 2) := by decide +kernel
theorem dX7_takeWish_46 : decode cX7_takeWish 46 = .ok (.dup2, 1) := by decide +kernel
theorem dX7_takeWish_47 : decode cX7_takeWish 47 = .ok (.iaload, 1) := by decide +kernel
theorem dX7_takeWish_48 : decode cX7_takeWish 48 = .ok (.iconst 1, 1) := by decide +kernel
theorem dX7_takeWish_49 : decode cX7_takeWish 49 = .ok (.iload 4, 2) := by decide +kernel
theorem dX7_takeWish_51 : decode cX7_takeWish 51 = .ok (.ishl, 1) := by decide +kernel
theorem dX7_takeWish_52 : decode cX7_takeWish 52 = .ok (.iconst 1, 1) := by decide +kernel
theorem dX7_takeWish_53 : decode cX7_takeWish 53 = .ok (.iload 4, 2) := by decide +kernel
theorem dX7_takeWish_55 : decode cX7_takeWish 55 = .ok (.ishl, 1) := by decide +kernel
theorem dX7_takeWish_56 : decode cX7_takeWish 56 = .ok (.aload_n 0, 1) := by decide +kernel
theorem dX7_takeWish_57 : decode cX7_takeWish 57 = .ok (.getfield 18, 3) := by decide +kernel
theorem dX7_takeWish_60 : decode cX7_takeWish 60 = .ok (.iload 5, 2) := by decide +kernel
theorem dX7_takeWish_62 : decode cX7_takeWish 62 = .ok (.iaload, 1) := by decide +kernel
theorem dX7_takeWish_63 : decode cX7_takeWish 63 = .ok (.ishr, 1) := by decide +kernel
theorem dX7_takeWish_64 : decode cX7_takeWish 64 = .ok (.ior, 1) := by decide +kernel
theorem dX7_takeWish_65 : decode cX7_takeWish 65 = .ok (.iconst (-1), 1) := by decide +kernel
theorem dX7_takeWish_66 : decode cX7_takeWish 66 = .ok (.ixor, 1) := by decide +kernel
theorem dX7_takeWish_67 : decode cX7_takeWish 67 = .ok (.iand, 1) := by decide +kernel
theorem dX7_takeWish_68 : decode cX7_takeWish 68 = .ok (.iastore, 1) := by decide +kernel
theorem dX7_takeWish_69 : decode cX7_takeWish 69 = .ok (.iinc 5 1, 3) := by decide +kernel
theorem dX7_takeWish_72 : decode cX7_takeWish 72 = .ok (.goto (-60), 3) := by decide +kernel
theorem dX7_takeWish_75 : decode cX7_takeWish 75 = .ok (.goto 125, 3) := by decide +kernel
theorem dX7_takeWish_78 : decode cX7_takeWish 78 = .ok (.iload_n 2, 1) := by decide +kernel
theorem dX7_takeWish_79 : decode cX7_takeWish 79 = .ok (.iconst 2, 1) := by decide +kernel
theorem dX7_takeWish_80 : decode cX7_takeWish 80 = .ok (.if_icmp .ne 24, 3) := by decide +kernel
theorem dX7_takeWish_83 : decode cX7_takeWish 83 = .ok (.aload_n 0, 1) := by decide +kernel
theorem dX7_takeWish_84 : decode cX7_takeWish 84 = .ok (.getfield 9, 3) := by decide +kernel
theorem dX7_takeWish_87 : decode cX7_takeWish 87 = .ok (.iload_n 3, 1) := by decide +kernel
theorem dX7_takeWish_88 : decode cX7_takeWish 88 = .ok (.dup2, 1) := by decide +kernel
theorem dX7_takeWish_89 : decode cX7_takeWish 89 = .ok (.iaload, 1) := by decide +kernel
theorem dX7_takeWish_90 : decode cX7_takeWish 90 = .ok (.bipush 15, 2) := by decide +kernel
theorem dX7_takeWish_92 : decode cX7_takeWish 92 = .ok (.iload 4, 2) := by decide +kernel
theorem dX7_takeWish_94 : decode cX7_takeWish 94 = .ok (.iconst 4, 1) := by decide +kernel
theorem dX7_takeWish_95 : decode cX7_takeWish 95 = .ok (.imul, 1) := by decide +kernel
theorem dX7_takeWish_96 : decode cX7_takeWish 96 = .ok (.ishl, 1) := by decide +kernel
theorem dX7_takeWish_97 : decode cX7_takeWish 97 = .ok (.iconst (-1), 1) := by decide +kernel
theorem dX7_takeWish_98 : decode cX7_takeWish 98 = .ok (.ixor, 1) := by decide +kernel
theorem dX7_takeWish_99 : decode cX7_takeWish 99 = .ok (.iand, 1) := by decide +kernel
theorem dX7_takeWish_100 : decode cX7_takeWish 100 = .ok (.iastore, 1) := by decide +kernel
theorem dX7_takeWish_101 : decode cX7_takeWish 101 = .ok (.goto 99, 3) := by decide +kernel
theorem dX7_takeWish_104 : decode cX7_takeWish 104 = .ok (.iload_n 2, 1) := by decide +kernel
theorem dX7_takeWish_105 : decode cX7_takeWish 105 = .ok (.iconst 3, 1) := by decide +kernel
theorem dX7_takeWish_106 : decode cX7_takeWish 106 = .ok (.if_icmp .ne 19, 3) := by decide +kernel
theorem dX7_takeWish_109 : decode cX7_takeWish 109 = .ok (.aload_n 0, 1) := by decide +kernel
theorem dX7_takeWish_110 : decode cX7_takeWish 110 = .ok (.getfield 9, 3) := by decide +kernel
theorem dX7_takeWish_113 : decode cX7_takeWish 113 = .ok (.iload_n 3, 1) := by decide +kernel
theorem dX7_takeWish_114 : decode cX7_takeWish 114 = .ok (.dup2, 1) := by decide +kernel
theorem dX7_takeWish_115 : decode cX7_takeWish 115 = .ok (.iaload, 1) := by decide +kernel
theorem dX7_takeWish_116 : decode cX7_takeWish 116 = .ok (.iconst 1, 1) := by decide +kernel
theorem dX7_takeWish_117 : decode cX7_takeWish 117 = .ok (.iload 4, 2) := by decide +kernel
theorem dX7_takeWish_119 : decode cX7_takeWish 119 = .ok (.ishl, 1) := by decide +kernel
theorem dX7_takeWish_120 : decode cX7_takeWish 120 = .ok (.iand, 1) := by decide +kernel
theorem dX7_takeWish_121 : decode cX7_takeWish 121 = .ok (.iastore, 1) := by decide +kernel
theorem dX7_takeWish_122 : decode cX7_takeWish 122 = .ok (.goto 78, 3) := by decide +kernel
theorem dX7_takeWish_125 : decode cX7_takeWish 125 = .ok (.iload_n 2, 1) := by decide +kernel
theorem dX7_takeWish_126 : decode cX7_takeWish 126 = .ok (.bipush 6, 2) := by decide +kernel
theorem dX7_takeWish_128 : decode cX7_takeWish 128 = .ok (.if_icmp .ne 32, 3) := by decide +kernel
theorem dX7_takeWish_131 : decode cX7_takeWish 131 = .ok (.aload_n 0, 1) := by decide +kernel
theorem dX7_takeWish_132 : decode cX7_takeWish 132 = .ok (.getfield 30, 3) := by decide +kernel
theorem dX7_takeWish_135 : decode cX7_takeWish 135 = .ok (.iload 4, 2) := by decide +kernel
theorem dX7_takeWish_137 : decode cX7_takeWish 137 = .ok (.dup2, 1) := by decide +kernel
theorem dX7_takeWish_138 : decode cX7_takeWish 138 = .ok (.iaload, 1) := by decide +kernel
theorem dX7_takeWish_139 : decode cX7_takeWish 139 = .ok (.iconst 1, 1) := by decide +kernel
theorem dX7_takeWish_140 : decode cX7_takeWish 140 = .ok (.iload_n 3, 1) := by decide +kernel
theorem dX7_takeWish_141 : decode cX7_takeWish 141 = .ok (.ishl, 1) := by decide +kernel
theorem dX7_takeWish_142 : decode cX7_takeWish 142 = .ok (.ior, 1) := by decide +kernel
theorem dX7_takeWish_143 : decode cX7_takeWish 143 = .ok (.iastore, 1) := by decide +kernel
theorem dX7_takeWish_144 : decode cX7_takeWish 144 = .ok (.aload_n 0, 1) := by decide +kernel
theorem dX7_takeWish_145 : decode cX7_takeWish 145 = .ok (.getfield 33, 3) := by decide +kernel
theorem dX7_takeWish_148 : decode cX7_takeWish 148 = .ok (.iload_n 3, 1) := by decide +kernel
theorem dX7_takeWish_149 : decode cX7_takeWish 149 = .ok (.dup2, 1) := by decide +kernel
theorem dX7_takeWish_150 : decode cX7_takeWish 150 = .ok (.iaload, 1) := by decide +kernel
theorem dX7_takeWish_151 : decode cX7_takeWish 151 = .ok (.iconst 1, 1) := by decide +kernel
theorem dX7_takeWish_152 : decode cX7_takeWish 152 = .ok (.iload 4, 2) := by decide +kernel
theorem dX7_takeWish_154 : decode cX7_takeWish 154 = .ok (.ishl, 1) := by decide +kernel
theorem dX7_takeWish_155 : decode cX7_takeWish 155 = .ok (.ior, 1) := by decide +kernel
theorem dX7_takeWish_156 : decode cX7_takeWish 156 = .ok (.iastore, 1) := by decide +kernel
theorem dX7_takeWish_157 : decode cX7_takeWish 157 = .ok (.goto 43, 3) := by decide +kernel
theorem dX7_takeWish_160 : decode cX7_takeWish 160 = .ok (.iload_n 2, 1) := by decide +kernel
theorem dX7_takeWish_161 : decode cX7_takeWish 161 = .ok (.iconst 4, 1) := by decide +kernel
theorem dX7_takeWish_162 : decode cX7_takeWish 162 = .ok (.if_icmp .ne 10, 3) := by decide +kernel
theorem dX7_takeWish_165 : decode cX7_takeWish 165 = .ok (.aload_n 0, 1) := by decide +kernel
theorem dX7_takeWish_166 : decode cX7_takeWish 166 = .ok (.getfield 24, 3) := by decide +kernel
theorem dX7_takeWish_169 : decode cX7_takeWish 169 = .ok (.goto 7, 3) := by decide +kernel
theorem dX7_takeWish_172 : decode cX7_takeWish 172 = .ok (.aload_n 0, 1) := by decide +kernel
theorem dX7_takeWish_173 : decode cX7_takeWish 173 = .ok (.getfield 27, 3) := by decide +kernel
theorem dX7_takeWish_176 : decode cX7_takeWish 176 = .ok (.astore 5, 2) := by decide +kernel
theorem dX7_takeWish_178 : decode cX7_takeWish 178 = .ok (.aload 5, 2) := by decide +kernel
theorem dX7_takeWish_180 : decode cX7_takeWish 180 = .ok (.iload_n 3, 1) := by decide +kernel
theorem dX7_takeWish_181 : decode cX7_takeWish 181 = .ok (.dup2, 1) := by decide +kernel
theorem dX7_takeWish_182 : decode cX7_takeWish 182 = .ok (.iaload, 1) := by decide +kernel
theorem dX7_takeWish_183 : decode cX7_takeWish 183 = .ok (.iconst 1, 1) := by decide +kernel
theorem dX7_takeWish_184 : decode cX7_takeWish 184 = .ok (.iload 4, 2) := by decide +kernel
theorem dX7_takeWish_186 : decode cX7_takeWish 186 = .ok (.ishl, 1) := by decide +kernel
theorem dX7_takeWish_187 : decode cX7_takeWish 187 = .ok (.ior, 1) := by decide +kernel
theorem dX7_takeWish_188 : decode cX7_takeWish 188 = .ok (.iastore, 1) := by decide +kernel
theorem dX7_takeWish_189 : decode cX7_takeWish 189 = .ok (.aload 5, 2) := by decide +kernel
theorem dX7_takeWish_191 : decode cX7_takeWish 191 = .ok (.iload 4, 2) := by decide +kernel
theorem dX7_takeWish_193 : decode cX7_takeWish 193 = .ok (.dup2, 1) := by decide +kernel
theorem dX7_takeWish_194 : decode cX7_takeWish 194 = .ok (.iaload, 1) := by decide +kernel
theorem dX7_takeWish_195 : decode cX7_takeWish 195 = .ok (.iconst 1, 1) := by decide +kernel
theorem dX7_takeWish_196 : decode cX7_takeWish 196 = .ok (.iload_n 3, 1) := by decide +kernel
theorem dX7_takeWish_197 : decode cX7_takeWish 197 = .ok (.ishl, 1) := by decide +kernel
theorem dX7_takeWish_198 : decode cX7_takeWish 198 = .ok (.ior, 1) := by decide +kernel
theorem dX7_takeWish_199 : decode cX7_takeWish 199 = .ok (.iastore, 1) := by decide +kernel
theorem dX7_takeWish_200 : decode cX7_takeWish 200 = .ok (.return_, 1) := by decide +kernel
theorem dX7_allowed_0 : decode cX7_allowed 0 = .ok (.aload_n 0, 1) := by decide +kernel
theorem dX7_allowed_1 : decode cX7_allowed 1 = .ok (.getfield 9, 3) := by decide +kernel
theorem dX7_allowed_4 : decode cX7_allowed 4 = .ok (.iload_n 1, 1) := by decide +kernel
theorem dX7_allowed_5 : decode cX7_allowed 5 = .ok (.iaload, 1) := by decide +kernel
theorem dX7_allowed_6 : decode cX7_allowed 6 = .ok (.istore 4, 2) := by decide +kernel
theorem dX7_allowed_8 : decode cX7_allowed 8 = .ok (.iconst 0, 1) := by decide +kernel
theorem dX7_allowed_9 : decode cX7_allowed 9 = .ok (.istore 5, 2) := by decide +kernel
theorem dX7_allowed_11 : decode cX7_allowed 11 = .ok (.iconst 0, 1) := by decide +kernel
theorem dX7_allowed_12 : decode cX7_allowed 12 = .ok (.istore 6, 2) := by decide +kernel
theorem dX7_allowed_14 : decode cX7_allowed 14 = .ok (.iconst 0, 1) := by decide +kernel
theorem dX7_allowed_15 : decode cX7_allowed 15 = .ok (.istore 7, 2) := by decide +kernel
theorem dX7_allowed_17 : decode cX7_allowed 17 = .ok (.iconst 0, 1) := by decide +kernel
theorem dX7_allowed_18 : decode cX7_allowed 18 = .ok (.istore 8, 2) := by decide +kernel
theorem dX7_allowed_20 : decode cX7_allowed 20 = .ok (.iload 8, 2) := by decide +kernel
theorem dX7_allowed_22 : decode cX7_allowed 22 = .ok (.aload_n 0, 1) := by decide +kernel
theorem dX7_allowed_23 : decode cX7_allowed 23 = .ok (.getfield 51, 3) := by decide +kernel
theorem dX7_allowed_26 : decode cX7_allowed 26 = .ok (.if_icmp .ge 235, 3) := by decide +kernel
theorem dX7_allowed_29 : decode cX7_allowed 29 = .ok (.iconst 1, 1) := by decide +kernel
theorem dX7_allowed_30 : decode cX7_allowed 30 = .ok (.iload 8, 2) := by decide +kernel
theorem dX7_allowed_32 : decode cX7_allowed 32 = .ok (.ishl, 1) := by decide +kernel
theorem dX7_allowed_33 : decode cX7_allowed 33 = .ok (.istore 9, 2) := by decide +kernel
theorem dX7_allowed_35 : decode cX7_allowed 35 = .ok (.iload 8, 2) := by decide +kernel
theorem dX7_allowed_37 : decode cX7_allowed 37 = .ok (.iload_n 1, 1) := by decide +kernel
theorem dX7_allowed_38 : decode cX7_allowed 38 = .ok (.if_icmp .eq 217, 3) := by decide +kernel
theorem dX7_allowed_41 : decode cX7_allowed 41 = .ok (.iload_n 3, 1) := by decide +kernel
theorem dX7_allowed_42 : decode cX7_allowed 42 = .ok (.iload 9, 2) := by decide +kernel
theorem dX7_allowed_44 : decode cX7_allowed 44 = .ok (.iand, 1) := by decide +kernel
theorem dX7_allowed_45 : decode cX7_allowed 45 = .ok (.ifCond .eq 210, 3) := by decide +kernel
theorem dX7_allowed_48 : decode cX7_allowed 48 = .ok (.aload_n 2, 1) := by decide +kernel
theorem dX7_allowed_49 : decode cX7_allowed 49 = .ok (.iload 8, 2) := by decide +kernel
theorem dX7_allowed_51 : decode cX7_allowed 51 = .ok (.iaload, 1) := by decide +kernel
theorem dX7_allowed_52 : decode cX7_allowed 52 = .ok (.istore 10, 2) := by decide +kernel
theorem dX7_allowed_54 : decode cX7_allowed 54 = .ok (.aload_n 0, 1) := by decide +kernel
theorem dX7_allowed_55 : decode cX7_allowed 55 = .ok (.getfield 15, 3) := by decide +kernel
theorem dX7_allowed_58 : decode cX7_allowed 58 = .ok (.iload 8, 2) := by decide +kernel
theorem dX7_allowed_60 : decode cX7_allowed 60 = .ok (.iaload, 1) := by decide +kernel
theorem dX7_allowed_61 : decode cX7_allowed 61 = .ok (.iload 10, 2) := by decide +kernel
theorem dX7_allowed_63 : decode cX7_allowed 63 = .ok (.ishl, 1) := by decide +kernel
theorem dX7_allowed_64 : decode cX7_allowed 64 = .ok (.istore 11, 2) := by decide +kernel
theorem dX7_allowed_66 : decode cX7_allowed 66 = .ok (.bipush 15, 2) := by decide +kernel
theorem dX7_allowed_68 : decode cX7_allowed 68 = .ok (.iload 10, 2) := by decide +kernel
theorem dX7_allowed_70 : decode cX7_allowed 70 = .ok (.iconst 4, 1) := by decide +kernel
theorem dX7_allowed_71 : decode cX7_allowed 71 = .ok (.idiv, 1) := by decide +kernel
theorem dX7_allowed_72 : decode cX7_allowed 72 = .ok (.iconst 4, 1) := by decide +kernel
theorem dX7_allowed_73 : decode cX7_allowed 73 = .ok (.imul, 1) := by decide +kernel
theorem dX7_allowed_74 : decode cX7_allowed 74 = .ok (.ishl, 1) := by decide +kernel
theorem dX7_allowed_75 : decode cX7_allowed 75 = .ok (.istore 12, 2) := by decide +kernel
theorem dX7_allowed_77 : decode cX7_allowed 77 = .ok (.iload 4, 2) := by decide +kernel
theorem dX7_allowed_79 : decode cX7_allowed 79 = .ok (.aload_n 0, 1) := by decide +kernel
theorem dX7_allowed_80 : decode cX7_allowed 80 = .ok (.getfield 21, 3) := by decide +kernel
theorem dX7_allowed_83 : decode cX7_allowed 83 = .ok (.iload_n 1, 1) := by decide +kernel
theorem dX7_allowed_84 : decode cX7_allowed 84 = .ok (.iaload, 1) := by decide +kernel
theorem dX7_allowed_85 : decode cX7_allowed 85 = .ok (.iload 9, 2) := by decide +kernel
theorem dX7_allowed_87 : decode cX7_allowed 87 = .ok (.iand, 1) := by decide +kernel
theorem dX7_allowed_88 : decode cX7_allowed 88 = .ok (.ifCond .eq 20, 3) := by decide +kernel
theorem dX7_allowed_91 : decode cX7_allowed 91 = .ok (.iload 11, 2) := by decide +kernel
theorem dX7_allowed_93 : decode cX7_allowed 93 = .ok (.iload 11, 2) := by decide +kernel
theorem dX7_allowed_95 : decode cX7_allowed 95 = .ok (.aload_n 0, 1) := by decide +kernel
theorem dX7_allowed_96 : decode cX7_allowed 96 = .ok (.getfield 18, 3) := by decide +kernel
theorem dX7_allowed_99 : decode cX7_allowed 99 = .ok (.iload_n 1, 1) := by decide +kernel
theorem dX7_allowed_100 : decode cX7_allowed 100 = .ok (.iaload, 1) := by decide +kernel
theorem dX7_allowed_101 : decode cX7_allowed 101 = .ok (.ishr, 1) := by decide +kernel
theorem dX7_allowed_102 : decode cX7_allowed 102 = .ok (.ior, 1) := by decide +kernel
theorem dX7_allowed_103 : decode cX7_allowed 103 = .ok (.iconst (-1), 1) := by decide +kernel
theorem dX7_allowed_104 : decode cX7_allowed 104 = .ok (.ixor, 1) := by decide +kernel
theorem dX7_allowed_105 : decode cX7_allowed 105 = .ok (.goto 4, 3) := by decide +kernel
theorem dX7_allowed_108 : decode cX7_allowed 108 = .ok (.iconst (-1), 1) := by decide +kernel
theorem dX7_allowed_109 : decode cX7_allowed 109 = .ok (.iand, 1) := by decide +kernel
theorem dX7_allowed_110 : decode cX7_allowed 110 = .ok (.istore 4, 2) := by decide +kernel
theorem dX7_allowed_112 : decode cX7_allowed 112 = .ok (.iload 4, 2) := by decide +kernel
theorem dX7_allowed_114 : decode cX7_allowed 114 = .ok (.aload_n 0, 1) := by decide +kernel
theorem dX7_allowed_115 : decode cX7_allowed 115 = .ok (.getfield 24, 3) := by decide +kernel
theorem dX7_allowed_118 : decode cX7_allowed 118 = .ok (.iload_n 1, 1) := by decide +kernel
theorem dX7_allowed_119 : decode cX7_allowed 119 = .ok (.iaload, 1) := by decide +kernel
theorem dX7_allowed_120 : decode cX7_allowed 120 = .ok (.iload 9, 2) := by decide +kernel
theorem dX7_allowed_122 : decode cX7_allowed 122 = .ok (.iand, 1) := by decide +kernel
theorem dX7_allowed_123 : decode cX7_allowed 123 = .ok (.ifCond .eq 8, 3) := by decide +kernel
theorem dX7_allowed_126 : decode cX7_allowed 126 = .ok (.iload 12, 2) := by decide +kernel
theorem dX7_allowed_128 : decode cX7_allowed 128 = .ok (.goto 4, 3) := by decide +kernel
theorem dX7_allowed_131 : decode cX7_allowed 131 = .ok (.iconst (-1), 1) := by decide +kernel
theorem dX7_allowed_132 : decode cX7_allowed 132 = .ok (.iand, 1) := by decide +kernel
theorem dX7_allowed_133 : decode cX7_allowed 133 = .ok (.istore 4, 2) := by decide +kernel
theorem dX7_allowed_135 : decode cX7_allowed 135 = .ok (.iload 4, 2) := by decide +kernel
theorem dX7_allowed_137 : decode cX7_allowed 137 = .ok (.aload_n 0, 1) := by decide +kernel
theorem dX7_allowed_138 : decode cX7_allowed 138 = .ok (.getfield 27, 3) := by decide +kernel
theorem dX7_allowed_141 : decode cX7_allowed 141 = .ok (.iload_n 1, 1) := by decide +kernel
theorem dX7_allowed_142 : decode cX7_allowed 142 = .ok (.iaload, 1) := by decide +kernel
theorem dX7_allowed_143 : decode cX7_allowed 143 = .ok (.iload 9, 2) := by decide +kernel
theorem dX7_allowed_145 : decode cX7_allowed 145 = .ok (.iand, 1) := by decide +kernel
theorem dX7_allowed_146 : decode cX7_allowed 146 = .ok (.ifCond .eq 10, 3) := by decide +kernel
theorem dX7_allowed_149 : decode cX7_allowed 149 = .ok (.iload 12, 2) := by decide +kernel
theorem dX7_allowed_151 : decode cX7_allowed 151 = .ok (.iconst (-1), 1) := by decide +kernel
theorem dX7_allowed_152 : decode cX7_allowed 152 = .ok (.ixor, 1) := by decide +kernel
theorem dX7_allowed_153 : decode cX7_allowed 153 = .ok (.goto 4, 3) := by decide +kernel
theorem dX7_allowed_156 : decode cX7_allowed 156 = .ok (.iconst (-1), 1) := by decide +kernel
theorem dX7_allowed_157 : decode cX7_allowed 157 = .ok (.iand, 1) := by decide +kernel
theorem dX7_allowed_158 : decode cX7_allowed 158 = .ok (.istore 4, 2) := by decide +kernel
theorem dX7_allowed_160 : decode cX7_allowed 160 = .ok (.iload 4, 2) := by decide +kernel
theorem dX7_allowed_162 : decode cX7_allowed 162 = .ok (.aload_n 0, 1) := by decide +kernel
theorem dX7_allowed_163 : decode cX7_allowed 163 = .ok (.getfield 30, 3) := by decide +kernel
theorem dX7_allowed_166 : decode cX7_allowed 166 = .ok (.iload_n 1, 1) := by decide +kernel
theorem dX7_allowed_167 : decode cX7_allowed 167 = .ok (.iaload, 1) := by decide +kernel
theorem dX7_allowed_168 : decode cX7_allowed 168 = .ok (.iload 9, 2) := by decide +kernel
theorem dX7_allowed_170 : decode cX7_allowed 170 = .ok (.iand, 1) := by decide +kernel
theorem dX7_allowed_171 : decode cX7_allowed 171 = .ok (.ifCond .eq 14, 3) := by decide +kernel
theorem dX7_allowed_174 : decode cX7_allowed 174 = .ok (.iconst 2, 1) := by decide +kernel
theorem dX7_allowed_175 : decode cX7_allowed 175 = .ok (.iload 10, 2) := by decide +kernel
theorem dX7_allowed_177 : decode cX7_allowed 177 = .ok (.ishl, 1) := by decide +kernel
theorem dX7_allowed_178 : decode cX7_allowed 178 = .ok (.iconst 1, 1) := by decide +kernel
theorem dX7_allowed_179 : decode cX7_allowed 179 = .ok (.isub, 1) := by decide +kernel
theorem dX7_allowed_180 : decode cX7_allowed 180 = .ok (.iconst (-1), 1) := by decide +kernel
theorem dX7_allowed_181 : decode cX7_allowed 181 = .ok (.ixor, 1) := by decide +kernel
theorem dX7_allowed_182 : decode cX7_allowed 182 = .ok (.goto 4, 3) := by decide +kernel
theorem dX7_allowed_185 : decode cX7_allowed 185 = .ok (.iconst (-1), 1) := by decide +kernel
theorem dX7_allowed_186 : decode cX7_allowed 186 = .ok (.iand, 1) := by decide +kernel
theorem dX7_allowed_187 : decode cX7_allowed 187 = .ok (.istore 4, 2) := by decide +kernel
theorem dX7_allowed_189 : decode cX7_allowed 189 = .ok (.iload 4, 2) := by decide +kernel
theorem dX7_allowed_191 : decode cX7_allowed 191 = .ok (.aload_n 0, 1) := by decide +kernel
theorem dX7_allowed_192 : decode cX7_allowed 192 = .ok (.getfield 33, 3) := by decide +kernel
theorem dX7_allowed_195 : decode cX7_allowed 195 = .ok (.iload_n 1, 1) := by decide +kernel
theorem dX7_allowed_196 : decode cX7_allowed 196 = .ok (.iaload, 1) := by decide +kernel
theorem dX7_allowed_197 : decode cX7_allowed 197 = .ok (.iload 9, 2) := by decide +kernel
theorem dX7_allowed_199 : decode cX7_allowed 199 = .ok (.iand, 1) := by decide +kernel
theorem dX7_allowed_200 : decode cX7_allowed 200 = .ok (.ifCond .eq 12, 3) := by decide +kernel
theorem dX7_allowed_203 : decode cX7_allowed 203 = .ok (.iconst 1, 1) := by decide +kernel
theorem dX7_allowed_204 : decode cX7_allowed 204 = .ok (.iload 10, 2) := by decide +kernel
theorem dX7_allowed_206 : decode cX7_allowed 206 = .ok (.ishl, 1) := by decide +kernel
theorem dX7_allowed_207 : decode cX7_allowed 207 = .ok (.iconst 1, 1) := by decide +kernel
theorem dX7_allowed_208 : decode cX7_allowed 208 = .ok (.isub, 1) := by decide +kernel
theorem dX7_allowed_209 : decode cX7_allowed 209 = .ok (.goto 4, 3) := by decide +kernel
theorem dX7_allowed_212 : decode cX7_allowed 212 = .ok (.iconst (-1), 1) := by decide +kernel
theorem dX7_allowed_213 : decode cX7_allowed 213 = .ok (.iand, 1) := by decide +kernel
theorem dX7_allowed_214 : decode cX7_allowed 214 = .ok (.istore 4, 2) := by decide +kernel
theorem dX7_allowed_216 : decode cX7_allowed 216 = .ok (.aload_n 0, 1) := by decide +kernel
theorem dX7_allowed_217 : decode cX7_allowed 217 = .ok (.getfield 36, 3) := by decide +kernel
theorem dX7_allowed_220 : decode cX7_allowed 220 = .ok (.iload_n 1, 1) := by decide +kernel
theorem dX7_allowed_221 : decode cX7_allowed 221 = .ok (.iaload, 1) := by decide +kernel
theorem dX7_allowed_222 : decode cX7_allowed 222 = .ok (.iload 9, 2) := by decide +kernel
theorem dX7_allowed_224 : decode cX7_allowed 224 = .ok (.iand, 1) := by decide +kernel
theorem dX7_allowed_225 : decode cX7_allowed 225 = .ok (.ifCond .eq 30, 3) := by decide +kernel
theorem dX7_allowed_228 : decode cX7_allowed 228 = .ok (.iload 7, 2) := by decide +kernel
theorem dX7_allowed_230 : decode cX7_allowed 230 = .ok (.iload 6, 2) := by decide +kernel
theorem dX7_allowed_232 : decode cX7_allowed 232 = .ok (.iload 11, 2) := by decide +kernel
theorem dX7_allowed_234 : decode cX7_allowed 234 = .ok (.iand, 1) := by decide +kernel
theorem dX7_allowed_235 : decode cX7_allowed 235 = .ok (.ior, 1) := by decide +kernel
theorem dX7_allowed_236 : decode cX7_allowed 236 = .ok (.istore 7, 2) := by decide +kernel
theorem dX7_allowed_238 : decode cX7_allowed 238 = .ok (.iload 6, 2) := by decide +kernel
theorem dX7_allowed_240 : decode cX7_allowed 240 = .ok (.iload 5, 2) := by decide +kernel
theorem dX7_allowed_242 : decode cX7_allowed 242 = .ok (.iload 11, 2) := by decide +kernel
theorem dX7_allowed_244 : decode cX7_allowed 244 = .ok (.iand, 1) := by decide +kernel
theorem dX7_allowed_245 : decode cX7_allowed 245 = .ok (.ior, 1) := by decide +kernel
theorem dX7_allowed_246 : decode cX7_allowed 246 = .ok (.istore 6, 2) := by decide +kernel
theorem dX7_allowed_248 : decode cX7_allowed 248 = .ok (.iload 5, 2) := by decide +kernel
theorem dX7_allowed_250 : decode cX7_allowed 250 = .ok (.iload 11, 2) := by decide +kernel
theorem dX7_allowed_252 : decode cX7_allowed 252 = .ok (.ior, 1) := by decide +kernel
theorem dX7_allowed_253 : decode cX7_allowed 253 = .ok (.istore 5, 2) := by decide +kernel
theorem dX7_allowed_255 : decode cX7_allowed 255 = .ok (.iinc 8 1, 3) := by decide +kernel
theorem dX7_allowed_258 : decode cX7_allowed 258 = .ok (.goto (-238), 3) := by decide +kernel
theorem dX7_allowed_261 : decode cX7_allowed 261 = .ok (.aload_n 0, 1) := by decide +kernel
theorem dX7_allowed_262 : decode cX7_allowed 262 = .ok (.getfield 39, 3) := by decide +kernel
theorem dX7_allowed_265 : decode cX7_allowed 265 = .ok (.iload_n 1, 1) := by decide +kernel
theorem dX7_allowed_266 : decode cX7_allowed 266 = .ok (.iaload, 1) := by decide +kernel
theorem dX7_allowed_267 : decode cX7_allowed 267 = .ok (.istore 8, 2) := by decide +kernel
theorem dX7_allowed_269 : decode cX7_allowed 269 = .ok (.iload 8, 2) := by decide +kernel
theorem dX7_allowed_271 : decode cX7_allowed 271 = .ok (.iconst 1, 1) := by decide +kernel
theorem dX7_allowed_272 : decode cX7_allowed 272 = .ok (.if_icmp .ne 8, 3) := by decide +kernel
theorem dX7_allowed_275 : decode cX7_allowed 275 = .ok (.iload 5, 2) := by decide +kernel
theorem dX7_allowed_277 : decode cX7_allowed 277 = .ok (.goto 26, 3) := by decide +kernel
theorem dX7_allowed_280 : decode cX7_allowed 280 = .ok (.iload 8, 2) := by decide +kernel
theorem dX7_allowed_282 : decode cX7_allowed 282 = .ok (.iconst 2, 1) := by decide +kernel
theorem dX7_allowed_283 : decode cX7_allowed 283 = .ok (.if_icmp .ne 8, 3) := by decide +kernel
theorem dX7_allowed_286 : decode cX7_allowed 286 = .ok (.iload 6, 2) := by decide +kernel
theorem dX7_allowed_288 : decode cX7_allowed 288 = .ok (.goto 15, 3) := by decide +kernel
theorem dX7_allowed_291 : decode cX7_allowed 291 = .ok (.iload 8, 2) := by decide +kernel
theorem dX7_allowed_293 : decode cX7_allowed 293 = .ok (.iconst 3, 1) := by decide +kernel
theorem dX7_allowed_294 : decode cX7_allowed 294 = .ok (.if_icmp .ne 8, 3) := by decide +kernel
theorem dX7_allowed_297 : decode cX7_allowed 297 = .ok (.iload 7, 2) := by decide +kernel
theorem dX7_allowed_299 : decode cX7_allowed 299 = .ok (.goto 4, 3) := by decide +kernel
theorem dX7_allowed_302 : decode cX7_allowed 302 = .ok (.iconst 0, 1) := by decide +kernel
theorem dX7_allowed_303 : decode cX7_allowed 303 = .ok (.istore 9, 2) := by decide +kernel
theorem dX7_allowed_305 : decode cX7_allowed 305 = .ok (.iload 4, 2) := by decide +kernel
theorem dX7_allowed_307 : decode cX7_allowed 307 = .ok (.iload 9, 2) := by decide +kernel
theorem dX7_allowed_309 : decode cX7_allowed 309 = .ok (.iload 9, 2) := by decide +kernel
theorem dX7_allowed_311 : decode cX7_allowed 311 = .ok (.aload_n 0, 1) := by decide +kernel
theorem dX7_allowed_312 : decode cX7_allowed 312 = .ok (.getfield 18, 3) := by decide +kernel
theorem dX7_allowed_315 : decode cX7_allowed 315 = .ok (.iload_n 1, 1) := by decide +kernel
theorem dX7_allowed_316 : decode cX7_allowed 316 = .ok (.iaload, 1) := by decide +kernel
theorem dX7_allowed_317 : decode cX7_allowed 317 = .ok (.ishr, 1) := by decide +kernel
theorem dX7_allowed_318 : decode cX7_allowed 318 = .ok (.ior, 1) := by decide +kernel
theorem dX7_allowed_319 : decode cX7_allowed 319 = .ok (.iconst (-1), 1) := by decide +kernel
theorem dX7_allowed_320 : decode cX7_allowed 320 = .ok (.ixor, 1) := by decide +kernel
theorem dX7_allowed_321 : decode cX7_allowed 321 = .ok (.iand, 1) := by decide +kernel
theorem dX7_allowed_322 : decode cX7_allowed 322 = .ok (.ireturn, 1) := by decide +kernel
set_option maxRecDepth 20000 in
theorem ggX7_isRight_X7_allowed : GoodIn wsX7_isRight wsX7_allowed := goodIn_r _ [6, 7, 1, 8, 9, 10, 11, 12, 13, 14, 15, 16, 17, 18, 19, 20, 21, 22, 23, 24, 25, 26, 27, 28] (by decide +kernel) (by decide +kernel)
set_option maxRecDepth 20000 in
theorem gX7_isRight_X7_allowed : GoodIn wsX7_isRight (wsV RX7 87 RX7 yX7_allowed wsX7_allowed) := goodIn_app (goodIn_of _ (by decide +kernel)) ggX7_isRight_X7_allowed
theorem dX7_isRight_0 : decode cX7_isRight 0 = .ok (.iconst 0, 1) := by decide +kernel
theorem dX7_isRight_1 : decode cX7_isRight 1 = .ok (.istore_n 2, 1) := by decide +kernel
theorem dX7_isRight_2 : decode cX7_isRight 2 = .ok (.iload_n 2, 1) := by decide +kernel
theorem dX7_isRight_3 : decode cX7_isRight 3 = .ok (.aload_n 0, 1) := by decide +kernel
theorem dX7_isRight_4 : decode cX7_isRight 4 = .ok (.getfield 51, 3) := by decide +kernel
theorem dX7_isRight_7 : decode cX7_isRight 7 = .ok (.if_icmp .ge 27, 3) := by decide +kernel
theorem dX7_isRight_10 : decode cX7_isRight 10 = .ok (.aload_n 0, 1) := by decide +kernel
theorem dX7_isRight_11 : decode cX7_isRight 11 = .ok (.iload_n 2, 1) := by decide +kernel
theorem dX7_isRight_12 : decode cX7_isRight 12 = .ok (.aload_n 1, 1) := by decide +kernel
theorem dX7_isRight_13 : decode cX7_isRight 13 = .ok (.iconst (-1), 1) := by decide +kernel
theorem dX7_isRight_14 : decode cX7_isRight 14 = .ok (.invokevirtual 87, 3) := by decide +kernel
theorem dX7_isRight_17 : decode cX7_isRight 17 = .ok (.aload_n 1, 1) := by decide +kernel
theorem dX7_isRight_18 : decode cX7_isRight 18 = .ok (.iload_n 2, 1) := by decide +kernel
theorem dX7_isRight_19 : decode cX7_isRight 19 = .ok (.iaload, 1) := by decide +kernel
theorem dX7_isRight_20 : decode cX7_isRight 20 = .ok (.ishr, 1) := by decide +kernel
theorem dX7_isRight_21 : decode cX7_isRight 21 = .ok (.iconst 1, 1) := by decide +kernel
theorem dX7_isRight_22 : decode cX7_isRight 22 = .ok (.iand, 1) := by decide +kernel
theorem dX7_isRight_23 : decode cX7_isRight 23 = .ok (.ifCond .ne 5, 3) := by decide +kernel
theorem dX7_isRight_26 : decode cX7_isRight 26 = .ok (.iconst 0, 1) := by decide +kernel
theorem dX7_isRight_27 : decode cX7_isRight 27 = .ok (.ireturn, 1) := by decide +kernel
theorem dX7_isRight_28 : decode cX7_isRight 28 = .ok (.iinc 2 1, 3) := by decide +kernel
theorem dX7_isRight_31 : decode cX7_isRight 31 = .ok (.goto (-29), 3) := by decide +kernel
theorem dX7_isRight_34 : decode cX7_isRight 34 = .ok (.iconst 1, 1) := by decide +kernel
theorem dX7_isRight_35 : decode cX7_isRight 35 = .ok (.ireturn, 1) := by decide +kernel
set_option maxRecDepth 20000 in
theorem ggX7_giveRooms_X7_leastRoom : GoodIn wsX7_giveRooms wsX7_leastRoom := goodIn_r _ [8, 1, 9, 10, 2, 11, 12, 13, 14, 15, 16, 17, 18, 19, 20, 21, 22] (by decide +kernel) (by decide +kernel)
set_option maxRecDepth 20000 in
theorem gX7_giveRooms_X7_leastRoom : GoodIn wsX7_giveRooms (wsV RX7 91 RX7 yX7_leastRoom wsX7_leastRoom) := goodIn_app (goodIn_of _ (by decide +kernel)) ggX7_giveRooms_X7_leastRoom
theorem dX7_giveRooms_0 : decode cX7_giveRooms 0 = .ok (.iconst 0, 1) := by decide +kernel
theorem dX7_giveRooms_1 : decode cX7_giveRooms 1 = .ok (.istore_n 3, 1) := by decide +kernel
theorem dX7_giveRooms_2 : decode cX7_giveRooms 2 = .ok (.iload_n 3, 1) := by decide +kernel
theorem dX7_giveRooms_3 : decode cX7_giveRooms 3 = .ok (.bipush 20, 2) := by decide +kernel
theorem dX7_giveRooms_5 : decode cX7_giveRooms 5 = .ok (.if_icmp .ge 65, 3) := by decide +kernel
theorem dX7_giveRooms_8 : decode cX7_giveRooms 8 = .ok (.iconst 0, 1) := by decide +kernel
theorem dX7_giveRooms_9 : decode cX7_giveRooms 9 = .ok (.istore 4, 2) := by decide +kernel
theorem dX7_giveRooms_11 : decode cX7_giveRooms 11 = .ok (.iload 4, 2) := by decide +kernel
theorem dX7_giveRooms_13 : decode cX7_giveRooms 13 = .ok (.aload_n 0, 1) := by decide +kernel
theorem dX7_giveRooms_14 : decode cX7_giveRooms 14 = .ok (.getfield 51, 3) := by decide +kernel
theorem dX7_giveRooms_17 : decode cX7_giveRooms 17 = .ok (.if_icmp .ge 47, 3) := by decide +kernel
theorem dX7_giveRooms_20 : decode cX7_giveRooms 20 = .ok (.aload_n 1, 1) := by decide +kernel
theorem dX7_giveRooms_21 : decode cX7_giveRooms 21 = .ok (.iload 4, 2) := by decide +kernel
theorem dX7_giveRooms_23 : decode cX7_giveRooms 23 = .ok (.iaload, 1) := by decide +kernel
theorem dX7_giveRooms_24 : decode cX7_giveRooms 24 = .ok (.iload_n 3, 1) := by decide +kernel
theorem dX7_giveRooms_25 : decode cX7_giveRooms 25 = .ok (.if_icmp .ne 33, 3) := by decide +kernel
theorem dX7_giveRooms_28 : decode cX7_giveRooms 28 = .ok (.aload_n 0, 1) := by decide +kernel
theorem dX7_giveRooms_29 : decode cX7_giveRooms 29 = .ok (.getfield 42, 3) := by decide +kernel
theorem dX7_giveRooms_32 : decode cX7_giveRooms 32 = .ok (.iload 4, 2) := by decide +kernel
theorem dX7_giveRooms_34 : decode cX7_giveRooms 34 = .ok (.aload_n 0, 1) := by decide +kernel
theorem dX7_giveRooms_35 : decode cX7_giveRooms 35 = .ok (.getfield 39, 3) := by decide +kernel
theorem dX7_giveRooms_38 : decode cX7_giveRooms 38 = .ok (.iload 4, 2) := by decide +kernel
theorem dX7_giveRooms_40 : decode cX7_giveRooms 40 = .ok (.iaload, 1) := by decide +kernel
theorem dX7_giveRooms_41 : decode cX7_giveRooms 41 = .ok (.bipush 9, 2) := by decide +kernel
theorem dX7_giveRooms_43 : decode cX7_giveRooms 43 = .ok (.if_icmp .ne 7, 3) := by decide +kernel
theorem dX7_giveRooms_46 : decode cX7_giveRooms 46 = .ok (.iconst (-1), 1) := by decide +kernel
theorem dX7_giveRooms_47 : decode cX7_giveRooms 47 = .ok (.goto 10, 3) := by decide +kernel
theorem dX7_giveRooms_50 : decode cX7_giveRooms 50 = .ok (.aload_n 0, 1) := by decide +kernel
theorem dX7_giveRooms_51 : decode cX7_giveRooms 51 = .ok (.aload_n 1, 1) := by decide +kernel
theorem dX7_giveRooms_52 : decode cX7_giveRooms 52 = .ok (.iload 4, 2) := by decide +kernel
theorem dX7_giveRooms_54 : decode cX7_giveRooms 54 = .ok (.invokevirtual 91, 3) := by decide +kernel
theorem dX7_giveRooms_57 : decode cX7_giveRooms 57 = .ok (.iastore, 1) := by decide +kernel
theorem dX7_giveRooms_58 : decode cX7_giveRooms 58 = .ok (.iinc 4 1, 3) := by decide +kernel
theorem dX7_giveRooms_61 : decode cX7_giveRooms 61 = .ok (.goto (-50), 3) := by decide +kernel
theorem dX7_giveRooms_64 : decode cX7_giveRooms 64 = .ok (.iinc 3 1, 3) := by decide +kernel
theorem dX7_giveRooms_67 : decode cX7_giveRooms 67 = .ok (.goto (-65), 3) := by decide +kernel
theorem dX7_giveRooms_70 : decode cX7_giveRooms 70 = .ok (.aload_n 0, 1) := by decide +kernel
theorem dX7_giveRooms_71 : decode cX7_giveRooms 71 = .ok (.getfield 42, 3) := by decide +kernel
theorem dX7_giveRooms_74 : decode cX7_giveRooms 74 = .ok (.iload_n 2, 1) := by decide +kernel
theorem dX7_giveRooms_75 : decode cX7_giveRooms 75 = .ok (.iaload, 1) := by decide +kernel
theorem dX7_giveRooms_76 : decode cX7_giveRooms 76 = .ok (.ireturn, 1) := by decide +kernel
theorem dX7_leastRoom_0 : decode cX7_leastRoom 0 = .ok (.iconst 0, 1) := by decide +kernel
theorem dX7_leastRoom_1 : decode cX7_leastRoom 1 = .ok (.istore_n 3, 1) := by decide +kernel
theorem dX7_leastRoom_2 : decode cX7_leastRoom 2 = .ok (.iconst 0, 1) := by decide +kernel
theorem dX7_leastRoom_3 : decode cX7_leastRoom 3 = .ok (.istore 4, 2) := by decide +kernel
theorem dX7_leastRoom_5 : decode cX7_leastRoom 5 = .ok (.iload 4, 2) := by decide +kernel
theorem dX7_leastRoom_7 : decode cX7_leastRoom 7 = .ok (.aload_n 0, 1) := by decide +kernel
theorem dX7_leastRoom_8 : decode cX7_leastRoom 8 = .ok (.getfield 51, 3) := by decide +kernel
theorem dX7_leastRoom_11 : decode cX7_leastRoom 11 = .ok (.if_icmp .ge 111, 3) := by decide +kernel
theorem dX7_leastRoom_14 : decode cX7_leastRoom 14 = .ok (.aload_n 1, 1) := by decide +kernel
theorem dX7_leastRoom_15 : decode cX7_leastRoom 15 = .ok (.iload 4, 2) := by decide +kernel
theorem dX7_leastRoom_17 : decode cX7_leastRoom 17 = .ok (.iaload, 1) := by decide +kernel
theorem dX7_leastRoom_18 : decode cX7_leastRoom 18 = .ok (.aload_n 1, 1) := by decide +kernel
theorem dX7_leastRoom_19 : decode cX7_leastRoom 19 = .ok (.iload_n 2, 1) := by decide +kernel
theorem dX7_leastRoom_20 : decode cX7_leastRoom 20 = .ok (.iaload, 1) := by decide +kernel
theorem dX7_leastRoom_21 : decode cX7_leastRoom 21 = .ok (.if_icmp .lt 19, 3) := by decide +kernel
theorem dX7_leastRoom_24 : decode cX7_leastRoom 24 = .ok (.aload_n 1, 1) := by decide +kernel
theorem dX7_leastRoom_25 : decode cX7_leastRoom 25 = .ok (.iload 4, 2) := by decide +kernel
theorem dX7_leastRoom_27 : decode cX7_leastRoom 27 = .ok (.iaload, 1) := by decide +kernel
theorem dX7_leastRoom_28 : decode cX7_leastRoom 28 = .ok (.aload_n 1, 1) := by decide +kernel
theorem dX7_leastRoom_29 : decode cX7_leastRoom 29 = .ok (.iload_n 2, 1) := by decide +kernel
theorem dX7_leastRoom_30 : decode cX7_leastRoom 30 = .ok (.iaload, 1) := by decide +kernel
theorem dX7_leastRoom_31 : decode cX7_leastRoom 31 = .ok (.if_icmp .ne 13, 3) := by decide +kernel
theorem dX7_leastRoom_34 : decode cX7_leastRoom 34 = .ok (.iload 4, 2) := by decide +kernel
theorem dX7_leastRoom_36 : decode cX7_leastRoom 36 = .ok (.iload_n 2, 1) := by decide +kernel
theorem dX7_leastRoom_37 : decode cX7_leastRoom 37 = .ok (.if_icmp .ge 7, 3) := by decide +kernel
theorem dX7_leastRoom_40 : decode cX7_leastRoom 40 = .ok (.iconst 1, 1) := by decide +kernel
theorem dX7_leastRoom_41 : decode cX7_leastRoom 41 = .ok (.goto 4, 3) := by decide +kernel
theorem dX7_leastRoom_44 : decode cX7_leastRoom 44 = .ok (.iconst 0, 1) := by decide +kernel
theorem dX7_leastRoom_45 : decode cX7_leastRoom 45 = .ok (.istore 5, 2) := by decide +kernel
theorem dX7_leastRoom_47 : decode cX7_leastRoom 47 = .ok (.aload_n 0, 1) := by decide +kernel
theorem dX7_leastRoom_48 : decode cX7_leastRoom 48 = .ok (.getfield 15, 3) := by decide +kernel
theorem dX7_leastRoom_51 : decode cX7_leastRoom 51 = .ok (.iload 4, 2) := by decide +kernel
theorem dX7_leastRoom_53 : decode cX7_leastRoom 53 = .ok (.iaload, 1) := by decide +kernel
theorem dX7_leastRoom_54 : decode cX7_leastRoom 54 = .ok (.aload_n 1, 1) := by decide +kernel
theorem dX7_leastRoom_55 : decode cX7_leastRoom 55 = .ok (.iload 4, 2) := by decide +kernel
theorem dX7_leastRoom_57 : decode cX7_leastRoom 57 = .ok (.iaload, 1) := by decide +kernel
theorem dX7_leastRoom_58 : decode cX7_leastRoom 58 = .ok (.ishl, 1) := by decide +kernel
theorem dX7_leastRoom_59 : decode cX7_leastRoom 59 = .ok (.aload_n 0, 1) := by decide +kernel
theorem dX7_leastRoom_60 : decode cX7_leastRoom 60 = .ok (.getfield 15, 3) := by decide +kernel
theorem dX7_leastRoom_63 : decode cX7_leastRoom 63 = .ok (.iload_n 2, 1) := by decide +kernel
theorem dX7_leastRoom_64 : decode cX7_leastRoom 64 = .ok (.iaload, 1) := by decide +kernel
theorem dX7_leastRoom_65 : decode cX7_leastRoom 65 = .ok (.aload_n 1, 1) := by decide +kernel
theorem dX7_leastRoom_66 : decode cX7_leastRoom 66 = .ok (.iload_n 2, 1) := by decide +kernel
theorem dX7_leastRoom_67 : decode cX7_leastRoom 67 = .ok (.iaload, 1) := by decide +kernel
theorem dX7_leastRoom_68 : decode cX7_leastRoom 68 = .ok (.ishl, 1) := by decide +kernel
theorem dX7_leastRoom_69 : decode cX7_leastRoom 69 = .ok (.iand, 1) := by decide +kernel
theorem dX7_leastRoom_70 : decode cX7_leastRoom 70 = .ok (.ifCond .eq 7, 3) := by decide +kernel
theorem dX7_leastRoom_73 : decode cX7_leastRoom 73 = .ok (.iconst 1, 1) := by decide +kernel
theorem dX7_leastRoom_74 : decode cX7_leastRoom 74 = .ok (.goto 4, 3) := by decide +kernel
theorem dX7_leastRoom_77 : decode cX7_leastRoom 77 = .ok (.iconst 0, 1) := by decide +kernel
theorem dX7_leastRoom_78 : decode cX7_leastRoom 78 = .ok (.istore 6, 2) := by decide +kernel
theorem dX7_leastRoom_80 : decode cX7_leastRoom 80 = .ok (.iload 5, 2) := by decide +kernel
theorem dX7_leastRoom_82 : decode cX7_leastRoom 82 = .ok (.ifCond .eq 34, 3) := by decide +kernel
theorem dX7_leastRoom_85 : decode cX7_leastRoom 85 = .ok (.iload 6, 2) := by decide +kernel
theorem dX7_leastRoom_87 : decode cX7_leastRoom 87 = .ok (.ifCond .eq 29, 3) := by decide +kernel
theorem dX7_leastRoom_90 : decode cX7_leastRoom 90 = .ok (.aload_n 0, 1) := by decide +kernel
theorem dX7_leastRoom_91 : decode cX7_leastRoom 91 = .ok (.getfield 36, 3) := by decide +kernel
theorem dX7_leastRoom_94 : decode cX7_leastRoom 94 = .ok (.iload_n 2, 1) := by decide +kernel
theorem dX7_leastRoom_95 : decode cX7_leastRoom 95 = .ok (.iaload, 1) := by decide +kernel
theorem dX7_leastRoom_96 : decode cX7_leastRoom 96 = .ok (.iload 4, 2) := by decide +kernel
theorem dX7_leastRoom_98 : decode cX7_leastRoom 98 = .ok (.ishr, 1) := by decide +kernel
theorem dX7_leastRoom_99 : decode cX7_leastRoom 99 = .ok (.iconst 1, 1) := by decide +kernel
theorem dX7_leastRoom_100 : decode cX7_leastRoom 100 = .ok (.iand, 1) := by decide +kernel
theorem dX7_leastRoom_101 : decode cX7_leastRoom 101 = .ok (.ifCond .eq 15, 3) := by decide +kernel
theorem dX7_leastRoom_104 : decode cX7_leastRoom 104 = .ok (.iload_n 3, 1) := by decide +kernel
theorem dX7_leastRoom_105 : decode cX7_leastRoom 105 = .ok (.iconst 1, 1) := by decide +kernel
theorem dX7_leastRoom_106 : decode cX7_leastRoom 106 = .ok (.aload_n 0, 1) := by decide +kernel
theorem dX7_leastRoom_107 : decode cX7_leastRoom 107 = .ok (.getfield 42, 3) := by decide +kernel
theorem dX7_leastRoom_110 : decode cX7_leastRoom 110 = .ok (.iload 4, 2) := by decide +kernel
theorem dX7_leastRoom_112 : decode cX7_leastRoom 112 = .ok (.iaload, 1) := by decide +kernel
theorem dX7_leastRoom_113 : decode cX7_leastRoom 113 = .ok (.ishl, 1) := by decide +kernel
theorem dX7_leastRoom_114 : decode cX7_leastRoom 114 = .ok (.ior, 1) := by decide +kernel
theorem dX7_leastRoom_115 : decode cX7_leastRoom 115 = .ok (.istore_n 3, 1) := by decide +kernel
theorem dX7_leastRoom_116 : decode cX7_leastRoom 116 = .ok (.iinc 4 1, 3) := by decide +kernel
theorem dX7_leastRoom_119 : decode cX7_leastRoom 119 = .ok (.goto (-114), 3) := by decide +kernel
theorem dX7_leastRoom_122 : decode cX7_leastRoom 122 = .ok (.iconst 0, 1) := by decide +kernel
theorem dX7_leastRoom_123 : decode cX7_leastRoom 123 = .ok (.istore 4, 2) := by decide +kernel
theorem dX7_leastRoom_125 : decode cX7_leastRoom 125 = .ok (.iload 4, 2) := by decide +kernel
theorem dX7_leastRoom_127 : decode cX7_leastRoom 127 = .ok (.iconst 3, 1) := by decide +kernel
theorem dX7_leastRoom_128 : decode cX7_leastRoom 128 = .ok (.if_icmp .ge 18, 3) := by decide +kernel
theorem dX7_leastRoom_131 : decode cX7_leastRoom 131 = .ok (.iload_n 3, 1) := by decide +kernel
theorem dX7_leastRoom_132 : decode cX7_leastRoom 132 = .ok (.iload 4, 2) := by decide +kernel
theorem dX7_leastRoom_134 : decode cX7_leastRoom 134 = .ok (.ishr, 1) := by decide +kernel
theorem dX7_leastRoom_135 : decode cX7_leastRoom 135 = .ok (.iconst 1, 1) := by decide +kernel
theorem dX7_leastRoom_136 : decode cX7_leastRoom 136 = .ok (.iand, 1) := by decide +kernel
theorem dX7_leastRoom_137 : decode cX7_leastRoom 137 = .ok (.ifCond .eq 9, 3) := by decide +kernel
theorem dX7_leastRoom_140 : decode cX7_leastRoom 140 = .ok (.iinc 4 1, 3) := by decide +kernel
theorem dX7_leastRoom_143 : decode cX7_leastRoom 143 = .ok (.goto (-18), 3) := by decide +kernel
theorem dX7_leastRoom_146 : decode cX7_leastRoom 146 = .ok (.iload 4, 2) := by decide +kernel
theorem dX7_leastRoom_148 : decode cX7_leastRoom 148 = .ok (.ireturn, 1) := by decide +kernel
theorem dX8_init_0 : decode cX8_init 0 = .ok (.aload_n 0, 1) := by decide +kernel
theorem dX8_init_1 : decode cX8_init 1 = .ok (.invokespecial 5, 3) := by decide +kernel
theorem dX8_init_4 : decode cX8_init 4 = .ok (.aload_n 0, 1) := by decide +kernel
theorem dX8_init_5 : decode cX8_init 5 = .ok (.bipush 119, 2) := by decide +kernel
theorem dX8_init_7 : decode cX8_init 7 = .ok (.newarray .int, 2) := by decide +kernel
theorem dX8_init_9 : decode cX8_init 9 = .ok (.putfield 11, 3) := by decide +kernel
theorem dX8_init_12 : decode cX8_init 12 = .ok (.aload_n 0, 1) := by decide +kernel
theorem dX8_init_13 : decode cX8_init 13 = .ok (.bipush 9, 2) := by decide +kernel
theorem dX8_init_15 : decode cX8_init 15 = .ok (.newarray .int, 2) := by decide +kernel
theorem dX8_init_17 : decode cX8_init 17 = .ok (.putfield 15, 3) := by decide +kernel
theorem dX8_init_20 : decode cX8_init 20 = .ok (.iconst 0, 1) := by decide +kernel
theorem dX8_init_21 : decode cX8_init 21 = .ok (.istore_n 1, 1) := by decide +kernel
theorem dX8_init_22 : decode cX8_init 22 = .ok (.iload_n 1, 1) := by decide +kernel
theorem dX8_init_23 : decode cX8_init 23 = .ok (.bipush 6, 2) := by decide +kernel
theorem dX8_init_25 : decode cX8_init 25 = .ok (.if_icmp .ge 20, 3) := by decide +kernel
theorem dX8_init_28 : decode cX8_init 28 = .ok (.aload_n 0, 1) := by decide +kernel
theorem dX8_init_29 : decode cX8_init 29 = .ok (.getfield 11, 3) := by decide +kernel
theorem dX8_init_32 : decode cX8_init 32 = .ok (.bipush 96, 2) := by decide +kernel
theorem dX8_init_34 : decode cX8_init 34 = .ok (.iload_n 1, 1) := by decide +kernel
theorem dX8_init_35 : decode cX8_init 35 = .ok (.iadd, 1) := by decide +kernel
theorem dX8_init_36 : decode cX8_init 36 = .ok (.bipush 63, 2) := by decide +kernel
theorem dX8_init_38 : decode cX8_init 38 = .ok (.iastore, 1) := by decide +kernel
theorem dX8_init_39 : decode cX8_init 39 = .ok (.iinc 1 1, 3) := by decide +kernel
theorem dX8_init_42 : decode cX8_init 42 = .ok (.goto (-20), 3) := by decide +kernel
theorem dX8_init_45 : decode cX8_init 45 = .ok (.iconst 0, 1) := by decide +kernel
theorem dX8_init_46 : decode cX8_init 46 = .ok (.istore_n 1, 1) := by decide +kernel
theorem dX8_init_47 : decode cX8_init 47 = .ok (.iload_n 1, 1) := by decide +kernel
theorem dX8_init_48 : decode cX8_init 48 = .ok (.iconst 3, 1) := by decide +kernel
theorem dX8_init_49 : decode cX8_init 49 = .ok (.if_icmp .ge 19, 3) := by decide +kernel
theorem dX8_init_52 : decode cX8_init 52 = .ok (.aload_n 0, 1) := by decide +kernel
theorem dX8_init_53 : decode cX8_init 53 = .ok (.getfield 11, 3) := by decide +kernel
theorem dX8_init_56 : decode cX8_init 56 = .ok (.bipush 102, 2) := by decide +kernel
theorem dX8_init_58 : decode cX8_init 58 = .ok (.iload_n 1, 1) := by decide +kernel
theorem dX8_init_59 : decode cX8_init 59 = .ok (.iadd, 1) := by decide +kernel
theorem dX8_init_60 : decode cX8_init 60 = .ok (.iconst 3, 1) := by decide +kernel
theorem dX8_init_61 : decode cX8_init 61 = .ok (.iastore, 1) := by decide +kernel
theorem dX8_init_62 : decode cX8_init 62 = .ok (.iinc 1 1, 3) := by decide +kernel
theorem dX8_init_65 : decode cX8_init 65 = .ok (.goto (-18), 3) := by decide +kernel
theorem dX8_init_68 : decode cX8_init 68 = .ok (.return_, 1) := by decide +kernel
theorem dX8_lessonTotal_0 : decode cX8_lessonTotal 0 = .ok (.aload_n 0, 1) := by decide +kernel
theorem dX8_lessonTotal_1 : decode cX8_lessonTotal 1 = .ok (.getfield 11, 3) := by decide +kernel
theorem dX8_lessonTotal_4 : decode cX8_lessonTotal 4 = .ok (.iconst 0, 1) := by decide +kernel
theorem dX8_lessonTotal_5 : decode cX8_lessonTotal 5 = .ok (.iaload, 1) := by decide +kernel
theorem dX8_lessonTotal_6 : decode cX8_lessonTotal 6 = .ok (.ireturn, 1) := by decide +kernel
theorem dX8_wishTotal_0 : decode cX8_wishTotal 0 = .ok (.aload_n 0, 1) := by decide +kernel
theorem dX8_wishTotal_1 : decode cX8_wishTotal 1 = .ok (.getfield 11, 3) := by decide +kernel
theorem dX8_wishTotal_4 : decode cX8_wishTotal 4 = .ok (.iconst 1, 1) := by decide +kernel
theorem dX8_wishTotal_5 : decode cX8_wishTotal 5 = .ok (.iaload, 1) := by decide +kernel
theorem dX8_wishTotal_6 : decode cX8_wishTotal 6 = .ok (.ireturn, 1) := by decide +kernel
theorem dX8_hasTable_0 : decode cX8_hasTable 0 = .ok (.aload_n 0, 1) := by decide +kernel
theorem dX8_hasTable_1 : decode cX8_hasTable 1 = .ok (.getfield 11, 3) := by decide +kernel
theorem dX8_hasTable_4 : decode cX8_hasTable 4 = .ok (.iconst 2, 1) := by decide +kernel
theorem dX8_hasTable_5 : decode cX8_hasTable 5 = .ok (.iaload, 1) := by decide +kernel
theorem dX8_hasTable_6 : decode cX8_hasTable 6 = .ok (.ifCond .eq 7, 3) := by decide +kernel
theorem dX8_hasTable_9 : decode cX8_hasTable 9 = .ok (.iconst 1, 1) := by decide +kernel
theorem dX8_hasTable_10 : decode cX8_hasTable 10 = .ok (.goto 4, 3) := by decide +kernel
theorem dX8_hasTable_13 : decode cX8_hasTable 13 = .ok (.iconst 0, 1) := by decide +kernel
theorem dX8_hasTable_14 : decode cX8_hasTable 14 = .ok (.ireturn, 1) := by decide +kernel
theorem dX8_loseTable_0 : decode cX8_loseTable 0 = .ok (.aload_n 0, 1) := by decide +kernel
theorem dX8_loseTable_1 : decode cX8_loseTable 1 = .ok (.getfield 11, 3) := by decide +kernel
theorem dX8_loseTable_4 : decode cX8_loseTable 4 = .ok (.iconst 2, 1) := by decide +kernel
theorem dX8_loseTable_5 : decode cX8_loseTable 5 = .ok (.iconst 0, 1) := by decide +kernel
theorem dX8_loseTable_6 : decode cX8_loseTable 6 = .ok (.iastore, 1) := by decide +kernel
theorem dX8_loseTable_7 : decode cX8_loseTable 7 = .ok (.return_, 1) := by decide +kernel
theorem dX8_putTable_0 : decode cX8_putTable 0 = .ok (.aload_n 0, 1) := by decide +kernel
theorem dX8_putTable_1 : decode cX8_putTable 1 = .ok (.getfield 11, 3) := by decide +kernel
theorem dX8_putTable_4 : decode cX8_putTable 4 = .ok (.iconst 2, 1) := by decide +kernel
theorem dX8_putTable_5 : decode cX8_putTable 5 = .ok (.iconst 1, 1) := by decide +kernel
theorem dX8_putTable_6 : decode cX8_putTable 6 = .ok (.iastore, 1) := by decide +kernel
theorem dX8_putTable_7 : decode cX8_putTable 7 = .ok (.aload_n 1, 1) := by decide +kernel
theorem dX8_putTable_8 : decode cX8_putTable 8 = .ok (.iconst 0, 1) := by decide +kernel
theorem dX8_putTable_9 : decode cX8_putTable 9 = .ok (.aload_n 0, 1) := by decide +kernel
theorem dX8_putTable_10 : decode cX8_putTable 10 = .ok (.getfield 15, 3) := by decide +kernel
theorem dX8_putTable_13 : decode cX8_putTable 13 = .ok (.iconst 0, 1) := by decide +kernel
theorem dX8_putTable_14 : decode cX8_putTable 14 = .ok (.bipush 9, 2) := by decide +kernel
theorem dX8_putTable_16 : decode cX8_putTable 16 = .ok (.invokestatic 18, 3) := by decide +kernel
theorem dX8_putTable_19 : decode cX8_putTable 19 = .ok (.return_, 1) := by decide +kernel
theorem dX8_ofLesson_0 : decode cX8_ofLesson 0 = .ok (.aload_n 0, 1) := by decide +kernel
theorem dX8_ofLesson_1 : decode cX8_ofLesson 1 = .ok (.getfield 11, 3) := by decide +kernel
theorem dX8_ofLesson_4 : decode cX8_ofLesson 4 = .ok (.iconst 3, 1) := by decide +kernel
theorem dX8_ofLesson_5 : decode cX8_ofLesson 5 = .ok (.iload_n 1, 1) := by decide +kernel
theorem dX8_ofLesson_6 : decode cX8_ofLesson 6 = .ok (.iconst 5, 1) := by decide +kernel
theorem dX8_ofLesson_7 : decode cX8_ofLesson 7 = .ok (.imul, 1) := by decide +kernel
theorem dX8_ofLesson_8 : decode cX8_ofLesson 8 = .ok (.iadd, 1) := by decide +kernel
theorem dX8_ofLesson_9 : decode cX8_ofLesson 9 = .ok (.iload_n 2, 1) := by decide +kernel
theorem dX8_ofLesson_10 : decode cX8_ofLesson 10 = .ok (.iadd, 1) := by decide +kernel
theorem dX8_ofLesson_11 : decode cX8_ofLesson 11 = .ok (.iaload, 1) := by decide +kernel
theorem dX8_ofLesson_12 : decode cX8_ofLesson 12 = .ok (.ireturn, 1) := by decide +kernel
theorem dX8_ofWish_0 : decode cX8_ofWish 0 = .ok (.aload_n 0, 1) := by decide +kernel
theorem dX8_ofWish_1 : decode cX8_ofWish 1 = .ok (.getfield 11, 3) := by decide +kernel
theorem dX8_ofWish_4 : decode cX8_ofWish 4 = .ok (.bipush 48, 2) := by decide +kernel
theorem dX8_ofWish_6 : decode cX8_ofWish 6 = .ok (.iload_n 1, 1) := by decide +kernel
theorem dX8_ofWish_7 : decode cX8_ofWish 7 = .ok (.iconst 4, 1) := by decide +kernel
theorem dX8_ofWish_8 : decode cX8_ofWish 8 = .ok (.imul, 1) := by decide +kernel
theorem dX8_ofWish_9 : decode cX8_ofWish 9 = .ok (.iadd, 1) := by decide +kernel
theorem dX8_ofWish_10 : decode cX8_ofWish 10 = .ok (.iload_n 2, 1) := by decide +kernel
theorem dX8_ofWish_11 : decode cX8_ofWish 11 = .ok (.iadd, 1) := by decide +kernel
theorem dX8_ofWish_12 : decode cX8_ofWish 12 = .ok (.iaload, 1) := by decide +kernel
theorem dX8_ofWish_13 : decode cX8_ofWish 13 = .ok (.ireturn, 1) := by decide +kernel
theorem dX8_subjectsOf_0 : decode cX8_subjectsOf 0 = .ok (.aload_n 0, 1) := by decide +kernel
theorem dX8_subjectsOf_1 : decode cX8_subjectsOf 1 = .ok (.getfield 11, 3) := by decide +kernel
theorem dX8_subjectsOf_4 : decode cX8_subjectsOf 4 = .ok (.bipush 96, 2) := by decide +kernel
theorem dX8_subjectsOf_6 : decode cX8_subjectsOf 6 = .ok (.iload_n 1, 1) := by decide +kernel
theorem dX8_subjectsOf_7 : decode cX8_subjectsOf 7 = .ok (.iadd, 1) := by decide +kernel
theorem dX8_subjectsOf_8 : decode cX8_subjectsOf 8 = .ok (.iaload, 1) := by decide +kernel
theorem dX8_subjectsOf_9 : decode cX8_subjectsOf 9 = .ok (.ireturn, 1) := by decide +kernel
theorem dX8_roomsOf_0 : decode cX8_roomsOf 0 = .ok (.aload_n 0, 1) := by decide +kernel
theorem dX8_roomsOf_1 : decode cX8_roomsOf 1 = .ok (.getfield 11, 3) := by decide +kernel
theorem dX8_roomsOf_4 : decode cX8_roomsOf 4 = .ok (.bipush 102, 2) := by decide +kernel
theorem dX8_roomsOf_6 : decode cX8_roomsOf 6 = .ok (.iload_n 1, 1) := by decide +kernel
theorem dX8_roomsOf_7 : decode cX8_roomsOf 7 = .ok (.iadd, 1) := by decide +kernel
theorem dX8_roomsOf_8 : decode cX8_roomsOf 8 = .ok (.iaload, 1) := by decide +kernel
theorem dX8_roomsOf_9 : decode cX8_roomsOf 9 = .ok (.ireturn, 1) := by decide +kernel
theorem dX8_isIll_0 : decode cX8_isIll 0 = .ok (.aload_n 0, 1) := by decide +kernel
theorem dX8_isIll_1 : decode cX8_isIll 1 = .ok (.getfield 11, 3) := by decide +kernel
theorem dX8_isIll_4 : decode cX8_isIll 4 = .ok (.bipush 105, 2) := by decide +kernel
theorem dX8_isIll_6 : decode cX8_isIll 6 = .ok (.iload_n 1, 1) := by decide +kernel
theorem dX8_isIll_7 : decode cX8_isIll 7 = .ok (.iadd, 1) := by decide +kernel
theorem dX8_isIll_8 : decode cX8_isIll 8 = .ok (.iaload, 1) := by decide +kernel
theorem dX8_isIll_9 : decode cX8_isIll 9 = .ok (.iload_n 2, 1) := by decide +kernel
theorem dX8_isIll_10 : decode cX8_isIll 10 = .ok (.ishr, 1) := by decide +kernel
theorem dX8_isIll_11 : decode cX8_isIll 11 = .ok (.iconst 1, 1) := by decide +kernel
theorem dX8_isIll_12 : decode cX8_isIll 12 = .ok (.iand, 1) := by decide +kernel
theorem dX8_isIll_13 : decode cX8_isIll 13 = .ok (.ifCond .eq 7, 3) := by decide +kernel
theorem dX8_isIll_16 : decode cX8_isIll 16 = .ok (.iconst 1, 1) := by decide +kernel
theorem dX8_isIll_17 : decode cX8_isIll 17 = .ok (.goto 4, 3) := by decide +kernel
theorem dX8_isIll_20 : decode cX8_isIll 20 = .ok (.iconst 0, 1) := by decide +kernel
theorem dX8_isIll_21 : decode cX8_isIll 21 = .ok (.ireturn, 1) := by decide +kernel
theorem dX8_apartFrom_0 : decode cX8_apartFrom 0 = .ok (.aload_n 0, 1) := by decide +kernel
theorem dX8_apartFrom_1 : decode cX8_apartFrom 1 = .ok (.getfield 11, 3) := by decide +kernel
theorem dX8_apartFrom_4 : decode cX8_apartFrom 4 = .ok (.bipush 111, 2) := by decide +kernel
theorem dX8_apartFrom_6 : decode cX8_apartFrom 6 = .ok (.iload_n 1, 1) := by decide +kernel
theorem dX8_apartFrom_7 : decode cX8_apartFrom 7 = .ok (.iadd, 1) := by decide +kernel
theorem dX8_apartFrom_8 : decode cX8_apartFrom 8 = .ok (.iaload, 1) := by decide +kernel
theorem dX8_apartFrom_9 : decode cX8_apartFrom 9 = .ok (.ireturn, 1) := by decide +kernel
theorem dX8_addLesson_0 : decode cX8_addLesson 0 = .ok (.aload_n 0, 1) := by decide +kernel
theorem dX8_addLesson_1 : decode cX8_addLesson 1 = .ok (.getfield 11, 3) := by decide +kernel
theorem dX8_addLesson_4 : decode cX8_addLesson 4 = .ok (.iconst 0, 1) := by decide +kernel
theorem dX8_addLesson_5 : decode cX8_addLesson 5 = .ok (.iaload, 1) := by decide +kernel
theorem dX8_addLesson_6 : decode cX8_addLesson 6 = .ok (.istore 6, 2) := by decide +kernel
theorem dX8_addLesson_8 : decode cX8_addLesson 8 = .ok (.iconst 3, 1) := by decide +kernel
theorem dX8_addLesson_9 : decode cX8_addLesson 9 = .ok (.iload 6, 2) := by decide +kernel
theorem dX8_addLesson_11 : decode cX8_addLesson 11 = .ok (.iconst 5, 1) := by decide +kernel
theorem dX8_addLesson_12 : decode cX8_addLesson 12 = .ok (.imul, 1) := by decide +kernel
theorem dX8_addLesson_13 : decode cX8_addLesson 13 = .ok (.iadd, 1) := by decide +kernel
theorem dX8_addLesson_14 : decode cX8_addLesson 14 = .ok (.istore 7, 2) := by decide +kernel
theorem dX8_addLesson_16 : decode cX8_addLesson 16 = .ok (.aload_n 0, 1) := by decide +kernel
theorem dX8_addLesson_17 : decode cX8_addLesson 17 = .ok (.getfield 11, 3) := by decide +kernel
theorem dX8_addLesson_20 : decode cX8_addLesson 20 = .ok (.iload 7, 2) := by decide +kernel
theorem dX8_addLesson_22 : decode cX8_addLesson 22 = .ok (.iconst 0, 1) := by decide +kernel
theorem dX8_addLesson_23 : decode cX8_addLesson 23 = .ok (.iadd, 1) := by decide +kernel
theorem dX8_addLesson_24 : decode cX8_addLesson 24 = .ok (.iload_n 1, 1) := by decide +kernel
theorem dX8_addLesson_25 : decode cX8_addLesson 25 = .ok (.iastore, 1) := by decide +kernel
theorem dX8_addLesson_26 : decode cX8_addLesson 26 = .ok (.aload_n 0, 1) := by decide +kernel
theorem dX8_addLesson_27 : decode cX8_addLesson 27 = .ok (.getfield 11, 3) := by decide +kernel
theorem dX8_addLesson_30 : decode cX8_addLesson 30 = .ok (.iload 7, 2) := by decide +kernel
theorem dX8_addLesson_32 : decode cX8_addLesson 32 = .ok (.iconst 1, 1) := by decide +kernel
theorem dX8_addLesson_33 : decode cX8_addLesson 33 = .ok (.iadd, 1) := by decide +kernel
theorem dX8_addLesson_34 : decode cX8_addLesson 34 = .ok (.iload_n 2, 1) := by decide +kernel
theorem dX8_addLesson_35 : decode cX8_addLesson 35 = .ok (.iastore, 1) := by decide +kernel
theorem dX8_addLesson_36 : decode cX8_addLesson 36 = .ok (.aload_n 0, 1) := by decide +kernel
theorem dX8_addLesson_37 : decode cX8_addLesson 37 = .ok (.getfield 11, 3) := by decide +kernel
theorem dX8_addLesson_40 : decode cX8_addLesson 40 = .ok (.iload 7, 2) := by decide +kernel
theorem dX8_addLesson_42 : decode cX8_addLesson 42 = .ok (.iconst 2, 1) := by decide +kernel
theorem dX8_addLesson_43 : decode cX8_addLesson 43 = .ok (.iadd, 1) := by decide +kernel
theorem dX8_addLesson_44 : decode cX8_addLesson 44 = .ok (.iload_n 3, 1) := by decide +kernel
theorem dX8_addLesson_45 : decode cX8_addLesson 45 = .ok (.iastore, 1) := by decide +kernel
theorem dX8_addLesson_46 : decode cX8_addLesson 46 = .ok (.aload_n 0, 1) := by decide +kernel
theorem dX8_addLesson_47 : decode cX8_addLesson 47 = .ok (.getfield 11, 3) := by decide +kernel
theorem dX8_addLesson_50 : decode cX8_addLesson 50 = .ok (.iload 7, 2) := by decide +kernel
theorem dX8_addLesson_52 : decode cX8_addLesson 52 = .ok (.iconst 3, 1) := by decide +kernel
theorem dX8_addLesson_53 : decode cX8_addLesson 53 = .ok (.iadd, 1) := by decide +kernel
theorem dX8_addLesson_54 : decode cX8_addLesson 54 = .ok (.iload 4, 2) := by decide +kernel
theorem dX8_addLesson_56 : decode cX8_addLesson 56 = .ok (.iastore, 1) := by decide +kernel
theorem dX8_addLesson_57 : decode cX8_addLesson 57 = .ok (.aload_n 0, 1) := by decide +kernel
theorem dX8_addLesson_58 : decode cX8_addLesson 58 = .ok (.getfield 11, 3) := by decide +kernel
theorem dX8_addLesson_61 : decode cX8_addLesson 61 = .ok (.iload 7, 2) := by decide +kernel
theorem dX8_addLesson_63 : decode cX8_addLesson 63 = .ok (.iconst 4, 1) := by decide +kernel
theorem dX8_addLesson_64 : decode cX8_addLesson 64 = .ok (.iadd, 1) := by decide +kernel
theorem dX8_addLesson_65 : decode cX8_addLesson 65 = .ok (.iload 5, 2) := by decide +kernel
theorem dX8_addLesson_67 : decode cX8_addLesson 67 = .ok (.iastore, 1) := by decide +kernel
theorem dX8_addLesson_68 : decode cX8_addLesson 68 = .ok (.aload_n 0, 1) := by decide +kernel
theorem dX8_addLesson_69 : decode cX8_addLesson 69 = .ok (.getfield 11, 3) := by decide +kernel
theorem dX8_addLesson_72 : decode cX8_addLesson 72 = .ok (.iconst 0, 1) := by decide +kernel
theorem dX8_addLesson_73 : decode cX8_addLesson 73 = .ok (.iload 6, 2) := by decide +kernel
theorem dX8_addLesson_75 : decode cX8_addLesson 75 = .ok (.iconst 1, 1) := by decide +kernel
theorem dX8_addLesson_76 : decode cX8_addLesson 76 = .ok (.iadd, 1) := by decide +kernel
theorem dX8_addLesson_77 : decode cX8_addLesson 77 = .ok (.iastore, 1) := by decide +kernel
theorem dX8_addLesson_78 : decode cX8_addLesson 78 = .ok (.iload 6, 2) := by decide +kernel
theorem dX8_addLesson_80 : decode cX8_addLesson 80 = .ok (.ireturn, 1) := by decide +kernel
theorem dX8_addWish_0 : decode cX8_addWish 0 = .ok (.aload_n 0, 1) := by decide +kernel
theorem dX8_addWish_1 : decode cX8_addWish 1 = .ok (.getfield 11, 3) := by decide +kernel
theorem dX8_addWish_4 : decode cX8_addWish 4 = .ok (.iconst 1, 1) := by decide +kernel
theorem dX8_addWish_5 : decode cX8_addWish 5 = .ok (.iaload, 1) := by decide +kernel
theorem dX8_addWish_6 : decode cX8_addWish 6 = .ok (.istore 5, 2) := by decide +kernel
theorem dX8_addWish_8 : decode cX8_addWish 8 = .ok (.bipush 48, 2) := by decide +kernel
theorem dX8_addWish_10 : decode cX8_addWish 10 = .ok (.iload 5, 2) := by decide +kernel
theorem dX8_addWish_12 : decode cX8_addWish 12 = .ok (.iconst 4, 1) := by decide +kernel
theorem dX8_addWish_13 : decode cX8_addWish 13 = .ok (.imul, 1) := by decide +kernel
theorem dX8_addWish_14 : decode cX8_addWish 14 = .ok (.iadd, 1) := by decide +kernel
theorem dX8_addWish_15 : decode cX8_addWish 15 = .ok (.istore 6, 2) := by decide +kernel
theorem dX8_addWish_17 : decode cX8_addWish 17 = .ok (.aload_n 0, 1) := by decide +kernel
theorem dX8_addWish_18 : decode cX8_addWish 18 = .ok (.getfield 11, 3) := by decide +kernel
theorem dX8_addWish_21 : decode cX8_addWish 21 = .ok (.iload 6, 2) := by decide +kernel
theorem dX8_addWish_23 : decode cX8_addWish 23 = .ok (.iconst 0, 1) := by decide +kernel
theorem dX8_addWish_24 : decode cX8_addWish 24 = .ok (.iadd, 1) := by decide +kernel
theorem dX8_addWish_25 : decode cX8_addWish 25 = .ok (.iload_n 1, 1) := by decide +kernel
theorem dX8_addWish_26 : decode cX8_addWish 26 = .ok (.iastore, 1) := by decide +kernel
theorem dX8_addWish_27 : decode cX8_addWish 27 = .ok (.aload_n 0, 1) := by decide +kernel
theorem dX8_addWish_28 : decode cX8_addWish 28 = .ok (.getfield 11, 3) := by decide +kernel
theorem dX8_addWish_31 : decode cX8_addWish 31 = .ok (.iload 6, 2) := by decide +kernel
theorem dX8_addWish_33 : decode cX8_addWish 33 = .ok (.iconst 1, 1) := by decide +kernel
theorem dX8_addWish_34 : decode cX8_addWish 34 = .ok (.iadd, 1) := by decide +kernel
theorem dX8_addWish_35 : decode cX8_addWish 35 = .ok (.iload_n 2, 1) := by decide +kernel
theorem dX8_addWish_36 : decode cX8_addWish 36 = .ok (.iastore, 1) := by decide +kernel
theorem dX8_addWish_37 : decode cX8_addWish 37 = .ok (.aload_n 0, 1) := by decide +kernel
theorem dX8_addWish_38 : decode cX8_addWish 38 = .ok (.getfield 11, 3) := by decide +kernel
theorem dX8_addWish_41 : decode cX8_addWish 41 = .ok (.iload 6, 2) := by decide +kernel
theorem dX8_addWish_43 : decode cX8_addWish 43 = .ok (.iconst 2, 1) := by decide +kernel
theorem dX8_addWish_44 : decode cX8_addWish 44 = .ok (.iadd, 1) := by decide +kernel
theorem dX8_addWish_45 : decode cX8_addWish 45 = .ok (.iload_n 3, 1) := by decide +kernel
theorem dX8_addWish_46 : decode cX8_addWish 46 = .ok (.iastore, 1) := by decide +kernel
theorem dX8_addWish_47 : decode cX8_addWish 47 = .ok (.aload_n 0, 1) := by decide +kernel
theorem dX8_addWish_48 : decode cX8_addWish 48 = .ok (.getfield 11, 3) := by decide +kernel
theorem dX8_addWish_51 : decode cX8_addWish 51 = .ok (.iload 6, 2) := by decide +kernel
theorem dX8_addWish_53 : decode cX8_addWish 53 = .ok (.iconst 3, 1) := by decide +kernel
theorem dX8_addWish_54 : decode cX8_addWish 54 = .ok (.iadd, 1) := by decide +kernel
theorem dX8_addWish_55 : decode cX8_addWish 55 = .ok (.iload 4, 2) := by decide +kernel
theorem dX8_addWish_57 : decode cX8_addWish 57 = .ok (.iastore, 1) := by decide +kernel
theorem dX8_addWish_58 : decode cX8_addWish 58 = .ok (.aload_n 0, 1) := by decide +kernel
theorem dX8_addWish_59 : decode cX8_addWish 59 = .ok (.getfield 11, 3) := by decide +kernel
theorem dX8_addWish_62 : decode cX8_addWish 62 = .ok (.iconst 1, 1) := by decide +kernel
theorem dX8_addWish_63 : decode cX8_addWish 63 = .ok (.iload 5, 2) := by decide +kernel
theorem dX8_addWish_65 : decode cX8_addWish 65 = .ok (.iconst 1, 1) := by decide +kernel
theorem dX8_addWish_66 : decode cX8_addWish 66 = .ok (.iadd, 1) := by decide +kernel
theorem dX8_addWish_67 : decode cX8_addWish 67 = .ok (.iastore, 1) := by decide +kernel
theorem dX8_addWish_68 : decode cX8_addWish 68 = .ok (.iload 5, 2) := by decide +kernel
theorem dX8_addWish_70 : decode cX8_addWish 70 = .ok (.ireturn, 1) := by decide +kernel
theorem dX8_putRooms_0 : decode cX8_putRooms 0 = .ok (.aload_n 0, 1) := by decide +kernel
theorem dX8_putRooms_1 : decode cX8_putRooms 1 = .ok (.getfield 11, 3) := by decide +kernel
theorem dX8_putRooms_4 : decode cX8_putRooms 4 = .ok (.bipush 102, 2) := by decide +kernel
theorem dX8_putRooms_6 : decode cX8_putRooms 6 = .ok (.iload_n 1, 1) := by decide +kernel
theorem dX8_putRooms_7 : decode cX8_putRooms 7 = .ok (.iadd, 1) := by decide +kernel
theorem dX8_putRooms_8 : decode cX8_putRooms 8 = .ok (.iaload, 1) := by decide +kernel
theorem dX8_putRooms_9 : decode cX8_putRooms 9 = .ok (.istore_n 3, 1) := by decide +kernel
theorem dX8_putRooms_10 : decode cX8_putRooms 10 = .ok (.aload_n 0, 1) := by decide +kernel
theorem dX8_putRooms_11 : decode cX8_putRooms 11 = .ok (.getfield 11, 3) := by decide +kernel
theorem dX8_putRooms_14 : decode cX8_putRooms 14 = .ok (.bipush 102, 2) := by decide +kernel
theorem dX8_putRooms_16 : decode cX8_putRooms 16 = .ok (.iload_n 1, 1) := by decide +kernel
theorem dX8_putRooms_17 : decode cX8_putRooms 17 = .ok (.iadd, 1) := by decide +kernel
theorem dX8_putRooms_18 : decode cX8_putRooms 18 = .ok (.iload_n 2, 1) := by decide +kernel
theorem dX8_putRooms_19 : decode cX8_putRooms 19 = .ok (.iastore, 1) := by decide +kernel
theorem dX8_putRooms_20 : decode cX8_putRooms 20 = .ok (.iload_n 3, 1) := by decide +kernel
theorem dX8_putRooms_21 : decode cX8_putRooms 21 = .ok (.ireturn, 1) := by decide +kernel
set_option maxRecDepth 20000 in
theorem ggX8_putIll_X8_putBit : GoodIn wsX8_putIll wsX8_putBit := goodIn_r _ [5, 6, 7, 8] (by decide +kernel) (by decide +kernel)
set_option maxRecDepth 20000 in
theorem gX8_putIll_X8_putBit : GoodIn wsX8_putIll (wsV RX8 47 RX8 yX8_putBit wsX8_putBit) := goodIn_app (goodIn_of _ (by decide +kernel)) ggX8_putIll_X8_putBit
theorem dX8_putIll_0 : decode cX8_putIll 0 = .ok (.aload_n 0, 1) := by decide +kernel
theorem dX8_putIll_1 : decode cX8_putIll 1 = .ok (.bipush 105, 2) := by decide +kernel
theorem dX8_putIll_3 : decode cX8_putIll 3 = .ok (.iload_n 1, 1) := by decide +kernel
theorem dX8_putIll_4 : decode cX8_putIll 4 = .ok (.iadd, 1) := by decide +kernel
theorem dX8_putIll_5 : decode cX8_putIll 5 = .ok (.iload_n 2, 1) := by decide +kernel
theorem dX8_putIll_6 : decode cX8_putIll 6 = .ok (.iload_n 3, 1) := by decide +kernel
theorem dX8_putIll_7 : decode cX8_putIll 7 = .ok (.invokevirtual 47, 3) := by decide +kernel
theorem dX8_putIll_10 : decode cX8_putIll 10 = .ok (.ireturn, 1) := by decide +kernel
set_option maxRecDepth 20000 in
theorem ggX8_putApart_X8_putBit : GoodIn wsX8_putApart wsX8_putBit := goodIn_r _ [5, 6, 7, 8] (by decide +kernel) (by decide +kernel)
set_option maxRecDepth 20000 in
theorem gX8_putApart_X8_putBit : GoodIn wsX8_putApart (wsV RX8 47 RX8 yX8_putBit wsX8_putBit) := goodIn_app (goodIn_of _ (by decide +kernel)) ggX8_putApart_X8_putBit
theorem dX8_putApart_0 : decode cX8_putApart 0 = .ok (.aload_n 0, 1) := by decide +kernel
theorem dX8_putApart_1 : decode cX8_putApart 1 = .ok (.bipush 111, 2) := by decide +kernel
theorem dX8_putApart_3 : decode cX8_putApart 3 = .ok (.iload_n 2, 1) := by decide +kernel
theorem dX8_putApart_4 : decode cX8_putApart 4 = .ok (.iadd, 1) := by decide +kernel
theorem dX8_putApart_5 : decode cX8_putApart 5 = .ok (.iload_n 1, 1) := by decide +kernel
theorem dX8_putApart_6 : decode cX8_putApart 6 = .ok (.iload_n 3, 1) := by decide +kernel
theorem dX8_putApart_7 : decode cX8_putApart 7 = .ok (.invokevirtual 47, 3) := by decide +kernel
theorem dX8_putApart_10 : decode cX8_putApart 10 = .ok (.pop, 1) := by decide +kernel
theorem dX8_putApart_11 : decode cX8_putApart 11 = .ok (.aload_n 0, 1) := by decide +kernel
theorem dX8_putApart_12 : decode cX8_putApart 12 = .ok (.bipush 111, 2) := by decide +kernel
theorem dX8_putApart_14 : decode cX8_putApart 14 = .ok (.iload_n 1, 1) := by decide +kernel
theorem dX8_putApart_15 : decode cX8_putApart 15 = .ok (.iadd, 1) := by decide +kernel
theorem dX8_putApart_16 : decode cX8_putApart 16 = .ok (.iload_n 2, 1) := by decide +kernel
theorem dX8_putApart_17 : decode cX8_putApart 17 = .ok (.iload_n 3, 1) := by decide +kernel
theorem dX8_putApart_18 : decode cX8_putApart 18 = .ok (.invokevirtual 47, 3) := by decide +kernel
theorem dX8_putApart_21 : decode cX8_putApart 21 = .ok (.ireturn, 1) := by decide +kernel
theorem dX8_putBit_0 : decode cX8_putBit 0 = .ok (.aload_n 0, 1) := by decide +kernel
theorem dX8_putBit_1 : decode cX8_putBit 1 = .ok (.getfield 11, 3) := by decide +kernel
theorem dX8_putBit_4 : decode cX8_putBit 4 = .ok (.iload_n 1, 1) := by decide +kernel
theorem dX8_putBit_5 : decode cX8_putBit 5 = .ok (.iaload, 1) := by decide +kernel
theorem dX8_putBit_6 : decode cX8_putBit 6 = .ok (.iload_n 2, 1) := by decide +kernel
theorem dX8_putBit_7 : decode cX8_putBit 7 = .ok (.ishr, 1) := by decide +kernel
theorem dX8_putBit_8 : decode cX8_putBit 8 = .ok (.iconst 1, 1) := by decide +kernel
theorem dX8_putBit_9 : decode cX8_putBit 9 = .ok (.iand, 1) := by decide +kernel
theorem dX8_putBit_10 : decode cX8_putBit 10 = .ok (.ifCond .eq 7, 3) := by decide +kernel
theorem dX8_putBit_13 : decode cX8_putBit 13 = .ok (.iconst 1, 1) := by decide +kernel
theorem dX8_putBit_14 : decode cX8_putBit 14 = .ok (.goto 4, 3) := by decide +kernel
theorem dX8_putBit_17 : decode cX8_putBit 17 = .ok (.iconst 0, 1) := by decide +kernel
theorem dX8_putBit_18 : decode cX8_putBit 18 = .ok (.istore 4, 2) := by decide +kernel
theorem dX8_putBit_20 : decode cX8_putBit 20 = .ok (.aload_n 0, 1) := by decide +kernel
theorem dX8_putBit_21 : decode cX8_putBit 21 = .ok (.getfield 11, 3) := by decide +kernel
theorem dX8_putBit_24 : decode cX8_putBit 24 = .ok (.iload_n 1, 1) := by decide +kernel
theorem dX8_putBit_25 : decode cX8_putBit 25 = .ok (.iload_n 3, 1) := by decide +kernel
theorem dX8_putBit_26 : decode cX8_putBit 26 = .ok (.ifCond .eq 16, 3) := by decide +kernel
theorem dX8_putBit_29 : decode cX8_putBit 29 = .ok (.aload_n 0, 1) := by decide +kernel
theorem dX8_putBit_30 : decode cX8_putBit 30 = .ok (.getfield 11, 3) := by decide +kernel
theorem dX8_putBit_33 : decode cX8_putBit 33 = .ok (.iload_n 1, 1) := by decide +kernel
theorem dX8_putBit_34 : decode cX8_putBit 34 = .ok (.iaload, 1) := by decide +kernel
theorem dX8_putBit_35 : decode cX8_putBit 35 = .ok (.iconst 1, 1) := by decide +kernel
theorem dX8_putBit_36 : decode cX8_putBit 36 = .ok (.iload_n 2, 1) := by decide +kernel
theorem dX8_putBit_37 : decode cX8_putBit 37 = .ok (.ishl, 1) := by decide +kernel
theorem dX8_putBit_38 : decode cX8_putBit 38 = .ok (.ior, 1) := by decide +kernel
theorem dX8_putBit_39 : decode cX8_putBit 39 = .ok (.goto 15, 3) := by decide +kernel
theorem dX8_putBit_42 : decode cX8_putBit 42 = .ok (.aload_n 0, 1) := by decide +kernel
theorem dX8_putBit_43 : decode cX8_putBit 43 = .ok (.getfield 11, 3) := by decide +kernel
theorem dX8_putBit_46 : decode cX8_putBit 46 = .ok (.iload_n 1, 1) := by decide +kernel
theorem dX8_putBit_47 : decode cX8_putBit 47 = .ok (.iaload, 1) := by decide +kernel
theorem dX8_putBit_48 : decode cX8_putBit 48 = .ok (.iconst 1, 1) := by decide +kernel
theorem dX8_putBit_49 : decode cX8_putBit 49 = .ok (.iload_n 2, 1) := by decide +kernel
theorem dX8_putBit_50 : decode cX8_putBit 50 = .ok (.ishl, 1) := by decide +kernel
theorem dX8_putBit_51 : decode cX8_putBit 51 = .ok (.iconst (-1), 1) := by decide +kernel
theorem dX8_putBit_52 : decode cX8_putBit 52 = .ok (.ixor, 1) := by decide +kernel
theorem dX8_putBit_53 : decode cX8_putBit 53 = .ok (.iand, 1) := by decide +kernel
theorem dX8_putBit_54 : decode cX8_putBit 54 = .ok (.iastore, 1) := by decide +kernel
theorem dX8_putBit_55 : decode cX8_putBit 55 = .ok (.iload 4, 2) := by decide +kernel
theorem dX8_putBit_57 : decode cX8_putBit 57 = .ok (.ireturn, 1) := by decide +kernel
set_option maxRecDepth 20000 in
theorem ggX8_hardWishes_X8_wishTotal : GoodIn wsX8_hardWishes wsX8_wishTotal := goodIn_r _ [5, 6, 11, 12] (by decide +kernel) (by decide +kernel)
set_option maxRecDepth 20000 in
theorem gX8_hardWishes_X8_wishTotal : GoodIn wsX8_hardWishes (wsV RX8 24 RX8 yX8_wishTotal wsX8_wishTotal) := goodIn_app (goodIn_of _ (by decide +kernel)) ggX8_hardWishes_X8_wishTotal
set_option maxRecDepth 20000 in
theorem ggX8_hardWishes_X8_ofWish : GoodIn wsX8_hardWishes wsX8_ofWish := goodIn_r _ [10, 6, 11, 12] (by decide +kernel) (by decide +kernel)
set_option maxRecDepth 20000 in
theorem gX8_hardWishes_X8_ofWish : GoodIn wsX8_hardWishes (wsV RX8 43 RX8 yX8_ofWish wsX8_ofWish) := goodIn_app (goodIn_of _ (by decide +kernel)) ggX8_hardWishes_X8_ofWish
theorem dX8_hardWishes_0 : decode cX8_hardWishes 0 = .ok (.iconst 0, 1) := by decide +kernel
theorem dX8_hardWishes_1 : decode cX8_hardWishes 1 = .ok (.istore_n 1, 1) := by decide +kernel
theorem dX8_hardWishes_2 : decode cX8_hardWishes 2 = .ok (.iconst 0, 1) := by decide +kernel
theorem dX8_hardWishes_3 : decode cX8_hardWishes 3 = .ok (.istore_n 2, 1) := by decide +kernel
theorem dX8_hardWishes_4 : decode cX8_hardWishes 4 = .ok (.iload_n 2, 1) := by decide +kernel
theorem dX8_hardWishes_5 : decode cX8_hardWishes 5 = .ok (.aload_n 0, 1) := by decide +kernel
theorem dX8_hardWishes_6 : decode cX8_hardWishes 6 = .ok (.invokevirtual 24, 3) := by decide +kernel
theorem dX8_hardWishes_9 : decode cX8_hardWishes 9 = .ok (.if_icmp .ge 24, 3) := by decide +kernel
theorem dX8_hardWishes_12 : decode cX8_hardWishes 12 = .ok (.aload_n 0, 1) := by decide +kernel
theorem dX8_hardWishes_13 : decode cX8_hardWishes 13 = .ok (.iload_n 2, 1) := by decide +kernel
theorem dX8_hardWishes_14 : decode cX8_hardWishes 14 = .ok (.iconst 3, 1) := by decide +kernel
theorem dX8_hardWishes_15 : decode cX8_hardWishes 15 = .ok (.invokevirtual 43, 3) := by decide +kernel
theorem dX8_hardWishes_18 : decode cX8_hardWishes 18 = .ok (.ifCond .ne 9, 3) := by decide +kernel
theorem dX8_hardWishes_21 : decode cX8_hardWishes 21 = .ok (.iload_n 1, 1) := by decide +kernel
theorem dX8_hardWishes_22 : decode cX8_hardWishes 22 = .ok (.iconst 1, 1) := by decide +kernel
theorem dX8_hardWishes_23 : decode cX8_hardWishes 23 = .ok (.iload_n 2, 1) := by decide +kernel
theorem dX8_hardWishes_24 : decode cX8_hardWishes 24 = .ok (.ishl, 1) := by decide +kernel
theorem dX8_hardWishes_25 : decode cX8_hardWishes 25 = .ok (.ior, 1) := by decide +kernel
theorem dX8_hardWishes_26 : decode cX8_hardWishes 26 = .ok (.istore_n 1, 1) := by decide +kernel
theorem dX8_hardWishes_27 : decode cX8_hardWishes 27 = .ok (.iinc 2 1, 3) := by decide +kernel
theorem dX8_hardWishes_30 : decode cX8_hardWishes 30 = .ok (.goto (-26), 3) := by decide +kernel
theorem dX8_hardWishes_33 : decode cX8_hardWishes 33 = .ok (.iload_n 1, 1) := by decide +kernel
theorem dX8_hardWishes_34 : decode cX8_hardWishes 34 = .ok (.ireturn, 1) := by decide +kernel
theorem dX8_isOf_0 : decode cX8_isOf 0 = .ok (.aload_n 0, 1) := by decide +kernel
theorem dX8_isOf_1 : decode cX8_isOf 1 = .ok (.getfield 11, 3) := by decide +kernel
theorem dX8_isOf_4 : decode cX8_isOf 4 = .ok (.iconst 3, 1) := by decide +kernel
theorem dX8_isOf_5 : decode cX8_isOf 5 = .ok (.iload_n 1, 1) := by decide +kernel
theorem dX8_isOf_6 : decode cX8_isOf 6 = .ok (.iconst 5, 1) := by decide +kernel
theorem dX8_isOf_7 : decode cX8_isOf 7 = .ok (.imul, 1) := by decide +kernel
theorem dX8_isOf_8 : decode cX8_isOf 8 = .ok (.iadd, 1) := by decide +kernel
theorem dX8_isOf_9 : decode cX8_isOf 9 = .ok (.iload_n 2, 1) := by decide +kernel
theorem dX8_isOf_10 : decode cX8_isOf 10 = .ok (.ifCond .eq 7, 3) := by decide +kernel
theorem dX8_isOf_13 : decode cX8_isOf 13 = .ok (.iconst 1, 1) := by decide +kernel
theorem dX8_isOf_14 : decode cX8_isOf 14 = .ok (.goto 4, 3) := by decide +kernel
theorem dX8_isOf_17 : decode cX8_isOf 17 = .ok (.iconst 0, 1) := by decide +kernel
theorem dX8_isOf_18 : decode cX8_isOf 18 = .ok (.iadd, 1) := by decide +kernel
theorem dX8_isOf_19 : decode cX8_isOf 19 = .ok (.iaload, 1) := by decide +kernel
theorem dX8_isOf_20 : decode cX8_isOf 20 = .ok (.iload_n 3, 1) := by decide +kernel
theorem dX8_isOf_21 : decode cX8_isOf 21 = .ok (.if_icmp .ne 7, 3) := by decide +kernel
theorem dX8_isOf_24 : decode cX8_isOf 24 = .ok (.iconst 1, 1) := by decide +kernel
theorem dX8_isOf_25 : decode cX8_isOf 25 = .ok (.goto 4, 3) := by decide +kernel
theorem dX8_isOf_28 : decode cX8_isOf 28 = .ok (.iconst 0, 1) := by decide +kernel
theorem dX8_isOf_29 : decode cX8_isOf 29 = .ok (.ireturn, 1) := by decide +kernel
theorem dX8_slotsTaken_0 : decode cX8_slotsTaken 0 = .ok (.aload_n 0, 1) := by decide +kernel
theorem dX8_slotsTaken_1 : decode cX8_slotsTaken 1 = .ok (.getfield 11, 3) := by decide +kernel
theorem dX8_slotsTaken_4 : decode cX8_slotsTaken 4 = .ok (.iconst 3, 1) := by decide +kernel
theorem dX8_slotsTaken_5 : decode cX8_slotsTaken 5 = .ok (.iload_n 1, 1) := by decide +kernel
theorem dX8_slotsTaken_6 : decode cX8_slotsTaken 6 = .ok (.iconst 5, 1) := by decide +kernel
theorem dX8_slotsTaken_7 : decode cX8_slotsTaken 7 = .ok (.imul, 1) := by decide +kernel
theorem dX8_slotsTaken_8 : decode cX8_slotsTaken 8 = .ok (.iadd, 1) := by decide +kernel
theorem dX8_slotsTaken_9 : decode cX8_slotsTaken 9 = .ok (.iconst 4, 1) := by decide +kernel
theorem dX8_slotsTaken_10 : decode cX8_slotsTaken 10 = .ok (.iadd, 1) := by decide +kernel
theorem dX8_slotsTaken_11 : decode cX8_slotsTaken 11 = .ok (.iaload, 1) := by decide +kernel
theorem dX8_slotsTaken_12 : decode cX8_slotsTaken 12 = .ok (.iconst 1, 1) := by decide +kernel
theorem dX8_slotsTaken_13 : decode cX8_slotsTaken 13 = .ok (.if_icmp .ne 7, 3) := by decide +kernel
theorem dX8_slotsTaken_16 : decode cX8_slotsTaken 16 = .ok (.iconst 3, 1) := by decide +kernel
theorem dX8_slotsTaken_17 : decode cX8_slotsTaken 17 = .ok (.goto 4, 3) := by decide +kernel
theorem dX8_slotsTaken_20 : decode cX8_slotsTaken 20 = .ok (.iconst 1, 1) := by decide +kernel
theorem dX8_slotsTaken_21 : decode cX8_slotsTaken 21 = .ok (.aload_n 2, 1) := by decide +kernel
theorem dX8_slotsTaken_22 : decode cX8_slotsTaken 22 = .ok (.iload_n 1, 1) := by decide +kernel
theorem dX8_slotsTaken_23 : decode cX8_slotsTaken 23 = .ok (.iaload, 1) := by decide +kernel
theorem dX8_slotsTaken_24 : decode cX8_slotsTaken 24 = .ok (.ishl, 1) := by decide +kernel
theorem dX8_slotsTaken_25 : decode cX8_slotsTaken 25 = .ok (.ireturn, 1) := by decide +kernel
set_option maxRecDepth 20000 in
theorem ggX8_slotsOfPerson_X8_lessonTotal : GoodIn wsX8_slotsOfPerson wsX8_lessonTotal := goodIn_r _ [5, 6, 15, 16] (by decide +kernel) (by decide +kernel)
set_option maxRecDepth 20000 in
theorem gX8_slotsOfPerson_X8_lessonTotal : GoodIn wsX8_slotsOfPerson (wsV RX8 40 RX8 yX8_lessonTotal wsX8_lessonTotal) := goodIn_app (goodIn_of _ (by decide +kernel)) ggX8_slotsOfPerson_X8_lessonTotal
set_option maxRecDepth 20000 in
theorem ggX8_slotsOfPerson_X8_isOf : GoodIn wsX8_slotsOfPerson wsX8_isOf := goodIn_r _ [10, 6, 15, 16] (by decide +kernel) (by decide +kernel)
set_option maxRecDepth 20000 in
theorem gX8_slotsOfPerson_X8_isOf : GoodIn wsX8_slotsOfPerson (wsV RX8 51 RX8 yX8_isOf wsX8_isOf) := goodIn_app (goodIn_of _ (by decide +kernel)) ggX8_slotsOfPerson_X8_isOf
set_option maxRecDepth 20000 in
theorem ggX8_slotsOfPerson_X8_slotsTaken : GoodIn wsX8_slotsOfPerson wsX8_slotsTaken := goodIn_r _ [14, 6, 15, 16] (by decide +kernel) (by decide +kernel)
set_option maxRecDepth 20000 in
theorem gX8_slotsOfPerson_X8_slotsTaken : GoodIn wsX8_slotsOfPerson (wsV RX8 58 RX8 yX8_slotsTaken wsX8_slotsTaken) := goodIn_app (goodIn_of _ (by decide +kernel)) ggX8_slotsOfPerson_X8_slotsTaken
theorem dX8_slotsOfPerson_0 : decode cX8_slotsOfPerson 0 = .ok (.iconst 0, 1) := by decide +kernel
theorem dX8_slotsOfPerson_1 : decode cX8_slotsOfPerson 1 = .ok (.istore 4, 2) := by decide +kernel
theorem dX8_slotsOfPerson_3 : decode cX8_slotsOfPerson 3 = .ok (.iconst 0, 1) := by decide +kernel
theorem dX8_slotsOfPerson_4 : decode cX8_slotsOfPerson 4 = .ok (.istore 5, 2) := by decide +kernel
theorem dX8_slotsOfPerson_6 : decode cX8_slotsOfPerson 6 = .ok (.iload 5, 2) := by decide +kernel
theorem dX8_slotsOfPerson_8 : decode cX8_slotsOfPerson 8 = .ok (.aload_n 0, 1) := by decide +kernel
theorem dX8_slotsOfPerson_9 : decode cX8_slotsOfPerson 9 = .ok (.invokevirtual 40, 3) := by decide +kernel
theorem dX8_slotsOfPerson_12 : decode cX8_slotsOfPerson 12 = .ok (.if_icmp .ge 32, 3) := by decide +kernel
theorem dX8_slotsOfPerson_15 : decode cX8_slotsOfPerson 15 = .ok (.aload_n 0, 1) := by decide +kernel
theorem dX8_slotsOfPerson_16 : decode cX8_slotsOfPerson 16 = .ok (.iload 5, 2) := by decide +kernel
theorem dX8_slotsOfPerson_18 : decode cX8_slotsOfPerson 18 = .ok (.iload_n 1, 1) := by decide +kernel
theorem dX8_slotsOfPerson_19 : decode cX8_slotsOfPerson 19 = .ok (.iload_n 2, 1) := by decide +kernel
theorem dX8_slotsOfPerson_20 : decode cX8_slotsOfPerson 20 = .ok (.invokevirtual 51, 3) := by decide +kernel
theorem dX8_slotsOfPerson_23 : decode cX8_slotsOfPerson 23 = .ok (.ifCond .eq 15, 3) := by decide +kernel
theorem dX8_slotsOfPerson_26 : decode cX8_slotsOfPerson 26 = .ok (.iload 4, 2) := by decide +kernel
theorem dX8_slotsOfPerson_28 : decode cX8_slotsOfPerson 28 = .ok (.aload_n 0, 1) := by decide +kernel
theorem dX8_slotsOfPerson_29 : decode cX8_slotsOfPerson 29 = .ok (.iload 5, 2) := by decide +kernel
theorem dX8_slotsOfPerson_31 : decode cX8_slotsOfPerson 31 = .ok (.aload_n 3, 1) := by decide +kernel
theorem dX8_slotsOfPerson_32 : decode cX8_slotsOfPerson 32 = .ok (.invokevirtual 58, 3) := by decide +kernel
theorem dX8_slotsOfPerson_35 : decode cX8_slotsOfPerson 35 = .ok (.ior, 1) := by decide +kernel
theorem dX8_slotsOfPerson_36 : decode cX8_slotsOfPerson 36 = .ok (.istore 4, 2) := by decide +kernel
theorem dX8_slotsOfPerson_38 : decode cX8_slotsOfPerson 38 = .ok (.iinc 5 1, 3) := by decide +kernel
theorem dX8_slotsOfPerson_41 : decode cX8_slotsOfPerson 41 = .ok (.goto (-35), 3) := by decide +kernel
theorem dX8_slotsOfPerson_44 : decode cX8_slotsOfPerson 44 = .ok (.iload 4, 2) := by decide +kernel
theorem dX8_slotsOfPerson_46 : decode cX8_slotsOfPerson 46 = .ok (.ireturn, 1) := by decide +kernel
set_option maxRecDepth 20000 in
theorem ggX8_fulfils_X8_ofWish : GoodIn wsX8_fulfils wsX8_ofWish := goodIn_r _ [5, 6, 23, 24] (by decide +kernel) (by decide +kernel)
set_option maxRecDepth 20000 in
theorem gX8_fulfils_X8_ofWish : GoodIn wsX8_fulfils (wsV RX8 43 RX8 yX8_ofWish wsX8_ofWish) := goodIn_app (goodIn_of _ (by decide +kernel)) ggX8_fulfils_X8_ofWish
set_option maxRecDepth 20000 in
theorem ggX8_fulfils_X8_slotsOfPerson : GoodIn wsX8_fulfils wsX8_slotsOfPerson := goodIn_r _ [10, 11, 12, 13, 4, 14, 6, 15, 16, 17, 18, 19, 20, 21, 22, 23, 24] (by decide +kernel) (by decide +kernel)
set_option maxRecDepth 20000 in
theorem gX8_fulfils_X8_slotsOfPerson : GoodIn wsX8_fulfils (wsV RX8 62 RX8 yX8_slotsOfPerson wsX8_slotsOfPerson) := goodIn_app (goodIn_of _ (by decide +kernel)) ggX8_fulfils_X8_slotsOfPerson
theorem dX8_fulfils_0 : decode cX8_fulfils 0 = .ok (.aload_n 0, 1) := by decide +kernel
theorem dX8_fulfils_1 : decode cX8_fulfils 1 = .ok (.iload_n 1, 1) := by decide +kernel
theorem dX8_fulfils_2 : decode cX8_fulfils 2 = .ok (.iconst 1, 1) := by decide +kernel
theorem dX8_fulfils_3 : decode cX8_fulfils 3 = .ok (.invokevirtual 43, 3) := by decide +kernel
theorem dX8_fulfils_6 : decode cX8_fulfils 6 = .ok (.istore_n 3, 1) := by decide +kernel
theorem dX8_fulfils_7 : decode cX8_fulfils 7 = .ok (.aload_n 0, 1) := by decide +kernel
theorem dX8_fulfils_8 : decode cX8_fulfils 8 = .ok (.iload_n 1, 1) := by decide +kernel
theorem dX8_fulfils_9 : decode cX8_fulfils 9 = .ok (.iconst 2, 1) := by decide +kernel
theorem dX8_fulfils_10 : decode cX8_fulfils 10 = .ok (.invokevirtual 43, 3) := by decide +kernel
theorem dX8_fulfils_13 : decode cX8_fulfils 13 = .ok (.istore 4, 2) := by decide +kernel
theorem dX8_fulfils_15 : decode cX8_fulfils 15 = .ok (.aload_n 0, 1) := by decide +kernel
theorem dX8_fulfils_16 : decode cX8_fulfils 16 = .ok (.iload_n 1, 1) := by decide +kernel
theorem dX8_fulfils_17 : decode cX8_fulfils 17 = .ok (.iconst 0, 1) := by decide +kernel
theorem dX8_fulfils_18 : decode cX8_fulfils 18 = .ok (.invokevirtual 43, 3) := by decide +kernel
theorem dX8_fulfils_21 : decode cX8_fulfils 21 = .ok (.tableswitch 151 0 5 #[39, 60, 81, 97, 111, 131], 39) := by decide +kernel
theorem dX8_fulfils_60 : decode cX8_fulfils 60 = .ok (.aload_n 0, 1) := by decide +kernel
theorem dX8_fulfils_61 : decode cX8_fulfils 61 = .ok (.iconst 1, 1) := by decide +kernel
theorem dX8_fulfils_62 : decode cX8_fulfils 62 = .ok (.iload_n 3, 1) := by decide +kernel
theorem dX8_fulfils_63 : decode cX8_fulfils 63 = .ok (.aload_n 2, 1) := by decide +kernel
theorem dX8_fulfils_64 : decode cX8_fulfils 64 = .ok (.invokevirtual 62, 3) := by decide +kernel
theorem dX8_fulfils_67 : decode cX8_fulfils 67 = .ok (.iload 4, 2) := by decide +kernel
theorem dX8_fulfils_69 : decode cX8_fulfils 69 = .ok (.ishr, 1) := by decide +kernel
theorem dX8_fulfils_70 : decode cX8_fulfils 70 = .ok (.iconst 1, 1) := by decide +kernel
theorem dX8_fulfils_71 : decode cX8_fulfils 71 = .ok (.iand, 1) := by decide +kernel
theorem dX8_fulfils_72 : decode cX8_fulfils 72 = .ok (.ifCond .ne 7, 3) := by decide +kernel
theorem dX8_fulfils_75 : decode cX8_fulfils 75 = .ok (.iconst 1, 1) := by decide +kernel
theorem dX8_fulfils_76 : decode cX8_fulfils 76 = .ok (.goto 4, 3) := by decide +kernel
theorem dX8_fulfils_79 : decode cX8_fulfils 79 = .ok (.iconst 0, 1) := by decide +kernel
theorem dX8_fulfils_80 : decode cX8_fulfils 80 = .ok (.ireturn, 1) := by decide +kernel
theorem dX8_fulfils_81 : decode cX8_fulfils 81 = .ok (.aload_n 0, 1) := by decide +kernel
theorem dX8_fulfils_82 : decode cX8_fulfils 82 = .ok (.iconst 0, 1) := by decide +kernel
theorem dX8_fulfils_83 : decode cX8_fulfils 83 = .ok (.iload_n 3, 1) := by decide +kernel
theorem dX8_fulfils_84 : decode cX8_fulfils 84 = .ok (.aload_n 2, 1) := by decide +kernel
theorem dX8_fulfils_85 : decode cX8_fulfils 85 = .ok (.invokevirtual 62, 3) := by decide +kernel
theorem dX8_fulfils_88 : decode cX8_fulfils 88 = .ok (.iload 4, 2) := by decide +kernel
theorem dX8_fulfils_90 : decode cX8_fulfils 90 = .ok (.ishr, 1) := by decide +kernel
theorem dX8_fulfils_91 : decode cX8_fulfils 91 = .ok (.iconst 1, 1) := by decide +kernel
theorem dX8_fulfils_92 : decode cX8_fulfils 92 = .ok (.iand, 1) := by decide +kernel
theorem dX8_fulfils_93 : decode cX8_fulfils 93 = .ok (.ifCond .ne 7, 3) := by decide +kernel
theorem dX8_fulfils_96 : decode cX8_fulfils 96 = .ok (.iconst 1, 1) := by decide +kernel
theorem dX8_fulfils_97 : decode cX8_fulfils 97 = .ok (.goto 4, 3) := by decide +kernel
theorem dX8_fulfils_100 : decode cX8_fulfils 100 = .ok (.iconst 0, 1) := by decide +kernel
theorem dX8_fulfils_101 : decode cX8_fulfils 101 = .ok (.ireturn, 1) := by decide +kernel
theorem dX8_fulfils_102 : decode cX8_fulfils 102 = .ok (.aload_n 2, 1) := by decide +kernel
theorem dX8_fulfils_103 : decode cX8_fulfils 103 = .ok (.iload_n 3, 1) := by decide +kernel
theorem dX8_fulfils_104 : decode cX8_fulfils 104 = .ok (.iaload, 1) := by decide +kernel
theorem dX8_fulfils_105 : decode cX8_fulfils 105 = .ok (.iconst 4, 1) := by decide +kernel
theorem dX8_fulfils_106 : decode cX8_fulfils 106 = .ok (.idiv, 1) := by decide +kernel
theorem dX8_fulfils_107 : decode cX8_fulfils 107 = .ok (.iload 4, 2) := by decide +kernel
theorem dX8_fulfils_109 : decode cX8_fulfils 109 = .ok (.if_icmp .eq 7, 3) := by decide +kernel
theorem dX8_fulfils_112 : decode cX8_fulfils 112 = .ok (.iconst 1, 1) := by decide +kernel
theorem dX8_fulfils_113 : decode cX8_fulfils 113 = .ok (.goto 4, 3) := by decide +kernel
theorem dX8_fulfils_116 : decode cX8_fulfils 116 = .ok (.iconst 0, 1) := by decide +kernel
theorem dX8_fulfils_117 : decode cX8_fulfils 117 = .ok (.ireturn, 1) := by decide +kernel
theorem dX8_fulfils_118 : decode cX8_fulfils 118 = .ok (.aload_n 2, 1) := by decide +kernel
theorem dX8_fulfils_119 : decode cX8_fulfils 119 = .ok (.iload_n 3, 1) := by decide +kernel
theorem dX8_fulfils_120 : decode cX8_fulfils 120 = .ok (.iaload, 1) := by decide +kernel
theorem dX8_fulfils_121 : decode cX8_fulfils 121 = .ok (.iload 4, 2) := by decide +kernel
theorem dX8_fulfils_123 : decode cX8_fulfils 123 = .ok (.if_icmp .ne 7, 3) := by decide +kernel
theorem dX8_fulfils_126 : decode cX8_fulfils 126 = .ok (.iconst 1, 1) := by decide +kernel
theorem dX8_fulfils_127 : decode cX8_fulfils 127 = .ok (.goto 4, 3) := by decide +kernel
theorem dX8_fulfils_130 : decode cX8_fulfils 130 = .ok (.iconst 0, 1) := by decide +kernel
theorem dX8_fulfils_131 : decode cX8_fulfils 131 = .ok (.ireturn, 1) := by decide +kernel
theorem dX8_fulfils_132 : decode cX8_fulfils 132 = .ok (.aload_n 2, 1) := by decide +kernel
theorem dX8_fulfils_133 : decode cX8_fulfils 133 = .ok (.iload_n 3, 1) := by decide +kernel
theorem dX8_fulfils_134 : decode cX8_fulfils 134 = .ok (.iaload, 1) := by decide +kernel
theorem dX8_fulfils_135 : decode cX8_fulfils 135 = .ok (.iconst 4, 1) := by decide +kernel
theorem dX8_fulfils_136 : decode cX8_fulfils 136 = .ok (.idiv, 1) := by decide +kernel
theorem dX8_fulfils_137 : decode cX8_fulfils 137 = .ok (.aload_n 2, 1) := by decide +kernel
theorem dX8_fulfils_138 : decode cX8_fulfils 138 = .ok (.iload 4, 2) := by decide +kernel
theorem dX8_fulfils_140 : decode cX8_fulfils 140 = .ok (.iaload, 1) := by decide +kernel
theorem dX8_fulfils_141 : decode cX8_fulfils 141 = .ok (.iconst 4, 1) := by decide +kernel
theorem dX8_fulfils_142 : decode cX8_fulfils 142 = .ok (.idiv, 1) := by decide +kernel
theorem dX8_fulfils_143 : decode cX8_fulfils 143 = .ok (.if_icmp .ne 7, 3) := by decide +kernel
theorem dX8_fulfils_146 : decode cX8_fulfils 146 = .ok (.iconst 1, 1) := by decide +kernel
theorem dX8_fulfils_147 : decode cX8_fulfils 147 = .ok (.goto 4, 3) := by decide +kernel
theorem dX8_fulfils_150 : decode cX8_fulfils 150 = .ok (.iconst 0, 1) := by decide +kernel
theorem dX8_fulfils_151 : decode cX8_fulfils 151 = .ok (.ireturn, 1) := by decide +kernel
theorem dX8_fulfils_152 : decode cX8_fulfils 152 = .ok (.aload_n 2, 1) := by decide +kernel
theorem dX8_fulfils_153 : decode cX8_fulfils 153 = .ok (.iload_n 3, 1) := by decide +kernel
theorem dX8_fulfils_154 : decode cX8_fulfils 154 = .ok (.iaload, 1) := by decide +kernel
theorem dX8_fulfils_155 : decode cX8_fulfils 155 = .ok (.iconst 4, 1) := by decide +kernel
theorem dX8_fulfils_156 : decode cX8_fulfils 156 = .ok (.idiv, 1) := by decide +kernel
theorem dX8_fulfils_157 : decode cX8_fulfils 157 = .ok (.aload_n 2, 1) := by decide +kernel
theorem dX8_fulfils_158 : decode cX8_fulfils 158 = .ok (.iload 4, 2) := by decide +kernel
theorem dX8_fulfils_160 : decode cX8_fulfils 160 = .ok (.iaload, 1) := by decide +kernel
theorem dX8_fulfils_161 : decode cX8_fulfils 161 = .ok (.iconst 4, 1) := by decide +kernel
theorem dX8_fulfils_162 : decode cX8_fulfils 162 = .ok (.idiv, 1) := by decide +kernel
theorem dX8_fulfils_163 : decode cX8_fulfils 163 = .ok (.if_icmp .eq 7, 3) := by decide +kernel
theorem dX8_fulfils_166 : decode cX8_fulfils 166 = .ok (.iconst 1, 1) := by decide +kernel
theorem dX8_fulfils_167 : decode cX8_fulfils 167 = .ok (.goto 4, 3) := by decide +kernel
theorem dX8_fulfils_170 : decode cX8_fulfils 170 = .ok (.iconst 0, 1) := by decide +kernel
theorem dX8_fulfils_171 : decode cX8_fulfils 171 = .ok (.ireturn, 1) := by decide +kernel
theorem dX8_fulfils_172 : decode cX8_fulfils 172 = .ok (.aload_n 2, 1) := by decide +kernel
theorem dX8_fulfils_173 : decode cX8_fulfils 173 = .ok (.iload_n 3, 1) := by decide +kernel
theorem dX8_fulfils_174 : decode cX8_fulfils 174 = .ok (.iaload, 1) := by decide +kernel
theorem dX8_fulfils_175 : decode cX8_fulfils 175 = .ok (.aload_n 2, 1) := by decide +kernel
theorem dX8_fulfils_176 : decode cX8_fulfils 176 = .ok (.iload 4, 2) := by decide +kernel
theorem dX8_fulfils_178 : decode cX8_fulfils 178 = .ok (.iaload, 1) := by decide +kernel
theorem dX8_fulfils_179 : decode cX8_fulfils 179 = .ok (.if_icmp .ge 7, 3) := by decide +kernel
theorem dX8_fulfils_182 : decode cX8_fulfils 182 = .ok (.iconst 1, 1) := by decide +kernel
theorem dX8_fulfils_183 : decode cX8_fulfils 183 = .ok (.goto 4, 3) := by decide +kernel
theorem dX8_fulfils_186 : decode cX8_fulfils 186 = .ok (.iconst 0, 1) := by decide +kernel
theorem dX8_fulfils_187 : decode cX8_fulfils 187 = .ok (.ireturn, 1) := by decide +kernel
set_option maxRecDepth 20000 in
theorem ggX8_tableIsAheadOf_X8_lessonTotal : GoodIn wsX8_tableIsAheadOf wsX8_lessonTotal := goodIn_r _ [6, 7, 8, 9] (by decide +kernel) (by decide +kernel)
set_option maxRecDepth 20000 in
theorem gX8_tableIsAheadOf_X8_lessonTotal : GoodIn wsX8_tableIsAheadOf (wsV RX8 40 RX8 yX8_lessonTotal wsX8_lessonTotal) := goodIn_app (goodIn_of _ (by decide +kernel)) ggX8_tableIsAheadOf_X8_lessonTotal
theorem dX8_tableIsAheadOf_0 : decode cX8_tableIsAheadOf 0 = .ok (.iconst 0, 1) := by decide +kernel
theorem dX8_tableIsAheadOf_1 : decode cX8_tableIsAheadOf 1 = .ok (.istore_n 2, 1) := by decide +kernel
theorem dX8_tableIsAheadOf_2 : decode cX8_tableIsAheadOf 2 = .ok (.iload_n 2, 1) := by decide +kernel
theorem dX8_tableIsAheadOf_3 : decode cX8_tableIsAheadOf 3 = .ok (.aload_n 0, 1) := by decide +kernel
theorem dX8_tableIsAheadOf_4 : decode cX8_tableIsAheadOf 4 = .ok (.invokevirtual 40, 3) := by decide +kernel
theorem dX8_tableIsAheadOf_7 : decode cX8_tableIsAheadOf 7 = .ok (.if_icmp .ge 39, 3) := by decide +kernel
theorem dX8_tableIsAheadOf_10 : decode cX8_tableIsAheadOf 10 = .ok (.aload_n 0, 1) := by decide +kernel
theorem dX8_tableIsAheadOf_11 : decode cX8_tableIsAheadOf 11 = .ok (.getfield 15, 3) := by decide +kernel
theorem dX8_tableIsAheadOf_14 : decode cX8_tableIsAheadOf 14 = .ok (.iload_n 2, 1) := by decide +kernel
theorem dX8_tableIsAheadOf_15 : decode cX8_tableIsAheadOf 15 = .ok (.iaload, 1) := by decide +kernel
theorem dX8_tableIsAheadOf_16 : decode cX8_tableIsAheadOf 16 = .ok (.aload_n 1, 1) := by decide +kernel
theorem dX8_tableIsAheadOf_17 : decode cX8_tableIsAheadOf 17 = .ok (.iload_n 2, 1) := by decide +kernel
theorem dX8_tableIsAheadOf_18 : decode cX8_tableIsAheadOf 18 = .ok (.iaload, 1) := by decide +kernel
theorem dX8_tableIsAheadOf_19 : decode cX8_tableIsAheadOf 19 = .ok (.if_icmp .eq 21, 3) := by decide +kernel
theorem dX8_tableIsAheadOf_22 : decode cX8_tableIsAheadOf 22 = .ok (.aload_n 0, 1) := by decide +kernel
theorem dX8_tableIsAheadOf_23 : decode cX8_tableIsAheadOf 23 = .ok (.getfield 15, 3) := by decide +kernel
theorem dX8_tableIsAheadOf_26 : decode cX8_tableIsAheadOf 26 = .ok (.iload_n 2, 1) := by decide +kernel
theorem dX8_tableIsAheadOf_27 : decode cX8_tableIsAheadOf 27 = .ok (.iaload, 1) := by decide +kernel
theorem dX8_tableIsAheadOf_28 : decode cX8_tableIsAheadOf 28 = .ok (.aload_n 1, 1) := by decide +kernel
theorem dX8_tableIsAheadOf_29 : decode cX8_tableIsAheadOf 29 = .ok (.iload_n 2, 1) := by decide +kernel
theorem dX8_tableIsAheadOf_30 : decode cX8_tableIsAheadOf 30 = .ok (.iaload, 1) := by decide +kernel
theorem dX8_tableIsAheadOf_31 : decode cX8_tableIsAheadOf 31 = .ok (.if_icmp .ge 7, 3) := by decide +kernel
theorem dX8_tableIsAheadOf_34 : decode cX8_tableIsAheadOf 34 = .ok (.iconst 1, 1) := by decide +kernel
theorem dX8_tableIsAheadOf_35 : decode cX8_tableIsAheadOf 35 = .ok (.goto 4, 3) := by decide +kernel
theorem dX8_tableIsAheadOf_38 : decode cX8_tableIsAheadOf 38 = .ok (.iconst 0, 1) := by decide +kernel
theorem dX8_tableIsAheadOf_39 : decode cX8_tableIsAheadOf 39 = .ok (.ireturn, 1) := by decide +kernel
theorem dX8_tableIsAheadOf_40 : decode cX8_tableIsAheadOf 40 = .ok (.iinc 2 1, 3) := by decide +kernel
theorem dX8_tableIsAheadOf_43 : decode cX8_tableIsAheadOf 43 = .ok (.goto (-41), 3) := by decide +kernel
theorem dX8_tableIsAheadOf_46 : decode cX8_tableIsAheadOf 46 = .ok (.iconst 0, 1) := by decide +kernel
theorem dX8_tableIsAheadOf_47 : decode cX8_tableIsAheadOf 47 = .ok (.ireturn, 1) := by decide +kernel
theorem dX9_init_0 : decode cX9_init 0 = .ok (.aload_n 0, 1) := by decide +kernel
theorem dX9_init_1 : decode cX9_init 1 = .ok (.invokespecial 3, 3) := by decide +kernel
theorem dX9_init_4 : decode cX9_init 4 = .ok (.aload_n 0, 1) := by decide +kernel
theorem dX9_init_5 : decode cX9_init 5 = .ok (.bipush 9, 2) := by decide +kernel
theorem dX9_init_7 : decode cX9_init 7 = .ok (.newarray .int, 2) := by decide +kernel
theorem dX9_init_9 : decode cX9_init 9 = .ok (.putfield 9, 3) := by decide +kernel
theorem dX9_init_12 : decode cX9_init 12 = .ok (.aload_n 0, 1) := by decide +kernel
theorem dX9_init_13 : decode cX9_init 13 = .ok (.bipush 36, 2) := by decide +kernel
theorem dX9_init_15 : decode cX9_init 15 = .ok (.newarray .char, 2) := by decide +kernel
theorem dX9_init_17 : decode cX9_init 17 = .ok (.putfield 15, 3) := by decide +kernel
theorem dX9_init_20 : decode cX9_init 20 = .ok (.aload_n 0, 1) := by decide +kernel
theorem dX9_init_21 : decode cX9_init 21 = .ok (.iconst (-1), 1) := by decide +kernel
theorem dX9_init_22 : decode cX9_init 22 = .ok (.putfield 19, 3) := by decide +kernel
theorem dX9_init_25 : decode cX9_init 25 = .ok (.aload_n 0, 1) := by decide +kernel
theorem dX9_init_26 : decode cX9_init 26 = .ok (.bipush 100, 2) := by decide +kernel
theorem dX9_init_28 : decode cX9_init 28 = .ok (.newarray .int, 2) := by decide +kernel
theorem dX9_init_30 : decode cX9_init 30 = .ok (.putfield 23, 3) := by decide +kernel
theorem dX9_init_33 : decode cX9_init 33 = .ok (.return_, 1) := by decide +kernel
theorem dX9_signsIn_0 : decode cX9_signsIn 0 = .ok (.iconst 0, 1) := by decide +kernel
theorem dX9_signsIn_1 : decode cX9_signsIn 1 = .ok (.istore_n 2, 1) := by decide +kernel
theorem dX9_signsIn_2 : decode cX9_signsIn 2 = .ok (.bipush 24, 2) := by decide +kernel
theorem dX9_signsIn_4 : decode cX9_signsIn 4 = .ok (.istore_n 3, 1) := by decide +kernel
theorem dX9_signsIn_5 : decode cX9_signsIn 5 = .ok (.iload_n 3, 1) := by decide +kernel
theorem dX9_signsIn_6 : decode cX9_signsIn 6 = .ok (.ifCond .lt 27, 3) := by decide +kernel
theorem dX9_signsIn_9 : decode cX9_signsIn 9 = .ok (.iload_n 2, 1) := by decide +kernel
theorem dX9_signsIn_10 : decode cX9_signsIn 10 = .ok (.iload_n 1, 1) := by decide +kernel
theorem dX9_signsIn_11 : decode cX9_signsIn 11 = .ok (.iload_n 3, 1) := by decide +kernel
theorem dX9_signsIn_12 : decode cX9_signsIn 12 = .ok (.ishr, 1) := by decide +kernel
theorem dX9_signsIn_13 : decode cX9_signsIn 13 = .ok (.sipush 255, 3) := by decide +kernel
theorem dX9_signsIn_16 : decode cX9_signsIn 16 = .ok (.iand, 1) := by decide +kernel
theorem dX9_signsIn_17 : decode cX9_signsIn 17 = .ok (.ifCond .eq 7, 3) := by decide +kernel
theorem dX9_signsIn_20 : decode cX9_signsIn 20 = .ok (.iconst 1, 1) := by decide +kernel
theorem dX9_signsIn_21 : decode cX9_signsIn 21 = .ok (.goto 4, 3) := by decide +kernel
theorem dX9_signsIn_24 : decode cX9_signsIn 24 = .ok (.iconst 0, 1) := by decide +kernel
theorem dX9_signsIn_25 : decode cX9_signsIn 25 = .ok (.iadd, 1) := by decide +kernel
theorem dX9_signsIn_26 : decode cX9_signsIn 26 = .ok (.istore_n 2, 1) := by decide +kernel
theorem dX9_signsIn_27 : decode cX9_signsIn 27 = .ok (.iinc 3 (-8), 3) := by decide +kernel
theorem dX9_signsIn_30 : decode cX9_signsIn 30 = .ok (.goto (-25), 3) := by decide +kernel
theorem dX9_signsIn_33 : decode cX9_signsIn 33 = .ok (.iload_n 2, 1) := by decide +kernel
theorem dX9_signsIn_34 : decode cX9_signsIn 34 = .ok (.ireturn, 1) := by decide +kernel
theorem dX9_add_0 : decode cX9_add 0 = .ok (.bipush 24, 2) := by decide +kernel
theorem dX9_add_2 : decode cX9_add 2 = .ok (.istore_n 2, 1) := by decide +kernel
theorem dX9_add_3 : decode cX9_add 3 = .ok (.iload_n 2, 1) := by decide +kernel
theorem dX9_add_4 : decode cX9_add 4 = .ok (.ifCond .lt 50, 3) := by decide +kernel
theorem dX9_add_7 : decode cX9_add 7 = .ok (.iload_n 1, 1) := by decide +kernel
theorem dX9_add_8 : decode cX9_add 8 = .ok (.iload_n 2, 1) := by decide +kernel
theorem dX9_add_9 : decode cX9_add 9 = .ok (.ishr, 1) := by decide +kernel
theorem dX9_add_10 : decode cX9_add 10 = .ok (.sipush 255, 3) := by decide +kernel
theorem dX9_add_13 : decode cX9_add 13 = .ok (.iand, 1) := by decide +kernel
theorem dX9_add_14 : decode cX9_add 14 = .ok (.istore_n 3, 1) := by decide +kernel
theorem dX9_add_15 : decode cX9_add 15 = .ok (.iload_n 3, 1) := by decide +kernel
theorem dX9_add_16 : decode cX9_add 16 = .ok (.ifCond .eq 32, 3) := by decide +kernel
theorem dX9_add_19 : decode cX9_add 19 = .ok (.aload_n 0, 1) := by decide +kernel
theorem dX9_add_20 : decode cX9_add 20 = .ok (.getfield 26, 3) := by decide +kernel
theorem dX9_add_23 : decode cX9_add 23 = .ok (.bipush 100, 2) := by decide +kernel
theorem dX9_add_25 : decode cX9_add 25 = .ok (.if_icmp .ge 23, 3) := by decide +kernel
theorem dX9_add_28 : decode cX9_add 28 = .ok (.aload_n 0, 1) := by decide +kernel
theorem dX9_add_29 : decode cX9_add 29 = .ok (.getfield 23, 3) := by decide +kernel
theorem dX9_add_32 : decode cX9_add 32 = .ok (.aload_n 0, 1) := by decide +kernel
theorem dX9_add_33 : decode cX9_add 33 = .ok (.getfield 26, 3) := by decide +kernel
theorem dX9_add_36 : decode cX9_add 36 = .ok (.iload_n 3, 1) := by decide +kernel
theorem dX9_add_37 : decode cX9_add 37 = .ok (.iastore, 1) := by decide +kernel
theorem dX9_add_38 : decode cX9_add 38 = .ok (.aload_n 0, 1) := by decide +kernel
theorem dX9_add_39 : decode cX9_add 39 = .ok (.dup, 1) := by decide +kernel
theorem dX9_add_40 : decode cX9_add 40 = .ok (.getfield 26, 3) := by decide +kernel
theorem dX9_add_43 : decode cX9_add 43 = .ok (.iconst 1, 1) := by decide +kernel
theorem dX9_add_44 : decode cX9_add 44 = .ok (.iadd, 1) := by decide +kernel
theorem dX9_add_45 : decode cX9_add 45 = .ok (.putfield 26, 3) := by decide +kernel
theorem dX9_add_48 : decode cX9_add 48 = .ok (.iinc 2 (-8), 3) := by decide +kernel
theorem dX9_add_51 : decode cX9_add 51 = .ok (.goto (-48), 3) := by decide +kernel
theorem dX9_add_54 : decode cX9_add 54 = .ok (.return_, 1) := by decide +kernel
theorem dX9_empty_0 : decode cX9_empty 0 = .ok (.aload_n 0, 1) := by decide +kernel
theorem dX9_empty_1 : decode cX9_empty 1 = .ok (.getfield 26, 3) := by decide +kernel
theorem dX9_empty_4 : decode cX9_empty 4 = .ok (.istore_n 1, 1) := by decide +kernel
theorem dX9_empty_5 : decode cX9_empty 5 = .ok (.aload_n 0, 1) := by decide +kernel
theorem dX9_empty_6 : decode cX9_empty 6 = .ok (.iconst 0, 1) := by decide +kernel
theorem dX9_empty_7 : decode cX9_empty 7 = .ok (.putfield 26, 3) := by decide +kernel
theorem dX9_empty_10 : decode cX9_empty 10 = .ok (.iload_n 1, 1) := by decide +kernel
theorem dX9_empty_11 : decode cX9_empty 11 = .ok (.ireturn, 1) := by decide +kernel
set_option maxRecDepth 20000 in
theorem ggX9_parse_X9_accepts : GoodIn wsX9_parse wsX9_accepts := goodIn_r _ [9, 10, 11, 12, 8, 13, 1, 14, 15, 16, 17, 18, 19, 20, 21, 22, 23, 24, 25, 26, 27, 28, 29, 30, 31, 32, 33, 34, 35, 36, 37, 38, 39, 40, 41, 42, 43, 44, 45, 46, 47, 48, 49, 50, 51, 52, 53, 54, 55, 56, 57, 58, 59, 60, 61, 62, 63, 64, 65, 66, 67, 68, 69, 70, 71, 72, 73, 74, 75, 76, 77, 78, 79, 80, 81, 82, 83, 84, 85, 86, 87, 88] (by decide +kernel) (by decide +kernel)
set_option maxRecDepth 20000 in
theorem gX9_parse_X9_accepts : GoodIn wsX9_parse (wsV RX9 32 RX9 yX9_accepts wsX9_accepts) := goodIn_app (goodIn_of _ (by decide +kernel)) ggX9_parse_X9_accepts
set_option maxRecDepth 20000 in
theorem ggX9_parse_X8_lessonTotal : GoodIn wsX9_parse wsX8_lessonTotal := goodIn_r _ [19, 20, 87, 88] (by decide +kernel) (by decide +kernel)
set_option maxRecDepth 20000 in
theorem gX9_parse_X8_lessonTotal : GoodIn wsX9_parse (wsV RX9 36 RX8 yX8_lessonTotal wsX8_lessonTotal) := goodIn_app (goodIn_of _ (by decide +kernel)) ggX9_parse_X8_lessonTotal
theorem dX9_parse_0 : decode cX9_parse 0 = .ok (.aload_n 0, 1) := by decide +kernel
theorem dX9_parse_1 : decode cX9_parse 1 = .ok (.iconst 0, 1) := by decide +kernel
theorem dX9_parse_2 : decode cX9_parse 2 = .ok (.putfield 29, 3) := by decide +kernel
theorem dX9_parse_5 : decode cX9_parse 5 = .ok (.aload_n 0, 1) := by decide +kernel
theorem dX9_parse_6 : decode cX9_parse 6 = .ok (.iconst (-1), 1) := by decide +kernel
theorem dX9_parse_7 : decode cX9_parse 7 = .ok (.putfield 19, 3) := by decide +kernel
theorem dX9_parse_10 : decode cX9_parse 10 = .ok (.iconst 0, 1) := by decide +kernel
theorem dX9_parse_11 : decode cX9_parse 11 = .ok (.istore_n 2, 1) := by decide +kernel
theorem dX9_parse_12 : decode cX9_parse 12 = .ok (.iconst 0, 1) := by decide +kernel
theorem dX9_parse_13 : decode cX9_parse 13 = .ok (.istore_n 3, 1) := by decide +kernel
theorem dX9_parse_14 : decode cX9_parse 14 = .ok (.iload_n 3, 1) := by decide +kernel
theorem dX9_parse_15 : decode cX9_parse 15 = .ok (.aload_n 0, 1) := by decide +kernel
theorem dX9_parse_16 : decode cX9_parse 16 = .ok (.getfield 26, 3) := by decide +kernel
theorem dX9_parse_19 : decode cX9_parse 19 = .ok (.if_icmp .ge 55, 3) := by decide +kernel
theorem dX9_parse_22 : decode cX9_parse 22 = .ok (.aload_n 0, 1) := by decide +kernel
theorem dX9_parse_23 : decode cX9_parse 23 = .ok (.getfield 23, 3) := by decide +kernel
theorem dX9_parse_26 : decode cX9_parse 26 = .ok (.iload_n 3, 1) := by decide +kernel
theorem dX9_parse_27 : decode cX9_parse 27 = .ok (.iaload, 1) := by decide +kernel
theorem dX9_parse_28 : decode cX9_parse 28 = .ok (.istore 4, 2) := by decide +kernel
theorem dX9_parse_30 : decode cX9_parse 30 = .ok (.iload 4, 2) := by decide +kernel
theorem dX9_parse_32 : decode cX9_parse 32 = .ok (.bipush 32, 2) := by decide +kernel
theorem dX9_parse_34 : decode cX9_parse 34 = .ok (.if_icmp .eq 34, 3) := by decide +kernel
theorem dX9_parse_37 : decode cX9_parse 37 = .ok (.iload 4, 2) := by decide +kernel
theorem dX9_parse_39 : decode cX9_parse 39 = .ok (.bipush 10, 2) := by decide +kernel
theorem dX9_parse_41 : decode cX9_parse 41 = .ok (.if_icmp .eq 27, 3) := by decide +kernel
theorem dX9_parse_44 : decode cX9_parse 44 = .ok (.aload_n 0, 1) := by decide +kernel
theorem dX9_parse_45 : decode cX9_parse 45 = .ok (.aload_n 1, 1) := by decide +kernel
theorem dX9_parse_46 : decode cX9_parse 46 = .ok (.iload_n 2, 1) := by decide +kernel
theorem dX9_parse_47 : decode cX9_parse 47 = .ok (.iload 4, 2) := by decide +kernel
theorem dX9_parse_49 : decode cX9_parse 49 = .ok (.invokevirtual 32, 3) := by decide +kernel
theorem dX9_parse_52 : decode cX9_parse 52 = .ok (.ifCond .ne 10, 3) := by decide +kernel
theorem dX9_parse_55 : decode cX9_parse 55 = .ok (.aload_n 0, 1) := by decide +kernel
theorem dX9_parse_56 : decode cX9_parse 56 = .ok (.iload_n 3, 1) := by decide +kernel
theorem dX9_parse_57 : decode cX9_parse 57 = .ok (.putfield 19, 3) := by decide +kernel
theorem dX9_parse_60 : decode cX9_parse 60 = .ok (.iconst 0, 1) := by decide +kernel
theorem dX9_parse_61 : decode cX9_parse 61 = .ok (.ireturn, 1) := by decide +kernel
theorem dX9_parse_62 : decode cX9_parse 62 = .ok (.iload_n 2, 1) := by decide +kernel
theorem dX9_parse_63 : decode cX9_parse 63 = .ok (.iconst 1, 1) := by decide +kernel
theorem dX9_parse_64 : decode cX9_parse 64 = .ok (.iadd, 1) := by decide +kernel
theorem dX9_parse_65 : decode cX9_parse 65 = .ok (.iconst 4, 1) := by decide +kernel
theorem dX9_parse_66 : decode cX9_parse 66 = .ok (.irem, 1) := by decide +kernel
theorem dX9_parse_67 : decode cX9_parse 67 = .ok (.istore_n 2, 1) := by decide +kernel
theorem dX9_parse_68 : decode cX9_parse 68 = .ok (.iinc 3 1, 3) := by decide +kernel
theorem dX9_parse_71 : decode cX9_parse 71 = .ok (.goto (-57), 3) := by decide +kernel
theorem dX9_parse_74 : decode cX9_parse 74 = .ok (.iload_n 2, 1) := by decide +kernel
theorem dX9_parse_75 : decode cX9_parse 75 = .ok (.ifCond .ne 18, 3) := by decide +kernel
theorem dX9_parse_78 : decode cX9_parse 78 = .ok (.aload_n 0, 1) := by decide +kernel
theorem dX9_parse_79 : decode cX9_parse 79 = .ok (.getfield 29, 3) := by decide +kernel
theorem dX9_parse_82 : decode cX9_parse 82 = .ok (.iconst 1, 1) := by decide +kernel
theorem dX9_parse_83 : decode cX9_parse 83 = .ok (.aload_n 1, 1) := by decide +kernel
theorem dX9_parse_84 : decode cX9_parse 84 = .ok (.invokevirtual 36, 3) := by decide +kernel
theorem dX9_parse_87 : decode cX9_parse 87 = .ok (.ishl, 1) := by decide +kernel
theorem dX9_parse_88 : decode cX9_parse 88 = .ok (.iconst 1, 1) := by decide +kernel
theorem dX9_parse_89 : decode cX9_parse 89 = .ok (.isub, 1) := by decide +kernel
theorem dX9_parse_90 : decode cX9_parse 90 = .ok (.if_icmp .eq 11, 3) := by decide +kernel
theorem dX9_parse_93 : decode cX9_parse 93 = .ok (.aload_n 0, 1) := by decide +kernel
theorem dX9_parse_94 : decode cX9_parse 94 = .ok (.aload_n 0, 1) := by decide +kernel
theorem dX9_parse_95 : decode cX9_parse 95 = .ok (.getfield 26, 3) := by decide +kernel
theorem dX9_parse_98 : decode cX9_parse 98 = .ok (.putfield 19, 3) := by decide +kernel
theorem dX9_parse_101 : decode cX9_parse 101 = .ok (.aload_n 0, 1) := by decide +kernel
theorem dX9_parse_102 : decode cX9_parse 102 = .ok (.getfield 19, 3) := by decide +kernel
theorem dX9_parse_105 : decode cX9_parse 105 = .ok (.iconst (-1), 1) := by decide +kernel
theorem dX9_parse_106 : decode cX9_parse 106 = .ok (.if_icmp .ne 7, 3) := by decide +kernel
theorem dX9_parse_109 : decode cX9_parse 109 = .ok (.iconst 1, 1) := by decide +kernel
theorem dX9_parse_110 : decode cX9_parse 110 = .ok (.goto 4, 3) := by decide +kernel
theorem dX9_parse_113 : decode cX9_parse 113 = .ok (.iconst 0, 1) := by decide +kernel
theorem dX9_parse_114 : decode cX9_parse 114 = .ok (.ireturn, 1) := by decide +kernel
set_option maxRecDepth 20000 in
theorem ggX9_accepts_X9_acceptsLesson : GoodIn wsX9_accepts wsX9_acceptsLesson := goodIn_r _ [5, 6, 7, 8, 9, 10, 11, 12, 13, 72, 73, 74, 75, 76, 77, 78, 79, 80, 81] (by decide +kernel) (by decide +kernel)
set_option maxRecDepth 20000 in
theorem gX9_accepts_X9_acceptsLesson : GoodIn wsX9_accepts (wsV RX9 42 RX9 yX9_acceptsLesson wsX9_acceptsLesson) := goodIn_app (goodIn_of _ (by decide +kernel)) ggX9_accepts_X9_acceptsLesson
set_option maxRecDepth 20000 in
theorem ggX9_accepts_X9_acceptsDay : GoodIn wsX9_accepts wsX9_acceptsDay := goodIn_r _ [17, 18, 7, 19, 20, 21, 4, 22, 23, 24, 25, 26, 27, 28, 29, 30, 31, 32, 33, 34, 35, 36, 37, 38, 39, 40, 41, 42, 43, 44, 45, 46, 47, 48, 49, 50, 51, 52, 53, 54, 55, 56, 57, 58, 59, 60, 61, 62, 63, 72, 73, 74, 75, 76, 77, 78, 79] (by decide +kernel) (by decide +kernel)
set_option maxRecDepth 20000 in
theorem gX9_accepts_X9_acceptsDay : GoodIn wsX9_accepts (wsV RX9 46 RX9 yX9_acceptsDay wsX9_acceptsDay) := goodIn_app (goodIn_of _ (by decide +kernel)) ggX9_accepts_X9_acceptsDay
set_option maxRecDepth 20000 in
theorem ggX9_accepts_X9_acceptsHour : GoodIn wsX9_accepts wsX9_acceptsHour := goodIn_r _ [67, 7, 18, 68, 69, 70, 11, 71, 13, 72, 73, 74, 75, 76, 77, 78, 79, 80, 81] (by decide +kernel) (by decide +kernel)
set_option maxRecDepth 20000 in
theorem gX9_accepts_X9_acceptsHour : GoodIn wsX9_accepts (wsV RX9 50 RX9 yX9_acceptsHour wsX9_acceptsHour) := goodIn_app (goodIn_of _ (by decide +kernel)) ggX9_accepts_X9_acceptsHour
theorem dX9_accepts_0 : decode cX9_accepts 0 = .ok (.iload_n 2, 1) := by decide +kernel
theorem dX9_accepts_1 : decode cX9_accepts 1 = .ok (.tableswitch 53 0 2 #[27, 37, 43], 27) := by decide +kernel
theorem dX9_accepts_28 : decode cX9_accepts 28 = .ok (.aload_n 0, 1) := by decide +kernel
theorem dX9_accepts_29 : decode cX9_accepts 29 = .ok (.aload_n 1, 1) := by decide +kernel
theorem dX9_accepts_30 : decode cX9_accepts 30 = .ok (.iload_n 3, 1) := by decide +kernel
theorem dX9_accepts_31 : decode cX9_accepts 31 = .ok (.bipush 48, 2) := by decide +kernel
theorem dX9_accepts_33 : decode cX9_accepts 33 = .ok (.isub, 1) := by decide +kernel
theorem dX9_accepts_34 : decode cX9_accepts 34 = .ok (.invokevirtual 42, 3) := by decide +kernel
theorem dX9_accepts_37 : decode cX9_accepts 37 = .ok (.ireturn, 1) := by decide +kernel
theorem dX9_accepts_38 : decode cX9_accepts 38 = .ok (.aload_n 0, 1) := by decide +kernel
theorem dX9_accepts_39 : decode cX9_accepts 39 = .ok (.iload_n 3, 1) := by decide +kernel
theorem dX9_accepts_40 : decode cX9_accepts 40 = .ok (.invokevirtual 46, 3) := by decide +kernel
theorem dX9_accepts_43 : decode cX9_accepts 43 = .ok (.ireturn, 1) := by decide +kernel
theorem dX9_accepts_44 : decode cX9_accepts 44 = .ok (.aload_n 0, 1) := by decide +kernel
theorem dX9_accepts_45 : decode cX9_accepts 45 = .ok (.aload_n 1, 1) := by decide +kernel
theorem dX9_accepts_46 : decode cX9_accepts 46 = .ok (.iload_n 3, 1) := by decide +kernel
theorem dX9_accepts_47 : decode cX9_accepts 47 = .ok (.bipush 48, 2) := by decide +kernel
theorem dX9_accepts_49 : decode cX9_accepts 49 = .ok (.isub, 1) := by decide +kernel
theorem dX9_accepts_50 : decode cX9_accepts 50 = .ok (.invokevirtual 50, 3) := by decide +kernel
theorem dX9_accepts_53 : decode cX9_accepts 53 = .ok (.ireturn, 1) := by decide +kernel
theorem dX9_accepts_54 : decode cX9_accepts 54 = .ok (.iload_n 3, 1) := by decide +kernel
theorem dX9_accepts_55 : decode cX9_accepts 55 = .ok (.bipush 59, 2) := by decide +kernel
theorem dX9_accepts_57 : decode cX9_accepts 57 = .ok (.if_icmp .ne 7, 3) := by decide +kernel
theorem dX9_accepts_60 : decode cX9_accepts 60 = .ok (.iconst 1, 1) := by decide +kernel
theorem dX9_accepts_61 : decode cX9_accepts 61 = .ok (.goto 4, 3) := by decide +kernel
theorem dX9_accepts_64 : decode cX9_accepts 64 = .ok (.iconst 0, 1) := by decide +kernel
theorem dX9_accepts_65 : decode cX9_accepts 65 = .ok (.ireturn, 1) := by decide +kernel
set_option maxRecDepth 20000 in
theorem ggX9_acceptsLesson_X8_lessonTotal : GoodIn wsX9_acceptsLesson wsX8_lessonTotal := goodIn_r _ [7, 8, 17, 18] (by decide +kernel) (by decide +kernel)
set_option maxRecDepth 20000 in
theorem gX9_acceptsLesson_X8_lessonTotal : GoodIn wsX9_acceptsLesson (wsV RX9 36 RX8 yX8_lessonTotal wsX8_lessonTotal) := goodIn_app (goodIn_of _ (by decide +kernel)) ggX9_acceptsLesson_X8_lessonTotal
theorem dX9_acceptsLesson_0 : decode cX9_acceptsLesson 0 = .ok (.iload_n 2, 1) := by decide +kernel
theorem dX9_acceptsLesson_1 : decode cX9_acceptsLesson 1 = .ok (.ifCond .lt 22, 3) := by decide +kernel
theorem dX9_acceptsLesson_4 : decode cX9_acceptsLesson 4 = .ok (.iload_n 2, 1) := by decide +kernel
theorem dX9_acceptsLesson_5 : decode cX9_acceptsLesson 5 = .ok (.aload_n 1, 1) := by decide +kernel
theorem dX9_acceptsLesson_6 : decode cX9_acceptsLesson 6 = .ok (.invokevirtual 36, 3) := by decide +kernel
theorem dX9_acceptsLesson_9 : decode cX9_acceptsLesson 9 = .ok (.if_icmp .ge 14, 3) := by decide +kernel
theorem dX9_acceptsLesson_12 : decode cX9_acceptsLesson 12 = .ok (.aload_n 0, 1) := by decide +kernel
theorem dX9_acceptsLesson_13 : decode cX9_acceptsLesson 13 = .ok (.getfield 29, 3) := by decide +kernel
theorem dX9_acceptsLesson_16 : decode cX9_acceptsLesson 16 = .ok (.iload_n 2, 1) := by decide +kernel
theorem dX9_acceptsLesson_17 : decode cX9_acceptsLesson 17 = .ok (.ishr, 1) := by decide +kernel
theorem dX9_acceptsLesson_18 : decode cX9_acceptsLesson 18 = .ok (.iconst 1, 1) := by decide +kernel
theorem dX9_acceptsLesson_19 : decode cX9_acceptsLesson 19 = .ok (.iand, 1) := by decide +kernel
theorem dX9_acceptsLesson_20 : decode cX9_acceptsLesson 20 = .ok (.ifCond .eq 5, 3) := by decide +kernel
theorem dX9_acceptsLesson_23 : decode cX9_acceptsLesson 23 = .ok (.iconst 0, 1) := by decide +kernel
theorem dX9_acceptsLesson_24 : decode cX9_acceptsLesson 24 = .ok (.ireturn, 1) := by decide +kernel
theorem dX9_acceptsLesson_25 : decode cX9_acceptsLesson 25 = .ok (.aload_n 0, 1) := by decide +kernel
theorem dX9_acceptsLesson_26 : decode cX9_acceptsLesson 26 = .ok (.dup, 1) := by decide +kernel
theorem dX9_acceptsLesson_27 : decode cX9_acceptsLesson 27 = .ok (.getfield 29, 3) := by decide +kernel
theorem dX9_acceptsLesson_30 : decode cX9_acceptsLesson 30 = .ok (.iconst 1, 1) := by decide +kernel
theorem dX9_acceptsLesson_31 : decode cX9_acceptsLesson 31 = .ok (.iload_n 2, 1) := by decide +kernel
theorem dX9_acceptsLesson_32 : decode cX9_acceptsLesson 32 = .ok (.ishl, 1) := by decide +kernel
theorem dX9_acceptsLesson_33 : decode cX9_acceptsLesson 33 = .ok (.ior, 1) := by decide +kernel
theorem dX9_acceptsLesson_34 : decode cX9_acceptsLesson 34 = .ok (.putfield 29, 3) := by decide +kernel
theorem dX9_acceptsLesson_37 : decode cX9_acceptsLesson 37 = .ok (.aload_n 0, 1) := by decide +kernel
theorem dX9_acceptsLesson_38 : decode cX9_acceptsLesson 38 = .ok (.iload_n 2, 1) := by decide +kernel
theorem dX9_acceptsLesson_39 : decode cX9_acceptsLesson 39 = .ok (.putfield 53, 3) := by decide +kernel
theorem dX9_acceptsLesson_42 : decode cX9_acceptsLesson 42 = .ok (.iconst 1, 1) := by decide +kernel
theorem dX9_acceptsLesson_43 : decode cX9_acceptsLesson 43 = .ok (.ireturn, 1) := by decide +kernel
set_option maxRecDepth 20000 in
theorem ggX9_acceptsDay_X9_letterOfDay : GoodIn wsX9_acceptsDay wsX9_letterOfDay := goodIn_r _ [7, 8, 9, 10, 11, 12, 13, 14, 15, 16, 17, 18, 19, 20, 21, 22, 23, 24, 25, 26, 27, 28, 29, 30, 31, 32, 33, 34, 35, 36, 37, 38, 39, 40, 41, 42, 43, 44, 45, 46, 47, 48] (by decide +kernel) (by decide +kernel)
set_option maxRecDepth 20000 in
theorem gX9_acceptsDay_X9_letterOfDay : GoodIn wsX9_acceptsDay (wsV RX9 56 RX9 yX9_letterOfDay wsX9_letterOfDay) := goodIn_app (goodIn_of _ (by decide +kernel)) ggX9_acceptsDay_X9_letterOfDay
theorem dX9_acceptsDay_0 : decode cX9_acceptsDay 0 = .ok (.iconst 0, 1) := by decide +kernel
theorem dX9_acceptsDay_1 : decode cX9_acceptsDay 1 = .ok (.istore_n 2, 1) := by decide +kernel
theorem dX9_acceptsDay_2 : decode cX9_acceptsDay 2 = .ok (.iload_n 2, 1) := by decide +kernel
theorem dX9_acceptsDay_3 : decode cX9_acceptsDay 3 = .ok (.iconst 5, 1) := by decide +kernel
theorem dX9_acceptsDay_4 : decode cX9_acceptsDay 4 = .ok (.if_icmp .ge 32, 3) := by decide +kernel
theorem dX9_acceptsDay_7 : decode cX9_acceptsDay 7 = .ok (.aload_n 0, 1) := by decide +kernel
theorem dX9_acceptsDay_8 : decode cX9_acceptsDay 8 = .ok (.iload_n 2, 1) := by decide +kernel
theorem dX9_acceptsDay_9 : decode cX9_acceptsDay 9 = .ok (.invokevirtual 56, 3) := by decide +kernel
theorem dX9_acceptsDay_12 : decode cX9_acceptsDay 12 = .ok (.iload_n 1, 1) := by decide +kernel
theorem dX9_acceptsDay_13 : decode cX9_acceptsDay 13 = .ok (.if_icmp .ne 17, 3) := by decide +kernel
theorem dX9_acceptsDay_16 : decode cX9_acceptsDay 16 = .ok (.aload_n 0, 1) := by decide +kernel
theorem dX9_acceptsDay_17 : decode cX9_acceptsDay 17 = .ok (.getfield 9, 3) := by decide +kernel
theorem dX9_acceptsDay_20 : decode cX9_acceptsDay 20 = .ok (.aload_n 0, 1) := by decide +kernel
theorem dX9_acceptsDay_21 : decode cX9_acceptsDay 21 = .ok (.getfield 53, 3) := by decide +kernel
theorem dX9_acceptsDay_24 : decode cX9_acceptsDay 24 = .ok (.iload_n 2, 1) := by decide +kernel
theorem dX9_acceptsDay_25 : decode cX9_acceptsDay 25 = .ok (.iconst 4, 1) := by decide +kernel
theorem dX9_acceptsDay_26 : decode cX9_acceptsDay 26 = .ok (.imul, 1) := by decide +kernel
theorem dX9_acceptsDay_27 : decode cX9_acceptsDay 27 = .ok (.iastore, 1) := by decide +kernel
theorem dX9_acceptsDay_28 : decode cX9_acceptsDay 28 = .ok (.iconst 1, 1) := by decide +kernel
theorem dX9_acceptsDay_29 : decode cX9_acceptsDay 29 = .ok (.ireturn, 1) := by decide +kernel
theorem dX9_acceptsDay_30 : decode cX9_acceptsDay 30 = .ok (.iinc 2 1, 3) := by decide +kernel
theorem dX9_acceptsDay_33 : decode cX9_acceptsDay 33 = .ok (.goto (-31), 3) := by decide +kernel
theorem dX9_acceptsDay_36 : decode cX9_acceptsDay 36 = .ok (.iconst 0, 1) := by decide +kernel
theorem dX9_acceptsDay_37 : decode cX9_acceptsDay 37 = .ok (.ireturn, 1) := by decide +kernel
set_option maxRecDepth 20000 in
theorem ggX9_acceptsHour_X8_ofLesson : GoodIn wsX9_acceptsHour wsX8_ofLesson := goodIn_r _ [7, 8, 17, 18] (by decide +kernel) (by decide +kernel)
set_option maxRecDepth 20000 in
theorem gX9_acceptsHour_X8_ofLesson : GoodIn wsX9_acceptsHour (wsV RX9 60 RX8 yX8_ofLesson wsX8_ofLesson) := goodIn_app (goodIn_of _ (by decide +kernel)) ggX9_acceptsHour_X8_ofLesson
theorem dX9_acceptsHour_0 : decode cX9_acceptsHour 0 = .ok (.iload_n 2, 1) := by decide +kernel
theorem dX9_acceptsHour_1 : decode cX9_acceptsHour 1 = .ok (.ifCond .lt 18, 3) := by decide +kernel
theorem dX9_acceptsHour_4 : decode cX9_acceptsHour 4 = .ok (.iload_n 2, 1) := by decide +kernel
theorem dX9_acceptsHour_5 : decode cX9_acceptsHour 5 = .ok (.iconst 4, 1) := by decide +kernel
theorem dX9_acceptsHour_6 : decode cX9_acceptsHour 6 = .ok (.aload_n 1, 1) := by decide +kernel
theorem dX9_acceptsHour_7 : decode cX9_acceptsHour 7 = .ok (.aload_n 0, 1) := by decide +kernel
theorem dX9_acceptsHour_8 : decode cX9_acceptsHour 8 = .ok (.getfield 53, 3) := by decide +kernel
theorem dX9_acceptsHour_11 : decode cX9_acceptsHour 11 = .ok (.iconst 4, 1) := by decide +kernel
theorem dX9_acceptsHour_12 : decode cX9_acceptsHour 12 = .ok (.invokevirtual 60, 3) := by decide +kernel
theorem dX9_acceptsHour_15 : decode cX9_acceptsHour 15 = .ok (.isub, 1) := by decide +kernel
theorem dX9_acceptsHour_16 : decode cX9_acceptsHour 16 = .ok (.if_icmp .lt 5, 3) := by decide +kernel
theorem dX9_acceptsHour_19 : decode cX9_acceptsHour 19 = .ok (.iconst 0, 1) := by decide +kernel
theorem dX9_acceptsHour_20 : decode cX9_acceptsHour 20 = .ok (.ireturn, 1) := by decide +kernel
theorem dX9_acceptsHour_21 : decode cX9_acceptsHour 21 = .ok (.aload_n 0, 1) := by decide +kernel
theorem dX9_acceptsHour_22 : decode cX9_acceptsHour 22 = .ok (.getfield 9, 3) := by decide +kernel
theorem dX9_acceptsHour_25 : decode cX9_acceptsHour 25 = .ok (.aload_n 0, 1) := by decide +kernel
theorem dX9_acceptsHour_26 : decode cX9_acceptsHour 26 = .ok (.getfield 53, 3) := by decide +kernel
theorem dX9_acceptsHour_29 : decode cX9_acceptsHour 29 = .ok (.dup2, 1) := by decide +kernel
theorem dX9_acceptsHour_30 : decode cX9_acceptsHour 30 = .ok (.iaload, 1) := by decide +kernel
theorem dX9_acceptsHour_31 : decode cX9_acceptsHour 31 = .ok (.iload_n 2, 1) := by decide +kernel
theorem dX9_acceptsHour_32 : decode cX9_acceptsHour 32 = .ok (.iadd, 1) := by decide +kernel
theorem dX9_acceptsHour_33 : decode cX9_acceptsHour 33 = .ok (.iastore, 1) := by decide +kernel
theorem dX9_acceptsHour_34 : decode cX9_acceptsHour 34 = .ok (.iconst 1, 1) := by decide +kernel
theorem dX9_acceptsHour_35 : decode cX9_acceptsHour 35 = .ok (.ireturn, 1) := by decide +kernel
set_option maxRecDepth 20000 in
theorem ggX9_letterOfDay_J0_charAt_5068e : GoodIn wsX9_letterOfDay wsJ0_charAt_5068e := goodIn_r _ [5, 6, 7, 8, 9, 4, 10, 11, 12, 13, 14, 15, 16, 17, 18, 19, 20, 21, 22, 23, 24, 25, 26, 27, 28, 29, 30, 31, 32, 33, 34, 35, 36, 37, 38, 39, 40, 41] (by decide +kernel) (by decide +kernel)
set_option maxRecDepth 20000 in
theorem gX9_letterOfDay_J0_charAt_5068e : GoodIn wsX9_letterOfDay (wsV RX9 66 RJ0 yJ0_charAt_5068e wsJ0_charAt_5068e) := goodIn_app (goodIn_of _ (by decide +kernel)) ggX9_letterOfDay_J0_charAt_5068e
theorem dX9_letterOfDay_0 : decode cX9_letterOfDay 0 = .ok (.ldc 64, 2) := by decide +kernel
theorem dX9_letterOfDay_2 : decode cX9_letterOfDay 2 = .ok (.iload_n 1, 1) := by decide +kernel
theorem dX9_letterOfDay_3 : decode cX9_letterOfDay 3 = .ok (.invokevirtual 66, 3) := by decide +kernel
theorem dX9_letterOfDay_6 : decode cX9_letterOfDay 6 = .ok (.ireturn, 1) := by decide +kernel
set_option maxRecDepth 20000 in
theorem ggX9_print_X8_lessonTotal : GoodIn wsX9_print wsX8_lessonTotal := goodIn_r _ [8, 9, 64, 65] (by decide +kernel) (by decide +kernel)
set_option maxRecDepth 20000 in
theorem gX9_print_X8_lessonTotal : GoodIn wsX9_print (wsV RX9 36 RX8 yX8_lessonTotal wsX8_lessonTotal) := goodIn_app (goodIn_of _ (by decide +kernel)) ggX9_print_X8_lessonTotal
set_option maxRecDepth 20000 in
theorem ggX9_print_X9_letterOfDay : GoodIn wsX9_print wsX9_letterOfDay := goodIn_r _ [14, 15, 16, 17, 18, 19, 20, 21, 22, 23, 24, 25, 26, 27, 28, 29, 30, 31, 32, 33, 34, 35, 36, 37, 38, 39, 40, 41, 42, 43, 44, 45, 46, 47, 48, 49, 50, 51, 52, 53, 54, 55] (by decide +kernel) (by decide +kernel)
set_option maxRecDepth 20000 in
theorem gX9_print_X9_letterOfDay : GoodIn wsX9_print (wsV RX9 56 RX9 yX9_letterOfDay wsX9_letterOfDay) := goodIn_app (goodIn_of _ (by decide +kernel)) ggX9_print_X9_letterOfDay
theorem dX9_print_0 : decode cX9_print 0 = .ok (.aload_n 0, 1) := by decide +kernel
theorem dX9_print_1 : decode cX9_print 1 = .ok (.iconst 0, 1) := by decide +kernel
theorem dX9_print_2 : decode cX9_print 2 = .ok (.putfield 71, 3) := by decide +kernel
theorem dX9_print_5 : decode cX9_print 5 = .ok (.iconst 0, 1) := by decide +kernel
theorem dX9_print_6 : decode cX9_print 6 = .ok (.istore_n 2, 1) := by decide +kernel
theorem dX9_print_7 : decode cX9_print 7 = .ok (.iload_n 2, 1) := by decide +kernel
theorem dX9_print_8 : decode cX9_print 8 = .ok (.aload_n 1, 1) := by decide +kernel
theorem dX9_print_9 : decode cX9_print 9 = .ok (.invokevirtual 36, 3) := by decide +kernel
theorem dX9_print_12 : decode cX9_print 12 = .ok (.if_icmp .ge 89, 3) := by decide +kernel
theorem dX9_print_15 : decode cX9_print 15 = .ok (.aload_n 1, 1) := by decide +kernel
theorem dX9_print_16 : decode cX9_print 16 = .ok (.getfield 74, 3) := by decide +kernel
theorem dX9_print_19 : decode cX9_print 19 = .ok (.iload_n 2, 1) := by decide +kernel
theorem dX9_print_20 : decode cX9_print 20 = .ok (.iaload, 1) := by decide +kernel
theorem dX9_print_21 : decode cX9_print 21 = .ok (.istore_n 3, 1) := by decide +kernel
theorem dX9_print_22 : decode cX9_print 22 = .ok (.aload_n 0, 1) := by decide +kernel
theorem dX9_print_23 : decode cX9_print 23 = .ok (.getfield 15, 3) := by decide +kernel
theorem dX9_print_26 : decode cX9_print 26 = .ok (.aload_n 0, 1) := by decide +kernel
theorem dX9_print_27 : decode cX9_print 27 = .ok (.getfield 71, 3) := by decide +kernel
theorem dX9_print_30 : decode cX9_print 30 = .ok (.bipush 48, 2) := by decide +kernel
theorem dX9_print_32 : decode cX9_print 32 = .ok (.iload_n 2, 1) := by decide +kernel
theorem dX9_print_33 : decode cX9_print 33 = .ok (.iadd, 1) := by decide +kernel
theorem dX9_print_34 : decode cX9_print 34 = .ok (.i2c, 1) := by decide +kernel
theorem dX9_print_35 : decode cX9_print 35 = .ok (.castore, 1) := by decide +kernel
theorem dX9_print_36 : decode cX9_print 36 = .ok (.aload_n 0, 1) := by decide +kernel
theorem dX9_print_37 : decode cX9_print 37 = .ok (.getfield 15, 3) := by decide +kernel
theorem dX9_print_40 : decode cX9_print 40 = .ok (.aload_n 0, 1) := by decide +kernel
theorem dX9_print_41 : decode cX9_print 41 = .ok (.getfield 71, 3) := by decide +kernel
theorem dX9_print_44 : decode cX9_print 44 = .ok (.iconst 1, 1) := by decide +kernel
theorem dX9_print_45 : decode cX9_print 45 = .ok (.iadd, 1) := by decide +kernel
theorem dX9_print_46 : decode cX9_print 46 = .ok (.aload_n 0, 1) := by decide +kernel
theorem dX9_print_47 : decode cX9_print 47 = .ok (.iload_n 3, 1) := by decide +kernel
theorem dX9_print_48 : decode cX9_print 48 = .ok (.iconst 4, 1) := by decide +kernel
theorem dX9_print_49 : decode cX9_print 49 = .ok (.idiv, 1) := by decide +kernel
theorem dX9_print_50 : decode cX9_print 50 = .ok (.invokevirtual 56, 3) := by decide +kernel
theorem dX9_print_53 : decode cX9_print 53 = .ok (.castore, 1) := by decide +kernel
theorem dX9_print_54 : decode cX9_print 54 = .ok (.aload_n 0, 1) := by decide +kernel
theorem dX9_print_55 : decode cX9_print 55 = .ok (.getfield 15, 3) := by decide +kernel
theorem dX9_print_58 : decode cX9_print 58 = .ok (.aload_n 0, 1) := by decide +kernel
theorem dX9_print_59 : decode cX9_print 59 = .ok (.getfield 71, 3) := by decide +kernel
theorem dX9_print_62 : decode cX9_print 62 = .ok (.iconst 2, 1) := by decide +kernel
theorem dX9_print_63 : decode cX9_print 63 = .ok (.iadd, 1) := by decide +kernel
theorem dX9_print_64 : decode cX9_print 64 = .ok (.bipush 48, 2) := by decide +kernel
theorem dX9_print_66 : decode cX9_print 66 = .ok (.iload_n 3, 1) := by decide +kernel
theorem dX9_print_67 : decode cX9_print 67 = .ok (.iconst 4, 1) := by decide +kernel
theorem dX9_print_68 : decode cX9_print 68 = .ok (.irem, 1) := by decide +kernel
theorem dX9_print_69 : decode cX9_print 69 = .ok (.iadd, 1) := by decide +kernel
theorem dX9_print_70 : decode cX9_print 70 = .ok (.i2c, 1) := by decide +kernel
theorem dX9_print_71 : decode cX9_print 71 = .ok (.castore, 1) := by decide +kernel
theorem dX9_print_72 : decode cX9_print 72 = .ok (.aload_n 0, 1) := by decide +kernel
theorem dX9_print_73 : decode cX9_print 73 = .ok (.getfield 15, 3) := by decide +kernel
theorem dX9_print_76 : decode cX9_print 76 = .ok (.aload_n 0, 1) := by decide +kernel
theorem dX9_print_77 : decode cX9_print 77 = .ok (.getfield 71, 3) := by decide +kernel
theorem dX9_print_80 : decode cX9_print 80 = .ok (.iconst 3, 1) := by decide +kernel
theorem dX9_print_81 : decode cX9_print 81 = .ok (.iadd, 1) := by decide +kernel
theorem dX9_print_82 : decode cX9_print 82 = .ok (.bipush 59, 2) := by decide +kernel
theorem dX9_print_84 : decode cX9_print 84 = .ok (.castore, 1) := by decide +kernel
theorem dX9_print_85 : decode cX9_print 85 = .ok (.aload_n 0, 1) := by decide +kernel
theorem dX9_print_86 : decode cX9_print 86 = .ok (.dup, 1) := by decide +kernel
theorem dX9_print_87 : decode cX9_print 87 = .ok (.getfield 71, 3) := by decide +kernel
theorem dX9_print_90 : decode cX9_print 90 = .ok (.iconst 4, 1) := by decide +kernel
theorem dX9_print_91 : decode cX9_print 91 = .ok (.iadd, 1) := by decide +kernel
theorem dX9_print_92 : decode cX9_print 92 = .ok (.putfield 71, 3) := by decide +kernel
theorem dX9_print_95 : decode cX9_print 95 = .ok (.iinc 2 1, 3) := by decide +kernel
theorem dX9_print_98 : decode cX9_print 98 = .ok (.goto (-91), 3) := by decide +kernel
theorem dX9_print_101 : decode cX9_print 101 = .ok (.aload_n 0, 1) := by decide +kernel
theorem dX9_print_102 : decode cX9_print 102 = .ok (.getfield 71, 3) := by decide +kernel
theorem dX9_print_105 : decode cX9_print 105 = .ok (.ireturn, 1) := by decide +kernel
theorem dX10_init_0 : decode cX10_init 0 = .ok (.aload_n 0, 1) := by decide +kernel
theorem dX10_init_1 : decode cX10_init 1 = .ok (.invokespecial 5, 3) := by decide +kernel
theorem dX10_init_4 : decode cX10_init 4 = .ok (.aload_n 0, 1) := by decide +kernel
theorem dX10_init_5 : decode cX10_init 5 = .ok (.sipush 280, 3) := by decide +kernel
theorem dX10_init_8 : decode cX10_init 8 = .ok (.newarray .boolean, 2) := by decide +kernel
theorem dX10_init_10 : decode cX10_init 10 = .ok (.putfield 11, 3) := by decide +kernel
theorem dX10_init_13 : decode cX10_init 13 = .ok (.aload_n 0, 1) := by decide +kernel
theorem dX10_init_14 : decode cX10_init 14 = .ok (.sipush 20703, 3) := by decide +kernel
theorem dX10_init_17 : decode cX10_init 17 = .ok (.putfield 15, 3) := by decide +kernel
theorem dX10_init_20 : decode cX10_init 20 = .ok (.return_, 1) := by decide +kernel
set_option maxRecDepth 20000 in
theorem ggX10_isDate_X10_monthLength : GoodIn wsX10_isDate wsX10_monthLength := goodIn_r _ [5] (by decide +kernel) (by decide +kernel)
set_option maxRecDepth 20000 in
theorem gX10_isDate_X10_monthLength : GoodIn wsX10_isDate (wsV RX10 19 RX10 yX10_monthLength wsX10_monthLength) := goodIn_app (goodIn_of _ (by decide +kernel)) ggX10_isDate_X10_monthLength
theorem dX10_isDate_0 : decode cX10_isDate 0 = .ok (.iload_n 1, 1) := by decide +kernel
theorem dX10_isDate_1 : decode cX10_isDate 1 = .ok (.sipush 10000, 3) := by decide +kernel
theorem dX10_isDate_4 : decode cX10_isDate 4 = .ok (.idiv, 1) := by decide +kernel
theorem dX10_isDate_5 : decode cX10_isDate 5 = .ok (.istore_n 2, 1) := by decide +kernel
theorem dX10_isDate_6 : decode cX10_isDate 6 = .ok (.iload_n 1, 1) := by decide +kernel
theorem dX10_isDate_7 : decode cX10_isDate 7 = .ok (.bipush 100, 2) := by decide +kernel
theorem dX10_isDate_9 : decode cX10_isDate 9 = .ok (.idiv, 1) := by decide +kernel
theorem dX10_isDate_10 : decode cX10_isDate 10 = .ok (.bipush 100, 2) := by decide +kernel
theorem dX10_isDate_12 : decode cX10_isDate 12 = .ok (.irem, 1) := by decide +kernel
theorem dX10_isDate_13 : decode cX10_isDate 13 = .ok (.istore_n 3, 1) := by decide +kernel
theorem dX10_isDate_14 : decode cX10_isDate 14 = .ok (.iload_n 1, 1) := by decide +kernel
theorem dX10_isDate_15 : decode cX10_isDate 15 = .ok (.bipush 100, 2) := by decide +kernel
theorem dX10_isDate_17 : decode cX10_isDate 17 = .ok (.irem, 1) := by decide +kernel
theorem dX10_isDate_18 : decode cX10_isDate 18 = .ok (.istore 4, 2) := by decide +kernel
theorem dX10_isDate_20 : decode cX10_isDate 20 = .ok (.iload_n 2, 1) := by decide +kernel
theorem dX10_isDate_21 : decode cX10_isDate 21 = .ok (.sipush 2000, 3) := by decide +kernel
theorem dX10_isDate_24 : decode cX10_isDate 24 = .ok (.if_icmp .lt 42, 3) := by decide +kernel
theorem dX10_isDate_27 : decode cX10_isDate 27 = .ok (.iload_n 2, 1) := by decide +kernel
theorem dX10_isDate_28 : decode cX10_isDate 28 = .ok (.sipush 2099, 3) := by decide +kernel
theorem dX10_isDate_31 : decode cX10_isDate 31 = .ok (.if_icmp .gt 35, 3) := by decide +kernel
theorem dX10_isDate_34 : decode cX10_isDate 34 = .ok (.iload_n 3, 1) := by decide +kernel
theorem dX10_isDate_35 : decode cX10_isDate 35 = .ok (.iconst 1, 1) := by decide +kernel
theorem dX10_isDate_36 : decode cX10_isDate 36 = .ok (.if_icmp .lt 30, 3) := by decide +kernel
theorem dX10_isDate_39 : decode cX10_isDate 39 = .ok (.iload_n 3, 1) := by decide +kernel
theorem dX10_isDate_40 : decode cX10_isDate 40 = .ok (.bipush 12, 2) := by decide +kernel
theorem dX10_isDate_42 : decode cX10_isDate 42 = .ok (.if_icmp .gt 24, 3) := by decide +kernel
theorem dX10_isDate_45 : decode cX10_isDate 45 = .ok (.iload 4, 2) := by decide +kernel
theorem dX10_isDate_47 : decode cX10_isDate 47 = .ok (.iconst 1, 1) := by decide +kernel
theorem dX10_isDate_48 : decode cX10_isDate 48 = .ok (.if_icmp .lt 18, 3) := by decide +kernel
theorem dX10_isDate_51 : decode cX10_isDate 51 = .ok (.iload 4, 2) := by decide +kernel
theorem dX10_isDate_53 : decode cX10_isDate 53 = .ok (.aload_n 0, 1) := by decide +kernel
theorem dX10_isDate_54 : decode cX10_isDate 54 = .ok (.iload_n 2, 1) := by decide +kernel
theorem dX10_isDate_55 : decode cX10_isDate 55 = .ok (.iload_n 3, 1) := by decide +kernel
theorem dX10_isDate_56 : decode cX10_isDate 56 = .ok (.invokevirtual 19, 3) := by decide +kernel
theorem dX10_isDate_59 : decode cX10_isDate 59 = .ok (.if_icmp .gt 7, 3) := by decide +kernel
theorem dX10_isDate_62 : decode cX10_isDate 62 = .ok (.iconst 1, 1) := by decide +kernel
theorem dX10_isDate_63 : decode cX10_isDate 63 = .ok (.goto 4, 3) := by decide +kernel
theorem dX10_isDate_66 : decode cX10_isDate 66 = .ok (.iconst 0, 1) := by decide +kernel
theorem dX10_isDate_67 : decode cX10_isDate 67 = .ok (.ireturn, 1) := by decide +kernel
theorem dX10_monthLength_0 : decode cX10_monthLength 0 = .ok (.iload_n 2, 1) := by decide +kernel
theorem dX10_monthLength_1 : decode cX10_monthLength 1 = .ok (.iconst 2, 1) := by decide +kernel
theorem dX10_monthLength_2 : decode cX10_monthLength 2 = .ok (.if_icmp .ne 42, 3) := by decide +kernel
theorem dX10_monthLength_5 : decode cX10_monthLength 5 = .ok (.iload_n 1, 1) := by decide +kernel
theorem dX10_monthLength_6 : decode cX10_monthLength 6 = .ok (.iconst 4, 1) := by decide +kernel
theorem dX10_monthLength_7 : decode cX10_monthLength 7 = .ok (.irem, 1) := by decide +kernel
theorem dX10_monthLength_8 : decode cX10_monthLength 8 = .ok (.ifCond .ne 22, 3) := by decide +kernel
theorem dX10_monthLength_11 : decode cX10_monthLength 11 = .ok (.iload_n 1, 1) := by decide +kernel
theorem dX10_monthLength_12 : decode cX10_monthLength 12 = .ok (.bipush 100, 2) := by decide +kernel
theorem dX10_monthLength_14 : decode cX10_monthLength 14 = .ok (.irem, 1) := by decide +kernel
theorem dX10_monthLength_15 : decode cX10_monthLength 15 = .ok (.ifCond .ne 11, 3) := by decide +kernel
theorem dX10_monthLength_18 : decode cX10_monthLength 18 = .ok (.iload_n 1, 1) := by decide +kernel
theorem dX10_monthLength_19 : decode cX10_monthLength 19 = .ok (.sipush 400, 3) := by decide +kernel
theorem dX10_monthLength_22 : decode cX10_monthLength 22 = .ok (.irem, 1) := by decide +kernel
theorem dX10_monthLength_23 : decode cX10_monthLength 23 = .ok (.ifCond .ne 7, 3) := by decide +kernel
theorem dX10_monthLength_26 : decode cX10_monthLength 26 = .ok (.iconst 1, 1) := by decide +kernel
theorem dX10_monthLength_27 : decode cX10_monthLength 27 = .ok (.goto 4, 3) := by decide +kernel
theorem dX10_monthLength_30 : decode cX10_monthLength 30 = .ok (.iconst 0, 1) := by decide +kernel
theorem dX10_monthLength_31 : decode cX10_monthLength 31 = .ok (.istore_n 3, 1) := by decide +kernel
theorem dX10_monthLength_32 : decode cX10_monthLength 32 = .ok (.iload_n 3, 1) := by decide +kernel
theorem dX10_monthLength_33 : decode cX10_monthLength 33 = .ok (.ifCond .eq 8, 3) := by decide +kernel
theorem dX10_monthLength_36 : decode cX10_monthLength 36 = .ok (.bipush 29, 2) := by decide +kernel
theorem dX10_monthLength_38 : decode cX10_monthLength 38 = .ok (.goto 5, 3) := by decide +kernel
theorem dX10_monthLength_41 : decode cX10_monthLength 41 = .ok (.bipush 28, 2) := by decide +kernel
theorem dX10_monthLength_43 : decode cX10_monthLength 43 = .ok (.ireturn, 1) := by decide +kernel
theorem dX10_monthLength_44 : decode cX10_monthLength 44 = .ok (.iload_n 2, 1) := by decide +kernel
theorem dX10_monthLength_45 : decode cX10_monthLength 45 = .ok (.iconst 4, 1) := by decide +kernel
theorem dX10_monthLength_46 : decode cX10_monthLength 46 = .ok (.if_icmp .eq 21, 3) := by decide +kernel
theorem dX10_monthLength_49 : decode cX10_monthLength 49 = .ok (.iload_n 2, 1) := by decide +kernel
theorem dX10_monthLength_50 : decode cX10_monthLength 50 = .ok (.bipush 6, 2) := by decide +kernel
theorem dX10_monthLength_52 : decode cX10_monthLength 52 = .ok (.if_icmp .eq 15, 3) := by decide +kernel
theorem dX10_monthLength_55 : decode cX10_monthLength 55 = .ok (.iload_n 2, 1) := by decide +kernel
theorem dX10_monthLength_56 : decode cX10_monthLength 56 = .ok (.bipush 9, 2) := by decide +kernel
theorem dX10_monthLength_58 : decode cX10_monthLength 58 = .ok (.if_icmp .eq 9, 3) := by decide +kernel
theorem dX10_monthLength_61 : decode cX10_monthLength 61 = .ok (.iload_n 2, 1) := by decide +kernel
theorem dX10_monthLength_62 : decode cX10_monthLength 62 = .ok (.bipush 11, 2) := by decide +kernel
theorem dX10_monthLength_64 : decode cX10_monthLength 64 = .ok (.if_icmp .ne 8, 3) := by decide +kernel
theorem dX10_monthLength_67 : decode cX10_monthLength 67 = .ok (.bipush 30, 2) := by decide +kernel
theorem dX10_monthLength_69 : decode cX10_monthLength 69 = .ok (.goto 5, 3) := by decide +kernel
theorem dX10_monthLength_72 : decode cX10_monthLength 72 = .ok (.bipush 31, 2) := by decide +kernel
theorem dX10_monthLength_74 : decode cX10_monthLength 74 = .ok (.ireturn, 1) := by decide +kernel
theorem dX10_serialOf_0 : decode cX10_serialOf 0 = .ok (.iload_n 1, 1) := by decide +kernel
theorem dX10_serialOf_1 : decode cX10_serialOf 1 = .ok (.bipush 100, 2) := by decide +kernel
theorem dX10_serialOf_3 : decode cX10_serialOf 3 = .ok (.idiv, 1) := by decide +kernel
theorem dX10_serialOf_4 : decode cX10_serialOf 4 = .ok (.bipush 100, 2) := by decide +kernel
theorem dX10_serialOf_6 : decode cX10_serialOf 6 = .ok (.irem, 1) := by decide +kernel
theorem dX10_serialOf_7 : decode cX10_serialOf 7 = .ok (.istore_n 2, 1) := by decide +kernel
theorem dX10_serialOf_8 : decode cX10_serialOf 8 = .ok (.iload_n 1, 1) := by decide +kernel
theorem dX10_serialOf_9 : decode cX10_serialOf 9 = .ok (.sipush 10000, 3) := by decide +kernel
theorem dX10_serialOf_12 : decode cX10_serialOf 12 = .ok (.idiv, 1) := by decide +kernel
theorem dX10_serialOf_13 : decode cX10_serialOf 13 = .ok (.iload_n 2, 1) := by decide +kernel
theorem dX10_serialOf_14 : decode cX10_serialOf 14 = .ok (.iconst 2, 1) := by decide +kernel
theorem dX10_serialOf_15 : decode cX10_serialOf 15 = .ok (.if_icmp .gt 7, 3) := by decide +kernel
theorem dX10_serialOf_18 : decode cX10_serialOf 18 = .ok (.iconst 1, 1) := by decide +kernel
theorem dX10_serialOf_19 : decode cX10_serialOf 19 = .ok (.goto 4, 3) := by decide +kernel
theorem dX10_serialOf_22 : decode cX10_serialOf 22 = .ok (.iconst 0, 1) := by decide +kernel
theorem dX10_serialOf_23 : decode cX10_serialOf 23 = .ok (.isub, 1) := by decide +kernel
theorem dX10_serialOf_24 : decode cX10_serialOf 24 = .ok (.istore_n 3, 1) := by decide +kernel
theorem dX10_serialOf_25 : decode cX10_serialOf 25 = .ok (.iload_n 3, 1) := by decide +kernel
theorem dX10_serialOf_26 : decode cX10_serialOf 26 = .ok (.sipush 400, 3) := by decide +kernel
theorem dX10_serialOf_29 : decode cX10_serialOf 29 = .ok (.irem, 1) := by decide +kernel
theorem dX10_serialOf_30 : decode cX10_serialOf 30 = .ok (.istore 4, 2) := by decide +kernel
theorem dX10_serialOf_32 : decode cX10_serialOf 32 = .ok (.iload_n 2, 1) := by decide +kernel
theorem dX10_serialOf_33 : decode cX10_serialOf 33 = .ok (.bipush 9, 2) := by decide +kernel
theorem dX10_serialOf_35 : decode cX10_serialOf 35 = .ok (.iadd, 1) := by decide +kernel
theorem dX10_serialOf_36 : decode cX10_serialOf 36 = .ok (.bipush 12, 2) := by decide +kernel
theorem dX10_serialOf_38 : decode cX10_serialOf 38 = .ok (.irem, 1) := by decide +kernel
theorem dX10_serialOf_39 : decode cX10_serialOf 39 = .ok (.istore 5, 2) := by decide +kernel
theorem dX10_serialOf_41 : decode cX10_serialOf 41 = .ok (.sipush 153, 3) := by decide +kernel
theorem dX10_serialOf_44 : decode cX10_serialOf 44 = .ok (.iload 5, 2) := by decide +kernel
theorem dX10_serialOf_46 : decode cX10_serialOf 46 = .ok (.imul, 1) := by decide +kernel
theorem dX10_serialOf_47 : decode cX10_serialOf 47 = .ok (.iconst 2, 1) := by decide +kernel
theorem dX10_serialOf_48 : decode cX10_serialOf 48 = .ok (.iadd, 1) := by decide +kernel
theorem dX10_serialOf_49 : decode cX10_serialOf 49 = .ok (.iconst 5, 1) := by decide +kernel
theorem dX10_serialOf_50 : decode cX10_serialOf 50 = .ok (.idiv, 1) := by decide +kernel
theorem dX10_serialOf_51 : decode cX10_serialOf 51 = .ok (.iload_n 1, 1) := by decide +kernel
theorem dX10_serialOf_52 : decode cX10_serialOf 52 = .ok (.bipush 100, 2) := by decide +kernel
theorem dX10_serialOf_54 : decode cX10_serialOf 54 = .ok (.irem, 1) := by decide +kernel
theorem dX10_serialOf_55 : decode cX10_serialOf 55 = .ok (.iadd, 1) := by decide +kernel
theorem dX10_serialOf_56 : decode cX10_serialOf 56 = .ok (.iconst 1, 1) := by decide +kernel
theorem dX10_serialOf_57 : decode cX10_serialOf 57 = .ok (.isub, 1) := by decide +kernel
theorem dX10_serialOf_58 : decode cX10_serialOf 58 = .ok (.istore 6, 2) := by decide +kernel
theorem dX10_serialOf_60 : decode cX10_serialOf 60 = .ok (.iload_n 3, 1) := by decide +kernel
theorem dX10_serialOf_61 : decode cX10_serialOf 61 = .ok (.sipush 400, 3) := by decide +kernel
theorem dX10_serialOf_64 : decode cX10_serialOf 64 = .ok (.idiv, 1) := by decide +kernel
theorem dX10_serialOf_65 : decode cX10_serialOf 65 = .ok (.ldc 23, 2) := by decide +kernel
theorem dX10_serialOf_67 : decode cX10_serialOf 67 = .ok (.imul, 1) := by decide +kernel
theorem dX10_serialOf_68 : decode cX10_serialOf 68 = .ok (.iload 4, 2) := by decide +kernel
theorem dX10_serialOf_70 : decode cX10_serialOf 70 = .ok (.sipush 365, 3) := by decide +kernel
theorem dX10_serialOf_73 : decode cX10_serialOf 73 = .ok (.imul, 1) := by decide +kernel
theorem dX10_serialOf_74 : decode cX10_serialOf 74 = .ok (.iadd, 1) := by decide +kernel
theorem dX10_serialOf_75 : decode cX10_serialOf 75 = .ok (.iload 4, 2) := by decide +kernel
theorem dX10_serialOf_77 : decode cX10_serialOf 77 = .ok (.iconst 4, 1) := by decide +kernel
theorem dX10_serialOf_78 : decode cX10_serialOf 78 = .ok (.idiv, 1) := by decide +kernel
theorem dX10_serialOf_79 : decode cX10_serialOf 79 = .ok (.iadd, 1) := by decide +kernel
theorem dX10_serialOf_80 : decode cX10_serialOf 80 = .ok (.iload 4, 2) := by decide +kernel
theorem dX10_serialOf_82 : decode cX10_serialOf 82 = .ok (.bipush 100, 2) := by decide +kernel
theorem dX10_serialOf_84 : decode cX10_serialOf 84 = .ok (.idiv, 1) := by decide +kernel
theorem dX10_serialOf_85 : decode cX10_serialOf 85 = .ok (.isub, 1) := by decide +kernel
theorem dX10_serialOf_86 : decode cX10_serialOf 86 = .ok (.iload 6, 2) := by decide +kernel
theorem dX10_serialOf_88 : decode cX10_serialOf 88 = .ok (.iadd, 1) := by decide +kernel
theorem dX10_serialOf_89 : decode cX10_serialOf 89 = .ok (.ldc 24, 2) := by decide +kernel
theorem dX10_serialOf_91 : decode cX10_serialOf 91 = .ok (.isub, 1) := by decide +kernel
theorem dX10_serialOf_92 : decode cX10_serialOf 92 = .ok (.ireturn, 1) := by decide +kernel
theorem dX10_dateAt_0 : decode cX10_dateAt 0 = .ok (.iload_n 1, 1) := by decide +kernel
theorem dX10_dateAt_1 : decode cX10_dateAt 1 = .ok (.ldc 24, 2) := by decide +kernel
theorem dX10_dateAt_3 : decode cX10_dateAt 3 = .ok (.iadd, 1) := by decide +kernel
theorem dX10_dateAt_4 : decode cX10_dateAt 4 = .ok (.istore_n 2, 1) := by decide +kernel
theorem dX10_dateAt_5 : decode cX10_dateAt 5 = .ok (.iload_n 2, 1) := by decide +kernel
theorem dX10_dateAt_6 : decode cX10_dateAt 6 = .ok (.ldc 23, 2) := by decide +kernel
theorem dX10_dateAt_8 : decode cX10_dateAt 8 = .ok (.irem, 1) := by decide +kernel
theorem dX10_dateAt_9 : decode cX10_dateAt 9 = .ok (.istore_n 3, 1) := by decide +kernel
theorem dX10_dateAt_10 : decode cX10_dateAt 10 = .ok (.iload_n 3, 1) := by decide +kernel
theorem dX10_dateAt_11 : decode cX10_dateAt 11 = .ok (.iload_n 3, 1) := by decide +kernel
theorem dX10_dateAt_12 : decode cX10_dateAt 12 = .ok (.sipush 1460, 3) := by decide +kernel
theorem dX10_dateAt_15 : decode cX10_dateAt 15 = .ok (.idiv, 1) := by decide +kernel
theorem dX10_dateAt_16 : decode cX10_dateAt 16 = .ok (.isub, 1) := by decide +kernel
theorem dX10_dateAt_17 : decode cX10_dateAt 17 = .ok (.iload_n 3, 1) := by decide +kernel
theorem dX10_dateAt_18 : decode cX10_dateAt 18 = .ok (.ldc 25, 2) := by decide +kernel
theorem dX10_dateAt_20 : decode cX10_dateAt 20 = .ok (.idiv, 1) := by decide +kernel
theorem dX10_dateAt_21 : decode cX10_dateAt 21 = .ok (.iadd, 1) := by decide +kernel
theorem dX10_dateAt_22 : decode cX10_dateAt 22 = .ok (.iload_n 3, 1) := by decide +kernel
theorem dX10_dateAt_23 : decode cX10_dateAt 23 = .ok (.ldc 26, 2) := by decide +kernel
theorem dX10_dateAt_25 : decode cX10_dateAt 25 = .ok (.idiv, 1) := by decide +kernel
theorem dX10_dateAt_26 : decode cX10_dateAt 26 = .ok (.isub, 1) := by decide +kernel
theorem dX10_dateAt_27 : decode cX10_dateAt 27 = .ok (.sipush 365, 3) := by decide +kernel
theorem dX10_dateAt_30 : decode cX10_dateAt 30 = .ok (.idiv, 1) := by decide +kernel
theorem dX10_dateAt_31 : decode cX10_dateAt 31 = .ok (.istore 4, 2) := by decide +kernel
theorem dX10_dateAt_33 : decode cX10_dateAt 33 = .ok (.iload_n 3, 1) := by decide +kernel
theorem dX10_dateAt_34 : decode cX10_dateAt 34 = .ok (.sipush 365, 3) := by decide +kernel
theorem dX10_dateAt_37 : decode cX10_dateAt 37 = .ok (.iload 4, 2) := by decide +kernel
theorem dX10_dateAt_39 : decode cX10_dateAt 39 = .ok (.imul, 1) := by decide +kernel
theorem dX10_dateAt_40 : decode cX10_dateAt 40 = .ok (.iload 4, 2) := by decide +kernel
theorem dX10_dateAt_42 : decode cX10_dateAt 42 = .ok (.iconst 4, 1) := by decide +kernel
theorem dX10_dateAt_43 : decode cX10_dateAt 43 = .ok (.idiv, 1) := by decide +kernel
theorem dX10_dateAt_44 : decode cX10_dateAt 44 = .ok (.iadd, 1) := by decide +kernel
theorem dX10_dateAt_45 : decode cX10_dateAt 45 = .ok (.iload 4, 2) := by decide +kernel
theorem dX10_dateAt_47 : decode cX10_dateAt 47 = .ok (.bipush 100, 2) := by decide +kernel
theorem dX10_dateAt_49 : decode cX10_dateAt 49 = .ok (.idiv, 1) := by decide +kernel
theorem dX10_dateAt_50 : decode cX10_dateAt 50 = .ok (.isub, 1) := by decide +kernel
theorem dX10_dateAt_51 : decode cX10_dateAt 51 = .ok (.isub, 1) := by decide +kernel
theorem dX10_dateAt_52 : decode cX10_dateAt 52 = .ok (.istore 5, 2) := by decide +kernel
theorem dX10_dateAt_54 : decode cX10_dateAt 54 = .ok (.iconst 5, 1) := by decide +kernel
theorem dX10_dateAt_55 : decode cX10_dateAt 55 = .ok (.iload 5, 2) := by decide +kernel
theorem dX10_dateAt_57 : decode cX10_dateAt 57 = .ok (.imul, 1) := by decide +kernel
theorem dX10_dateAt_58 : decode cX10_dateAt 58 = .ok (.iconst 2, 1) := by decide +kernel
theorem dX10_dateAt_59 : decode cX10_dateAt 59 = .ok (.iadd, 1) := by decide +kernel
theorem dX10_dateAt_60 : decode cX10_dateAt 60 = .ok (.sipush 153, 3) := by decide +kernel
theorem dX10_dateAt_63 : decode cX10_dateAt 63 = .ok (.idiv, 1) := by decide +kernel
theorem dX10_dateAt_64 : decode cX10_dateAt 64 = .ok (.istore 6, 2) := by decide +kernel
theorem dX10_dateAt_66 : decode cX10_dateAt 66 = .ok (.iload 5, 2) := by decide +kernel
theorem dX10_dateAt_68 : decode cX10_dateAt 68 = .ok (.sipush 153, 3) := by decide +kernel
theorem dX10_dateAt_71 : decode cX10_dateAt 71 = .ok (.iload 6, 2) := by decide +kernel
theorem dX10_dateAt_73 : decode cX10_dateAt 73 = .ok (.imul, 1) := by decide +kernel
theorem dX10_dateAt_74 : decode cX10_dateAt 74 = .ok (.iconst 2, 1) := by decide +kernel
theorem dX10_dateAt_75 : decode cX10_dateAt 75 = .ok (.iadd, 1) := by decide +kernel
theorem dX10_dateAt_76 : decode cX10_dateAt 76 = .ok (.iconst 5, 1) := by decide +kernel
theorem dX10_dateAt_77 : decode cX10_dateAt 77 = .ok (.idiv, 1) := by decide +kernel
theorem dX10_dateAt_78 : decode cX10_dateAt 78 = .ok (.isub, 1) := by decide +kernel
theorem dX10_dateAt_79 : decode cX10_dateAt 79 = .ok (.iconst 1, 1) := by decide +kernel
theorem dX10_dateAt_80 : decode cX10_dateAt 80 = .ok (.iadd, 1) := by decide +kernel
theorem dX10_dateAt_81 : decode cX10_dateAt 81 = .ok (.istore 7, 2) := by decide +kernel
theorem dX10_dateAt_83 : decode cX10_dateAt 83 = .ok (.iload 6, 2) := by decide +kernel
theorem dX10_dateAt_85 : decode cX10_dateAt 85 = .ok (.bipush 10, 2) := by decide +kernel
theorem dX10_dateAt_87 : decode cX10_dateAt 87 = .ok (.if_icmp .ge 10, 3) := by decide +kernel
theorem dX10_dateAt_90 : decode cX10_dateAt 90 = .ok (.iload 6, 2) := by decide +kernel
theorem dX10_dateAt_92 : decode cX10_dateAt 92 = .ok (.iconst 3, 1) := by decide +kernel
theorem dX10_dateAt_93 : decode cX10_dateAt 93 = .ok (.iadd, 1) := by decide +kernel
theorem dX10_dateAt_94 : decode cX10_dateAt 94 = .ok (.goto 8, 3) := by decide +kernel
theorem dX10_dateAt_97 : decode cX10_dateAt 97 = .ok (.iload 6, 2) := by decide +kernel
theorem dX10_dateAt_99 : decode cX10_dateAt 99 = .ok (.bipush 9, 2) := by decide +kernel
theorem dX10_dateAt_101 : decode cX10_dateAt 101 = .ok (.isub, 1) := by decide +kernel
theorem dX10_dateAt_102 : decode cX10_dateAt 102 = .ok (.istore 8, 2) := by decide +kernel
theorem dX10_dateAt_104 : decode cX10_dateAt 104 = .ok (.iload_n 2, 1) := by decide +kernel
theorem dX10_dateAt_105 : decode cX10_dateAt 105 = .ok (.ldc 23, 2) := by decide +kernel
theorem dX10_dateAt_107 : decode cX10_dateAt 107 = .ok (.idiv, 1) := by decide +kernel
theorem dX10_dateAt_108 : decode cX10_dateAt 108 = .ok (.sipush 400, 3) := by decide +kernel
theorem dX10_dateAt_111 : decode cX10_dateAt 111 = .ok (.imul, 1) := by decide +kernel
theorem dX10_dateAt_112 : decode cX10_dateAt 112 = .ok (.iload 4, 2) := by decide +kernel
theorem dX10_dateAt_114 : decode cX10_dateAt 114 = .ok (.iadd, 1) := by decide +kernel
theorem dX10_dateAt_115 : decode cX10_dateAt 115 = .ok (.iload 8, 2) := by decide +kernel
theorem dX10_dateAt_117 : decode cX10_dateAt 117 = .ok (.iconst 2, 1) := by decide +kernel
theorem dX10_dateAt_118 : decode cX10_dateAt 118 = .ok (.if_icmp .gt 7, 3) := by decide +kernel
theorem dX10_dateAt_121 : decode cX10_dateAt 121 = .ok (.iconst 1, 1) := by decide +kernel
theorem dX10_dateAt_122 : decode cX10_dateAt 122 = .ok (.goto 4, 3) := by decide +kernel
theorem dX10_dateAt_125 : decode cX10_dateAt 125 = .ok (.iconst 0, 1) := by decide +kernel
theorem dX10_dateAt_126 : decode cX10_dateAt 126 = .ok (.iadd, 1) := by decide +kernel
theorem dX10_dateAt_127 : decode cX10_dateAt 127 = .ok (.istore 9, 2) := by decide +kernel
theorem dX10_dateAt_129 : decode cX10_dateAt 129 = .ok (.iload 9, 2) := by decide +kernel
theorem dX10_dateAt_131 : decode cX10_dateAt 131 = .ok (.sipush 10000, 3) := by decide +kernel
theorem dX10_dateAt_134 : decode cX10_dateAt 134 = .ok (.imul, 1) := by decide +kernel
theorem dX10_dateAt_135 : decode cX10_dateAt 135 = .ok (.iload 8, 2) := by decide +kernel
theorem dX10_dateAt_137 : decode cX10_dateAt 137 = .ok (.bipush 100, 2) := by decide +kernel
theorem dX10_dateAt_139 : decode cX10_dateAt 139 = .ok (.imul, 1) := by decide +kernel
theorem dX10_dateAt_140 : decode cX10_dateAt 140 = .ok (.iadd, 1) := by decide +kernel
theorem dX10_dateAt_141 : decode cX10_dateAt 141 = .ok (.iload 7, 2) := by decide +kernel
theorem dX10_dateAt_143 : decode cX10_dateAt 143 = .ok (.iadd, 1) := by decide +kernel
theorem dX10_dateAt_144 : decode cX10_dateAt 144 = .ok (.ireturn, 1) := by decide +kernel
set_option maxRecDepth 20000 in
theorem ggX10_weekday_J9_floorMod_7cf53 : GoodIn wsX10_weekday wsJ9_floorMod_7cf53 := goodIn_r _ [4] (by decide +kernel) (by decide +kernel)
set_option maxRecDepth 20000 in
theorem gX10_weekday_J9_floorMod_7cf53 : GoodIn wsX10_weekday (va_wsS RX10 27 yJ9_floorMod_7cf53 wsJ9_floorMod_7cf53) := goodIn_app (goodIn_of _ (by decide +kernel)) ggX10_weekday_J9_floorMod_7cf53
theorem dX10_weekday_0 : decode cX10_weekday 0 = .ok (.iload_n 1, 1) := by decide +kernel
theorem dX10_weekday_1 : decode cX10_weekday 1 = .ok (.iconst 4, 1) := by decide +kernel
theorem dX10_weekday_2 : decode cX10_weekday 2 = .ok (.isub, 1) := by decide +kernel
theorem dX10_weekday_3 : decode cX10_weekday 3 = .ok (.bipush 7, 2) := by decide +kernel
theorem dX10_weekday_5 : decode cX10_weekday 5 = .ok (.invokestatic 27, 3) := by decide +kernel
theorem dX10_weekday_8 : decode cX10_weekday 8 = .ok (.ireturn, 1) := by decide +kernel
set_option maxRecDepth 20000 in
theorem ggX10_beginAt_X10_dateAt : GoodIn wsX10_beginAt wsX10_dateAt := goodIn_r _ [8, 9, 10, 11, 12] (by decide +kernel) (by decide +kernel)
set_option maxRecDepth 20000 in
theorem gX10_beginAt_X10_dateAt : GoodIn wsX10_beginAt (wsV RX10 32 RX10 yX10_dateAt wsX10_dateAt) := goodIn_app (goodIn_of _ (by decide +kernel)) ggX10_beginAt_X10_dateAt
theorem dX10_beginAt_0 : decode cX10_beginAt 0 = .ok (.aload_n 0, 1) := by decide +kernel
theorem dX10_beginAt_1 : decode cX10_beginAt 1 = .ok (.aload_n 0, 1) := by decide +kernel
theorem dX10_beginAt_2 : decode cX10_beginAt 2 = .ok (.getfield 15, 3) := by decide +kernel
theorem dX10_beginAt_5 : decode cX10_beginAt 5 = .ok (.invokevirtual 32, 3) := by decide +kernel
theorem dX10_beginAt_8 : decode cX10_beginAt 8 = .ok (.istore_n 2, 1) := by decide +kernel
theorem dX10_beginAt_9 : decode cX10_beginAt 9 = .ok (.aload_n 0, 1) := by decide +kernel
theorem dX10_beginAt_10 : decode cX10_beginAt 10 = .ok (.iload_n 1, 1) := by decide +kernel
theorem dX10_beginAt_11 : decode cX10_beginAt 11 = .ok (.putfield 15, 3) := by decide +kernel
theorem dX10_beginAt_14 : decode cX10_beginAt 14 = .ok (.aload_n 0, 1) := by decide +kernel
theorem dX10_beginAt_15 : decode cX10_beginAt 15 = .ok (.iconst 0, 1) := by decide +kernel
theorem dX10_beginAt_16 : decode cX10_beginAt 16 = .ok (.putfield 36, 3) := by decide +kernel
theorem dX10_beginAt_19 : decode cX10_beginAt 19 = .ok (.iconst 0, 1) := by decide +kernel
theorem dX10_beginAt_20 : decode cX10_beginAt 20 = .ok (.istore_n 3, 1) := by decide +kernel
theorem dX10_beginAt_21 : decode cX10_beginAt 21 = .ok (.iload_n 3, 1) := by decide +kernel
theorem dX10_beginAt_22 : decode cX10_beginAt 22 = .ok (.sipush 280, 3) := by decide +kernel
theorem dX10_beginAt_25 : decode cX10_beginAt 25 = .ok (.if_icmp .ge 16, 3) := by decide +kernel
theorem dX10_beginAt_28 : decode cX10_beginAt 28 = .ok (.aload_n 0, 1) := by decide +kernel
theorem dX10_beginAt_29 : decode cX10_beginAt 29 = .ok (.getfield 11, 3) := by decide +kernel
theorem dX10_beginAt_32 : decode cX10_beginAt 32 = .ok (.iload_n 3, 1) := by decide +kernel
theorem dX10_beginAt_33 : decode cX10_beginAt 33 = .ok (.iconst 0, 1) := by decide +kernel
theorem dX10_beginAt_34 : decode cX10_beginAt 34 = .ok (.bastore, 1) := by decide +kernel
theorem dX10_beginAt_35 : decode cX10_beginAt 35 = .ok (.iinc 3 1, 3) := by decide +kernel
theorem dX10_beginAt_38 : decode cX10_beginAt 38 = .ok (.goto (-17), 3) := by decide +kernel
theorem dX10_beginAt_41 : decode cX10_beginAt 41 = .ok (.iload_n 2, 1) := by decide +kernel
theorem dX10_beginAt_42 : decode cX10_beginAt 42 = .ok (.ireturn, 1) := by decide +kernel
theorem dX10_addHoliday_0 : decode cX10_addHoliday 0 = .ok (.iload_n 1, 1) := by decide +kernel
theorem dX10_addHoliday_1 : decode cX10_addHoliday 1 = .ok (.aload_n 0, 1) := by decide +kernel
theorem dX10_addHoliday_2 : decode cX10_addHoliday 2 = .ok (.getfield 15, 3) := by decide +kernel
theorem dX10_addHoliday_5 : decode cX10_addHoliday 5 = .ok (.isub, 1) := by decide +kernel
theorem dX10_addHoliday_6 : decode cX10_addHoliday 6 = .ok (.iconst 0, 1) := by decide +kernel
theorem dX10_addHoliday_7 : decode cX10_addHoliday 7 = .ok (.invokestatic 39, 3) := by decide +kernel
theorem dX10_addHoliday_10 : decode cX10_addHoliday 10 = .ok (.istore_n 3, 1) := by decide +kernel
theorem dX10_addHoliday_11 : decode cX10_addHoliday 11 = .ok (.iload_n 3, 1) := by decide +kernel
theorem dX10_addHoliday_12 : decode cX10_addHoliday 12 = .ok (.sipush 280, 3) := by decide +kernel
theorem dX10_addHoliday_15 : decode cX10_addHoliday 15 = .ok (.if_icmp .ge 26, 3) := by decide +kernel
theorem dX10_addHoliday_18 : decode cX10_addHoliday 18 = .ok (.iload_n 3, 1) := by decide +kernel
theorem dX10_addHoliday_19 : decode cX10_addHoliday 19 = .ok (.iload_n 2, 1) := by decide +kernel
theorem dX10_addHoliday_20 : decode cX10_addHoliday 20 = .ok (.aload_n 0, 1) := by decide +kernel
theorem dX10_addHoliday_21 : decode cX10_addHoliday 21 = .ok (.getfield 15, 3) := by decide +kernel
theorem dX10_addHoliday_24 : decode cX10_addHoliday 24 = .ok (.isub, 1) := by decide +kernel
theorem dX10_addHoliday_25 : decode cX10_addHoliday 25 = .ok (.if_icmp .gt 16, 3) := by decide +kernel
theorem dX10_addHoliday_28 : decode cX10_addHoliday 28 = .ok (.aload_n 0, 1) := by decide +kernel
theorem dX10_addHoliday_29 : decode cX10_addHoliday 29 = .ok (.getfield 11, 3) := by decide +kernel
theorem dX10_addHoliday_32 : decode cX10_addHoliday 32 = .ok (.iload_n 3, 1) := by decide +kernel
theorem dX10_addHoliday_33 : decode cX10_addHoliday 33 = .ok (.iconst 1, 1) := by decide +kernel
theorem dX10_addHoliday_34 : decode cX10_addHoliday 34 = .ok (.bastore, 1) := by decide +kernel
theorem dX10_addHoliday_35 : decode cX10_addHoliday 35 = .ok (.iinc 3 1, 3) := by decide +kernel
theorem dX10_addHoliday_38 : decode cX10_addHoliday 38 = .ok (.goto (-27), 3) := by decide +kernel
theorem dX10_addHoliday_41 : decode cX10_addHoliday 41 = .ok (.aload_n 0, 1) := by decide +kernel
theorem dX10_addHoliday_42 : decode cX10_addHoliday 42 = .ok (.dup, 1) := by decide +kernel
theorem dX10_addHoliday_43 : decode cX10_addHoliday 43 = .ok (.getfield 36, 3) := by decide +kernel
theorem dX10_addHoliday_46 : decode cX10_addHoliday 46 = .ok (.iconst 1, 1) := by decide +kernel
theorem dX10_addHoliday_47 : decode cX10_addHoliday 47 = .ok (.iadd, 1) := by decide +kernel
theorem dX10_addHoliday_48 : decode cX10_addHoliday 48 = .ok (.putfield 36, 3) := by decide +kernel
theorem dX10_addHoliday_51 : decode cX10_addHoliday 51 = .ok (.aload_n 0, 1) := by decide +kernel
theorem dX10_addHoliday_52 : decode cX10_addHoliday 52 = .ok (.getfield 36, 3) := by decide +kernel
theorem dX10_addHoliday_55 : decode cX10_addHoliday 55 = .ok (.ireturn, 1) := by decide +kernel
theorem dX10_isSchoolDay_0 : decode cX10_isSchoolDay 0 = .ok (.iload_n 1, 1) := by decide +kernel
theorem dX10_isSchoolDay_1 : decode cX10_isSchoolDay 1 = .ok (.ifCond .lt 31, 3) := by decide +kernel
theorem dX10_isSchoolDay_4 : decode cX10_isSchoolDay 4 = .ok (.iload_n 1, 1) := by decide +kernel
theorem dX10_isSchoolDay_5 : decode cX10_isSchoolDay 5 = .ok (.sipush 280, 3) := by decide +kernel
theorem dX10_isSchoolDay_8 : decode cX10_isSchoolDay 8 = .ok (.if_icmp .ge 24, 3) := by decide +kernel
theorem dX10_isSchoolDay_11 : decode cX10_isSchoolDay 11 = .ok (.iload_n 1, 1) := by decide +kernel
theorem dX10_isSchoolDay_12 : decode cX10_isSchoolDay 12 = .ok (.bipush 7, 2) := by decide +kernel
theorem dX10_isSchoolDay_14 : decode cX10_isSchoolDay 14 = .ok (.irem, 1) := by decide +kernel
theorem dX10_isSchoolDay_15 : decode cX10_isSchoolDay 15 = .ok (.iconst 5, 1) := by decide +kernel
theorem dX10_isSchoolDay_16 : decode cX10_isSchoolDay 16 = .ok (.if_icmp .ge 16, 3) := by decide +kernel
theorem dX10_isSchoolDay_19 : decode cX10_isSchoolDay 19 = .ok (.aload_n 0, 1) := by decide +kernel
theorem dX10_isSchoolDay_20 : decode cX10_isSchoolDay 20 = .ok (.getfield 11, 3) := by decide +kernel
theorem dX10_isSchoolDay_23 : decode cX10_isSchoolDay 23 = .ok (.iload_n 1, 1) := by decide +kernel
theorem dX10_isSchoolDay_24 : decode cX10_isSchoolDay 24 = .ok (.baload, 1) := by decide +kernel
theorem dX10_isSchoolDay_25 : decode cX10_isSchoolDay 25 = .ok (.ifCond .ne 7, 3) := by decide +kernel
theorem dX10_isSchoolDay_28 : decode cX10_isSchoolDay 28 = .ok (.iconst 1, 1) := by decide +kernel
theorem dX10_isSchoolDay_29 : decode cX10_isSchoolDay 29 = .ok (.goto 4, 3) := by decide +kernel
theorem dX10_isSchoolDay_32 : decode cX10_isSchoolDay 32 = .ok (.iconst 0, 1) := by decide +kernel
theorem dX10_isSchoolDay_33 : decode cX10_isSchoolDay 33 = .ok (.ireturn, 1) := by decide +kernel
set_option maxRecDepth 20000 in
theorem ggX10_daysBetween_X10_isSchoolDay : GoodIn wsX10_daysBetween wsX10_isSchoolDay := goodIn_r _ [5, 6, 7, 8, 9] (by decide +kernel) (by decide +kernel)
set_option maxRecDepth 20000 in
theorem gX10_daysBetween_X10_isSchoolDay : GoodIn wsX10_daysBetween (wsV RX10 42 RX10 yX10_isSchoolDay wsX10_isSchoolDay) := goodIn_app (goodIn_of _ (by decide +kernel)) ggX10_daysBetween_X10_isSchoolDay
theorem dX10_daysBetween_0 : decode cX10_daysBetween 0 = .ok (.iconst 0, 1) := by decide +kernel
theorem dX10_daysBetween_1 : decode cX10_daysBetween 1 = .ok (.istore_n 3, 1) := by decide +kernel
theorem dX10_daysBetween_2 : decode cX10_daysBetween 2 = .ok (.iload_n 1, 1) := by decide +kernel
theorem dX10_daysBetween_3 : decode cX10_daysBetween 3 = .ok (.istore 4, 2) := by decide +kernel
theorem dX10_daysBetween_5 : decode cX10_daysBetween 5 = .ok (.iload 4, 2) := by decide +kernel
theorem dX10_daysBetween_7 : decode cX10_daysBetween 7 = .ok (.iload_n 2, 1) := by decide +kernel
theorem dX10_daysBetween_8 : decode cX10_daysBetween 8 = .ok (.if_icmp .ge 26, 3) := by decide +kernel
theorem dX10_daysBetween_11 : decode cX10_daysBetween 11 = .ok (.iload_n 3, 1) := by decide +kernel
theorem dX10_daysBetween_12 : decode cX10_daysBetween 12 = .ok (.aload_n 0, 1) := by decide +kernel
theorem dX10_daysBetween_13 : decode cX10_daysBetween 13 = .ok (.iload 4, 2) := by decide +kernel
theorem dX10_daysBetween_15 : decode cX10_daysBetween 15 = .ok (.invokevirtual 42, 3) := by decide +kernel
theorem dX10_daysBetween_18 : decode cX10_daysBetween 18 = .ok (.ifCond .eq 7, 3) := by decide +kernel
theorem dX10_daysBetween_21 : decode cX10_daysBetween 21 = .ok (.iconst 1, 1) := by decide +kernel
theorem dX10_daysBetween_22 : decode cX10_daysBetween 22 = .ok (.goto 4, 3) := by decide +kernel
theorem dX10_daysBetween_25 : decode cX10_daysBetween 25 = .ok (.iconst 0, 1) := by decide +kernel
theorem dX10_daysBetween_26 : decode cX10_daysBetween 26 = .ok (.iadd, 1) := by decide +kernel
theorem dX10_daysBetween_27 : decode cX10_daysBetween 27 = .ok (.istore_n 3, 1) := by decide +kernel
theorem dX10_daysBetween_28 : decode cX10_daysBetween 28 = .ok (.iinc 4 1, 3) := by decide +kernel
theorem dX10_daysBetween_31 : decode cX10_daysBetween 31 = .ok (.goto (-26), 3) := by decide +kernel
theorem dX10_daysBetween_34 : decode cX10_daysBetween 34 = .ok (.iload_n 3, 1) := by decide +kernel
theorem dX10_daysBetween_35 : decode cX10_daysBetween 35 = .ok (.ireturn, 1) := by decide +kernel
set_option maxRecDepth 20000 in
theorem ggX10_letterOf_X10_isSchoolWeek : GoodIn wsX10_letterOf wsX10_isSchoolWeek := goodIn_r _ [5, 6, 7, 8, 4, 9, 10, 11, 12, 13, 14, 15, 16, 17] (by decide +kernel) (by decide +kernel)
set_option maxRecDepth 20000 in
theorem gX10_letterOf_X10_isSchoolWeek : GoodIn wsX10_letterOf (wsV RX10 46 RX10 yX10_isSchoolWeek wsX10_isSchoolWeek) := goodIn_app (goodIn_of _ (by decide +kernel)) ggX10_letterOf_X10_isSchoolWeek
theorem dX10_letterOf_0 : decode cX10_letterOf 0 = .ok (.iconst 0, 1) := by decide +kernel
theorem dX10_letterOf_1 : decode cX10_letterOf 1 = .ok (.istore_n 2, 1) := by decide +kernel
theorem dX10_letterOf_2 : decode cX10_letterOf 2 = .ok (.iconst 0, 1) := by decide +kernel
theorem dX10_letterOf_3 : decode cX10_letterOf 3 = .ok (.istore_n 3, 1) := by decide +kernel
theorem dX10_letterOf_4 : decode cX10_letterOf 4 = .ok (.iload_n 3, 1) := by decide +kernel
theorem dX10_letterOf_5 : decode cX10_letterOf 5 = .ok (.iload_n 1, 1) := by decide +kernel
theorem dX10_letterOf_6 : decode cX10_letterOf 6 = .ok (.if_icmp .ge 25, 3) := by decide +kernel
theorem dX10_letterOf_9 : decode cX10_letterOf 9 = .ok (.iload_n 2, 1) := by decide +kernel
theorem dX10_letterOf_10 : decode cX10_letterOf 10 = .ok (.aload_n 0, 1) := by decide +kernel
theorem dX10_letterOf_11 : decode cX10_letterOf 11 = .ok (.iload_n 3, 1) := by decide +kernel
theorem dX10_letterOf_12 : decode cX10_letterOf 12 = .ok (.invokevirtual 46, 3) := by decide +kernel
theorem dX10_letterOf_15 : decode cX10_letterOf 15 = .ok (.ifCond .eq 7, 3) := by decide +kernel
theorem dX10_letterOf_18 : decode cX10_letterOf 18 = .ok (.iconst 1, 1) := by decide +kernel
theorem dX10_letterOf_19 : decode cX10_letterOf 19 = .ok (.goto 4, 3) := by decide +kernel
theorem dX10_letterOf_22 : decode cX10_letterOf 22 = .ok (.iconst 0, 1) := by decide +kernel
theorem dX10_letterOf_23 : decode cX10_letterOf 23 = .ok (.iadd, 1) := by decide +kernel
theorem dX10_letterOf_24 : decode cX10_letterOf 24 = .ok (.istore_n 2, 1) := by decide +kernel
theorem dX10_letterOf_25 : decode cX10_letterOf 25 = .ok (.iinc 3 1, 3) := by decide +kernel
theorem dX10_letterOf_28 : decode cX10_letterOf 28 = .ok (.goto (-24), 3) := by decide +kernel
theorem dX10_letterOf_31 : decode cX10_letterOf 31 = .ok (.aload_n 0, 1) := by decide +kernel
theorem dX10_letterOf_32 : decode cX10_letterOf 32 = .ok (.iload_n 1, 1) := by decide +kernel
theorem dX10_letterOf_33 : decode cX10_letterOf 33 = .ok (.invokevirtual 46, 3) := by decide +kernel
theorem dX10_letterOf_36 : decode cX10_letterOf 36 = .ok (.ifCond .eq 9, 3) := by decide +kernel
theorem dX10_letterOf_39 : decode cX10_letterOf 39 = .ok (.iload_n 2, 1) := by decide +kernel
theorem dX10_letterOf_40 : decode cX10_letterOf 40 = .ok (.iconst 2, 1) := by decide +kernel
theorem dX10_letterOf_41 : decode cX10_letterOf 41 = .ok (.irem, 1) := by decide +kernel
theorem dX10_letterOf_42 : decode cX10_letterOf 42 = .ok (.goto 4, 3) := by decide +kernel
theorem dX10_letterOf_45 : decode cX10_letterOf 45 = .ok (.iconst (-1), 1) := by decide +kernel
theorem dX10_letterOf_46 : decode cX10_letterOf 46 = .ok (.ireturn, 1) := by decide +kernel
set_option maxRecDepth 20000 in
theorem ggX10_isSchoolWeek_X10_daysBetween : GoodIn wsX10_isSchoolWeek wsX10_daysBetween := goodIn_r _ [5, 6, 7, 8, 4, 9, 10, 11, 12, 13] (by decide +kernel) (by decide +kernel)
set_option maxRecDepth 20000 in
theorem gX10_isSchoolWeek_X10_daysBetween : GoodIn wsX10_isSchoolWeek (wsV RX10 49 RX10 yX10_daysBetween wsX10_daysBetween) := goodIn_app (goodIn_of _ (by decide +kernel)) ggX10_isSchoolWeek_X10_daysBetween
theorem dX10_isSchoolWeek_0 : decode cX10_isSchoolWeek 0 = .ok (.aload_n 0, 1) := by decide +kernel
theorem dX10_isSchoolWeek_1 : decode cX10_isSchoolWeek 1 = .ok (.iload_n 1, 1) := by decide +kernel
theorem dX10_isSchoolWeek_2 : decode cX10_isSchoolWeek 2 = .ok (.bipush 7, 2) := by decide +kernel
theorem dX10_isSchoolWeek_4 : decode cX10_isSchoolWeek 4 = .ok (.imul, 1) := by decide +kernel
theorem dX10_isSchoolWeek_5 : decode cX10_isSchoolWeek 5 = .ok (.iload_n 1, 1) := by decide +kernel
theorem dX10_isSchoolWeek_6 : decode cX10_isSchoolWeek 6 = .ok (.bipush 7, 2) := by decide +kernel
theorem dX10_isSchoolWeek_8 : decode cX10_isSchoolWeek 8 = .ok (.imul, 1) := by decide +kernel
theorem dX10_isSchoolWeek_9 : decode cX10_isSchoolWeek 9 = .ok (.bipush 7, 2) := by decide +kernel
theorem dX10_isSchoolWeek_11 : decode cX10_isSchoolWeek 11 = .ok (.iadd, 1) := by decide +kernel
theorem dX10_isSchoolWeek_12 : decode cX10_isSchoolWeek 12 = .ok (.invokevirtual 49, 3) := by decide +kernel
theorem dX10_isSchoolWeek_15 : decode cX10_isSchoolWeek 15 = .ok (.ifCond .le 7, 3) := by decide +kernel
theorem dX10_isSchoolWeek_18 : decode cX10_isSchoolWeek 18 = .ok (.iconst 1, 1) := by decide +kernel
theorem dX10_isSchoolWeek_19 : decode cX10_isSchoolWeek 19 = .ok (.goto 4, 3) := by decide +kernel
theorem dX10_isSchoolWeek_22 : decode cX10_isSchoolWeek 22 = .ok (.iconst 0, 1) := by decide +kernel
theorem dX10_isSchoolWeek_23 : decode cX10_isSchoolWeek 23 = .ok (.ireturn, 1) := by decide +kernel
set_option maxRecDepth 20000 in
theorem ggX11_init_X8_init : GoodIn wsX11_init wsX8_init := goodIn_r _ [50, 51, 2, 3, 52, 53, 54, 123, 124] (by decide +kernel) (by decide +kernel)
set_option maxRecDepth 20000 in
theorem gX11_init_X8_init : GoodIn wsX11_init (wsX8_init) := ggX11_init_X8_init
set_option maxRecDepth 20000 in
theorem ggX11_init_X5_init : GoodIn wsX11_init wsX5_init := goodIn_r _ [56, 57, 2, 3, 52, 58, 136, 137, 138] (by decide +kernel) (by decide +kernel)
set_option maxRecDepth 20000 in
theorem gX11_init_X5_init_n18 : GoodIn wsX11_init (wsX5_init) := ggX11_init_X5_init
set_option maxRecDepth 20000 in
theorem ggX11_init_X7_init : GoodIn wsX11_init wsX7_init := goodIn_r _ [60, 61, 2, 3, 52, 62, 63, 64, 65, 66, 67, 68, 69, 70, 71, 72, 139, 140, 141, 142, 143, 144, 145, 146, 147, 148, 149, 150] (by decide +kernel) (by decide +kernel)
set_option maxRecDepth 20000 in
theorem gX11_init_X7_init_n25 : GoodIn wsX11_init (wsX7_init) := ggX11_init_X7_init
set_option maxRecDepth 20000 in
theorem ggX11_init_X4_init : GoodIn wsX11_init wsX4_init := goodIn_r _ [74, 75, 2, 3, 76, 13, 14, 77, 52, 78, 79, 80, 81, 82, 83, 59, 60, 61, 62, 63, 64, 65, 66, 67, 68, 69, 70, 71, 72, 139, 140, 141, 142, 143, 144, 145, 146, 147, 148, 149, 150, 151, 152, 153, 154, 155, 156, 157, 158] (by decide +kernel) (by decide +kernel)
set_option maxRecDepth 20000 in
theorem gX11_init_X4_init_n32 : GoodIn wsX11_init (wsX4_init) := ggX11_init_X4_init
set_option maxRecDepth 20000 in
theorem ggX11_init_X6_init : GoodIn wsX11_init wsX6_init := goodIn_r _ [85, 86, 2, 3, 52, 87, 88, 159, 160, 161] (by decide +kernel) (by decide +kernel)
set_option maxRecDepth 20000 in
theorem gX11_init_X6_init_n39 : GoodIn wsX11_init (wsX6_init) := ggX11_init_X6_init
set_option maxRecDepth 20000 in
theorem ggX11_init_X1_init : GoodIn wsX11_init wsX1_init := goodIn_r _ [90, 91, 2, 3, 52, 92, 162] (by decide +kernel) (by decide +kernel)
set_option maxRecDepth 20000 in
theorem gX11_init_X1_init_n46 : GoodIn wsX11_init (wsX1_init) := ggX11_init_X1_init
set_option maxRecDepth 20000 in
theorem ggX11_init_X2_init : GoodIn wsX11_init wsX2_init := goodIn_r _ [94, 95, 2, 3, 52, 96, 97, 163, 164, 165, 166, 167] (by decide +kernel) (by decide +kernel)
set_option maxRecDepth 20000 in
theorem gX11_init_X2_init_n53 : GoodIn wsX11_init (wsX2_init) := ggX11_init_X2_init
set_option maxRecDepth 20000 in
theorem ggX11_init_X3_init : GoodIn wsX11_init wsX3_init := goodIn_r _ [99, 100, 2, 3, 52, 101, 168] (by decide +kernel) (by decide +kernel)
set_option maxRecDepth 20000 in
theorem gX11_init_X3_init_n60 : GoodIn wsX11_init (wsX3_init) := ggX11_init_X3_init
set_option maxRecDepth 20000 in
theorem ggX11_init_X0_init : GoodIn wsX11_init wsX0_init := goodIn_r _ [104, 105, 2, 3, 52, 106, 107, 108, 169, 170, 171] (by decide +kernel) (by decide +kernel)
set_option maxRecDepth 20000 in
theorem gX11_init_X0_init : GoodIn wsX11_init (wsX0_init) := ggX11_init_X0_init
set_option maxRecDepth 20000 in
theorem ggX11_init_X10_init : GoodIn wsX11_init wsX10_init := goodIn_r _ [110, 111, 2, 3, 112, 113, 114, 172, 173, 174] (by decide +kernel) (by decide +kernel)
set_option maxRecDepth 20000 in
theorem gX11_init_X10_init_n74 : GoodIn wsX11_init (wsX10_init) := ggX11_init_X10_init
set_option maxRecDepth 20000 in
theorem ggX11_init_X9_init : GoodIn wsX11_init wsX9_init := goodIn_r _ [116, 117, 2, 3, 52, 118, 119, 120, 121, 122, 175, 176, 177, 178, 179, 180, 181, 182] (by decide +kernel) (by decide +kernel)
set_option maxRecDepth 20000 in
theorem gX11_init_X9_init_n81 : GoodIn wsX11_init (wsX9_init) := ggX11_init_X9_init
theorem dX11_init_0 : decode cX11_init 0 = .ok (.aload_n 0, 1) := by decide +kernel
theorem dX11_init_1 : decode cX11_init 1 = .ok (.invokespecial 3, 3) := by decide +kernel
theorem dX11_init_4 : decode cX11_init 4 = .ok (.aload_n 0, 1) := by decide +kernel
theorem dX11_init_5 : decode cX11_init 5 = .ok (.new 9, 3) := by decide +kernel
theorem dX11_init_8 : decode cX11_init 8 = .ok (.dup, 1) := by decide +kernel
theorem dX11_init_9 : decode cX11_init 9 = .ok (.invokespecial 11, 3) := by decide +kernel
theorem dX11_init_12 : decode cX11_init 12 = .ok (.putfield 12, 3) := by decide +kernel
theorem dX11_init_15 : decode cX11_init 15 = .ok (.aload_n 0, 1) := by decide +kernel
theorem dX11_init_16 : decode cX11_init 16 = .ok (.new 16, 3) := by decide +kernel
theorem dX11_init_19 : decode cX11_init 19 = .ok (.dup, 1) := by decide +kernel
theorem dX11_init_20 : decode cX11_init 20 = .ok (.invokespecial 18, 3) := by decide +kernel
theorem dX11_init_23 : decode cX11_init 23 = .ok (.putfield 19, 3) := by decide +kernel
theorem dX11_init_26 : decode cX11_init 26 = .ok (.aload_n 0, 1) := by decide +kernel
theorem dX11_init_27 : decode cX11_init 27 = .ok (.new 23, 3) := by decide +kernel
theorem dX11_init_30 : decode cX11_init 30 = .ok (.dup, 1) := by decide +kernel
theorem dX11_init_31 : decode cX11_init 31 = .ok (.invokespecial 25, 3) := by decide +kernel
theorem dX11_init_34 : decode cX11_init 34 = .ok (.putfield 26, 3) := by decide +kernel
theorem dX11_init_37 : decode cX11_init 37 = .ok (.aload_n 0, 1) := by decide +kernel
theorem dX11_init_38 : decode cX11_init 38 = .ok (.new 30, 3) := by decide +kernel
theorem dX11_init_41 : decode cX11_init 41 = .ok (.dup, 1) := by decide +kernel
theorem dX11_init_42 : decode cX11_init 42 = .ok (.invokespecial 32, 3) := by decide +kernel
theorem dX11_init_45 : decode cX11_init 45 = .ok (.putfield 33, 3) := by decide +kernel
theorem dX11_init_48 : decode cX11_init 48 = .ok (.aload_n 0, 1) := by decide +kernel
theorem dX11_init_49 : decode cX11_init 49 = .ok (.new 37, 3) := by decide +kernel
theorem dX11_init_52 : decode cX11_init 52 = .ok (.dup, 1) := by decide +kernel
theorem dX11_init_53 : decode cX11_init 53 = .ok (.invokespecial 39, 3) := by decide +kernel
theorem dX11_init_56 : decode cX11_init 56 = .ok (.putfield 40, 3) := by decide +kernel
theorem dX11_init_59 : decode cX11_init 59 = .ok (.aload_n 0, 1) := by decide +kernel
theorem dX11_init_60 : decode cX11_init 60 = .ok (.new 44, 3) := by decide +kernel
theorem dX11_init_63 : decode cX11_init 63 = .ok (.dup, 1) := by decide +kernel
theorem dX11_init_64 : decode cX11_init 64 = .ok (.invokespecial 46, 3) := by decide +kernel
theorem dX11_init_67 : decode cX11_init 67 = .ok (.putfield 47, 3) := by decide +kernel
theorem dX11_init_70 : decode cX11_init 70 = .ok (.aload_n 0, 1) := by decide +kernel
theorem dX11_init_71 : decode cX11_init 71 = .ok (.new 51, 3) := by decide +kernel
theorem dX11_init_74 : decode cX11_init 74 = .ok (.dup, 1) := by decide +kernel
theorem dX11_init_75 : decode cX11_init 75 = .ok (.invokespecial 53, 3) := by decide +kernel
theorem dX11_init_78 : decode cX11_init 78 = .ok (.putfield 54, 3) := by decide +kernel
theorem dX11_init_81 : decode cX11_init 81 = .ok (.aload_n 0, 1) := by decide +kernel
theorem dX11_init_82 : decode cX11_init 82 = .ok (.new 58, 3) := by decide +kernel
theorem dX11_init_85 : decode cX11_init 85 = .ok (.dup, 1) := by decide +kernel
theorem dX11_init_86 : decode cX11_init 86 = .ok (.invokespecial 60, 3) := by decide +kernel
theorem dX11_init_89 : decode cX11_init 89 = .ok (.putfield 61, 3) := by decide +kernel
theorem dX11_init_92 : decode cX11_init 92 = .ok (.aload_n 0, 1) := by decide +kernel
theorem dX11_init_93 : decode cX11_init 93 = .ok (.new 65, 3) := by decide +kernel
theorem dX11_init_96 : decode cX11_init 96 = .ok (.dup, 1) := by decide +kernel
theorem dX11_init_97 : decode cX11_init 97 = .ok (.invokespecial 67, 3) := by decide +kernel
theorem dX11_init_100 : decode cX11_init 100 = .ok (.putfield 68, 3) := by decide +kernel
theorem dX11_init_103 : decode cX11_init 103 = .ok (.aload_n 0, 1) := by decide +kernel
theorem dX11_init_104 : decode cX11_init 104 = .ok (.new 72, 3) := by decide +kernel
theorem dX11_init_107 : decode cX11_init 107 = .ok (.dup, 1) := by decide +kernel
theorem dX11_init_108 : decode cX11_init 108 = .ok (.invokespecial 74, 3) := by decide +kernel
theorem dX11_init_111 : decode cX11_init 111 = .ok (.putfield 75, 3) := by decide +kernel
theorem dX11_init_114 : decode cX11_init 114 = .ok (.aload_n 0, 1) := by decide +kernel
theorem dX11_init_115 : decode cX11_init 115 = .ok (.new 79, 3) := by decide +kernel
theorem dX11_init_118 : decode cX11_init 118 = .ok (.dup, 1) := by decide +kernel
theorem dX11_init_119 : decode cX11_init 119 = .ok (.invokespecial 81, 3) := by decide +kernel
theorem dX11_init_122 : decode cX11_init 122 = .ok (.putfield 82, 3) := by decide +kernel
theorem dX11_init_125 : decode cX11_init 125 = .ok (.return_, 1) := by decide +kernel
set_option maxRecDepth 20000 in
theorem ggX11_lesson_X11_requireRange : GoodIn wsX11_lesson wsX11_requireRange := goodIn_ca (goodIn_r _ [10, 11, 12, 13, 9, 14, 1, 2] (by decide +kernel) (by decide +kernel)) (goodIn_sub (fun _ h => List.mem_cons_of_mem _ (List.mem_append_left _ (List.mem_append_right _ h))) (by decide +kernel))
set_option maxRecDepth 20000 in
theorem gX11_lesson_X11_requireRange : GoodIn wsX11_lesson (wsV RX11 86 RX11 yX11_requireRange wsX11_requireRange) := goodIn_app (goodIn_of _ (by decide +kernel)) ggX11_lesson_X11_requireRange
set_option maxRecDepth 20000 in
theorem ggX11_lesson_X8_subjectsOf : GoodIn wsX11_lesson wsX8_subjectsOf := goodIn_r _ [19, 20, 74, 75] (by decide +kernel) (by decide +kernel)
set_option maxRecDepth 20000 in
theorem gX11_lesson_X8_subjectsOf : GoodIn wsX11_lesson (wsV RX11 90 RX8 yX8_subjectsOf wsX8_subjectsOf) := goodIn_app (goodIn_of _ (by decide +kernel)) ggX11_lesson_X8_subjectsOf
set_option maxRecDepth 20000 in
theorem ggX11_lesson_X8_lessonTotal : GoodIn wsX11_lesson wsX8_lessonTotal := goodIn_r _ [24, 20, 74, 75] (by decide +kernel) (by decide +kernel)
set_option maxRecDepth 20000 in
theorem gX11_lesson_X8_lessonTotal : GoodIn wsX11_lesson (wsV RX11 101 RX8 yX8_lessonTotal wsX8_lessonTotal) := goodIn_app (goodIn_of _ (by decide +kernel)) ggX11_lesson_X8_lessonTotal
set_option maxRecDepth 20000 in
theorem ggX11_lesson_X11_beginChange : GoodIn wsX11_lesson wsX11_beginChange := goodIn_r _ [28, 29, 5, 30, 31, 32, 33, 34, 35, 36, 37, 38, 39, 40, 41, 42, 43, 44, 45, 46, 47, 48, 49, 50, 51, 52, 53, 54, 63, 64, 65, 66, 67, 68, 69, 70, 71, 72, 73, 74, 75, 76, 77, 78, 79, 80, 81, 82, 83, 84, 85, 86] (by decide +kernel) (by decide +kernel)
set_option maxRecDepth 20000 in
theorem gX11_lesson_X11_beginChange : GoodIn wsX11_lesson (wsV RX11 110 RX11 yX11_beginChange wsX11_beginChange) := goodIn_app (goodIn_of _ (by decide +kernel)) ggX11_lesson_X11_beginChange
set_option maxRecDepth 20000 in
theorem ggX11_lesson_X8_loseTable : GoodIn wsX11_lesson wsX8_loseTable := goodIn_r _ [58, 20, 74, 75] (by decide +kernel) (by decide +kernel)
set_option maxRecDepth 20000 in
theorem gX11_lesson_X8_loseTable : GoodIn wsX11_lesson (wsV RX11 113 RX8 yX8_loseTable wsX8_loseTable) := goodIn_app (goodIn_of _ (by decide +kernel)) ggX11_lesson_X8_loseTable
set_option maxRecDepth 20000 in
theorem ggX11_lesson_X8_addLesson : GoodIn wsX11_lesson wsX8_addLesson := goodIn_r _ [62, 20, 74, 75] (by decide +kernel) (by decide +kernel)
set_option maxRecDepth 20000 in
theorem gX11_lesson_X8_addLesson : GoodIn wsX11_lesson (wsV RX11 116 RX8 yX8_addLesson wsX8_addLesson) := goodIn_app (goodIn_of _ (by decide +kernel)) ggX11_lesson_X8_addLesson
theorem dX11_lesson_0 : decode cX11_lesson 0 = .ok (.aload_n 0, 1) := by decide +kernel
theorem dX11_lesson_1 : decode cX11_lesson 1 = .ok (.iload_n 1, 1) := by decide +kernel
theorem dX11_lesson_2 : decode cX11_lesson 2 = .ok (.iconst 4, 1) := by decide +kernel
theorem dX11_lesson_3 : decode cX11_lesson 3 = .ok (.invokevirtual 86, 3) := by decide +kernel
theorem dX11_lesson_6 : decode cX11_lesson 6 = .ok (.aload_n 0, 1) := by decide +kernel
theorem dX11_lesson_7 : decode cX11_lesson 7 = .ok (.iload_n 2, 1) := by decide +kernel
theorem dX11_lesson_8 : decode cX11_lesson 8 = .ok (.bipush 6, 2) := by decide +kernel
theorem dX11_lesson_10 : decode cX11_lesson 10 = .ok (.invokevirtual 86, 3) := by decide +kernel
theorem dX11_lesson_13 : decode cX11_lesson 13 = .ok (.aload_n 0, 1) := by decide +kernel
theorem dX11_lesson_14 : decode cX11_lesson 14 = .ok (.iload_n 3, 1) := by decide +kernel
theorem dX11_lesson_15 : decode cX11_lesson 15 = .ok (.bipush 6, 2) := by decide +kernel
theorem dX11_lesson_17 : decode cX11_lesson 17 = .ok (.invokevirtual 86, 3) := by decide +kernel
theorem dX11_lesson_20 : decode cX11_lesson 20 = .ok (.iload 4, 2) := by decide +kernel
theorem dX11_lesson_22 : decode cX11_lesson 22 = .ok (.iconst (-1), 1) := by decide +kernel
theorem dX11_lesson_23 : decode cX11_lesson 23 = .ok (.if_icmp .eq 10, 3) := by decide +kernel
theorem dX11_lesson_26 : decode cX11_lesson 26 = .ok (.aload_n 0, 1) := by decide +kernel
theorem dX11_lesson_27 : decode cX11_lesson 27 = .ok (.iload 4, 2) := by decide +kernel
theorem dX11_lesson_29 : decode cX11_lesson 29 = .ok (.iconst 3, 1) := by decide +kernel
theorem dX11_lesson_30 : decode cX11_lesson 30 = .ok (.invokevirtual 86, 3) := by decide +kernel
theorem dX11_lesson_33 : decode cX11_lesson 33 = .ok (.aload_n 0, 1) := by decide +kernel
theorem dX11_lesson_34 : decode cX11_lesson 34 = .ok (.getfield 12, 3) := by decide +kernel
theorem dX11_lesson_37 : decode cX11_lesson 37 = .ok (.iload_n 2, 1) := by decide +kernel
theorem dX11_lesson_38 : decode cX11_lesson 38 = .ok (.invokevirtual 90, 3) := by decide +kernel
theorem dX11_lesson_41 : decode cX11_lesson 41 = .ok (.iload_n 3, 1) := by decide +kernel
theorem dX11_lesson_42 : decode cX11_lesson 42 = .ok (.ishr, 1) := by decide +kernel
theorem dX11_lesson_43 : decode cX11_lesson 43 = .ok (.iconst 1, 1) := by decide +kernel
theorem dX11_lesson_44 : decode cX11_lesson 44 = .ok (.iand, 1) := by decide +kernel
theorem dX11_lesson_45 : decode cX11_lesson 45 = .ok (.ifCond .ne 13, 3) := by decide +kernel
theorem dX11_lesson_48 : decode cX11_lesson 48 = .ok (.new 94, 3) := by decide +kernel
theorem dX11_lesson_51 : decode cX11_lesson 51 = .ok (.dup, 1) := by decide +kernel
theorem dX11_lesson_52 : decode cX11_lesson 52 = .ok (.ldc 96, 2) := by decide +kernel
theorem dX11_lesson_54 : decode cX11_lesson 54 = .ok (.invokespecial 98, 3) := by decide +kernel
theorem dX11_lesson_57 : decode cX11_lesson 57 = .ok (.athrow, 1) := by decide +kernel
theorem dX11_lesson_58 : decode cX11_lesson 58 = .ok (.aload_n 0, 1) := by decide +kernel
theorem dX11_lesson_59 : decode cX11_lesson 59 = .ok (.getfield 12, 3) := by decide +kernel
theorem dX11_lesson_62 : decode cX11_lesson 62 = .ok (.invokevirtual 101, 3) := by decide +kernel
theorem dX11_lesson_65 : decode cX11_lesson 65 = .ok (.bipush 9, 2) := by decide +kernel
theorem dX11_lesson_67 : decode cX11_lesson 67 = .ok (.if_icmp .lt 13, 3) := by decide +kernel
theorem dX11_lesson_70 : decode cX11_lesson 70 = .ok (.new 105, 3) := by decide +kernel
theorem dX11_lesson_73 : decode cX11_lesson 73 = .ok (.dup, 1) := by decide +kernel
theorem dX11_lesson_74 : decode cX11_lesson 74 = .ok (.ldc 107, 2) := by decide +kernel
theorem dX11_lesson_76 : decode cX11_lesson 76 = .ok (.invokespecial 109, 3) := by decide +kernel
theorem dX11_lesson_79 : decode cX11_lesson 79 = .ok (.athrow, 1) := by decide +kernel
theorem dX11_lesson_80 : decode cX11_lesson 80 = .ok (.aload_n 0, 1) := by decide +kernel
theorem dX11_lesson_81 : decode cX11_lesson 81 = .ok (.invokevirtual 110, 3) := by decide +kernel
theorem dX11_lesson_84 : decode cX11_lesson 84 = .ok (.aload_n 0, 1) := by decide +kernel
theorem dX11_lesson_85 : decode cX11_lesson 85 = .ok (.getfield 12, 3) := by decide +kernel
theorem dX11_lesson_88 : decode cX11_lesson 88 = .ok (.invokevirtual 113, 3) := by decide +kernel
theorem dX11_lesson_91 : decode cX11_lesson 91 = .ok (.aload_n 0, 1) := by decide +kernel
theorem dX11_lesson_92 : decode cX11_lesson 92 = .ok (.getfield 12, 3) := by decide +kernel
theorem dX11_lesson_95 : decode cX11_lesson 95 = .ok (.iload_n 1, 1) := by decide +kernel
theorem dX11_lesson_96 : decode cX11_lesson 96 = .ok (.iload_n 2, 1) := by decide +kernel
theorem dX11_lesson_97 : decode cX11_lesson 97 = .ok (.iload_n 3, 1) := by decide +kernel
theorem dX11_lesson_98 : decode cX11_lesson 98 = .ok (.iload 4, 2) := by decide +kernel
theorem dX11_lesson_100 : decode cX11_lesson 100 = .ok (.iload 5, 2) := by decide +kernel
theorem dX11_lesson_102 : decode cX11_lesson 102 = .ok (.ifCond .eq 7, 3) := by decide +kernel
theorem dX11_lesson_105 : decode cX11_lesson 105 = .ok (.iconst 1, 1) := by decide +kernel
theorem dX11_lesson_106 : decode cX11_lesson 106 = .ok (.goto 4, 3) := by decide +kernel
theorem dX11_lesson_109 : decode cX11_lesson 109 = .ok (.iconst 0, 1) := by decide +kernel
theorem dX11_lesson_110 : decode cX11_lesson 110 = .ok (.invokevirtual 116, 3) := by decide +kernel
theorem dX11_lesson_113 : decode cX11_lesson 113 = .ok (.ireturn, 1) := by decide +kernel
set_option maxRecDepth 20000 in
theorem ggX11_lessons_X8_lessonTotal : GoodIn wsX11_lessons wsX8_lessonTotal := goodIn_r _ [6, 7, 19, 20] (by decide +kernel) (by decide +kernel)
set_option maxRecDepth 20000 in
theorem gX11_lessons_X8_lessonTotal : GoodIn wsX11_lessons (wsV RX11 101 RX8 yX8_lessonTotal wsX8_lessonTotal) := goodIn_app (goodIn_of _ (by decide +kernel)) ggX11_lessons_X8_lessonTotal
theorem dX11_lessons_0 : decode cX11_lessons 0 = .ok (.aload_n 0, 1) := by decide +kernel
theorem dX11_lessons_1 : decode cX11_lessons 1 = .ok (.getfield 12, 3) := by decide +kernel
theorem dX11_lessons_4 : decode cX11_lessons 4 = .ok (.invokevirtual 101, 3) := by decide +kernel
theorem dX11_lessons_7 : decode cX11_lessons 7 = .ok (.ireturn, 1) := by decide +kernel
set_option maxRecDepth 20000 in
theorem ggX11_setRooms_X11_requireRange : GoodIn wsX11_setRooms wsX11_requireRange := goodIn_ca (goodIn_r _ [6, 7, 8, 9, 5, 10, 11, 12] (by decide +kernel) (by decide +kernel)) (goodIn_sub (fun _ h => List.mem_cons_of_mem _ (List.mem_append_right _ h)) (by decide +kernel))
set_option maxRecDepth 20000 in
theorem gX11_setRooms_X11_requireRange : GoodIn wsX11_setRooms (wsV RX11 86 RX11 yX11_requireRange wsX11_requireRange) := goodIn_app (goodIn_of _ (by decide +kernel)) ggX11_setRooms_X11_requireRange
set_option maxRecDepth 20000 in
theorem ggX11_setRooms_X11_beginChange : GoodIn wsX11_setRooms wsX11_beginChange := goodIn_r _ [16, 17, 1, 18, 19, 20, 21, 22, 23, 24, 25, 26, 27, 28, 29, 30, 31, 32, 33, 34, 35, 36, 37, 38, 39, 40, 41, 42, 53, 54, 55, 56, 57, 58, 59, 60, 61, 62, 63, 64, 65, 66, 67, 68, 69, 70, 71, 72, 73, 74, 75, 76] (by decide +kernel) (by decide +kernel)
set_option maxRecDepth 20000 in
theorem gX11_setRooms_X11_beginChange : GoodIn wsX11_setRooms (wsV RX11 110 RX11 yX11_beginChange wsX11_beginChange) := goodIn_app (goodIn_of _ (by decide +kernel)) ggX11_setRooms_X11_beginChange
set_option maxRecDepth 20000 in
theorem ggX11_setRooms_X8_loseTable : GoodIn wsX11_setRooms wsX8_loseTable := goodIn_r _ [47, 48, 64, 65] (by decide +kernel) (by decide +kernel)
set_option maxRecDepth 20000 in
theorem gX11_setRooms_X8_loseTable : GoodIn wsX11_setRooms (wsV RX11 113 RX8 yX8_loseTable wsX8_loseTable) := goodIn_app (goodIn_of _ (by decide +kernel)) ggX11_setRooms_X8_loseTable
set_option maxRecDepth 20000 in
theorem ggX11_setRooms_X8_putRooms : GoodIn wsX11_setRooms wsX8_putRooms := goodIn_r _ [52, 48, 64, 65] (by decide +kernel) (by decide +kernel)
set_option maxRecDepth 20000 in
theorem gX11_setRooms_X8_putRooms : GoodIn wsX11_setRooms (wsV RX11 139 RX8 yX8_putRooms wsX8_putRooms) := goodIn_app (goodIn_of _ (by decide +kernel)) ggX11_setRooms_X8_putRooms
theorem dX11_setRooms_0 : decode cX11_setRooms 0 = .ok (.aload_n 0, 1) := by decide +kernel
theorem dX11_setRooms_1 : decode cX11_setRooms 1 = .ok (.iload_n 1, 1) := by decide +kernel
theorem dX11_setRooms_2 : decode cX11_setRooms 2 = .ok (.iconst 3, 1) := by decide +kernel
theorem dX11_setRooms_3 : decode cX11_setRooms 3 = .ok (.invokevirtual 86, 3) := by decide +kernel
theorem dX11_setRooms_6 : decode cX11_setRooms 6 = .ok (.aload_n 0, 1) := by decide +kernel
theorem dX11_setRooms_7 : decode cX11_setRooms 7 = .ok (.iload_n 2, 1) := by decide +kernel
theorem dX11_setRooms_8 : decode cX11_setRooms 8 = .ok (.iconst 4, 1) := by decide +kernel
theorem dX11_setRooms_9 : decode cX11_setRooms 9 = .ok (.invokevirtual 86, 3) := by decide +kernel
theorem dX11_setRooms_12 : decode cX11_setRooms 12 = .ok (.aload_n 0, 1) := by decide +kernel
theorem dX11_setRooms_13 : decode cX11_setRooms 13 = .ok (.invokevirtual 110, 3) := by decide +kernel
theorem dX11_setRooms_16 : decode cX11_setRooms 16 = .ok (.aload_n 0, 1) := by decide +kernel
theorem dX11_setRooms_17 : decode cX11_setRooms 17 = .ok (.getfield 12, 3) := by decide +kernel
theorem dX11_setRooms_20 : decode cX11_setRooms 20 = .ok (.invokevirtual 113, 3) := by decide +kernel
theorem dX11_setRooms_23 : decode cX11_setRooms 23 = .ok (.aload_n 0, 1) := by decide +kernel
theorem dX11_setRooms_24 : decode cX11_setRooms 24 = .ok (.getfield 12, 3) := by decide +kernel
theorem dX11_setRooms_27 : decode cX11_setRooms 27 = .ok (.iload_n 1, 1) := by decide +kernel
theorem dX11_setRooms_28 : decode cX11_setRooms 28 = .ok (.iload_n 2, 1) := by decide +kernel
theorem dX11_setRooms_29 : decode cX11_setRooms 29 = .ok (.invokevirtual 139, 3) := by decide +kernel
theorem dX11_setRooms_32 : decode cX11_setRooms 32 = .ok (.ireturn, 1) := by decide +kernel
set_option maxRecDepth 20000 in
theorem ggX11_wish_X11_requireRange : GoodIn wsX11_wish wsX11_requireRange := goodIn_ca (goodIn_r _ [10, 11, 12, 13, 9, 14, 1, 2] (by decide +kernel) (by decide +kernel)) (goodIn_sub (fun _ h => List.mem_cons_of_mem _ (List.mem_append_left _ (List.mem_append_left _ (List.mem_append_right _ h)))) (by decide +kernel))
set_option maxRecDepth 20000 in
theorem gX11_wish_X11_requireRange : GoodIn wsX11_wish (wsV RX11 86 RX11 yX11_requireRange wsX11_requireRange) := goodIn_app (goodIn_of _ (by decide +kernel)) ggX11_wish_X11_requireRange
set_option maxRecDepth 20000 in
theorem ggX11_wish_X11_requireLesson : GoodIn wsX11_wish wsX11_requireLesson := goodIn_ca (goodIn_r _ [18, 19, 20, 5, 21, 22, 23, 24, 25, 26, 69, 70, 71, 72, 73, 74, 75, 76, 77, 78, 79, 80, 81] (by decide +kernel) (by decide +kernel)) (goodIn_sub (fun _ h => List.mem_cons_of_mem _ (List.mem_append_right _ h)) (by decide +kernel))
set_option maxRecDepth 20000 in
theorem gX11_wish_X11_requireLesson : GoodIn wsX11_wish (wsV RX11 120 RX11 yX11_requireLesson wsX11_requireLesson) := goodIn_app (goodIn_of _ (by decide +kernel)) ggX11_wish_X11_requireLesson
set_option maxRecDepth 20000 in
theorem ggX11_wish_X8_wishTotal : GoodIn wsX11_wish wsX8_wishTotal := goodIn_r _ [30, 26, 80, 81] (by decide +kernel) (by decide +kernel)
set_option maxRecDepth 20000 in
theorem gX11_wish_X8_wishTotal : GoodIn wsX11_wish (wsV RX11 144 RX8 yX8_wishTotal wsX8_wishTotal) := goodIn_app (goodIn_of _ (by decide +kernel)) ggX11_wish_X8_wishTotal
set_option maxRecDepth 20000 in
theorem ggX11_wish_X11_beginChange : GoodIn wsX11_wish wsX11_beginChange := goodIn_r _ [34, 35, 5, 36, 37, 38, 39, 40, 41, 42, 43, 44, 45, 46, 47, 48, 49, 50, 51, 52, 53, 54, 55, 56, 57, 58, 59, 60, 69, 70, 71, 72, 73, 74, 75, 76, 77, 78, 79, 80, 81, 82, 83, 84, 85, 86, 87, 88, 89, 90, 91, 92] (by decide +kernel) (by decide +kernel)
set_option maxRecDepth 20000 in
theorem gX11_wish_X11_beginChange : GoodIn wsX11_wish (wsV RX11 110 RX11 yX11_beginChange wsX11_beginChange) := goodIn_app (goodIn_of _ (by decide +kernel)) ggX11_wish_X11_beginChange
set_option maxRecDepth 20000 in
theorem ggX11_wish_X8_loseTable : GoodIn wsX11_wish wsX8_loseTable := goodIn_r _ [64, 26, 80, 81] (by decide +kernel) (by decide +kernel)
set_option maxRecDepth 20000 in
theorem gX11_wish_X8_loseTable : GoodIn wsX11_wish (wsV RX11 113 RX8 yX8_loseTable wsX8_loseTable) := goodIn_app (goodIn_of _ (by decide +kernel)) ggX11_wish_X8_loseTable
set_option maxRecDepth 20000 in
theorem ggX11_wish_X8_addWish : GoodIn wsX11_wish wsX8_addWish := goodIn_r _ [68, 26, 80, 81] (by decide +kernel) (by decide +kernel)
set_option maxRecDepth 20000 in
theorem gX11_wish_X8_addWish : GoodIn wsX11_wish (wsV RX11 149 RX8 yX8_addWish wsX8_addWish) := goodIn_app (goodIn_of _ (by decide +kernel)) ggX11_wish_X8_addWish
theorem dX11_wish_0 : decode cX11_wish 0 = .ok (.aload_n 0, 1) := by decide +kernel
theorem dX11_wish_1 : decode cX11_wish 1 = .ok (.iload_n 1, 1) := by decide +kernel
theorem dX11_wish_2 : decode cX11_wish 2 = .ok (.bipush 7, 2) := by decide +kernel
theorem dX11_wish_4 : decode cX11_wish 4 = .ok (.invokevirtual 86, 3) := by decide +kernel
theorem dX11_wish_7 : decode cX11_wish 7 = .ok (.aload_n 0, 1) := by decide +kernel
theorem dX11_wish_8 : decode cX11_wish 8 = .ok (.iload 4, 2) := by decide +kernel
theorem dX11_wish_10 : decode cX11_wish 10 = .ok (.bipush 10, 2) := by decide +kernel
theorem dX11_wish_12 : decode cX11_wish 12 = .ok (.invokevirtual 86, 3) := by decide +kernel
theorem dX11_wish_15 : decode cX11_wish 15 = .ok (.iload_n 1, 1) := by decide +kernel
theorem dX11_wish_16 : decode cX11_wish 16 = .ok (.ifCond .eq 8, 3) := by decide +kernel
theorem dX11_wish_19 : decode cX11_wish 19 = .ok (.iload_n 1, 1) := by decide +kernel
theorem dX11_wish_20 : decode cX11_wish 20 = .ok (.iconst 1, 1) := by decide +kernel
theorem dX11_wish_21 : decode cX11_wish 21 = .ok (.if_icmp .ne 28, 3) := by decide +kernel
theorem dX11_wish_24 : decode cX11_wish 24 = .ok (.aload_n 0, 1) := by decide +kernel
theorem dX11_wish_25 : decode cX11_wish 25 = .ok (.iload_n 2, 1) := by decide +kernel
theorem dX11_wish_26 : decode cX11_wish 26 = .ok (.iload_n 1, 1) := by decide +kernel
theorem dX11_wish_27 : decode cX11_wish 27 = .ok (.ifCond .ne 8, 3) := by decide +kernel
theorem dX11_wish_30 : decode cX11_wish 30 = .ok (.bipush 6, 2) := by decide +kernel
theorem dX11_wish_32 : decode cX11_wish 32 = .ok (.goto 4, 3) := by decide +kernel
theorem dX11_wish_35 : decode cX11_wish 35 = .ok (.iconst 4, 1) := by decide +kernel
theorem dX11_wish_36 : decode cX11_wish 36 = .ok (.invokevirtual 86, 3) := by decide +kernel
theorem dX11_wish_39 : decode cX11_wish 39 = .ok (.aload_n 0, 1) := by decide +kernel
theorem dX11_wish_40 : decode cX11_wish 40 = .ok (.iload_n 3, 1) := by decide +kernel
theorem dX11_wish_41 : decode cX11_wish 41 = .ok (.bipush 20, 2) := by decide +kernel
theorem dX11_wish_43 : decode cX11_wish 43 = .ok (.invokevirtual 86, 3) := by decide +kernel
theorem dX11_wish_46 : decode cX11_wish 46 = .ok (.goto 62, 3) := by decide +kernel
theorem dX11_wish_49 : decode cX11_wish 49 = .ok (.iload_n 1, 1) := by decide +kernel
theorem dX11_wish_50 : decode cX11_wish 50 = .ok (.iconst 2, 1) := by decide +kernel
theorem dX11_wish_51 : decode cX11_wish 51 = .ok (.if_icmp .eq 8, 3) := by decide +kernel
theorem dX11_wish_54 : decode cX11_wish 54 = .ok (.iload_n 1, 1) := by decide +kernel
theorem dX11_wish_55 : decode cX11_wish 55 = .ok (.iconst 3, 1) := by decide +kernel
theorem dX11_wish_56 : decode cX11_wish 56 = .ok (.if_icmp .ne 27, 3) := by decide +kernel
theorem dX11_wish_59 : decode cX11_wish 59 = .ok (.aload_n 0, 1) := by decide +kernel
theorem dX11_wish_60 : decode cX11_wish 60 = .ok (.iload_n 3, 1) := by decide +kernel
theorem dX11_wish_61 : decode cX11_wish 61 = .ok (.iload_n 1, 1) := by decide +kernel
theorem dX11_wish_62 : decode cX11_wish 62 = .ok (.iconst 2, 1) := by decide +kernel
theorem dX11_wish_63 : decode cX11_wish 63 = .ok (.if_icmp .ne 7, 3) := by decide +kernel
theorem dX11_wish_66 : decode cX11_wish 66 = .ok (.iconst 5, 1) := by decide +kernel
theorem dX11_wish_67 : decode cX11_wish 67 = .ok (.goto 5, 3) := by decide +kernel
theorem dX11_wish_70 : decode cX11_wish 70 = .ok (.bipush 20, 2) := by decide +kernel
theorem dX11_wish_72 : decode cX11_wish 72 = .ok (.invokevirtual 86, 3) := by decide +kernel
theorem dX11_wish_75 : decode cX11_wish 75 = .ok (.aload_n 0, 1) := by decide +kernel
theorem dX11_wish_76 : decode cX11_wish 76 = .ok (.iload_n 2, 1) := by decide +kernel
theorem dX11_wish_77 : decode cX11_wish 77 = .ok (.invokevirtual 120, 3) := by decide +kernel
theorem dX11_wish_80 : decode cX11_wish 80 = .ok (.goto 28, 3) := by decide +kernel
theorem dX11_wish_83 : decode cX11_wish 83 = .ok (.iload_n 2, 1) := by decide +kernel
theorem dX11_wish_84 : decode cX11_wish 84 = .ok (.iload_n 3, 1) := by decide +kernel
theorem dX11_wish_85 : decode cX11_wish 85 = .ok (.if_icmp .ne 13, 3) := by decide +kernel
theorem dX11_wish_88 : decode cX11_wish 88 = .ok (.new 94, 3) := by decide +kernel
theorem dX11_wish_91 : decode cX11_wish 91 = .ok (.dup, 1) := by decide +kernel
theorem dX11_wish_92 : decode cX11_wish 92 = .ok (.ldc 142, 2) := by decide +kernel
theorem dX11_wish_94 : decode cX11_wish 94 = .ok (.invokespecial 98, 3) := by decide +kernel
theorem dX11_wish_97 : decode cX11_wish 97 = .ok (.athrow, 1) := by decide +kernel
theorem dX11_wish_98 : decode cX11_wish 98 = .ok (.aload_n 0, 1) := by decide +kernel
theorem dX11_wish_99 : decode cX11_wish 99 = .ok (.iload_n 2, 1) := by decide +kernel
theorem dX11_wish_100 : decode cX11_wish 100 = .ok (.invokevirtual 120, 3) := by decide +kernel
theorem dX11_wish_103 : decode cX11_wish 103 = .ok (.aload_n 0, 1) := by decide +kernel
theorem dX11_wish_104 : decode cX11_wish 104 = .ok (.iload_n 3, 1) := by decide +kernel
theorem dX11_wish_105 : decode cX11_wish 105 = .ok (.invokevirtual 120, 3) := by decide +kernel
theorem dX11_wish_108 : decode cX11_wish 108 = .ok (.aload_n 0, 1) := by decide +kernel
theorem dX11_wish_109 : decode cX11_wish 109 = .ok (.getfield 12, 3) := by decide +kernel
theorem dX11_wish_112 : decode cX11_wish 112 = .ok (.invokevirtual 144, 3) := by decide +kernel
theorem dX11_wish_115 : decode cX11_wish 115 = .ok (.bipush 12, 2) := by decide +kernel
theorem dX11_wish_117 : decode cX11_wish 117 = .ok (.if_icmp .lt 13, 3) := by decide +kernel
theorem dX11_wish_120 : decode cX11_wish 120 = .ok (.new 105, 3) := by decide +kernel
theorem dX11_wish_123 : decode cX11_wish 123 = .ok (.dup, 1) := by decide +kernel
theorem dX11_wish_124 : decode cX11_wish 124 = .ok (.ldc 147, 2) := by decide +kernel
theorem dX11_wish_126 : decode cX11_wish 126 = .ok (.invokespecial 109, 3) := by decide +kernel
theorem dX11_wish_129 : decode cX11_wish 129 = .ok (.athrow, 1) := by decide +kernel
theorem dX11_wish_130 : decode cX11_wish 130 = .ok (.aload_n 0, 1) := by decide +kernel
theorem dX11_wish_131 : decode cX11_wish 131 = .ok (.invokevirtual 110, 3) := by decide +kernel
theorem dX11_wish_134 : decode cX11_wish 134 = .ok (.aload_n 0, 1) := by decide +kernel
theorem dX11_wish_135 : decode cX11_wish 135 = .ok (.getfield 12, 3) := by decide +kernel
theorem dX11_wish_138 : decode cX11_wish 138 = .ok (.invokevirtual 113, 3) := by decide +kernel
theorem dX11_wish_141 : decode cX11_wish 141 = .ok (.aload_n 0, 1) := by decide +kernel
theorem dX11_wish_142 : decode cX11_wish 142 = .ok (.getfield 12, 3) := by decide +kernel
theorem dX11_wish_145 : decode cX11_wish 145 = .ok (.iload_n 1, 1) := by decide +kernel
theorem dX11_wish_146 : decode cX11_wish 146 = .ok (.iload_n 2, 1) := by decide +kernel
theorem dX11_wish_147 : decode cX11_wish 147 = .ok (.iload_n 3, 1) := by decide +kernel
theorem dX11_wish_148 : decode cX11_wish 148 = .ok (.iload 4, 2) := by decide +kernel
theorem dX11_wish_150 : decode cX11_wish 150 = .ok (.invokevirtual 149, 3) := by decide +kernel
theorem dX11_wish_153 : decode cX11_wish 153 = .ok (.ireturn, 1) := by decide +kernel
set_option maxRecDepth 20000 in
theorem ggX11_wishes_X8_wishTotal : GoodIn wsX11_wishes wsX8_wishTotal := goodIn_r _ [6, 7, 19, 20] (by decide +kernel) (by decide +kernel)
set_option maxRecDepth 20000 in
theorem gX11_wishes_X8_wishTotal : GoodIn wsX11_wishes (wsV RX11 144 RX8 yX8_wishTotal wsX8_wishTotal) := goodIn_app (goodIn_of _ (by decide +kernel)) ggX11_wishes_X8_wishTotal
theorem dX11_wishes_0 : decode cX11_wishes 0 = .ok (.aload_n 0, 1) := by decide +kernel
theorem dX11_wishes_1 : decode cX11_wishes 1 = .ok (.getfield 12, 3) := by decide +kernel
theorem dX11_wishes_4 : decode cX11_wishes 4 = .ok (.invokevirtual 144, 3) := by decide +kernel
theorem dX11_wishes_7 : decode cX11_wishes 7 = .ok (.ireturn, 1) := by decide +kernel
set_option maxRecDepth 20000 in
theorem ggX11_find_X4_seekFirst : GoodIn wsX11_find wsX4_seekFirst := goodIn_r _ [8, 9, 10, 11, 12, 13, 14, 15, 16, 17, 18, 19, 20, 21, 22, 23, 24, 25, 26, 27, 28, 29, 30, 31, 32, 33, 34, 35, 36, 37, 38, 39, 40, 41, 42, 43, 44, 45, 46, 47, 48, 49, 50, 51, 52, 53, 54, 55, 56, 57, 58, 59, 60, 61, 62, 63, 64, 65, 66, 67, 68, 69, 70, 71, 72, 73, 74, 75, 76, 77, 7, 78, 79, 80, 81, 82, 83, 84, 85, 86, 87, 88, 89, 90, 91, 92, 93, 94, 95, 96, 97, 98, 99, 100, 101, 102, 103, 104, 105, 106, 107, 108, 109, 110, 111, 112, 113, 114, 115, 116, 117, 118, 119, 120, 121, 122, 123, 124, 125, 126, 127, 128, 129, 130, 131, 132, 133, 134, 135, 136, 137, 138, 139, 189, 190, 191, 192, 193, 194, 195, 196, 197, 198, 199, 200, 201, 202, 203, 204, 205, 206, 207, 208, 209, 210] (by decide +kernel) (by decide +kernel)
set_option maxRecDepth 20000 in
theorem gX11_find_X4_seekFirst : GoodIn wsX11_find (wsV RX11 162 RX4 yX4_seekFirst wsX4_seekFirst) := goodIn_app (goodIn_of _ (by decide +kernel)) ggX11_find_X4_seekFirst
set_option maxRecDepth 20000 in
theorem ggX11_find_X4_seekProof : GoodIn wsX11_find wsX4_seekProof := goodIn_r _ [143, 9, 144, 145, 13, 14, 15, 16, 17, 18, 19, 20, 21, 22, 23, 24, 25, 26, 146, 27, 28, 29, 30, 31, 32, 33, 34, 35, 36, 37, 38, 39, 40, 41, 42, 43, 44, 45, 46, 47, 48, 49, 50, 51, 52, 53, 54, 55, 56, 57, 58, 59, 60, 61, 62, 63, 64, 65, 66, 67, 68, 69, 70, 71, 72, 73, 74, 75, 76, 77, 7, 78, 10, 11, 79, 80, 81, 12, 82, 83, 84, 85, 86, 87, 88, 89, 90, 91, 92, 93, 94, 95, 96, 97, 98, 99, 100, 101, 102, 103, 104, 105, 106, 107, 108, 109, 110, 111, 112, 113, 114, 115, 116, 117, 118, 119, 120, 121, 122, 123, 124, 125, 126, 127, 128, 129, 130, 131, 132, 133, 134, 135, 136, 137, 138, 139, 189, 190, 191, 192, 193, 194, 195, 196, 209, 210, 197, 198, 199, 200, 201, 202, 203, 204, 205, 206, 207, 208] (by decide +kernel) (by decide +kernel)
set_option maxRecDepth 20000 in
theorem gX11_find_X4_seekProof : GoodIn wsX11_find (wsV RX11 166 RX4 yX4_seekProof wsX4_seekProof) := goodIn_app (goodIn_of _ (by decide +kernel)) ggX11_find_X4_seekProof
set_option maxRecDepth 20000 in
theorem ggX11_find_X11_beginChange : GoodIn wsX11_find wsX11_beginChange := goodIn_r _ [151, 152, 2, 1, 153, 154, 155, 156, 157, 158, 159, 160, 161, 83, 84, 85, 162, 163, 164, 165, 166, 167, 168, 169, 170, 7, 171, 144, 178, 179, 180, 181, 182, 183, 184, 185, 186, 187, 188, 209, 210, 211, 212, 213, 189, 190, 191, 192, 193, 194, 195, 196] (by decide +kernel) (by decide +kernel)
set_option maxRecDepth 20000 in
theorem gX11_find_X11_beginChange : GoodIn wsX11_find (wsV RX11 110 RX11 yX11_beginChange wsX11_beginChange) := goodIn_app (goodIn_of _ (by decide +kernel)) ggX11_find_X11_beginChange
set_option maxRecDepth 20000 in
theorem ggX11_find_X8_putTable : GoodIn wsX11_find wsX8_putTable := goodIn_r _ [175, 22, 176, 177, 83, 84, 85, 209, 210] (by decide +kernel) (by decide +kernel)
set_option maxRecDepth 20000 in
theorem gX11_find_X8_putTable : GoodIn wsX11_find (wsV RX11 174 RX8 yX8_putTable wsX8_putTable) := goodIn_app (goodIn_of _ (by decide +kernel)) ggX11_find_X8_putTable
theorem dX11_find_0 : decode cX11_find 0 = .ok (.aload_n 0, 1) := by decide +kernel
theorem dX11_find_1 : decode cX11_find 1 = .ok (.getfield 33, 3) := by decide +kernel
theorem dX11_find_4 : decode cX11_find 4 = .ok (.aload_n 0, 1) := by decide +kernel
theorem dX11_find_5 : decode cX11_find 5 = .ok (.getfield 12, 3) := by decide +kernel
theorem dX11_find_8 : decode cX11_find 8 = .ok (.invokevirtual 162, 3) := by decide +kernel
theorem dX11_find_11 : decode cX11_find 11 = .ok (.ifCond .ne 16, 3) := by decide +kernel
theorem dX11_find_14 : decode cX11_find 14 = .ok (.aload_n 0, 1) := by decide +kernel
theorem dX11_find_15 : decode cX11_find 15 = .ok (.getfield 33, 3) := by decide +kernel
theorem dX11_find_18 : decode cX11_find 18 = .ok (.aload_n 0, 1) := by decide +kernel
theorem dX11_find_19 : decode cX11_find 19 = .ok (.getfield 12, 3) := by decide +kernel
theorem dX11_find_22 : decode cX11_find 22 = .ok (.invokevirtual 166, 3) := by decide +kernel
theorem dX11_find_25 : decode cX11_find 25 = .ok (.iconst 0, 1) := by decide +kernel
theorem dX11_find_26 : decode cX11_find 26 = .ok (.ireturn, 1) := by decide +kernel
theorem dX11_find_27 : decode cX11_find 27 = .ok (.aload_n 0, 1) := by decide +kernel
theorem dX11_find_28 : decode cX11_find 28 = .ok (.invokevirtual 110, 3) := by decide +kernel
theorem dX11_find_31 : decode cX11_find 31 = .ok (.aload_n 0, 1) := by decide +kernel
theorem dX11_find_32 : decode cX11_find 32 = .ok (.getfield 12, 3) := by decide +kernel
theorem dX11_find_35 : decode cX11_find 35 = .ok (.aload_n 0, 1) := by decide +kernel
theorem dX11_find_36 : decode cX11_find 36 = .ok (.getfield 33, 3) := by decide +kernel
theorem dX11_find_39 : decode cX11_find 39 = .ok (.getfield 170, 3) := by decide +kernel
theorem dX11_find_42 : decode cX11_find 42 = .ok (.invokevirtual 174, 3) := by decide +kernel
theorem dX11_find_45 : decode cX11_find 45 = .ok (.iconst 1, 1) := by decide +kernel
theorem dX11_find_46 : decode cX11_find 46 = .ok (.ireturn, 1) := by decide +kernel
theorem dX11_proof_0 : decode cX11_proof 0 = .ok (.aload_n 0, 1) := by decide +kernel
theorem dX11_proof_1 : decode cX11_proof 1 = .ok (.getfield 33, 3) := by decide +kernel
theorem dX11_proof_4 : decode cX11_proof 4 = .ok (.getfield 178, 3) := by decide +kernel
theorem dX11_proof_7 : decode cX11_proof 7 = .ok (.ireturn, 1) := by decide +kernel
theorem dX11_proofAt_0 : decode cX11_proofAt 0 = .ok (.iload_n 1, 1) := by decide +kernel
theorem dX11_proofAt_1 : decode cX11_proofAt 1 = .ok (.ifCond .lt 14, 3) := by decide +kernel
theorem dX11_proofAt_4 : decode cX11_proofAt 4 = .ok (.iload_n 1, 1) := by decide +kernel
theorem dX11_proofAt_5 : decode cX11_proofAt 5 = .ok (.aload_n 0, 1) := by decide +kernel
theorem dX11_proofAt_6 : decode cX11_proofAt 6 = .ok (.getfield 33, 3) := by decide +kernel
theorem dX11_proofAt_9 : decode cX11_proofAt 9 = .ok (.getfield 178, 3) := by decide +kernel
theorem dX11_proofAt_12 : decode cX11_proofAt 12 = .ok (.if_icmp .lt 13, 3) := by decide +kernel
theorem dX11_proofAt_15 : decode cX11_proofAt 15 = .ok (.new 182, 3) := by decide +kernel
theorem dX11_proofAt_18 : decode cX11_proofAt 18 = .ok (.dup, 1) := by decide +kernel
theorem dX11_proofAt_19 : decode cX11_proofAt 19 = .ok (.ldc 184, 2) := by decide +kernel
theorem dX11_proofAt_21 : decode cX11_proofAt 21 = .ok (.invokespecial 186, 3) := by decide +kernel
theorem dX11_proofAt_24 : decode cX11_proofAt 24 = .ok (.athrow, 1) := by decide +kernel
theorem dX11_proofAt_25 : decode cX11_proofAt 25 = .ok (.aload_n 0, 1) := by decide +kernel
theorem dX11_proofAt_26 : decode cX11_proofAt 26 = .ok (.getfield 33, 3) := by decide +kernel
theorem dX11_proofAt_29 : decode cX11_proofAt 29 = .ok (.getfield 187, 3) := by decide +kernel
theorem dX11_proofAt_32 : decode cX11_proofAt 32 = .ok (.iload_n 1, 1) := by decide +kernel
theorem dX11_proofAt_33 : decode cX11_proofAt 33 = .ok (.iaload, 1) := by decide +kernel
theorem dX11_proofAt_34 : decode cX11_proofAt 34 = .ok (.ireturn, 1) := by decide +kernel
set_option maxRecDepth 20000 in
theorem ggX11_slotOf_X11_requireLesson : GoodIn wsX11_slotOf wsX11_requireLesson := goodIn_ca (goodIn_r _ [7, 8, 9, 1, 10, 11, 12, 13, 14, 15, 26, 27, 28, 29, 30, 31, 32, 33, 34, 35, 36, 37, 38] (by decide +kernel) (by decide +kernel)) (goodIn_sub (fun _ h => List.mem_cons_of_mem _ (List.mem_append_left _ (List.mem_append_right _ h))) (by decide +kernel))
set_option maxRecDepth 20000 in
theorem gX11_slotOf_X11_requireLesson : GoodIn wsX11_slotOf (wsV RX11 120 RX11 yX11_requireLesson wsX11_requireLesson) := goodIn_app (goodIn_of _ (by decide +kernel)) ggX11_slotOf_X11_requireLesson
set_option maxRecDepth 20000 in
theorem ggX11_slotOf_X11_requireTable : GoodIn wsX11_slotOf wsX11_requireTable := goodIn_ca (goodIn_r _ [19, 20, 21, 1, 22, 23, 24, 13, 25, 15, 26, 27, 28, 29, 30, 31, 32, 33, 34, 35, 36, 37, 38] (by decide +kernel) (by decide +kernel)) (goodIn_sub (fun _ h => List.mem_cons_of_mem _ (List.mem_append_right _ h)) (by decide +kernel))
set_option maxRecDepth 20000 in
theorem gX11_slotOf_X11_requireTable : GoodIn wsX11_slotOf (wsV RX11 190 RX11 yX11_requireTable wsX11_requireTable) := goodIn_app (goodIn_of _ (by decide +kernel)) ggX11_slotOf_X11_requireTable
theorem dX11_slotOf_0 : decode cX11_slotOf 0 = .ok (.aload_n 0, 1) := by decide +kernel
theorem dX11_slotOf_1 : decode cX11_slotOf 1 = .ok (.iload_n 1, 1) := by decide +kernel
theorem dX11_slotOf_2 : decode cX11_slotOf 2 = .ok (.invokevirtual 120, 3) := by decide +kernel
theorem dX11_slotOf_5 : decode cX11_slotOf 5 = .ok (.aload_n 0, 1) := by decide +kernel
theorem dX11_slotOf_6 : decode cX11_slotOf 6 = .ok (.invokevirtual 190, 3) := by decide +kernel
theorem dX11_slotOf_9 : decode cX11_slotOf 9 = .ok (.aload_n 0, 1) := by decide +kernel
theorem dX11_slotOf_10 : decode cX11_slotOf 10 = .ok (.getfield 12, 3) := by decide +kernel
theorem dX11_slotOf_13 : decode cX11_slotOf 13 = .ok (.getfield 193, 3) := by decide +kernel
theorem dX11_slotOf_16 : decode cX11_slotOf 16 = .ok (.iload_n 1, 1) := by decide +kernel
theorem dX11_slotOf_17 : decode cX11_slotOf 17 = .ok (.iaload, 1) := by decide +kernel
theorem dX11_slotOf_18 : decode cX11_slotOf 18 = .ok (.ireturn, 1) := by decide +kernel
set_option maxRecDepth 20000 in
theorem ggX11_lessonAt_X11_requirePerson : GoodIn wsX11_lessonAt wsX11_requirePerson := goodIn_ca (goodIn_r _ [7, 8, 9, 10, 6, 11, 12, 13, 14, 15, 16, 17] (by decide +kernel) (by decide +kernel)) (goodIn_sub (fun _ h => List.mem_cons_of_mem _ (List.mem_append_left _ (List.mem_append_right _ h))) (by decide +kernel))
set_option maxRecDepth 20000 in
theorem gX11_lessonAt_X11_requirePerson : GoodIn wsX11_lessonAt (wsV RX11 194 RX11 yX11_requirePerson wsX11_requirePerson) := goodIn_app (goodIn_of _ (by decide +kernel)) ggX11_lessonAt_X11_requirePerson
set_option maxRecDepth 20000 in
theorem ggX11_lessonAt_X11_requireRange : GoodIn wsX11_lessonAt wsX11_requireRange := goodIn_ca (goodIn_r _ [11, 12, 13, 14, 6, 15, 16, 17] (by decide +kernel) (by decide +kernel)) (goodIn_sub (fun _ h => List.mem_cons_of_mem _ (List.mem_append_left _ (List.mem_append_right _ h))) (by decide +kernel))
set_option maxRecDepth 20000 in
theorem gX11_lessonAt_X11_requireRange : GoodIn wsX11_lessonAt (wsV RX11 86 RX11 yX11_requireRange wsX11_requireRange) := goodIn_app (goodIn_of _ (by decide +kernel)) ggX11_lessonAt_X11_requireRange
set_option maxRecDepth 20000 in
theorem ggX11_lessonAt_X11_requireTable : GoodIn wsX11_lessonAt wsX11_requireTable := goodIn_ca (goodIn_r _ [21, 22, 23, 1, 24, 25, 26, 27, 28, 29, 42, 43, 44, 45, 46, 47, 48, 49, 50, 51, 52, 53, 54] (by decide +kernel) (by decide +kernel)) (goodIn_sub (fun _ h => List.mem_cons_of_mem _ (List.mem_append_right _ h)) (by decide +kernel))
set_option maxRecDepth 20000 in
theorem gX11_lessonAt_X11_requireTable : GoodIn wsX11_lessonAt (wsV RX11 190 RX11 yX11_requireTable wsX11_requireTable) := goodIn_app (goodIn_of _ (by decide +kernel)) ggX11_lessonAt_X11_requireTable
set_option maxRecDepth 20000 in
theorem ggX11_lessonAt_X8_lessonTotal : GoodIn wsX11_lessonAt wsX8_lessonTotal := goodIn_r _ [33, 29, 53, 54] (by decide +kernel) (by decide +kernel)
set_option maxRecDepth 20000 in
theorem gX11_lessonAt_X8_lessonTotal : GoodIn wsX11_lessonAt (wsV RX11 101 RX8 yX8_lessonTotal wsX8_lessonTotal) := goodIn_app (goodIn_of _ (by decide +kernel)) ggX11_lessonAt_X8_lessonTotal
set_option maxRecDepth 20000 in
theorem ggX11_lessonAt_X8_isOf : GoodIn wsX11_lessonAt wsX8_isOf := goodIn_r _ [37, 29, 53, 54] (by decide +kernel) (by decide +kernel)
set_option maxRecDepth 20000 in
theorem gX11_lessonAt_X8_isOf : GoodIn wsX11_lessonAt (wsV RX11 198 RX8 yX8_isOf wsX8_isOf) := goodIn_app (goodIn_of _ (by decide +kernel)) ggX11_lessonAt_X8_isOf
set_option maxRecDepth 20000 in
theorem ggX11_lessonAt_X8_slotsTaken : GoodIn wsX11_lessonAt wsX8_slotsTaken := goodIn_r _ [41, 29, 53, 54] (by decide +kernel) (by decide +kernel)
set_option maxRecDepth 20000 in
theorem gX11_lessonAt_X8_slotsTaken : GoodIn wsX11_lessonAt (wsV RX11 202 RX8 yX8_slotsTaken wsX8_slotsTaken) := goodIn_app (goodIn_of _ (by decide +kernel)) ggX11_lessonAt_X8_slotsTaken
theorem dX11_lessonAt_0 : decode cX11_lessonAt 0 = .ok (.aload_n 0, 1) := by decide +kernel
theorem dX11_lessonAt_1 : decode cX11_lessonAt 1 = .ok (.iload_n 1, 1) := by decide +kernel
theorem dX11_lessonAt_2 : decode cX11_lessonAt 2 = .ok (.iload_n 2, 1) := by decide +kernel
theorem dX11_lessonAt_3 : decode cX11_lessonAt 3 = .ok (.invokevirtual 194, 3) := by decide +kernel
theorem dX11_lessonAt_6 : decode cX11_lessonAt 6 = .ok (.aload_n 0, 1) := by decide +kernel
theorem dX11_lessonAt_7 : decode cX11_lessonAt 7 = .ok (.iload_n 3, 1) := by decide +kernel
theorem dX11_lessonAt_8 : decode cX11_lessonAt 8 = .ok (.bipush 20, 2) := by decide +kernel
theorem dX11_lessonAt_10 : decode cX11_lessonAt 10 = .ok (.invokevirtual 86, 3) := by decide +kernel
theorem dX11_lessonAt_13 : decode cX11_lessonAt 13 = .ok (.aload_n 0, 1) := by decide +kernel
theorem dX11_lessonAt_14 : decode cX11_lessonAt 14 = .ok (.invokevirtual 190, 3) := by decide +kernel
theorem dX11_lessonAt_17 : decode cX11_lessonAt 17 = .ok (.iconst 0, 1) := by decide +kernel
theorem dX11_lessonAt_18 : decode cX11_lessonAt 18 = .ok (.istore 4, 2) := by decide +kernel
theorem dX11_lessonAt_20 : decode cX11_lessonAt 20 = .ok (.iload 4, 2) := by decide +kernel
theorem dX11_lessonAt_22 : decode cX11_lessonAt 22 = .ok (.aload_n 0, 1) := by decide +kernel
theorem dX11_lessonAt_23 : decode cX11_lessonAt 23 = .ok (.getfield 12, 3) := by decide +kernel
theorem dX11_lessonAt_26 : decode cX11_lessonAt 26 = .ok (.invokevirtual 101, 3) := by decide +kernel
theorem dX11_lessonAt_29 : decode cX11_lessonAt 29 = .ok (.if_icmp .ge 49, 3) := by decide +kernel
theorem dX11_lessonAt_32 : decode cX11_lessonAt 32 = .ok (.aload_n 0, 1) := by decide +kernel
theorem dX11_lessonAt_33 : decode cX11_lessonAt 33 = .ok (.getfield 12, 3) := by decide +kernel
theorem dX11_lessonAt_36 : decode cX11_lessonAt 36 = .ok (.iload 4, 2) := by decide +kernel
theorem dX11_lessonAt_38 : decode cX11_lessonAt 38 = .ok (.iload_n 1, 1) := by decide +kernel
theorem dX11_lessonAt_39 : decode cX11_lessonAt 39 = .ok (.iload_n 2, 1) := by decide +kernel
theorem dX11_lessonAt_40 : decode cX11_lessonAt 40 = .ok (.invokevirtual 198, 3) := by decide +kernel
theorem dX11_lessonAt_43 : decode cX11_lessonAt 43 = .ok (.ifCond .eq 29, 3) := by decide +kernel
theorem dX11_lessonAt_46 : decode cX11_lessonAt 46 = .ok (.aload_n 0, 1) := by decide +kernel
theorem dX11_lessonAt_47 : decode cX11_lessonAt 47 = .ok (.getfield 12, 3) := by decide +kernel
theorem dX11_lessonAt_50 : decode cX11_lessonAt 50 = .ok (.iload 4, 2) := by decide +kernel
theorem dX11_lessonAt_52 : decode cX11_lessonAt 52 = .ok (.aload_n 0, 1) := by decide +kernel
theorem dX11_lessonAt_53 : decode cX11_lessonAt 53 = .ok (.getfield 12, 3) := by decide +kernel
theorem dX11_lessonAt_56 : decode cX11_lessonAt 56 = .ok (.getfield 193, 3) := by decide +kernel
theorem dX11_lessonAt_59 : decode cX11_lessonAt 59 = .ok (.invokevirtual 202, 3) := by decide +kernel
theorem dX11_lessonAt_62 : decode cX11_lessonAt 62 = .ok (.iload_n 3, 1) := by decide +kernel
theorem dX11_lessonAt_63 : decode cX11_lessonAt 63 = .ok (.ishr, 1) := by decide +kernel
theorem dX11_lessonAt_64 : decode cX11_lessonAt 64 = .ok (.iconst 1, 1) := by decide +kernel
theorem dX11_lessonAt_65 : decode cX11_lessonAt 65 = .ok (.iand, 1) := by decide +kernel
theorem dX11_lessonAt_66 : decode cX11_lessonAt 66 = .ok (.ifCond .eq 6, 3) := by decide +kernel
theorem dX11_lessonAt_69 : decode cX11_lessonAt 69 = .ok (.iload 4, 2) := by decide +kernel
theorem dX11_lessonAt_71 : decode cX11_lessonAt 71 = .ok (.ireturn, 1) := by decide +kernel
theorem dX11_lessonAt_72 : decode cX11_lessonAt 72 = .ok (.iinc 4 1, 3) := by decide +kernel
theorem dX11_lessonAt_75 : decode cX11_lessonAt 75 = .ok (.goto (-55), 3) := by decide +kernel
theorem dX11_lessonAt_78 : decode cX11_lessonAt 78 = .ok (.iconst (-1), 1) := by decide +kernel
theorem dX11_lessonAt_79 : decode cX11_lessonAt 79 = .ok (.ireturn, 1) := by decide +kernel
set_option maxRecDepth 20000 in
theorem ggX11_roomOf_X11_requireLesson : GoodIn wsX11_roomOf wsX11_requireLesson := goodIn_ca (goodIn_r _ [8, 9, 10, 2, 11, 12, 13, 14, 15, 16, 87, 88, 89, 90, 91, 92, 93, 94, 95, 96, 97, 98, 99] (by decide +kernel) (by decide +kernel)) (goodIn_sub (fun _ h => List.mem_cons_of_mem _ (List.mem_append_left _ (List.mem_append_right _ h))) (by decide +kernel))
set_option maxRecDepth 20000 in
theorem gX11_roomOf_X11_requireLesson : GoodIn wsX11_roomOf (wsV RX11 120 RX11 yX11_requireLesson wsX11_requireLesson) := goodIn_app (goodIn_of _ (by decide +kernel)) ggX11_roomOf_X11_requireLesson
set_option maxRecDepth 20000 in
theorem ggX11_roomOf_X11_requireTable : GoodIn wsX11_roomOf wsX11_requireTable := goodIn_ca (goodIn_r _ [20, 21, 22, 2, 23, 24, 25, 14, 26, 16, 87, 88, 89, 90, 91, 92, 93, 94, 95, 96, 97, 98, 99] (by decide +kernel) (by decide +kernel)) (goodIn_sub (fun _ h => List.mem_cons_of_mem _ (List.mem_append_right _ h)) (by decide +kernel))
set_option maxRecDepth 20000 in
theorem gX11_roomOf_X11_requireTable : GoodIn wsX11_roomOf (wsV RX11 190 RX11 yX11_requireTable wsX11_requireTable) := goodIn_app (goodIn_of _ (by decide +kernel)) ggX11_roomOf_X11_requireTable
set_option maxRecDepth 20000 in
theorem ggX11_roomOf_X7_take : GoodIn wsX11_roomOf wsX7_take := goodIn_r _ [31, 32, 33, 12, 13, 14, 15, 16, 34, 35, 36, 30, 37, 38, 39, 40, 41, 42, 43, 44, 45, 46, 47, 48, 49, 50, 51, 52, 53, 54, 55, 56, 57, 58, 59, 60, 61, 62, 63, 64, 65, 66, 67, 68, 69, 70, 71, 72, 73, 74, 75, 76, 77, 100, 101, 102, 103, 104, 105, 106, 107, 108, 109, 110, 111, 98, 99] (by decide +kernel) (by decide +kernel)
set_option maxRecDepth 20000 in
theorem gX11_roomOf_X7_take : GoodIn wsX11_roomOf (wsV RX11 206 RX7 yX7_take wsX7_take) := goodIn_app (goodIn_of _ (by decide +kernel)) ggX11_roomOf_X7_take
set_option maxRecDepth 20000 in
theorem ggX11_roomOf_X7_giveRooms : GoodIn wsX11_roomOf wsX7_giveRooms := goodIn_r _ [81, 32, 82, 38, 83, 84, 85, 30, 86, 39, 49, 100, 101, 102, 103, 104, 105, 106, 107, 108, 109, 110, 111] (by decide +kernel) (by decide +kernel)
set_option maxRecDepth 20000 in
theorem gX11_roomOf_X7_giveRooms : GoodIn wsX11_roomOf (wsV RX11 210 RX7 yX7_giveRooms wsX7_giveRooms) := goodIn_app (goodIn_of _ (by decide +kernel)) ggX11_roomOf_X7_giveRooms
theorem dX11_roomOf_0 : decode cX11_roomOf 0 = .ok (.aload_n 0, 1) := by decide +kernel
theorem dX11_roomOf_1 : decode cX11_roomOf 1 = .ok (.iload_n 1, 1) := by decide +kernel
theorem dX11_roomOf_2 : decode cX11_roomOf 2 = .ok (.invokevirtual 120, 3) := by decide +kernel
theorem dX11_roomOf_5 : decode cX11_roomOf 5 = .ok (.aload_n 0, 1) := by decide +kernel
theorem dX11_roomOf_6 : decode cX11_roomOf 6 = .ok (.invokevirtual 190, 3) := by decide +kernel
theorem dX11_roomOf_9 : decode cX11_roomOf 9 = .ok (.aload_n 0, 1) := by decide +kernel
theorem dX11_roomOf_10 : decode cX11_roomOf 10 = .ok (.getfield 26, 3) := by decide +kernel
theorem dX11_roomOf_13 : decode cX11_roomOf 13 = .ok (.aload_n 0, 1) := by decide +kernel
theorem dX11_roomOf_14 : decode cX11_roomOf 14 = .ok (.getfield 12, 3) := by decide +kernel
theorem dX11_roomOf_17 : decode cX11_roomOf 17 = .ok (.iconst 0, 1) := by decide +kernel
theorem dX11_roomOf_18 : decode cX11_roomOf 18 = .ok (.invokevirtual 206, 3) := by decide +kernel
theorem dX11_roomOf_21 : decode cX11_roomOf 21 = .ok (.aload_n 0, 1) := by decide +kernel
theorem dX11_roomOf_22 : decode cX11_roomOf 22 = .ok (.getfield 26, 3) := by decide +kernel
theorem dX11_roomOf_25 : decode cX11_roomOf 25 = .ok (.aload_n 0, 1) := by decide +kernel
theorem dX11_roomOf_26 : decode cX11_roomOf 26 = .ok (.getfield 12, 3) := by decide +kernel
theorem dX11_roomOf_29 : decode cX11_roomOf 29 = .ok (.getfield 193, 3) := by decide +kernel
theorem dX11_roomOf_32 : decode cX11_roomOf 32 = .ok (.iload_n 1, 1) := by decide +kernel
theorem dX11_roomOf_33 : decode cX11_roomOf 33 = .ok (.invokevirtual 210, 3) := by decide +kernel
theorem dX11_roomOf_36 : decode cX11_roomOf 36 = .ok (.ireturn, 1) := by decide +kernel
set_option maxRecDepth 20000 in
theorem ggX11_choices_X11_requireLesson : GoodIn wsX11_choices wsX11_requireLesson := goodIn_ca (goodIn_r _ [8, 9, 10, 2, 11, 12, 13, 14, 15, 16, 95, 96, 97, 98, 99, 100, 101, 102, 103, 104, 105, 106, 107] (by decide +kernel) (by decide +kernel)) (goodIn_sub (fun _ h => List.mem_cons_of_mem _ (List.mem_append_left _ (List.mem_append_right _ h))) (by decide +kernel))
set_option maxRecDepth 20000 in
theorem gX11_choices_X11_requireLesson : GoodIn wsX11_choices (wsV RX11 120 RX11 yX11_requireLesson wsX11_requireLesson) := goodIn_app (goodIn_of _ (by decide +kernel)) ggX11_choices_X11_requireLesson
set_option maxRecDepth 20000 in
theorem ggX11_choices_X11_requireTable : GoodIn wsX11_choices wsX11_requireTable := goodIn_ca (goodIn_r _ [20, 21, 22, 2, 23, 24, 25, 14, 26, 16, 95, 96, 97, 98, 99, 100, 101, 102, 103, 104, 105, 106, 107] (by decide +kernel) (by decide +kernel)) (goodIn_sub (fun _ h => List.mem_cons_of_mem _ (List.mem_append_right _ h)) (by decide +kernel))
set_option maxRecDepth 20000 in
theorem gX11_choices_X11_requireTable : GoodIn wsX11_choices (wsV RX11 190 RX11 yX11_requireTable wsX11_requireTable) := goodIn_app (goodIn_of _ (by decide +kernel)) ggX11_choices_X11_requireTable
set_option maxRecDepth 20000 in
theorem ggX11_choices_X8_hardWishes : GoodIn wsX11_choices wsX8_hardWishes := goodIn_r _ [30, 31, 32, 33, 14, 34, 16, 35, 36, 37, 38, 106, 107] (by decide +kernel) (by decide +kernel)
set_option maxRecDepth 20000 in
theorem gX11_choices_X8_hardWishes : GoodIn wsX11_choices (wsV RX11 214 RX8 yX8_hardWishes wsX8_hardWishes) := goodIn_app (goodIn_of _ (by decide +kernel)) ggX11_choices_X8_hardWishes
set_option maxRecDepth 20000 in
theorem ggX11_choices_X7_take : GoodIn wsX11_choices wsX7_take := goodIn_r _ [43, 44, 45, 12, 13, 14, 15, 16, 46, 47, 48, 42, 49, 50, 51, 52, 53, 54, 55, 56, 57, 58, 59, 60, 61, 62, 63, 64, 65, 66, 67, 68, 69, 70, 71, 72, 73, 74, 32, 33, 34, 75, 36, 37, 38, 76, 77, 78, 79, 80, 81, 82, 83, 108, 109, 110, 111, 112, 113, 114, 115, 116, 117, 118, 119, 106, 107] (by decide +kernel) (by decide +kernel)
set_option maxRecDepth 20000 in
theorem gX11_choices_X7_take : GoodIn wsX11_choices (wsV RX11 206 RX7 yX7_take wsX7_take) := goodIn_app (goodIn_of _ (by decide +kernel)) ggX11_choices_X7_take
set_option maxRecDepth 20000 in
theorem ggX11_choices_X7_allowed : GoodIn wsX11_choices wsX7_allowed := goodIn_r _ [87, 53, 44, 51, 56, 52, 57, 58, 59, 60, 61, 50, 108, 109, 110, 111, 112, 113, 114, 115, 116, 117, 118, 119] (by decide +kernel) (by decide +kernel)
set_option maxRecDepth 20000 in
theorem gX11_choices_X7_allowed : GoodIn wsX11_choices (wsV RX11 217 RX7 yX7_allowed wsX7_allowed) := goodIn_app (goodIn_of _ (by decide +kernel)) ggX11_choices_X7_allowed
set_option maxRecDepth 20000 in
theorem ggX11_choices_J6_bitCount_0f7a4 : GoodIn wsX11_choices wsJ6_bitCount_0f7a4 := goodIn_r _ [91, 92, 93, 94] (by decide +kernel) (by decide +kernel)
set_option maxRecDepth 20000 in
theorem gX11_choices_J6_bitCount_0f7a4 : GoodIn wsX11_choices (va_wsS RX11 221 yJ6_bitCount_0f7a4 wsJ6_bitCount_0f7a4) := goodIn_app (goodIn_of _ (by decide +kernel)) ggX11_choices_J6_bitCount_0f7a4
theorem dX11_choices_0 : decode cX11_choices 0 = .ok (.aload_n 0, 1) := by decide +kernel
theorem dX11_choices_1 : decode cX11_choices 1 = .ok (.iload_n 1, 1) := by decide +kernel
theorem dX11_choices_2 : decode cX11_choices 2 = .ok (.invokevirtual 120, 3) := by decide +kernel
theorem dX11_choices_5 : decode cX11_choices 5 = .ok (.aload_n 0, 1) := by decide +kernel
theorem dX11_choices_6 : decode cX11_choices 6 = .ok (.invokevirtual 190, 3) := by decide +kernel
theorem dX11_choices_9 : decode cX11_choices 9 = .ok (.aload_n 0, 1) := by decide +kernel
theorem dX11_choices_10 : decode cX11_choices 10 = .ok (.getfield 26, 3) := by decide +kernel
theorem dX11_choices_13 : decode cX11_choices 13 = .ok (.aload_n 0, 1) := by decide +kernel
theorem dX11_choices_14 : decode cX11_choices 14 = .ok (.getfield 12, 3) := by decide +kernel
theorem dX11_choices_17 : decode cX11_choices 17 = .ok (.aload_n 0, 1) := by decide +kernel
theorem dX11_choices_18 : decode cX11_choices 18 = .ok (.getfield 12, 3) := by decide +kernel
theorem dX11_choices_21 : decode cX11_choices 21 = .ok (.invokevirtual 214, 3) := by decide +kernel
theorem dX11_choices_24 : decode cX11_choices 24 = .ok (.invokevirtual 206, 3) := by decide +kernel
theorem dX11_choices_27 : decode cX11_choices 27 = .ok (.aload_n 0, 1) := by decide +kernel
theorem dX11_choices_28 : decode cX11_choices 28 = .ok (.getfield 26, 3) := by decide +kernel
theorem dX11_choices_31 : decode cX11_choices 31 = .ok (.iload_n 1, 1) := by decide +kernel
theorem dX11_choices_32 : decode cX11_choices 32 = .ok (.aload_n 0, 1) := by decide +kernel
theorem dX11_choices_33 : decode cX11_choices 33 = .ok (.getfield 12, 3) := by decide +kernel
theorem dX11_choices_36 : decode cX11_choices 36 = .ok (.getfield 193, 3) := by decide +kernel
theorem dX11_choices_39 : decode cX11_choices 39 = .ok (.iconst (-1), 1) := by decide +kernel
theorem dX11_choices_40 : decode cX11_choices 40 = .ok (.invokevirtual 217, 3) := by decide +kernel
theorem dX11_choices_43 : decode cX11_choices 43 = .ok (.iconst 1, 1) := by decide +kernel
theorem dX11_choices_44 : decode cX11_choices 44 = .ok (.aload_n 0, 1) := by decide +kernel
theorem dX11_choices_45 : decode cX11_choices 45 = .ok (.getfield 12, 3) := by decide +kernel
theorem dX11_choices_48 : decode cX11_choices 48 = .ok (.getfield 193, 3) := by decide +kernel
theorem dX11_choices_51 : decode cX11_choices 51 = .ok (.iload_n 1, 1) := by decide +kernel
theorem dX11_choices_52 : decode cX11_choices 52 = .ok (.iaload, 1) := by decide +kernel
theorem dX11_choices_53 : decode cX11_choices 53 = .ok (.ishl, 1) := by decide +kernel
theorem dX11_choices_54 : decode cX11_choices 54 = .ok (.iconst (-1), 1) := by decide +kernel
theorem dX11_choices_55 : decode cX11_choices 55 = .ok (.ixor, 1) := by decide +kernel
theorem dX11_choices_56 : decode cX11_choices 56 = .ok (.iand, 1) := by decide +kernel
theorem dX11_choices_57 : decode cX11_choices 57 = .ok (.invokestatic 221, 3) := by decide +kernel
theorem dX11_choices_60 : decode cX11_choices 60 = .ok (.ireturn, 1) := by decide +kernel
set_option maxRecDepth 20000 in
theorem ggX11_holds_X11_requireWish : GoodIn wsX11_holds wsX11_requireWish := goodIn_ca (goodIn_r _ [7, 8, 9, 1, 10, 11, 12, 13, 14, 15, 50, 51, 52, 53, 54, 55, 56, 57, 58, 59, 60, 61, 62] (by decide +kernel) (by decide +kernel)) (goodIn_sub (fun _ h => List.mem_cons_of_mem _ (List.mem_append_left _ (List.mem_append_right _ h))) (by decide +kernel))
set_option maxRecDepth 20000 in
theorem gX11_holds_X11_requireWish : GoodIn wsX11_holds (wsV RX11 153 RX11 yX11_requireWish wsX11_requireWish) := goodIn_app (goodIn_of _ (by decide +kernel)) ggX11_holds_X11_requireWish
set_option maxRecDepth 20000 in
theorem ggX11_holds_X11_requireTable : GoodIn wsX11_holds wsX11_requireTable := goodIn_ca (goodIn_r _ [19, 20, 21, 1, 22, 23, 24, 13, 25, 15, 50, 51, 52, 53, 54, 55, 56, 57, 58, 59, 60, 61, 62] (by decide +kernel) (by decide +kernel)) (goodIn_sub (fun _ h => List.mem_cons_of_mem _ (List.mem_append_right _ h)) (by decide +kernel))
set_option maxRecDepth 20000 in
theorem gX11_holds_X11_requireTable : GoodIn wsX11_holds (wsV RX11 190 RX11 yX11_requireTable wsX11_requireTable) := goodIn_app (goodIn_of _ (by decide +kernel)) ggX11_holds_X11_requireTable
set_option maxRecDepth 20000 in
theorem ggX11_holds_X8_fulfils : GoodIn wsX11_holds wsX8_fulfils := goodIn_r _ [29, 30, 31, 32, 13, 33, 15, 34, 35, 36, 37, 38, 39, 40, 41, 42, 43, 44, 45, 46, 47, 48, 49, 61, 62] (by decide +kernel) (by decide +kernel)
set_option maxRecDepth 20000 in
theorem gX11_holds_X8_fulfils : GoodIn wsX11_holds (wsV RX11 232 RX8 yX8_fulfils wsX8_fulfils) := goodIn_app (goodIn_of _ (by decide +kernel)) ggX11_holds_X8_fulfils
theorem dX11_holds_0 : decode cX11_holds 0 = .ok (.aload_n 0, 1) := by decide +kernel
theorem dX11_holds_1 : decode cX11_holds 1 = .ok (.iload_n 1, 1) := by decide +kernel
theorem dX11_holds_2 : decode cX11_holds 2 = .ok (.invokevirtual 153, 3) := by decide +kernel
theorem dX11_holds_5 : decode cX11_holds 5 = .ok (.aload_n 0, 1) := by decide +kernel
theorem dX11_holds_6 : decode cX11_holds 6 = .ok (.invokevirtual 190, 3) := by decide +kernel
theorem dX11_holds_9 : decode cX11_holds 9 = .ok (.aload_n 0, 1) := by decide +kernel
theorem dX11_holds_10 : decode cX11_holds 10 = .ok (.getfield 12, 3) := by decide +kernel
theorem dX11_holds_13 : decode cX11_holds 13 = .ok (.iload_n 1, 1) := by decide +kernel
theorem dX11_holds_14 : decode cX11_holds 14 = .ok (.aload_n 0, 1) := by decide +kernel
theorem dX11_holds_15 : decode cX11_holds 15 = .ok (.getfield 12, 3) := by decide +kernel
theorem dX11_holds_18 : decode cX11_holds 18 = .ok (.getfield 193, 3) := by decide +kernel
theorem dX11_holds_21 : decode cX11_holds 21 = .ok (.invokevirtual 232, 3) := by decide +kernel
theorem dX11_holds_24 : decode cX11_holds 24 = .ok (.ireturn, 1) := by decide +kernel
set_option maxRecDepth 20000 in
theorem ggX11_cost_X11_requireTable : GoodIn wsX11_cost wsX11_requireTable := goodIn_ca (goodIn_r _ [8, 9, 10, 2, 11, 12, 13, 14, 15, 16, 69, 70, 71, 72, 73, 74, 75, 76, 77, 78, 79, 80, 81] (by decide +kernel) (by decide +kernel)) (goodIn_sub (fun _ h => List.mem_cons_of_mem _ (List.mem_append_right _ h)) (by decide +kernel))
set_option maxRecDepth 20000 in
theorem gX11_cost_X11_requireTable : GoodIn wsX11_cost (wsV RX11 190 RX11 yX11_requireTable wsX11_requireTable) := goodIn_app (goodIn_of _ (by decide +kernel)) ggX11_cost_X11_requireTable
set_option maxRecDepth 20000 in
theorem ggX11_cost_X6_costOf : GoodIn wsX11_cost wsX6_costOf := goodIn_r _ [21, 22, 23, 24, 14, 25, 26, 27, 28, 29, 16, 30, 31, 32, 33, 34, 35, 36, 37, 38, 39, 40, 20, 41, 42, 43, 44, 45, 46, 47, 48, 49, 50, 51, 52, 53, 54, 55, 56, 57, 58, 59, 60, 61, 62, 63, 64, 65, 66, 67, 68, 80, 81] (by decide +kernel) (by decide +kernel)
set_option maxRecDepth 20000 in
theorem gX11_cost_X6_costOf : GoodIn wsX11_cost (wsV RX11 228 RX6 yX6_costOf wsX6_costOf) := goodIn_app (goodIn_of _ (by decide +kernel)) ggX11_cost_X6_costOf
theorem dX11_cost_0 : decode cX11_cost 0 = .ok (.aload_n 0, 1) := by decide +kernel
theorem dX11_cost_1 : decode cX11_cost 1 = .ok (.invokevirtual 190, 3) := by decide +kernel
theorem dX11_cost_4 : decode cX11_cost 4 = .ok (.aload_n 0, 1) := by decide +kernel
theorem dX11_cost_5 : decode cX11_cost 5 = .ok (.getfield 40, 3) := by decide +kernel
theorem dX11_cost_8 : decode cX11_cost 8 = .ok (.aload_n 0, 1) := by decide +kernel
theorem dX11_cost_9 : decode cX11_cost 9 = .ok (.getfield 12, 3) := by decide +kernel
theorem dX11_cost_12 : decode cX11_cost 12 = .ok (.aload_n 0, 1) := by decide +kernel
theorem dX11_cost_13 : decode cX11_cost 13 = .ok (.getfield 12, 3) := by decide +kernel
theorem dX11_cost_16 : decode cX11_cost 16 = .ok (.getfield 193, 3) := by decide +kernel
theorem dX11_cost_19 : decode cX11_cost 19 = .ok (.invokevirtual 228, 3) := by decide +kernel
theorem dX11_cost_22 : decode cX11_cost 22 = .ok (.ireturn, 1) := by decide +kernel
set_option maxRecDepth 20000 in
theorem ggX11_gaps_X11_requirePerson : GoodIn wsX11_gaps wsX11_requirePerson := goodIn_ca (goodIn_r _ [8, 9, 10, 11, 7, 12, 13, 14, 15, 16, 17, 18] (by decide +kernel) (by decide +kernel)) (goodIn_sub (fun _ h => List.mem_cons_of_mem _ (List.mem_append_left _ (List.mem_append_right _ h))) (by decide +kernel))
set_option maxRecDepth 20000 in
theorem gX11_gaps_X11_requirePerson : GoodIn wsX11_gaps (wsV RX11 194 RX11 yX11_requirePerson wsX11_requirePerson) := goodIn_app (goodIn_of _ (by decide +kernel)) ggX11_gaps_X11_requirePerson
set_option maxRecDepth 20000 in
theorem ggX11_gaps_X11_requireTable : GoodIn wsX11_gaps wsX11_requireTable := goodIn_ca (goodIn_r _ [22, 23, 24, 2, 25, 26, 27, 28, 29, 30, 65, 66, 67, 68, 69, 70, 71, 72, 73, 74, 75, 76, 77] (by decide +kernel) (by decide +kernel)) (goodIn_sub (fun _ h => List.mem_cons_of_mem _ (List.mem_append_right _ h)) (by decide +kernel))
set_option maxRecDepth 20000 in
theorem gX11_gaps_X11_requireTable : GoodIn wsX11_gaps (wsV RX11 190 RX11 yX11_requireTable wsX11_requireTable) := goodIn_app (goodIn_of _ (by decide +kernel)) ggX11_gaps_X11_requireTable
set_option maxRecDepth 20000 in
theorem ggX11_gaps_X8_slotsOfPerson : GoodIn wsX11_gaps wsX8_slotsOfPerson := goodIn_r _ [34, 35, 36, 37, 28, 38, 30, 39, 40, 41, 42, 43, 44, 45, 46, 76, 77] (by decide +kernel) (by decide +kernel)
set_option maxRecDepth 20000 in
theorem gX11_gaps_X8_slotsOfPerson : GoodIn wsX11_gaps (wsV RX11 236 RX8 yX8_slotsOfPerson wsX8_slotsOfPerson) := goodIn_app (goodIn_of _ (by decide +kernel)) ggX11_gaps_X8_slotsOfPerson
set_option maxRecDepth 20000 in
theorem ggX11_gaps_X6_gapsIn : GoodIn wsX11_gaps wsX6_gapsIn := goodIn_r _ [51, 52, 53, 54, 55, 56, 57, 58, 59, 60, 61, 62, 63, 64] (by decide +kernel) (by decide +kernel)
set_option maxRecDepth 20000 in
theorem gX11_gaps_X6_gapsIn : GoodIn wsX11_gaps (wsV RX11 240 RX6 yX6_gapsIn wsX6_gapsIn) := goodIn_app (goodIn_of _ (by decide +kernel)) ggX11_gaps_X6_gapsIn
theorem dX11_gaps_0 : decode cX11_gaps 0 = .ok (.aload_n 0, 1) := by decide +kernel
theorem dX11_gaps_1 : decode cX11_gaps 1 = .ok (.iload_n 1, 1) := by decide +kernel
theorem dX11_gaps_2 : decode cX11_gaps 2 = .ok (.iload_n 2, 1) := by decide +kernel
theorem dX11_gaps_3 : decode cX11_gaps 3 = .ok (.invokevirtual 194, 3) := by decide +kernel
theorem dX11_gaps_6 : decode cX11_gaps 6 = .ok (.aload_n 0, 1) := by decide +kernel
theorem dX11_gaps_7 : decode cX11_gaps 7 = .ok (.invokevirtual 190, 3) := by decide +kernel
theorem dX11_gaps_10 : decode cX11_gaps 10 = .ok (.aload_n 0, 1) := by decide +kernel
theorem dX11_gaps_11 : decode cX11_gaps 11 = .ok (.getfield 40, 3) := by decide +kernel
theorem dX11_gaps_14 : decode cX11_gaps 14 = .ok (.aload_n 0, 1) := by decide +kernel
theorem dX11_gaps_15 : decode cX11_gaps 15 = .ok (.getfield 12, 3) := by decide +kernel

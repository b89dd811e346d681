theorem dL_areBells_97 : decode cL_areBells 97 = .ok (.iload 4, 2) := by decide +kernel
theorem dL_areBells_99 : decode cL_areBells 99 = .ok (.iadd, 1) := by decide +kernel
theorem dL_areBells_100 : decode cL_areBells 100 = .ok (.imul, 1) := by decide +kernel
theorem dL_areBells_101 : decode cL_areBells 101 = .ok (.iadd, 1) := by decide +kernel
theorem dL_areBells_102 : decode cL_areBells 102 = .ok (.if_icmp .ne 44, 3) := by decide +kernel
theorem dL_areBells_105 : decode cL_areBells 105 = .ok (.iload 9, 2) := by decide +kernel
theorem dL_areBells_107 : decode cL_areBells 107 = .ok (.iload 8, 2) := by decide +kernel
theorem dL_areBells_109 : decode cL_areBells 109 = .ok (.iload_n 3, 1) := by decide +kernel
theorem dL_areBells_110 : decode cL_areBells 110 = .ok (.iadd, 1) := by decide +kernel
theorem dL_areBells_111 : decode cL_areBells 111 = .ok (.if_icmp .ne 35, 3) := by decide +kernel
theorem dL_areBells_114 : decode cL_areBells 114 = .ok (.aload_n 0, 1) := by decide +kernel
theorem dL_areBells_115 : decode cL_areBells 115 = .ok (.getfield 10, 3) := by decide +kernel
theorem dL_areBells_118 : decode cL_areBells 118 = .ok (.iload_n 1, 1) := by decide +kernel
theorem dL_areBells_119 : decode cL_areBells 119 = .ok (.iload 8, 2) := by decide +kernel
theorem dL_areBells_121 : decode cL_areBells 121 = .ok (.invokevirtual 271, 3) := by decide +kernel
theorem dL_areBells_124 : decode cL_areBells 124 = .ok (.iload 7, 2) := by decide +kernel
theorem dL_areBells_126 : decode cL_areBells 126 = .ok (.if_icmp .ne 20, 3) := by decide +kernel
theorem dL_areBells_129 : decode cL_areBells 129 = .ok (.aload_n 0, 1) := by decide +kernel
theorem dL_areBells_130 : decode cL_areBells 130 = .ok (.getfield 10, 3) := by decide +kernel
theorem dL_areBells_133 : decode cL_areBells 133 = .ok (.iload_n 1, 1) := by decide +kernel
theorem dL_areBells_134 : decode cL_areBells 134 = .ok (.iload 9, 2) := by decide +kernel
theorem dL_areBells_136 : decode cL_areBells 136 = .ok (.iconst 1, 1) := by decide +kernel
theorem dL_areBells_137 : decode cL_areBells 137 = .ok (.isub, 1) := by decide +kernel
theorem dL_areBells_138 : decode cL_areBells 138 = .ok (.invokevirtual 271, 3) := by decide +kernel
theorem dL_areBells_141 : decode cL_areBells 141 = .ok (.iload 7, 2) := by decide +kernel
theorem dL_areBells_143 : decode cL_areBells 143 = .ok (.if_icmp .eq 5, 3) := by decide +kernel
theorem dL_areBells_146 : decode cL_areBells 146 = .ok (.iconst 0, 1) := by decide +kernel
theorem dL_areBells_147 : decode cL_areBells 147 = .ok (.ireturn, 1) := by decide +kernel
theorem dL_areBells_148 : decode cL_areBells 148 = .ok (.iload 4, 2) := by decide +kernel
theorem dL_areBells_150 : decode cL_areBells 150 = .ok (.ifCond .le 17, 3) := by decide +kernel
theorem dL_areBells_153 : decode cL_areBells 153 = .ok (.aload_n 0, 1) := by decide +kernel
theorem dL_areBells_154 : decode cL_areBells 154 = .ok (.getfield 10, 3) := by decide +kernel
theorem dL_areBells_157 : decode cL_areBells 157 = .ok (.iload_n 1, 1) := by decide +kernel
theorem dL_areBells_158 : decode cL_areBells 158 = .ok (.iload 9, 2) := by decide +kernel
theorem dL_areBells_160 : decode cL_areBells 160 = .ok (.invokevirtual 271, 3) := by decide +kernel
theorem dL_areBells_163 : decode cL_areBells 163 = .ok (.iconst (-1), 1) := by decide +kernel
theorem dL_areBells_164 : decode cL_areBells 164 = .ok (.if_icmp .ne 16, 3) := by decide +kernel
theorem dL_areBells_167 : decode cL_areBells 167 = .ok (.iload 6, 2) := by decide +kernel
theorem dL_areBells_169 : decode cL_areBells 169 = .ok (.iconst 3, 1) := by decide +kernel
theorem dL_areBells_170 : decode cL_areBells 170 = .ok (.if_icmp .ne 12, 3) := by decide +kernel
theorem dL_areBells_173 : decode cL_areBells 173 = .ok (.iload 9, 2) := by decide +kernel
theorem dL_areBells_175 : decode cL_areBells 175 = .ok (.iload 5, 2) := by decide +kernel
theorem dL_areBells_177 : decode cL_areBells 177 = .ok (.if_icmp .eq 5, 3) := by decide +kernel
theorem dL_areBells_180 : decode cL_areBells 180 = .ok (.iconst 0, 1) := by decide +kernel
theorem dL_areBells_181 : decode cL_areBells 181 = .ok (.ireturn, 1) := by decide +kernel
theorem dL_areBells_182 : decode cL_areBells 182 = .ok (.iinc 6 1, 3) := by decide +kernel
theorem dL_areBells_185 : decode cL_areBells 185 = .ok (.goto (-132), 3) := by decide +kernel
theorem dL_areBells_188 : decode cL_areBells 188 = .ok (.aload_n 0, 1) := by decide +kernel
theorem dL_areBells_189 : decode cL_areBells 189 = .ok (.getfield 10, 3) := by decide +kernel
theorem dL_areBells_192 : decode cL_areBells 192 = .ok (.iload_n 1, 1) := by decide +kernel
theorem dL_areBells_193 : decode cL_areBells 193 = .ok (.iload_n 2, 1) := by decide +kernel
theorem dL_areBells_194 : decode cL_areBells 194 = .ok (.iconst 1, 1) := by decide +kernel
theorem dL_areBells_195 : decode cL_areBells 195 = .ok (.isub, 1) := by decide +kernel
theorem dL_areBells_196 : decode cL_areBells 196 = .ok (.invokevirtual 271, 3) := by decide +kernel
theorem dL_areBells_199 : decode cL_areBells 199 = .ok (.iconst (-1), 1) := by decide +kernel
theorem dL_areBells_200 : decode cL_areBells 200 = .ok (.if_icmp .ne 7, 3) := by decide +kernel
theorem dL_areBells_203 : decode cL_areBells 203 = .ok (.iconst 1, 1) := by decide +kernel
theorem dL_areBells_204 : decode cL_areBells 204 = .ok (.goto 4, 3) := by decide +kernel
theorem dL_areBells_207 : decode cL_areBells 207 = .ok (.iconst 0, 1) := by decide +kernel
theorem dL_areBells_208 : decode cL_areBells 208 = .ok (.ireturn, 1) := by decide +kernel
theorem dL_stirred_0 : decode cL_stirred 0 = .ok (.ldc_w 274, 3) := by decide +kernel
theorem dL_stirred_3 : decode cL_stirred 3 = .ok (.istore_n 1, 1) := by decide +kernel
theorem dL_stirred_4 : decode cL_stirred 4 = .ok (.aload_n 0, 1) := by decide +kernel
theorem dL_stirred_5 : decode cL_stirred 5 = .ok (.astore_n 2, 1) := by decide +kernel
theorem dL_stirred_6 : decode cL_stirred 6 = .ok (.aload_n 2, 1) := by decide +kernel
theorem dL_stirred_7 : decode cL_stirred 7 = .ok (.arraylength, 1) := by decide +kernel
theorem dL_stirred_8 : decode cL_stirred 8 = .ok (.istore_n 3, 1) := by decide +kernel
theorem dL_stirred_9 : decode cL_stirred 9 = .ok (.iconst 0, 1) := by decide +kernel
theorem dL_stirred_10 : decode cL_stirred 10 = .ok (.istore 4, 2) := by decide +kernel
theorem dL_stirred_12 : decode cL_stirred 12 = .ok (.iload 4, 2) := by decide +kernel
theorem dL_stirred_14 : decode cL_stirred 14 = .ok (.iload_n 3, 1) := by decide +kernel
theorem dL_stirred_15 : decode cL_stirred 15 = .ok (.if_icmp .ge 34, 3) := by decide +kernel
theorem dL_stirred_18 : decode cL_stirred 18 = .ok (.aload_n 2, 1) := by decide +kernel
theorem dL_stirred_19 : decode cL_stirred 19 = .ok (.iload 4, 2) := by decide +kernel
theorem dL_stirred_21 : decode cL_stirred 21 = .ok (.iaload, 1) := by decide +kernel
theorem dL_stirred_22 : decode cL_stirred 22 = .ok (.istore 5, 2) := by decide +kernel
theorem dL_stirred_24 : decode cL_stirred 24 = .ok (.iload_n 1, 1) := by decide +kernel
theorem dL_stirred_25 : decode cL_stirred 25 = .ok (.iload 5, 2) := by decide +kernel
theorem dL_stirred_27 : decode cL_stirred 27 = .ok (.ixor, 1) := by decide +kernel
theorem dL_stirred_28 : decode cL_stirred 28 = .ok (.ldc 61, 2) := by decide +kernel
theorem dL_stirred_30 : decode cL_stirred 30 = .ok (.imul, 1) := by decide +kernel
theorem dL_stirred_31 : decode cL_stirred 31 = .ok (.sipush 12345, 3) := by decide +kernel
theorem dL_stirred_34 : decode cL_stirred 34 = .ok (.iadd, 1) := by decide +kernel
theorem dL_stirred_35 : decode cL_stirred 35 = .ok (.istore_n 1, 1) := by decide +kernel
theorem dL_stirred_36 : decode cL_stirred 36 = .ok (.iload_n 1, 1) := by decide +kernel
theorem dL_stirred_37 : decode cL_stirred 37 = .ok (.iload_n 1, 1) := by decide +kernel
theorem dL_stirred_38 : decode cL_stirred 38 = .ok (.bipush 15, 2) := by decide +kernel
theorem dL_stirred_40 : decode cL_stirred 40 = .ok (.iushr, 1) := by decide +kernel
theorem dL_stirred_41 : decode cL_stirred 41 = .ok (.ixor, 1) := by decide +kernel
theorem dL_stirred_42 : decode cL_stirred 42 = .ok (.istore_n 1, 1) := by decide +kernel
theorem dL_stirred_43 : decode cL_stirred 43 = .ok (.iinc 4 1, 3) := by decide +kernel
theorem dL_stirred_46 : decode cL_stirred 46 = .ok (.goto (-34), 3) := by decide +kernel
theorem dL_stirred_49 : decode cL_stirred 49 = .ok (.iload_n 1, 1) := by decide +kernel
theorem dL_stirred_50 : decode cL_stirred 50 = .ok (.ireturn, 1) := by decide +kernel
theorem dL_law_0 : decode cL_law 0 = .ok (.new 11, 3) := by decide +kernel
theorem dL_law_3 : decode cL_law 3 = .ok (.dup, 1) := by decide +kernel
theorem dL_law_4 : decode cL_law 4 = .ok (.invokespecial 275, 3) := by decide +kernel
theorem dL_law_7 : decode cL_law 7 = .ok (.astore_n 1, 1) := by decide +kernel
theorem dL_law_8 : decode cL_law 8 = .ok (.aload_n 1, 1) := by decide +kernel
theorem dL_law_9 : decode cL_law 9 = .ok (.aload_n 0, 1) := by decide +kernel
theorem dL_law_10 : decode cL_law 10 = .ok (.invokestatic 276, 3) := by decide +kernel
theorem dL_law_13 : decode cL_law 13 = .ok (.putfield 57, 3) := by decide +kernel
theorem dL_law_16 : decode cL_law 16 = .ok (.aload_n 1, 1) := by decide +kernel
theorem dL_law_17 : decode cL_law 17 = .ok (.invokevirtual 280, 3) := by decide +kernel
theorem dL_law_20 : decode cL_law 20 = .ok (.ifCond .eq 52, 3) := by decide +kernel
theorem dL_law_23 : decode cL_law 23 = .ok (.aload_n 1, 1) := by decide +kernel
theorem dL_law_24 : decode cL_law 24 = .ok (.invokevirtual 283, 3) := by decide +kernel
theorem dL_law_27 : decode cL_law 27 = .ok (.ifCond .eq 45, 3) := by decide +kernel
theorem dL_law_30 : decode cL_law 30 = .ok (.aload_n 1, 1) := by decide +kernel
theorem dL_law_31 : decode cL_law 31 = .ok (.invokevirtual 286, 3) := by decide +kernel
theorem dL_law_34 : decode cL_law 34 = .ok (.ifCond .eq 38, 3) := by decide +kernel
theorem dL_law_37 : decode cL_law 37 = .ok (.aload_n 1, 1) := by decide +kernel
theorem dL_law_38 : decode cL_law 38 = .ok (.invokevirtual 289, 3) := by decide +kernel
theorem dL_law_41 : decode cL_law 41 = .ok (.ifCond .eq 31, 3) := by decide +kernel
theorem dL_law_44 : decode cL_law 44 = .ok (.aload_n 1, 1) := by decide +kernel
theorem dL_law_45 : decode cL_law 45 = .ok (.invokevirtual 292, 3) := by decide +kernel
theorem dL_law_48 : decode cL_law 48 = .ok (.ifCond .eq 24, 3) := by decide +kernel
theorem dL_law_51 : decode cL_law 51 = .ok (.aload_n 1, 1) := by decide +kernel
theorem dL_law_52 : decode cL_law 52 = .ok (.invokevirtual 295, 3) := by decide +kernel
theorem dL_law_55 : decode cL_law 55 = .ok (.ifCond .eq 17, 3) := by decide +kernel
theorem dL_law_58 : decode cL_law 58 = .ok (.aload_n 1, 1) := by decide +kernel
theorem dL_law_59 : decode cL_law 59 = .ok (.getfield 10, 3) := by decide +kernel
theorem dL_law_62 : decode cL_law 62 = .ok (.invokevirtual 298, 3) := by decide +kernel
theorem dL_law_65 : decode cL_law 65 = .ok (.ifCond .ne 7, 3) := by decide +kernel
theorem dL_law_68 : decode cL_law 68 = .ok (.iconst 1, 1) := by decide +kernel
theorem dL_law_69 : decode cL_law 69 = .ok (.goto 4, 3) := by decide +kernel
theorem dL_law_72 : decode cL_law 72 = .ok (.iconst 0, 1) := by decide +kernel
theorem dL_law_73 : decode cL_law 73 = .ok (.ireturn, 1) := by decide +kernel

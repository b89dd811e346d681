theorem dL_law_20 : decode cL_law 20 = .ok (.ifCond .eq 52, 3) := by decide +kernel
theorem dL_law_23 : decode cL_law 23 = .ok (.aload_n 1, 1) := by decide +kernel
theorem dL_law_24 : decode cL_law 24 = .ok (.invokevirtual 283, 3) := by decide +kernel
theorem dL_law_27 : decode cL_law 27 = .ok (.ifCond .eq 45, 3) := by decide +kernel
theorem dL_law_30 : decode cL_law 30 = .ok (.aload_n 1, 1) := by decide +kernel
theorem dL_law_31 : decode cL_law 31 = .ok (.invokevirtual 286, 3) := by decide +kernel
theorem dL_law_34 : decode cL_law 34 = .ok (.ifCond .eq 38, 3) := by decide +kernel
theorem dL_law_37 : decode cL_law 37 = .ok (.aload_n 1, 1) := by decide +kernel
theorem dL_law_38 : decode cL_law 38 = .ok (.invokevirtual 289, 3) := by decide +kernel
theorem dL_law_41 : decode cL_law 41 = .ok (.ifCond .eq 31, 3) := by decide +kernel
theorem dL_law_44 : decode cL_law 44 = .ok (.aload_n 1, 1) := by decide +kernel
theorem dL_law_45 : decode cL_law 45 = .ok (.invokevirtual 292, 3) := by decide +kernel
theorem dL_law_48 : decode cL_law 48 = .ok (.ifCond .eq 24, 3) := by decide +kernel
theorem dL_law_51 : decode cL_law 51 = .ok (.aload_n 1, 1) := by decide +kernel
theorem dL_law_52 : decode cL_law 52 = .ok (.invokevirtual 295, 3) := by decide +kernel
theorem dL_law_55 : decode cL_law 55 = .ok (.ifCond .eq 17, 3) := by decide +kernel
theorem dL_law_58 : decode cL_law 58 = .ok (.aload_n 1, 1) := by decide +kernel
theorem dL_law_59 : decode cL_law 59 = .ok (.getfield 10, 3) := by decide +kernel
theorem dL_law_62 : decode cL_law 62 = .ok (.invokevirtual 298, 3) := by decide +kernel
theorem dL_law_65 : decode cL_law 65 = .ok (.ifCond .ne 7, 3) := by decide +kernel
theorem dL_law_68 : decode cL_law 68 = .ok (.iconst 1, 1) := by decide +kernel
theorem dL_law_69 : decode cL_law 69 = .ok (.goto 4, 3) := by decide +kernel
theorem dL_law_72 : decode cL_law 72 = .ok (.iconst 0, 1) := by decide +kernel
theorem dL_law_73 : decode cL_law 73 = .ok (.ireturn, 1) := by decide +kernel

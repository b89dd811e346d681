set_option maxRecDepth 20000 in
theorem gX9_accepts_X9_acceptsDay : GoodIn wsX9_accepts (wsV RX9 46 RX9 yX9_acceptsDay wsX9_acceptsDay) := goodIn_app (goodIn_of _ (by decide +kernel)) ggX9_accepts_X9_acceptsDay
set_option maxRecDepth 20000 in
theorem ggX9_accepts_X9_acceptsHour : GoodIn wsX9_accepts wsX9_acceptsHour := goodIn_r _ [67, 7, 18, 68, 69, 70, 11, 71, 13, 72, 73, 74, 75, 76, 77, 78, 79, 80, 81] (by decide +kernel) (by decide +kernel)
set_option maxRecDepth 20000 in
theorem gX9_accepts_X9_acceptsHour : GoodIn wsX9_accepts (wsV RX9 50 RX9 yX9_acceptsHour wsX9_acceptsHour) := goodIn_app (goodIn_of _ (by decide +kernel)) ggX9_accepts_X9_acceptsHour
theorem dX9_accepts_0 : decode cX9_accepts 0 = .ok (.iload_n 2, 1) := by decide +kernel
theorem dX9_accepts_1 : decode cX9_accepts 1 = .ok (.tableswitch 53 0 2 #[27, 37, 43], 27) := by decide +kernel
theorem dX9_accepts_28 : decode cX9_accepts 28 = .ok (.aload_n 0, 1) := by decide +kernel
theorem dX9_accepts_29 : decode cX9_accepts 29 = .ok (.aload_n 1, 1) := by decide +kernel
theorem dX9_accepts_30 : decode cX9_accepts 30 = .ok (.iload_n 3, 1) := by decide +kernel
theorem dX9_accepts_31 : decode cX9_accepts 31 = .ok (.bipush 48, 2) := by decide +kernel
theorem dX9_accepts_33 : decode cX9_accepts 33 = .ok (.isub, 1) := by decide +kernel
theorem dX9_accepts_34 : decode cX9_accepts 34 = .ok (.invokevirtual 42, 3) := by decide +kernel
theorem dX9_accepts_37 : decode cX9_accepts 37 = .ok (.ireturn, 1) := by decide +kernel
theorem dX9_accepts_38 : decode cX9_accepts 38 = .ok (.aload_n 0, 1) := by decide +kernel
theorem dX9_accepts_39 : decode cX9_accepts 39 = .ok (.iload_n 3, 1) := by decide +kernel
theorem dX9_accepts_40 : decode cX9_accepts 40 = .ok (.invokevirtual 46, 3) := by decide +kernel
theorem dX9_accepts_43 : decode cX9_accepts 43 = .ok (.ireturn, 1) := by decide +kernel
theorem dX9_accepts_44 : decode cX9_accepts 44 = .ok (.aload_n 0, 1) := by decide +kernel
theorem dX9_accepts_45 : decode cX9_accepts 45 = .ok (.aload_n 1, 1) := by decide +kernel
theorem dX9_accepts_46 : decode cX9_accepts 46 = .ok (.iload_n 3, 1) := by decide +kernel
theorem dX9_accepts_47 : decode cX9_accepts 47 = .ok (.bipush 48, 2) := by decide +kernel
theorem dX9_accepts_49 : decode cX9_accepts 49 = .ok (.isub, 1) := by decide +kernel
theorem dX9_accepts_50 : decode cX9_accepts 50 = .ok (.invokevirtual 50, 3) := by decide +kernel
theorem dX9_accepts_53 : decode cX9_accepts 53 = .ok (.ireturn, 1) := by decide +kernel
theorem dX9_accepts_54 : decode cX9_accepts 54 = .ok (.iload_n 3, 1) := by decide +kernel
theorem dX9_accepts_55 : decode cX9_accepts 55 = .ok (.bipush 59, 2) := by decide +kernel
theorem dX9_accepts_57 : decode cX9_accepts 57 = .ok (.if_icmp .ne 7, 3) := by decide +kernel
theorem dX9_accepts_60 : decode cX9_accepts 60 = .ok (.iconst 1, 1) := by decide +kernel
theorem dX9_accepts_61 : decode cX9_accepts 61 = .ok (.goto 4, 3) := by decide +kernel
theorem dX9_accepts_64 : decode cX9_accepts 64 = .ok (.iconst 0, 1) := by decide +kernel
theorem dX9_accepts_65 : decode cX9_accepts 65 = .ok (.ireturn, 1) := by decide +kernel
set_option maxRecDepth 20000 in
theorem ggX9_acceptsLesson_X8_lessonTotal : GoodIn wsX9_acceptsLesson wsX8_lessonTotal := goodIn_r _ [7, 8, 17, 18] (by decide +kernel) (by decide +kernel)
set_option maxRecDepth 20000 in
theorem gX9_acceptsLesson_X8_lessonTotal : GoodIn wsX9_acceptsLesson (wsV RX9 36 RX8 yX8_lessonTotal wsX8_lessonTotal) := goodIn_app (goodIn_of _ (by decide +kernel)) ggX9_acceptsLesson_X8_lessonTotal
theorem dX9_acceptsLesson_0 : decode cX9_acceptsLesson 0 = .ok (.iload_n 2, 1) := by decide +kernel
theorem dX9_acceptsLesson_1 : decode cX9_acceptsLesson 1 = .ok (.ifCond .lt 22, 3) := by decide +kernel
theorem dX9_acceptsLesson_4 : decode cX9_acceptsLesson 4 = .ok (.iload_n 2, 1) := by decide +kernel
theorem dX9_acceptsLesson_5 : decode cX9_acceptsLesson 5 = .ok (.aload_n 1, 1) := by decide +kernel
theorem dX9_acceptsLesson_6 : decode cX9_acceptsLesson 6 = .ok (.invokevirtual 36, 3) := by decide +kernel
theorem dX9_acceptsLesson_9 : decode cX9_acceptsLesson 9 = .ok (.if_icmp .ge 14, 3) := by decide +kernel
theorem dX9_acceptsLesson_12 : decode cX9_acceptsLesson 12 = .ok (.aload_n 0, 1) := by decide +kernel
theorem dX9_acceptsLesson_13 : decode cX9_acceptsLesson 13 = .ok (.getfield 29, 3) := by decide +kernel
theorem dX9_acceptsLesson_16 : decode cX9_acceptsLesson 16 = .ok (.iload_n 2, 1) := by decide +kernel
theorem dX9_acceptsLesson_17 : decode cX9_acceptsLesson 17 = .ok (.ishr, 1) := by decide +kernel
theorem dX9_acceptsLesson_18 : decode cX9_acceptsLesson 18 = .ok (.iconst 1, 1) := by decide +kernel
theorem dX9_acceptsLesson_19 : decode cX9_acceptsLesson 19 = .ok (.iand, 1) := by decide +kernel
theorem dX9_acceptsLesson_20 : decode cX9_acceptsLesson 20 = .ok (.ifCond .eq 5, 3) := by decide +kernel
theorem dX9_acceptsLesson_23 : decode cX9_acceptsLesson 23 = .ok (.iconst 0, 1) := by decide +kernel
theorem dX9_acceptsLesson_24 : decode cX9_acceptsLesson 24 = .ok (.ireturn, 1) := by decide +kernel
theorem dX9_acceptsLesson_25 : decode cX9_acceptsLesson 25 = .ok (.aload_n 0, 1) := by decide +kernel
theorem dX9_acceptsLesson_26 : decode cX9_acceptsLesson 26 = .ok (.dup, 1) := by decide +kernel
theorem dX9_acceptsLesson_27 : decode cX9_acceptsLesson 27 = .ok (.getfield 29, 3) := by decide +kernel
theorem dX9_acceptsLesson_30 : decode cX9_acceptsLesson 30 = .ok (.iconst 1, 1) := by decide +kernel
theorem dX9_acceptsLesson_31 : decode cX9_acceptsLesson 31 = .ok (.iload_n 2, 1) := by decide +kernel
theorem dX9_acceptsLesson_32 : decode cX9_acceptsLesson 32 = .ok (.ishl, 1) := by decide +kernel
theorem dX9_acceptsLesson_33 : decode cX9_acceptsLesson 33 = .ok (.ior, 1) := by decide +kernel
theorem dX9_acceptsLesson_34 : decode cX9_acceptsLesson 34 = .ok (.putfield 29, 3) := by decide +kernel
theorem dX9_acceptsLesson_37 : decode cX9_acceptsLesson 37 = .ok (.aload_n 0, 1) := by decide +kernel
theorem dX9_acceptsLesson_38 : decode cX9_acceptsLesson 38 = .ok (.iload_n 2, 1) := by decide +kernel
theorem dX9_acceptsLesson_39 : decode cX9_acceptsLesson 39 = .ok (.putfield 53, 3) := by decide +kernel
theorem dX9_acceptsLesson_42 : decode cX9_acceptsLesson 42 = .ok (.iconst 1, 1) := by decide +kernel
theorem dX9_acceptsLesson_43 : decode cX9_acceptsLesson 43 = .ok (.ireturn, 1) := by decide +kernel
set_option maxRecDepth 20000 in
theorem ggX9_acceptsDay_X9_letterOfDay : GoodIn wsX9_acceptsDay wsX9_letterOfDay := goodIn_r _ [7, 8, 9, 10, 11, 12, 13, 14, 15, 16, 17, 18, 19, 20, 21, 22, 23, 24, 25, 26, 27, 28, 29, 30, 31, 32, 33, 34, 35, 36, 37, 38, 39, 40, 41, 42, 43, 44, 45, 46, 47, 48] (by decide +kernel) (by decide +kernel)
set_option maxRecDepth 20000 in
theorem gX9_acceptsDay_X9_letterOfDay : GoodIn wsX9_acceptsDay (wsV RX9 56 RX9 yX9_letterOfDay wsX9_letterOfDay) := goodIn_app (goodIn_of _ (by decide +kernel)) ggX9_acceptsDay_X9_letterOfDay
theorem dX9_acceptsDay_0 : decode cX9_acceptsDay 0 = .ok (.iconst 0, 1) := by decide +kernel
theorem dX9_acceptsDay_1 : decode cX9_acceptsDay 1 = .ok (.istore_n 2, 1) := by decide +kernel
theorem dX9_acceptsDay_2 : decode cX9_acceptsDay 2 = .ok (.iload_n 2, 1) := by decide +kernel
theorem dX9_acceptsDay_3 : decode cX9_acceptsDay 3 = .ok (.iconst 5, 1) := by decide +kernel
theorem dX9_acceptsDay_4 : decode cX9_acceptsDay 4 = .ok (.if_icmp .ge 32, 3) := by decide +kernel
theorem dX9_acceptsDay_7 : decode cX9_acceptsDay 7 = .ok (.aload_n 0, 1) := by decide +kernel
theorem dX9_acceptsDay_8 : decode cX9_acceptsDay 8 = .ok (.iload_n 2, 1) := by decide +kernel
theorem dX9_acceptsDay_9 : decode cX9_acceptsDay 9 = .ok (.invokevirtual 56, 3) := by decide +kernel
theorem dX9_acceptsDay_12 : decode cX9_acceptsDay 12 = .ok (.iload_n 1, 1) := by decide +kernel
theorem dX9_acceptsDay_13 : decode cX9_acceptsDay 13 = .ok (.if_icmp .ne 17, 3) := by decide +kernel
theorem dX9_acceptsDay_16 : decode cX9_acceptsDay 16 = .ok (.aload_n 0, 1) := by decide +kernel
theorem dX9_acceptsDay_17 : decode cX9_acceptsDay 17 = .ok (.getfield 9, 3) := by decide +kernel
theorem dX9_acceptsDay_20 : decode cX9_acceptsDay 20 = .ok (.aload_n 0, 1) := by decide +kernel
theorem dX9_acceptsDay_21 : decode cX9_acceptsDay 21 = .ok (.getfield 53, 3) := by decide +kernel
theorem dX9_acceptsDay_24 : decode cX9_acceptsDay 24 = .ok (.iload_n 2, 1) := by decide +kernel
theorem dX9_acceptsDay_25 : decode cX9_acceptsDay 25 = .ok (.iconst 4, 1) := by decide +kernel
theorem dX9_acceptsDay_26 : decode cX9_acceptsDay 26 = .ok (.imul, 1) := by decide +kernel
theorem dX9_acceptsDay_27 : decode cX9_acceptsDay 27 = .ok (.iastore, 1) := by decide +kernel
theorem dX9_acceptsDay_28 : decode cX9_acceptsDay 28 = .ok (.iconst 1, 1) := by decide +kernel
theorem dX9_acceptsDay_29 : decode cX9_acceptsDay 29 = .ok (.ireturn, 1) := by decide +kernel
theorem dX9_acceptsDay_30 : decode cX9_acceptsDay 30 = .ok (.iinc 2 1, 3) := by decide +kernel
theorem dX9_acceptsDay_33 : decode cX9_acceptsDay 33 = .ok (.goto (-31), 3) := by decide +kernel
theorem dX9_acceptsDay_36 : decode cX9_acceptsDay 36 = .ok (.iconst 0, 1) := by decide +kernel
theorem dX9_acceptsDay_37 : decode cX9_acceptsDay 37 = .ok (.ireturn, 1) := by decide +kernel
set_option maxRecDepth 20000 in
theorem ggX9_acceptsHour_X8_ofLesson : GoodIn wsX9_acceptsHour wsX8_ofLesson := goodIn_r _ [7, 8, 17, 18] (by decide +kernel) (by decide +kernel)
set_option maxRecDepth 20000 in
theorem gX9_acceptsHour_X8_ofLesson : GoodIn wsX9_acceptsHour (wsV RX9 60 RX8 yX8_ofLesson wsX8_ofLesson) := goodIn_app (goodIn_of _ (by decide +kernel)) ggX9_acceptsHour_X8_ofLesson
theorem dX9_acceptsHour_0 : decode cX9_acceptsHour 0 = .ok (.iload_n 2, 1) := by decide +kernel
theorem dX9_acceptsHour_1 : decode cX9_acceptsHour 1 = .ok (.ifCond .lt 18, 3) := by decide +kernel
theorem dX9_acceptsHour_4 : decode cX9_acceptsHour 4 = .ok (.iload_n 2, 1) := by decide +kernel
theorem dX9_acceptsHour_5 : decode cX9_acceptsHour 5 = .ok (.iconst 4, 1) := by decide +kernel
theorem dX9_acceptsHour_6 : decode cX9_acceptsHour 6 = .ok (.aload_n 1, 1) := by decide +kernel
theorem dX9_acceptsHour_7 : decode cX9_acceptsHour 7 = .ok (.aload_n 0, 1) := by decide +kernel
theorem dX9_acceptsHour_8 : decode cX9_acceptsHour 8 = .ok (.getfield 53, 3) := by decide +kernel
theorem dX9_acceptsHour_11 : decode cX9_acceptsHour 11 = .ok (.iconst 4, 1) := by decide +kernel
theorem dX9_acceptsHour_12 : decode cX9_acceptsHour 12 = .ok (.invokevirtual 60, 3) := by decide +kernel
theorem dX9_acceptsHour_15 : decode cX9_acceptsHour 15 = .ok (.isub, 1) := by decide +kernel
theorem dX9_acceptsHour_16 : decode cX9_acceptsHour 16 = .ok (.if_icmp .lt 5, 3) := by decide +kernel
theorem dX9_acceptsHour_19 : decode cX9_acceptsHour 19 = .ok (.iconst 0, 1) := by decide +kernel
theorem dX9_acceptsHour_20 : decode cX9_acceptsHour 20 = .ok (.ireturn, 1) := by decide +kernel
theorem dX9_acceptsHour_21 : decode cX9_acceptsHour 21 = .ok (.aload_n 0, 1) := by decide +kernel
theorem dX9_acceptsHour_22 : decode cX9_acceptsHour 22 = .ok (.getfield 9, 3) := by decide +kernel
theorem dX9_acceptsHour_25 : decode cX9_acceptsHour 25 = .ok (.aload_n 0, 1) := by decide +kernel
theorem dX9_acceptsHour_26 : decode cX9_acceptsHour 26 = .ok (.getfield 53, 3) := by decide +kernel
theorem dX9_acceptsHour_29 : decode cX9_acceptsHour 29 = .ok (.dup2, 1) := by decide +kernel
theorem dX9_acceptsHour_30 : decode cX9_acceptsHour 30 = .ok (.iaload, 1) := by decide +kernel
theorem dX9_acceptsHour_31 : decode cX9_acceptsHour 31 = .ok (.iload_n 2, 1) := by decide +kernel
theorem dX9_acceptsHour_32 : decode cX9_acceptsHour 32 = .ok (.iadd, 1) := by decide +kernel
theorem dX9_acceptsHour_33 : decode cX9_acceptsHour 33 = .ok (.iastore, 1) := by decide +kernel
theorem dX9_acceptsHour_34 : decode cX9_acceptsHour 34 = .ok (.iconst 1, 1) := by decide +kernel
theorem dX9_acceptsHour_35 : decode cX9_acceptsHour 35 = .ok (.ireturn, 1) := by decide +kernel
set_option maxRecDepth 20000 in
theorem ggX9_letterOfDay_J0_charAt_5068e : GoodIn wsX9_letterOfDay wsJ0_charAt_5068e := goodIn_r _ [5, 6, 7, 8, 9, 4, 10, 11, 12, 13, 14, 15, 16, 17, 18, 19, 20, 21, 22, 23, 24, 25, 26, 27, 28, 29, 30, 31, 32, 33, 34, 35, 36, 37, 38, 39, 40, 41] (by decide +kernel) (by decide +kernel)
set_option maxRecDepth 20000 in
theorem gX9_letterOfDay_J0_charAt_5068e : GoodIn wsX9_letterOfDay (wsV RX9 66 RJ0 yJ0_charAt_5068e wsJ0_charAt_5068e) := goodIn_app (goodIn_of _ (by decide +kernel)) ggX9_letterOfDay_J0_charAt_5068e
theorem dX9_letterOfDay_0 : decode cX9_letterOfDay 0 = .ok (.ldc 64, 2) := by decide +kernel
theorem dX9_letterOfDay_2 : decode cX9_letterOfDay 2 = .ok (.iload_n 1, 1) := by decide +kernel
theorem dX9_letterOfDay_3 : decode cX9_letterOfDay 3 = .ok (.invokevirtual 66, 3) := by decide +kernel
theorem dX9_letterOfDay_6 : decode cX9_letterOfDay 6 = .ok (.ireturn, 1) := by decide +kernel
set_option maxRecDepth 20000 in
theorem ggX9_print_X8_lessonTotal : GoodIn wsX9_print wsX8_lessonTotal := goodIn_r _ [8, 9, 64, 65] (by decide +kernel) (by decide +kernel)
set_option maxRecDepth 20000 in
theorem gX9_print_X8_lessonTotal : GoodIn wsX9_print (wsV RX9 36 RX8 yX8_lessonTotal wsX8_lessonTotal) := goodIn_app (goodIn_of _ (by decide +kernel)) ggX9_print_X8_lessonTotal
set_option maxRecDepth 20000 in
theorem ggX9_print_X9_letterOfDay : GoodIn wsX9_print wsX9_letterOfDay := goodIn_r _ [14, 15, 16, 17, 18, 19, 20, 21, 22, 23, 24, 25, 26, 27, 28, 29, 30, 31, 32, 33, 34, 35, 36, 37, 38, 39, 40, 41, 42, 43, 44, 45, 46, 47, 48, 49, 50, 51, 52, 53, 54, 55] (by decide +kernel) (by decide +kernel)
set_option maxRecDepth 20000 in
theorem gX9_print_X9_letterOfDay : GoodIn wsX9_print (wsV RX9 56 RX9 yX9_letterOfDay wsX9_letterOfDay) := goodIn_app (goodIn_of _ (by decide +kernel)) ggX9_print_X9_letterOfDay
theorem dX9_print_0 : decode cX9_print 0 = .ok (.aload_n 0, 1) := by decide +kernel
theorem dX9_print_1 : decode cX9_print 1 = .ok (.iconst 0, 1) := by decide +kernel
theorem dX9_print_2 : decode cX9_print 2 = .ok (.putfield 71, 3) := by decide +kernel
theorem dX9_print_5 : decode cX9_print 5 = .ok (.iconst 0, 1) := by decide +kernel
theorem dX9_print_6 : decode cX9_print 6 = .ok (.istore_n 2, 1) := by decide +kernel
theorem dX9_print_7 : decode cX9_print 7 = .ok (.iload_n 2, 1) := by decide +kernel
theorem dX9_print_8 : decode cX9_print 8 = .ok (.aload_n 1, 1) := by decide +kernel
theorem dX9_print_9 : decode cX9_print 9 = .ok (.invokevirtual 36, 3) := by decide +kernel
theorem dX9_print_12 : decode cX9_print 12 = .ok (.if_icmp .ge 89, 3) := by decide +kernel
theorem dX9_print_15 : decode cX9_print 15 = .ok (.aload_n 1, 1) := by decide +kernel
theorem dX9_print_16 : decode cX9_print 16 = .ok (.getfield 74, 3) := by decide +kernel
theorem dX9_print_19 : decode cX9_print 19 = .ok (.iload_n 2, 1) := by decide +kernel
theorem dX9_print_20 : decode cX9_print 20 = .ok (.iaload, 1) := by decide +kernel
theorem dX9_print_21 : decode cX9_print 21 = .ok (.istore_n 3, 1) := by decide +kernel
theorem dX9_print_22 : decode cX9_print 22 = .ok (.aload_n 0, 1) := by decide +kernel
theorem dX9_print_23 : decode cX9_print 23 = .ok (.getfield 15, 3) := by decide +kernel
theorem dX9_print_26 : decode cX9_print 26 = .ok (.aload_n 0, 1) := by decide +kernel
theorem dX9_print_27 : decode cX9_print 27 = .ok (.getfield 71, 3) := by decide +kernel
theorem dX9_print_30 : decode cX9_print 30 = .ok (.bipush 48, 2) := by decide +kernel
theorem dX9_print_32 : decode cX9_print 32 = .ok (.iload_n 2, 1) := by decide +kernel
theorem dX9_print_33 : decode cX9_print 33 = .ok (.iadd, 1) := by decide +kernel
theorem dX9_print_34 : decode cX9_print 34 = .ok (.i2c, 1) := by decide +kernel
theorem dX9_print_35 : decode cX9_print 35 = .ok (.castore, 1) := by decide +kernel
theorem dX9_print_36 : decode cX9_print 36 = .ok (.aload_n 0, 1) := by decide +kernel
theorem dX9_print_37 : decode cX9_print 37 = .ok (.getfield 15, 3) := by decide +kernel
theorem dX9_print_40 : decode cX9_print 40 = .ok (.aload_n 0, 1) := by decide +kernel
theorem dX9_print_41 : decode cX9_print 41 = .ok (.getfield 71, 3) := by decide +kernel
theorem dX9_print_44 : decode cX9_print 44 = .ok (.iconst 1, 1) := by decide +kernel
theorem dX9_print_45 : decode cX9_print 45 = .ok (.iadd, 1) := by decide +kernel
theorem dX9_print_46 : decode cX9_print 46 = .ok (.aload_n 0, 1) := by decide +kernel
theorem dX9_print_47 : decode cX9_print 47 = .ok (.iload_n 3, 1) := by decide +kernel
theorem dX9_print_48 : decode cX9_print 48 = .ok (.iconst 4, 1) := by decide +kernel
theorem dX9_print_49 : decode cX9_print 49 = .ok (.idiv, 1) := by decide +kernel
theorem dX9_print_50 : decode cX9_print 50 = .ok (.invokevirtual 56, 3) := by decide +kernel
theorem dX9_print_53 : decode cX9_print 53 = .ok (.castore, 1) := by decide +kernel
theorem dX9_print_54 : decode cX9_print 54 = .ok (.aload_n 0, 1) := by decide +kernel
theorem dX9_print_55 : decode cX9_print 55 = .ok (.getfield 15, 3) := by decide +kernel
theorem dX9_print_58 : decode cX9_print 58 = .ok (.aload_n 0, 1) := by decide +kernel
theorem dX9_print_59 : decode cX9_print 59 = .ok (.getfield 71, 3) := by decide +kernel
theorem dX9_print_62 : decode cX9_print 62 = .ok (.iconst 2, 1) := by decide +kernel
theorem dX9_print_63 : decode cX9_print 63 = .ok (.iadd, 1) := by decide +kernel
theorem dX9_print_64 : decode cX9_print 64 = .ok (.bipush 48, 2) := by decide +kernel
theorem dX9_print_66 : decode cX9_print 66 = .ok (.iload_n 3, 1) := by decide +kernel
theorem dX9_print_67 : decode cX9_print 67 = .ok (.iconst 4, 1) := by decide +kernel
theorem dX9_print_68 : decode cX9_print 68 = .ok (.irem, 1) := by decide +kernel
theorem dX9_print_69 : decode cX9_print 69 = .ok (.iadd, 1) := by decide +kernel
theorem dX9_print_70 : decode cX9_print 70 = .ok (.i2c, 1) := by decide +kernel
theorem dX9_print_71 : decode cX9_print 71 = .ok (.castore, 1) := by decide +kernel
theorem dX9_print_72 : decode cX9_print 72 = .ok (.aload_n 0, 1) := by decide +kernel
theorem dX9_print_73 : decode cX9_print 73 = .ok (.getfield 15, 3) := by decide +kernel
theorem dX9_print_76 : decode cX9_print 76 = .ok (.aload_n 0, 1) := by decide +kernel
theorem dX9_print_77 : decode cX9_print 77 = .ok (.getfield 71, 3) := by decide +kernel
theorem dX9_print_80 : decode cX9_print 80 = .ok (.iconst 3, 1) := by decide +kernel
theorem dX9_print_81 : decode cX9_print 81 = .ok (.iadd, 1) := by decide +kernel
theorem dX9_print_82 : decode cX9_print 82 = .ok (.bipush 59, 2) := by decide +kernel
theorem dX9_print_84 : decode cX9_print 84 = .ok (.castore, 1) := by decide +kernel
theorem dX9_print_85 : decode cX9_print 85 = .ok (.aload_n 0, 1) := by decide +kernel
theorem dX9_print_86 : decode cX9_print 86 = .ok (.dup, 1) := by decide +kernel
theorem dX9_print_87 : decode cX9_print 87 = .ok (.getfield 71, 3) := by decide +kernel
theorem dX9_print_90 : decode cX9_print 90 = .ok (.iconst 4, 1) := by decide +kernel
theorem dX9_print_91 : decode cX9_print 91 = .ok (.iadd, 1) := by decide +kernel
theorem dX9_print_92 : decode cX9_print 92 = .ok (.putfield 71, 3) := by decide +kernel
theorem dX9_print_95 : decode cX9_print 95 = .ok (.iinc 2 1, 3) := by decide +kernel
theorem dX9_print_98 : decode cX9_print 98 = .ok (.goto (-91), 3) := by decide +kernel
theorem dX9_print_101 : decode cX9_print 101 = .ok (.aload_n 0, 1) := by decide +kernel
theorem dX9_print_102 : decode cX9_print 102 = .ok (.getfield 71, 3) := by decide +kernel
theorem dX9_print_105 : decode cX9_print 105 = .ok (.ireturn, 1) := by decide +kernel
theorem dX10_init_0 : decode cX10_init 0 = .ok (.aload_n 0, 1) := by decide +kernel
theorem dX10_init_1 : decode cX10_init 1 = .ok (.invokespecial 5, 3) := by decide +kernel
theorem dX10_init_4 : decode cX10_init 4 = .ok (.aload_n 0, 1) := by decide +kernel
theorem dX10_init_5 : decode cX10_init 5 = .ok (.sipush 280, 3) := by decide +kernel
theorem dX10_init_8 : decode cX10_init 8 = .ok (.newarray .boolean, 2) := by decide +kernel
theorem dX10_init_10 : decode cX10_init 10 = .ok (.putfield 11, 3) := by decide +kernel
theorem dX10_init_13 : decode cX10_init 13 = .ok (.aload_n 0, 1) := by decide +kernel
theorem dX10_init_14 : decode cX10_init 14 = .ok (.sipush 20703, 3) := by decide +kernel
theorem dX10_init_17 : decode cX10_init 17 = .ok (.putfield 15, 3) := by decide +kernel
theorem dX10_init_20 : decode cX10_init 20 = .ok (.return_, 1) := by decide +kernel
set_option maxRecDepth 20000 in
theorem ggX10_isDate_X10_monthLength : GoodIn wsX10_isDate wsX10_monthLength := goodIn_r _ [5] (by decide +kernel) (by decide +kernel)
set_option maxRecDepth 20000 in
theorem gX10_isDate_X10_monthLength : GoodIn wsX10_isDate (wsV RX10 19 RX10 yX10_monthLength wsX10_monthLength) := goodIn_app (goodIn_of _ (by decide +kernel)) ggX10_isDate_X10_monthLength
theorem dX10_isDate_0 : decode cX10_isDate 0 = .ok (.iload_n 1, 1) := by decide +kernel
theorem dX10_isDate_1 : decode cX10_isDate 1 = .ok (.sipush 10000, 3) := by decide +kernel
theorem dX10_isDate_4 : decode cX10_isDate 4 = .ok (.idiv, 1) := by decide +kernel
theorem dX10_isDate_5 : decode cX10_isDate 5 = .ok (.istore_n 2, 1) := by decide +kernel
theorem dX10_isDate_6 : decode cX10_isDate 6 = .ok (.iload_n 1, 1) := by decide +kernel
theorem dX10_isDate_7 : decode cX10_isDate 7 = .ok (.bipush 100, 2) := by decide +kernel
theorem dX10_isDate_9 : decode cX10_isDate 9 = .ok (.idiv, 1) := by decide +kernel
theorem dX10_isDate_10 : decode cX10_isDate 10 = .ok (.bipush 100, 2) := by decide +kernel
theorem dX10_isDate_12 : decode cX10_isDate 12 = .ok (.irem, 1) := by decide +kernel
theorem dX10_isDate_13 : decode cX10_isDate 13 = .ok (.istore_n 3, 1) := by decide +kernel
theorem dX10_isDate_14 : decode cX10_isDate 14 = .ok (.iload_n 1, 1) := by decide +kernel
theorem dX10_isDate_15 : decode cX10_isDate 15 = .ok (.bipush 100, 2) := by decide +kernel
theorem dX10_isDate_17 : decode cX10_isDate 17 = .ok (.irem, 1) := by decide +kernel
theorem dX10_isDate_18 : decode cX10_isDate 18 = .ok (.istore 4, 2) := by decide +kernel
theorem dX10_isDate_20 : decode cX10_isDate 20 = .ok (.iload_n 2, 1) := by decide +kernel
theorem dX10_isDate_21 : decode cX10_isDate 21 = .ok (.sipush 2000, 3) := by decide +kernel
theorem dX10_isDate_24 : decode cX10_isDate 24 = .ok (.if_icmp .lt 42, 3) := by decide +kernel
theorem dX10_isDate_27 : decode cX10_isDate 27 = .ok (.iload_n 2, 1) := by decide +kernel
theorem dX10_isDate_28 : decode cX10_isDate 28 = .ok (.sipush 2099, 3) := by decide +kernel
theorem dX10_isDate_31 : decode cX10_isDate 31 = .ok (.if_icmp .gt 35, 3) := by decide +kernel
theorem dX10_isDate_34 : decode cX10_isDate 34 = .ok (.iload_n 3, 1) := by decide +kernel
theorem dX10_isDate_35 : decode cX10_isDate 35 = .ok (.iconst 1, 1) := by decide +kernel
theorem dX10_isDate_36 : decode cX10_isDate 36 = .ok (.if_icmp .lt 30, 3) := by decide +kernel
theorem dX10_isDate_39 : decode cX10_isDate 39 = .ok (.iload_n 3, 1) := by decide +kernel
theorem dX10_isDate_40 : decode cX10_isDate 40 = .ok (.bipush 12, 2) := by decide +kernel
theorem dX10_isDate_42 : decode cX10_isDate 42 = .ok (.if_icmp .gt 24, 3) := by decide +kernel
theorem dX10_isDate_45 : decode cX10_isDate 45 = .ok (.iload 4, 2) := by decide +kernel
theorem dX10_isDate_47 : decode cX10_isDate 47 = .ok (.iconst 1, 1) := by decide +kernel
theorem dX10_isDate_48 : decode cX10_isDate 48 = .ok (.if_icmp .lt 18, 3) := by decide +kernel
theorem dX10_isDate_51 : decode cX10_isDate 51 = .ok (.iload 4, 2) := by decide +kernel
theorem dX10_isDate_53 : decode cX10_isDate 53 = .ok (.aload_n 0, 1) := by decide +kernel
theorem dX10_isDate_54 : decode cX10_isDate 54 = .ok (.iload_n 2, 1) := by decide +kernel
theorem dX10_isDate_55 : decode cX10_isDate 55 = .ok (.iload_n 3, 1) := by decide +kernel
theorem dX10_isDate_56 : decode cX10_isDate 56 = .ok (.invokevirtual 19, 3) := by decide +kernel
theorem dX10_isDate_59 : decode cX10_isDate 59 = .ok (.if_icmp .gt 7, 3) := by decide +kernel
theorem dX10_isDate_62 : decode cX10_isDate 62 = .ok (.iconst 1, 1) := by decide +kernel
theorem dX10_isDate_63 : decode cX10_isDate 63 = .ok (.goto 4, 3) := by decide +kernel
theorem dX10_isDate_66 : decode cX10_isDate 66 = .ok (.iconst 0, 1) := by decide +kernel
theorem dX10_isDate_67 : decode cX10_isDate 67 = .ok (.ireturn, 1) := by decide +kernel
theorem dX10_monthLength_0 : decode cX10_monthLength 0 = .ok (.iload_n 2, 1) := by decide +kernel
theorem dX10_monthLength_1 : decode cX10_monthLength 1 = .ok (.iconst 2, 1) := by decide +kernel
theorem dX10_monthLength_2 : decode cX10_monthLength 2 = .ok (.if_icmp .ne 42, 3) := by decide +kernel
theorem dX10_monthLength_5 : decode cX10_monthLength 5 = .ok (.iload_n 1, 1) := by decide +kernel
theorem dX10_monthLength_6 : decode cX10_monthLength 6 = .ok (.iconst 4, 1) := by decide +kernel
theorem dX10_monthLength_7 : decode cX10_monthLength 7 = .ok (.irem, 1) := by decide +kernel
theorem dX10_monthLength_8 : decode cX10_monthLength 8 = .ok (.ifCond .ne 22, 3) := by decide +kernel
theorem dX10_monthLength_11 : decode cX10_monthLength 11 = .ok (.iload_n 1, 1) := by decide +kernel
theorem dX10_monthLength_12 : decode cX10_monthLength 12 = .ok (.bipush 100, 2) := by decide +kernel
theorem dX10_monthLength_14 : decode cX10_monthLength 14 = .ok (.irem, 1) := by decide +kernel
theorem dX10_monthLength_15 : decode cX10_monthLength 15 = .ok (.ifCond .ne 11, 3) := by decide +kernel
theorem dX10_monthLength_18 : decode cX10_monthLength 18 = .ok (.iload_n 1, 1) := by decide +kernel
theorem dX10_monthLength_19 : decode cX10_monthLength 19 = .ok (.sipush 400, 3) := by decide +kernel
theorem dX10_monthLength_22 : decode cX10_monthLength 22 = .ok (.irem, 1) := by decide +kernel
theorem dX10_monthLength_23 : decode cX10_monthLength 23 = .ok (.ifCond .ne 7, 3) := by decide +kernel
theorem dX10_monthLength_26 : decode cX10_monthLength 26 = .ok (.iconst 1, 1) := by decide +kernel
theorem dX10_monthLength_27 : decode cX10_monthLength 27 = .ok (.goto 4, 3) := by decide +kernel
theorem dX10_monthLength_30 : decode cX10_monthLength 30 = .ok (.iconst 0, 1) := by decide +kernel
theorem dX10_monthLength_31 : decode cX10_monthLength 31 = .ok (.istore_n 3, 1) := by decide +kernel
theorem dX10_monthLength_32 : decode cX10_monthLength 32 = .ok (.iload_n 3, 1) := by decide +kernel
theorem dX10_monthLength_33 : decode cX10_monthLength 33 = .ok (.ifCond .eq 8, 3) := by decide +kernel
theorem dX10_monthLength_36 : decode cX10_monthLength 36 = .ok (.bipush 29, 2) := by decide +kernel
theorem dX10_monthLength_38 : decode cX10_monthLength 38 = .ok (.goto 5, 3) := by decide +kernel
theorem dX10_monthLength_41 : decode cX10_monthLength 41 = .ok (.bipush 28, 2) := by decide +kernel
theorem dX10_monthLength_43 : decode cX10_monthLength 43 = .ok (.ireturn, 1) := by decide +kernel
theorem dX10_monthLength_44 : decode cX10_monthLength 44 = .ok (.iload_n 2, 1) := by decide +kernel
theorem dX10_monthLength_45 : decode cX10_monthLength 45 = .ok (.iconst 4, 1) := by decide +kernel
theorem dX10_monthLength_46 : decode cX10_monthLength 46 = .ok (.if_icmp .eq 21, 3) := by decide +kernel
theorem dX10_monthLength_49 : decode cX10_monthLength 49 = .ok (.iload_n 2, 1) := by decide +kernel
theorem dX10_monthLength_50 : decode cX10_monthLength 50 = .ok (.bipush 6, 2) := by decide +kernel
theorem dX10_monthLength_52 : decode cX10_monthLength 52 = .ok (.if_icmp .eq 15, 3) := by decide +kernel
theorem dX10_monthLength_55 : decode cX10_monthLength 55 = .ok (.iload_n 2, 1) := by decide +kernel
theorem dX10_monthLength_56 : decode cX10_monthLength 56 = .ok (.bipush 9, 2) := by decide +kernel
theorem dX10_monthLength_58 : decode cX10_monthLength 58 = .ok (.if_icmp .eq 9, 3) := by decide +kernel
theorem dX10_monthLength_61 : decode cX10_monthLength 61 = .ok (.iload_n 2, 1) := by decide +kernel
theorem dX10_monthLength_62 : decode cX10_monthLength 62 = .ok (.bipush 11, 2) := by decide +kernel
theorem dX10_monthLength_64 : decode cX10_monthLength 64 = .ok (.if_icmp .ne 8, 3) := by decide +kernel
theorem dX10_monthLength_67 : decode cX10_monthLength 67 = .ok (.bipush 30, 2) := by decide +kernel
theorem dX10_monthLength_69 : decode cX10_monthLength 69 = .ok (.goto 5, 3) := by decide +kernel
theorem dX10_monthLength_72 : decode cX10_monthLength 72 = .ok (.bipush 31, 2) := by decide +kernel
theorem dX10_monthLength_74 : decode cX10_monthLength 74 = .ok (.ireturn, 1) := by decide +kernel
theorem dX10_serialOf_0 : decode cX10_serialOf 0 = .ok (.iload_n 1, 1) := by decide +kernel
theorem dX10_serialOf_1 : decode cX10_serialOf 1 = .ok (.bipush 100, 2) := by decide +kernel
theorem dX10_serialOf_3 : decode cX10_serialOf 3 = .ok (.idiv, 1) := by decide +kernel
theorem dX10_serialOf_4 : decode cX10_serialOf 4 = .ok (.bipush 100, 2) := by decide +kernel
theorem dX10_serialOf_6 : decode cX10_serialOf 6 = .ok (.irem, 1) := by decide +kernel
theorem dX10_serialOf_7 : decode cX10_serialOf 7 = .ok (.istore_n 2, 1) := by decide +kernel
theorem dX10_serialOf_8 : decode cX10_serialOf 8 = .ok (.iload_n 1, 1) := by decide +kernel
theorem dX10_serialOf_9 : decode cX10_serialOf 9 = .ok (.sipush 10000, 3) := by decide +kernel
theorem dX10_serialOf_12 : decode cX10_serialOf 12 = .ok (.idiv, 1) := by decide +kernel
theorem dX10_serialOf_13 : decode cX10_serialOf 13 = .ok (.iload_n 2, 1) := by decide +kernel
theorem dX10_serialOf_14 : decode cX10_serialOf 14 = .ok (.iconst 2, 1) := by decide +kernel
theorem dX10_serialOf_15 : decode cX10_serialOf 15 = .ok (.if_icmp .gt 7, 3) := by decide +kernel
theorem dX10_serialOf_18 : decode cX10_serialOf 18 = .ok (.iconst 1, 1) := by decide +kernel
theorem dX10_serialOf_19 : decode cX10_serialOf 19 = .ok (.goto 4, 3) := by decide +kernel
theorem dX10_serialOf_22 : decode cX10_serialOf 22 = .ok (.iconst 0, 1) := by decide +kernel
theorem dX10_serialOf_23 : decode cX10_serialOf 23 = .ok (.isub, 1) := by decide +kernel
theorem dX10_serialOf_24 : decode cX10_serialOf 24 = .ok (.istore_n 3, 1) := by decide +kernel
theorem dX10_serialOf_25 : decode cX10_serialOf 25 = .ok (.iload_n 3, 1) := by decide +kernel
theorem dX10_serialOf_26 : decode cX10_serialOf 26 = .ok (.sipush 400, 3) := by decide +kernel
theorem dX10_serialOf_29 : decode cX10_serialOf 29 = .ok (.irem, 1) := by decide +kernel
theorem dX10_serialOf_30 : decode cX10_serialOf 30 = .ok (.istore 4, 2) := by decide +kernel
theorem dX10_serialOf_32 : decode cX10_serialOf 32 = .ok (.iload_n 2, 1) := by decide +kernel
theorem dX10_serialOf_33 : decode cX10_serialOf 33 = .ok (.bipush 9, 2) := by decide +kernel
theorem dX10_serialOf_35 : decode cX10_serialOf 35 = .ok (.iadd, 1) := by decide +kernel
theorem dX10_serialOf_36 : decode cX10_serialOf 36 = .ok (.bipush 12, 2) := by decide +kernel
theorem dX10_serialOf_38 : decode cX10_serialOf 38 = .ok (.irem, 1) := by decide +kernel
theorem dX10_serialOf_39 : decode cX10_serialOf 39 = .ok (.istore 5, 2) := by decide +kernel
theorem dX10_serialOf_41 : decode cX10_serialOf 41 = .ok (.sipush 153, 3) := by decide +kernel
theorem dX10_serialOf_44 : decode cX10_serialOf 44 = .ok (.iload 5, 2) := by decide +kernel
theorem dX10_serialOf_46 : decode cX10_serialOf 46 = .ok (.imul, 1) := by decide +kernel
theorem dX10_serialOf_47 : decode cX10_serialOf 47 = .ok (.iconst 2, 1) := by decide +kernel
theorem dX10_serialOf_48 : decode cX10_serialOf 48 = .ok (.iadd, 1) := by decide +kernel
theorem dX10_serialOf_49 : decode cX10_serialOf 49 = .ok (.iconst 5, 1) := by decide +kernel
theorem dX10_serialOf_50 : decode cX10_serialOf 50 = .ok (.idiv, 1) := by decide +kernel
theorem dX10_serialOf_51 : decode cX10_serialOf 51 = .ok (.iload_n 1, 1) := by decide +kernel
theorem dX10_serialOf_52 : decode cX10_serialOf 52 = .ok (.bipush 100, 2) := by decide +kernel
theorem dX10_serialOf_54 : decode cX10_serialOf 54 = .ok (.irem, 1) := by decide +kernel
theorem dX10_serialOf_55 : decode cX10_serialOf 55 = .ok (.iadd, 1) := by decide +kernel
theorem dX10_serialOf_56 : decode cX10_serialOf 56 = .ok (.iconst 1, 1) := by decide +kernel
theorem dX10_serialOf_57 : decode cX10_serialOf 57 = .ok (.isub, 1) := by decide +kernel
theorem dX10_serialOf_58 : decode cX10_serialOf 58 = .ok (.istore 6, 2) := by decide +kernel
theorem dX10_serialOf_60 : decode cX10_serialOf 60 = .ok (.iload_n 3, 1) := by decide +kernel
theorem dX10_serialOf_61 : decode cX10_serialOf 61 = .ok (.sipush 400, 3) := by decide +kernel
theorem dX10_serialOf_64 : decode cX10_serialOf 64 = .ok (.idiv, 1) := by decide +kernel
theorem dX10_serialOf_65 : decode cX10_serialOf 65 = .ok (.ldc 23, 2) := by decide +kernel
theorem dX10_serialOf_67 : decode cX10_serialOf 67 = .ok (.imul, 1) := by decide +kernel
theorem dX10_serialOf_68 : decode cX10_serialOf 68 = .ok (.iload 4, 2) := by decide +kernel
theorem dX10_serialOf_70 : decode cX10_serialOf 70 = .ok (.sipush 365, 3) := by decide +kernel
theorem dX10_serialOf_73 : decode cX10_serialOf 73 = .ok (.imul, 1) := by decide +kernel
theorem dX10_serialOf_74 : decode cX10_serialOf 74 = .ok (.iadd, 1) := by decide +kernel
theorem dX10_serialOf_75 : decode cX10_serialOf 75 = .ok (.iload 4, 2) := by decide +kernel
theorem dX10_serialOf_77 : decode cX10_serialOf 77 = .ok (.iconst 4, 1) := by decide +kernel
theorem dX10_serialOf_78 : decode cX10_serialOf 78 = .ok (.idiv, 1) := by decide +kernel
theorem dX10_serialOf_79 : decode cX10_serialOf 79 = .ok (.iadd, 1) := by decide +kernel
theorem dX10_serialOf_80 : decode cX10_serialOf 80 = .ok (.iload 4, 2) := by decide +kernel
theorem dX10_serialOf_82 : decode cX10_serialOf 82 = .ok (.bipush 100, 2) := by decide +kernel
theorem dX10_serialOf_84 : decode cX10_serialOf 84 = .ok (.idiv, 1) := by decide +kernel
theorem dX10_serialOf_85 : decode cX10_serialOf 85 = .ok (.isub, 1) := by decide +kernel
theorem dX10_serialOf_86 : decode cX10_serialOf 86 = .ok (.iload 6, 2) := by decide +kernel
theorem dX10_serialOf_88 : decode cX10_serialOf 88 = .ok (.iadd, 1) := by decide +kernel
theorem dX10_serialOf_89 : decode cX10_serialOf 89 = .ok (.ldc 24, 2) := by decide +kernel
theorem dX10_serialOf_91 : decode cX10_serialOf 91 = .ok (.isub, 1) := by decide +kernel
theorem dX10_serialOf_92 : decode cX10_serialOf 92 = .ok (.ireturn, 1) := by decide +kernel
theorem dX10_dateAt_0 : decode cX10_dateAt 0 = .ok (.iload_n 1, 1) := by decide +kernel
theorem dX10_dateAt_1 : decode cX10_dateAt 1 = .ok (.ldc 24, 2) := by decide +kernel
theorem dX10_dateAt_3 : decode cX10_dateAt 3 = .ok (.iadd, 1) := by decide +kernel
theorem dX10_dateAt_4 : decode cX10_dateAt 4 = .ok (.istore_n 2, 1) := by decide +kernel
theorem dX10_dateAt_5 : decode cX10_dateAt 5 = .ok (.iload_n 2, 1) := by decide +kernel
theorem dX10_dateAt_6 : decode cX10_dateAt 6 = .ok (.ldc 23, 2) := by decide +kernel
theorem dX10_dateAt_8 : decode cX10_dateAt 8 = .ok (.irem, 1) := by decide +kernel
theorem dX10_dateAt_9 : decode cX10_dateAt 9 = .ok (.istore_n 3, 1) := by decide +kernel
theorem dX10_dateAt_10 : decode cX10_dateAt 10 = .ok (.iload_n 3, 1) := by decide +kernel
theorem dX10_dateAt_11 : decode cX10_dateAt 11 = .ok (.iload_n 3, 1) := by decide +kernel
theorem dX10_dateAt_12 : decode cX10_dateAt 12 = .ok (.sipush 1460, 3) := by decide +kernel
theorem dX10_dateAt_15 : decode cX10_dateAt 15 = .ok (.idiv, 1) := by decide +kernel
theorem dX10_dateAt_16 : decode cX10_dateAt 16 = .ok (.isub, 1) := by decide +kernel
theorem dX10_dateAt_17 : decode cX10_dateAt 17 = .ok (.iload_n 3, 1) := by decide +kernel
theorem dX10_dateAt_18 : decode cX10_dateAt 18 = .ok (.ldc 25, 2) := by decide +kernel
theorem dX10_dateAt_20 : decode cX10_dateAt 20 = .ok (.idiv, 1) := by decide +kernel
theorem dX10_dateAt_21 : decode cX10_dateAt 21 = .ok (.iadd, 1) := by decide +kernel
theorem dX10_dateAt_22 : decode cX10_dateAt 22 = .ok (.iload_n 3, 1) := by decide +kernel
theorem dX10_dateAt_23 : decode cX10_dateAt 23 = .ok (.ldc 26, 2) := by decide +kernel
theorem dX10_dateAt_25 : decode cX10_dateAt 25 = .ok (.idiv, 1) := by decide +kernel
theorem dX10_dateAt_26 : decode cX10_dateAt 26 = .ok (.isub, 1) := by decide +kernel
theorem dX10_dateAt_27 : decode cX10_dateAt 27 = .ok (.sipush 365, 3) := by decide +kernel
theorem dX10_dateAt_30 : decode cX10_dateAt 30 = .ok (.idiv, 1) := by decide +kernel
theorem dX10_dateAt_31 : decode cX10_dateAt 31 = .ok (.istore 4, 2) := by decide +kernel
theorem dX10_dateAt_33 : decode cX10_dateAt 33 = .ok (.iload_n 3, 1) := by decide +kernel
theorem dX10_dateAt_34 : decode cX10_dateAt 34 = .ok (.sipush 365, 3) := by decide +kernel
theorem dX10_dateAt_37 : decode cX10_dateAt 37 = .ok (.iload 4, 2) := by decide +kernel
theorem dX10_dateAt_39 : decode cX10_dateAt 39 = .ok (.imul, 1) := by decide +kernel
theorem dX10_dateAt_40 : decode cX10_dateAt 40 = .ok (.iload 4, 2) := by decide +kernel
theorem dX10_dateAt_42 : decode cX10_dateAt 42 = .ok (.iconst 4, 1) := by decide +kernel
theorem dX10_dateAt_43 : decode cX10_dateAt 43 = .ok (.idiv, 1) := by decide +kernel
theorem dX10_dateAt_44 : decode cX10_dateAt 44 = .ok (.iadd, 1) := by decide +kernel
theorem dX10_dateAt_45 : decode cX10_dateAt 45 = .ok (.iload 4, 2) := by decide +kernel
theorem dX10_dateAt_47 : decode cX10_dateAt 47 = .ok (.bipush 100, 2) := by decide +kernel
theorem dX10_dateAt_49 : decode cX10_dateAt 49 = .ok (.idiv, 1) := by decide +kernel
theorem dX10_dateAt_50 : decode cX10_dateAt 50 = .ok (.isub, 1) := by decide +kernel
theorem dX10_dateAt_51 : decode cX10_dateAt 51 = .ok (.isub, 1) := by decide +kernel
theorem dX10_dateAt_52 : decode cX10_dateAt 52 = .ok (.istore 5, 2) := by decide +kernel
theorem dX10_dateAt_54 : decode cX10_dateAt 54 = .ok (.iconst 5, 1) := by decide +kernel
theorem dX10_dateAt_55 : decode cX10_dateAt 55 = .ok (.iload 5, 2) := by decide +kernel
theorem dX10_dateAt_57 : decode cX10_dateAt 57 = .ok (.imul, 1) := by decide +kernel
theorem dX10_dateAt_58 : decode cX10_dateAt 58 = .ok (.iconst 2, 1) := by decide +kernel
theorem dX10_dateAt_59 : decode cX10_dateAt 59 = .ok (.iadd, 1) := by decide +kernel
theorem dX10_dateAt_60 : decode cX10_dateAt 60 = .ok (.sipush 153, 3) := by decide +kernel
theorem dX10_dateAt_63 : decode cX10_dateAt 63 = .ok (.idiv, 1) := by decide +kernel
theorem dX10_dateAt_64 : decode cX10_dateAt 64 = .ok (.istore 6, 2) := by decide +kernel
theorem dX10_dateAt_66 : decode cX10_dateAt 66 = .ok (.iload 5, 2) := by decide +kernel
theorem dX10_dateAt_68 : decode cX10_dateAt 68 = .ok (.sipush 153, 3) := by decide +kernel
theorem dX10_dateAt_71 : decode cX10_dateAt 71 = .ok (.iload 6, 2) := by decide +kernel
theorem dX10_dateAt_73 : decode cX10_dateAt 73 = .ok (.imul, 1) := by decide +kernel
theorem dX10_dateAt_74 : decode cX10_dateAt 74 = .ok (.iconst 2, 1) := by decide +kernel
theorem dX10_dateAt_75 : decode cX10_dateAt 75 = .ok (.iadd, 1) := by decide +kernel
theorem dX10_dateAt_76 : decode cX10_dateAt 76 = .ok (.iconst 5, 1) := by decide +kernel
theorem dX10_dateAt_77 : decode cX10_dateAt 77 = .ok (.idiv, 1) := by decide +kernel
theorem dX10_dateAt_78 : decode cX10_dateAt 78 = .ok (.isub, 1) := by decide +kernel
theorem dX10_dateAt_79 : decode cX10_dateAt 79 = .ok (.iconst 1, 1) := by decide +kernel
theorem dX10_dateAt_80 : decode cX10_dateAt 80 = .ok (.iadd, 1) := by decide +kernel
theorem dX10_dateAt_81 : decode cX10_dateAt 81 = .ok (.istore 7, 2) := by decide +kernel
theorem dX10_dateAt_83 : decode cX10_dateAt 83 = .ok (.iload 6, 2) := by decide +kernel
theorem dX10_dateAt_85 : decode cX10_dateAt 85 = .ok (.bipush 10, 2) := by decide +kernel
theorem dX10_dateAt_87 : decode cX10_dateAt 87 = .ok (.if_icmp .ge 10, 3) := by decide +kernel
theorem dX10_dateAt_90 : decode cX10_dateAt 90 = .ok (.iload 6, 2) := by decide +kernel
theorem dX10_dateAt_92 : decode cX10_dateAt 92 = .ok (.iconst 3, 1) := by decide +kernel
theorem dX10_dateAt_93 : decode cX10_dateAt 93 = .ok (.iadd, 1) := by decide +kernel
theorem dX10_dateAt_94 : decode cX10_dateAt 94 = .ok (.goto 8, 3) := by decide +kernel
theorem dX10_dateAt_97 : decode cX10_dateAt 97 = .ok (.iload 6, 2) := by decide +kernel
theorem dX10_dateAt_99 : decode cX10_dateAt 99 = .ok (.bipush 9, 2) := by decide +kernel
theorem dX10_dateAt_101 : decode cX10_dateAt 101 = .ok (.isub, 1) := by decide +kernel
theorem dX10_dateAt_102 : decode cX10_dateAt 102 = .ok (.istore 8, 2) := by decide +kernel
theorem dX10_dateAt_104 : decode cX10_dateAt 104 = .ok (.iload_n 2, 1) := by decide +kernel
theorem dX10_dateAt_105 : decode cX10_dateAt 105 = .ok (.ldc 23, 2) := by decide +kernel
theorem dX10_dateAt_107 : decode cX10_dateAt 107 = .ok (.idiv, 1) := by decide +kernel
theorem dX10_dateAt_108 : decode cX10_dateAt 108 = .ok (.sipush 400, 3) := by decide +kernel
theorem dX10_dateAt_111 : decode cX10_dateAt 111 = .ok (.imul, 1) := by decide +kernel
theorem dX10_dateAt_112 : decode cX10_dateAt 112 = .ok (.iload 4, 2) := by decide +kernel
theorem dX10_dateAt_114 : decode cX10_dateAt 114 = .ok (.iadd, 1) := by decide +kernel
theorem dX10_dateAt_115 : decode cX10_dateAt 115 = .ok (.iload 8, 2) := by decide +kernel
theorem dX10_dateAt_117 : decode cX10_dateAt 117 = .ok (.iconst 2, 1) := by decide +kernel
theorem dX10_dateAt_118 : decode cX10_dateAt 118 = .ok (.if_icmp .gt 7, 3) := by decide +kernel
theorem dX10_dateAt_121 : decode cX10_dateAt 121 = .ok (.iconst 1, 1) := by decide +kernel
theorem dX10_dateAt_122 : decode cX10_dateAt 122 = .ok (.goto 4, 3) := by decide +kernel
theorem dX10_dateAt_125 : decode cX10_dateAt 125 = .ok (.iconst 0, 1) := by decide +kernel
theorem dX10_dateAt_126 : decode cX10_dateAt 126 = .ok (.iadd, 1) := by decide +kernel
theorem dX10_dateAt_127 : decode cX10_dateAt 127 = .ok (.istore 9, 2) := by decide +kernel
theorem dX10_dateAt_129 : decode cX10_dateAt 129 = .ok (.iload 9, 2) := by decide +kernel
theorem dX10_dateAt_131 : decode cX10_dateAt 131 = .ok (.sipush 10000, 3) := by decide +kernel
theorem dX10_dateAt_134 : decode cX10_dateAt 134 = .ok (.imul, 1) := by decide +kernel
theorem dX10_dateAt_135 : decode cX10_dateAt 135 = .ok (.iload 8, 2) := by decide +kernel
theorem dX10_dateAt_137 : decode cX10_dateAt 137 = .ok (.bipush 100, 2) := by decide +kernel
theorem dX10_dateAt_139 : decode cX10_dateAt 139 = .ok (.imul, 1) := by decide +kernel
theorem dX10_dateAt_140 : decode cX10_dateAt 140 = .ok (.iadd, 1) := by decide +kernel
theorem dX10_dateAt_141 : decode cX10_dateAt 141 = .ok (.iload 7, 2) := by decide +kernel
theorem dX10_dateAt_143 : decode cX10_dateAt 143 = .ok (.iadd, 1) := by decide +kernel
theorem dX10_dateAt_144 : decode cX10_dateAt 144 = .ok (.ireturn, 1) := by decide +kernel
set_option maxRecDepth 20000 in
theorem ggX10_weekday_J9_floorMod_7cf53 : GoodIn wsX10_weekday wsJ9_floorMod_7cf53 := goodIn_r _ [4] (by decide +kernel) (by decide +kernel)
set_option maxRecDepth 20000 in
theorem gX10_weekday_J9_floorMod_7cf53 : GoodIn wsX10_weekday (va_wsS RX10 27 yJ9_floorMod_7cf53 wsJ9_floorMod_7cf53) := goodIn_app (goodIn_of _ (by decide +kernel)) ggX10_weekday_J9_floorMod_7cf53
theorem dX10_weekday_0 : decode cX10_weekday 0 = .ok (.iload_n 1, 1) := by decide +kernel
theorem dX10_weekday_1 : decode cX10_weekday 1 = .ok (.iconst 4, 1) := by decide +kernel
theorem dX10_weekday_2 : decode cX10_weekday 2 = .ok (.isub, 1) := by decide +kernel
theorem dX10_weekday_3 : decode cX10_weekday 3 = .ok (.bipush 7, 2) := by decide +kernel
theorem dX10_weekday_5 : decode cX10_weekday 5 = .ok (.invokestatic 27, 3) := by decide +kernel
theorem dX10_weekday_8 : decode cX10_weekday 8 = .ok (.ireturn, 1) := by decide +kernel
set_option maxRecDepth 20000 in
theorem ggX10_beginAt_X10_dateAt : GoodIn wsX10_beginAt wsX10_dateAt := goodIn_r _ [8, 9, 10, 11, 12] (by decide +kernel) (by decide +kernel)
set_option maxRecDepth 20000 in
theorem gX10_beginAt_X10_dateAt : GoodIn wsX10_beginAt (wsV RX10 32 RX10 yX10_dateAt wsX10_dateAt) := goodIn_app (goodIn_of _ (by decide +kernel)) ggX10_beginAt_X10_dateAt
theorem dX10_beginAt_0 : decode cX10_beginAt 0 = .ok (.aload_n 0, 1) := by decide +kernel
theorem dX10_beginAt_1 : decode cX10_beginAt 1 = .ok (.aload_n 0, 1) := by decide +kernel
theorem dX10_beginAt_2 : decode cX10_beginAt 2 = .ok (.getfield 15, 3) := by decide +kernel
theorem dX10_beginAt_5 : decode cX10_beginAt 5 = .ok (.invokevirtual 32, 3) := by decide +kernel
theorem dX10_beginAt_8 : decode cX10_beginAt 8 = .ok (.istore_n 2, 1) := by decide +kernel
theorem dX10_beginAt_9 : decode cX10_beginAt 9 = .ok (.aload_n 0, 1) := by decide +kernel
theorem dX10_beginAt_10 : decode cX10_beginAt 10 = .ok (.iload_n 1, 1) := by decide +kernel
theorem dX10_beginAt_11 : decode cX10_beginAt 11 = .ok (.putfield 15, 3) := by decide +kernel
theorem dX10_beginAt_14 : decode cX10_beginAt 14 = .ok (.aload_n 0, 1) := by decide +kernel
theorem dX10_beginAt_15 : decode cX10_beginAt 15 = .ok (.iconst 0, 1) := by decide +kernel
theorem dX10_beginAt_16 : decode cX10_beginAt 16 = .ok (.putfield 36, 3) := by decide +kernel
theorem dX10_beginAt_19 : decode cX10_beginAt 19 = .ok (.iconst 0, 1) := by decide +kernel
theorem dX10_beginAt_20 : decode cX10_beginAt 20 = .ok (.istore_n 3, 1) := by decide +kernel
theorem dX10_beginAt_21 : decode cX10_beginAt 21 = .ok (.iload_n 3, 1) := by decide +kernel
theorem dX10_beginAt_22 : decode cX10_beginAt 22 = .ok (.sipush 280, 3) := by decide +kernel
theorem dX10_beginAt_25 : decode cX10_beginAt 25 = .ok (.if_icmp .ge 16, 3) := by decide +kernel
theorem dX10_beginAt_28 : decode cX10_beginAt 28 = .ok (.aload_n 0, 1) := by decide +kernel
theorem dX10_beginAt_29 : decode cX10_beginAt 29 = .ok (.getfield 11, 3) := by decide +kernel
theorem dX10_beginAt_32 : decode cX10_beginAt 32 = .ok (.iload_n 3, 1) := by decide +kernel
theorem dX10_beginAt_33 : decode cX10_beginAt 33 = .ok (.iconst 0, 1) := by decide +kernel
theorem dX10_beginAt_34 : decode cX10_beginAt 34 = .ok (.bastore, 1) := by decide +kernel
theorem dX10_beginAt_35 : decode cX10_beginAt 35 = .ok (.iinc 3 1, 3) := by decide +kernel
theorem dX10_beginAt_38 : decode cX10_beginAt 38 = .ok (.goto (-17), 3) := by decide +kernel
theorem dX10_beginAt_41 : decode cX10_beginAt 41 = .ok (.iload_n 2, 1) := by decide +kernel
theorem dX10_beginAt_42 : decode cX10_beginAt 42 = .ok (.ireturn, 1) := by decide +kernel
theorem dX10_addHoliday_0 : decode cX10_addHoliday 0 = .ok (.iload_n 1, 1) := by decide +kernel
theorem dX10_addHoliday_1 : decode cX10_addHoliday 1 = .ok (.aload_n 0, 1) := by decide +kernel
theorem dX10_addHoliday_2 : decode cX10_addHoliday 2 = .ok (.getfield 15, 3) := by decide +kernel
theorem dX10_addHoliday_5 : decode cX10_addHoliday 5 = .ok (.isub, 1) := by decide +kernel
theorem dX10_addHoliday_6 : decode cX10_addHoliday 6 = .ok (.iconst 0, 1) := by decide +kernel
theorem dX10_addHoliday_7 : decode cX10_addHoliday 7 = .ok (.invokestatic 39, 3) := by decide +kernel
theorem dX10_addHoliday_10 : decode cX10_addHoliday 10 = .ok (.istore_n 3, 1) := by decide +kernel
theorem dX10_addHoliday_11 : decode cX10_addHoliday 11 = .ok (.iload_n 3, 1) := by decide +kernel
theorem dX10_addHoliday_12 : decode cX10_addHoliday 12 = .ok (.sipush 280, 3) := by decide +kernel
theorem dX10_addHoliday_15 : decode cX10_addHoliday 15 = .ok (.if_icmp .ge 26, 3) := by decide +kernel
theorem dX10_addHoliday_18 : decode cX10_addHoliday 18 = .ok (.iload_n 3, 1) := by decide +kernel
theorem dX10_addHoliday_19 : decode cX10_addHoliday 19 = .ok (.iload_n 2, 1) := by decide +kernel
theorem dX10_addHoliday_20 : decode cX10_addHoliday 20 = .ok (.aload_n 0, 1) := by decide +kernel
theorem dX10_addHoliday_21 : decode cX10_addHoliday 21 = .ok (.getfield 15, 3) := by decide +kernel
theorem dX10_addHoliday_24 : decode cX10_addHoliday 24 = .ok (.isub, 1) := by decide +kernel
theorem dX10_addHoliday_25 : decode cX10_addHoliday 25 = .ok (.if_icmp .gt 16, 3) := by decide +kernel
theorem dX10_addHoliday_28 : decode cX10_addHoliday 28 = .ok (.aload_n 0, 1) := by decide +kernel
theorem dX10_addHoliday_29 : decode cX10_addHoliday 29 = .ok (.getfield 11, 3) := by decide +kernel
theorem dX10_addHoliday_32 : decode cX10_addHoliday 32 = .ok (.iload_n 3, 1) := by decide +kernel
theorem dX10_addHoliday_33 : decode cX10_addHoliday 33 = .ok (.iconst 1, 1) := by decide +kernel
theorem dX10_addHoliday_34 : decode cX10_addHoliday 34 = .ok (.bastore, 1) := by decide +kernel
theorem dX10_addHoliday_35 : decode cX10_addHoliday 35 = .ok (.iinc 3 1, 3) := by decide +kernel
theorem dX10_addHoliday_38 : decode cX10_addHoliday 38 = .ok (.goto (-27), 3) := by decide +kernel
theorem dX10_addHoliday_41 : decode cX10_addHoliday 41 = .ok (.aload_n 0, 1) := by decide +kernel
theorem dX10_addHoliday_42 : decode cX10_addHoliday 42 = .ok (.dup, 1) := by decide +kernel
theorem dX10_addHoliday_43 : decode cX10_addHoliday 43 = .ok (.getfield 36, 3) := by decide +kernel
theorem dX10_addHoliday_46 : decode cX10_addHoliday 46 = .ok (.iconst 1, 1) := by decide +kernel
theorem dX10_addHoliday_47 : decode cX10_addHoliday 47 = .ok (.iadd, 1) := by decide +kernel
theorem dX10_addHoliday_48 : decode cX10_addHoliday 48 = .ok (.putfield 36, 3) := by decide +kernel
theorem dX10_addHoliday_51 : decode cX10_addHoliday 51 = .ok (.aload_n 0, 1) := by decide +kernel
theorem dX10_addHoliday_52 : decode cX10_addHoliday 52 = .ok (.getfield 36, 3) := by decide +kernel
theorem dX10_addHoliday_55 : decode cX10_addHoliday 55 = .ok (.ireturn, 1) := by decide +kernel
theorem dX10_isSchoolDay_0 : decode cX10_isSchoolDay 0 = .ok (.iload_n 1, 1) := by decide +kernel
theorem dX10_isSchoolDay_1 : decode cX10_isSchoolDay 1 = .ok (.ifCond .lt 31, 3) := by decide +kernel
theorem dX10_isSchoolDay_4 : decode cX10_isSchoolDay 4 = .ok (.iload_n 1, 1) := by decide +kernel
theorem dX10_isSchoolDay_5 : decode cX10_isSchoolDay 5 = .ok (.sipush 280, 3) := by decide +kernel
theorem dX10_isSchoolDay_8 : decode cX10_isSchoolDay 8 = .ok (.if_icmp .ge 24, 3) := by decide +kernel
theorem dX10_isSchoolDay_11 : decode cX10_isSchoolDay 11 = .ok (.iload_n 1, 1) := by decide +kernel
theorem dX10_isSchoolDay_12 : decode cX10_isSchoolDay 12 = .ok (.bipush 7, 2) := by decide +kernel
theorem dX10_isSchoolDay_14 : decode cX10_isSchoolDay 14 = .ok (.irem, 1) := by decide +kernel
theorem dX10_isSchoolDay_15 : decode cX10_isSchoolDay 15 = .ok (.iconst 5, 1) := by decide +kernel
theorem dX10_isSchoolDay_16 : decode cX10_isSchoolDay 16 = .ok (.if_icmp .ge 16, 3) := by decide +kernel
theorem dX10_isSchoolDay_19 : decode cX10_isSchoolDay 19 = .ok (.aload_n 0, 1) := by decide +kernel
theorem dX10_isSchoolDay_20 : decode cX10_isSchoolDay 20 = .ok (.getfield 11, 3) := by decide +kernel
theorem dX10_isSchoolDay_23 : decode cX10_isSchoolDay 23 = .ok (.iload_n 1, 1) := by decide +kernel
theorem dX10_isSchoolDay_24 : decode cX10_isSchoolDay 24 = .ok (.baload, 1) := by decide +kernel
theorem dX10_isSchoolDay_25 : decode cX10_isSchoolDay 25 = .ok (.ifCond .ne 7, 3) := by decide +kernel
theorem dX10_isSchoolDay_28 : decode cX10_isSchoolDay 28 = .ok (.iconst 1, 1) := by decide +kernel
theorem dX10_isSchoolDay_29 : decode cX10_isSchoolDay 29 = .ok (.goto 4, 3) := by decide +kernel
theorem dX10_isSchoolDay_32 : decode cX10_isSchoolDay 32 = .ok (.iconst 0, 1) := by decide +kernel
theorem dX10_isSchoolDay_33 : decode cX10_isSchoolDay 33 = .ok (.ireturn, 1) := by decide +kernel
set_option maxRecDepth 20000 in
theorem ggX10_daysBetween_X10_isSchoolDay : GoodIn wsX10_daysBetween wsX10_isSchoolDay := goodIn_r _ [5, 6, 7, 8, 9] (by decide +kernel) (by decide +kernel)
set_option maxRecDepth 20000 in
theorem gX10_daysBetween_X10_isSchoolDay : GoodIn wsX10_daysBetween (wsV RX10 42 RX10 yX10_isSchoolDay wsX10_isSchoolDay) := goodIn_app (goodIn_of _ (by decide +kernel)) ggX10_daysBetween_X10_isSchoolDay
theorem dX10_daysBetween_0 : decode cX10_daysBetween 0 = .ok (.iconst 0, 1) := by decide +kernel
theorem dX10_daysBetween_1 : decode cX10_daysBetween 1 = .ok (.istore_n 3, 1) := by decide +kernel
theorem dX10_daysBetween_2 : decode cX10_daysBetween 2 = .ok (.iload_n 1, 1) := by decide +kernel
theorem dX10_daysBetween_3 : decode cX10_daysBetween 3 = .ok (.istore 4, 2) := by decide +kernel
theorem dX10_daysBetween_5 : decode cX10_daysBetween 5 = .ok (.iload 4, 2) := by decide +kernel
theorem dX10_daysBetween_7 : decode cX10_daysBetween 7 = .ok (.iload_n 2, 1) := by decide +kernel
theorem dX10_daysBetween_8 : decode cX10_daysBetween 8 = .ok (.if_icmp .ge 26, 3) := by decide +kernel
theorem dX10_daysBetween_11 : decode cX10_daysBetween 11 = .ok (.iload_n 3, 1) := by decide +kernel
theorem dX10_daysBetween_12 : decode cX10_daysBetween 12 = .ok (.aload_n 0, 1) := by decide +kernel
theorem dX10_daysBetween_13 : decode cX10_daysBetween 13 = .ok (.iload 4, 2) := by decide +kernel
theorem dX10_daysBetween_15 : decode cX10_daysBetween 15 = .ok (.invokevirtual 42, 3) := by decide +kernel
theorem dX10_daysBetween_18 : decode cX10_daysBetween 18 = .ok (.ifCond .eq 7, 3) := by decide +kernel
theorem dX10_daysBetween_21 : decode cX10_daysBetween 21 = .ok (.iconst 1, 1) := by decide +kernel
theorem dX10_daysBetween_22 : decode cX10_daysBetween 22 = .ok (.goto 4, 3) := by decide +kernel
theorem dX10_daysBetween_25 : decode cX10_daysBetween 25 = .ok (.iconst 0, 1) := by decide +kernel
theorem dX10_daysBetween_26 : decode cX10_daysBetween 26 = .ok (.iadd, 1) := by decide +kernel
theorem dX10_daysBetween_27 : decode cX10_daysBetween 27 = .ok (.istore_n 3, 1) := by decide +kernel
theorem dX10_daysBetween_28 : decode cX10_daysBetween 28 = .ok (.iinc 4 1, 3) := by decide +kernel
theorem dX10_daysBetween_31 : decode cX10_daysBetween 31 = .ok (.goto (-26), 3) := by decide +kernel
theorem dX10_daysBetween_34 : decode cX10_daysBetween 34 = .ok (.iload_n 3, 1) := by decide +kernel
theorem dX10_daysBetween_35 : decode cX10_daysBetween 35 = .ok (.ireturn, 1) := by decide +kernel
set_option maxRecDepth 20000 in
theorem ggX10_letterOf_X10_isSchoolWeek : GoodIn wsX10_letterOf wsX10_isSchoolWeek := goodIn_r _ [5, 6, 7, 8, 4, 9, 10, 11, 12, 13, 14, 15, 16, 17] (by decide +kernel) (by decide +kernel)
set_option maxRecDepth 20000 in
theorem gX10_letterOf_X10_isSchoolWeek : GoodIn wsX10_letterOf (wsV RX10 46 RX10 yX10_isSchoolWeek wsX10_isSchoolWeek) := goodIn_app (goodIn_of _ (by decide +kernel)) ggX10_letterOf_X10_isSchoolWeek
theorem dX10_letterOf_0 : decode cX10_letterOf 0 = .ok (.iconst 0, 1) := by decide +kernel
theorem dX10_letterOf_1 : decode cX10_letterOf 1 = .ok (.istore_n 2, 1) := by decide +kernel
theorem dX10_letterOf_2 : decode cX10_letterOf 2 = .ok (.iconst 0, 1) := by decide +kernel
theorem dX10_letterOf_3 : decode cX10_letterOf 3 = .ok (.istore_n 3, 1) := by decide +kernel
theorem dX10_letterOf_4 : decode cX10_letterOf 4 = .ok (.iload_n 3, 1) := by decide +kernel
theorem dX10_letterOf_5 : decode cX10_letterOf 5 = .ok (.iload_n 1, 1) := by decide +kernel
theorem dX10_letterOf_6 : decode cX10_letterOf 6 = .ok (.if_icmp .ge 25, 3) := by decide +kernel
theorem dX10_letterOf_9 : decode cX10_letterOf 9 = .ok (.iload_n 2, 1) := by decide +kernel
theorem dX10_letterOf_10 : decode cX10_letterOf 10 = .ok (.aload_n 0, 1) := by decide +kernel
theorem dX10_letterOf_11 : decode cX10_letterOf 11 = .ok (.iload_n 3, 1) := by decide +kernel
theorem dX10_letterOf_12 : decode cX10_letterOf 12 = .ok (.invokevirtual 46, 3) := by decide +kernel
theorem dX10_letterOf_15 : decode cX10_letterOf 15 = .ok (.ifCond .eq 7, 3) := by decide +kernel
theorem dX10_letterOf_18 : decode cX10_letterOf 18 = .ok (.iconst 1, 1) := by decide +kernel
theorem dX10_letterOf_19 : decode cX10_letterOf 19 = .ok (.goto 4, 3) := by decide +kernel
theorem dX10_letterOf_22 : decode cX10_letterOf 22 = .ok (.iconst 0, 1) := by decide +kernel
theorem dX10_letterOf_23 : decode cX10_letterOf 23 = .ok (.iadd, 1) := by decide +kernel
theorem dX10_letterOf_24 : decode cX10_letterOf 24 = .ok (.istore_n 2, 1) := by decide +kernel
theorem dX10_letterOf_25 : decode cX10_letterOf 25 = .ok (.iinc 3 1, 3) := by decide +kernel
theorem dX10_letterOf_28 : decode cX10_letterOf 28 = .ok (.goto (-24), 3) := by decide +kernel
theorem dX10_letterOf_31 : decode cX10_letterOf 31 = .ok (.aload_n 0, 1) := by decide +kernel
theorem dX10_letterOf_32 : decode cX10_letterOf 32 = .ok (.iload_n 1, 1) := by decide +kernel
theorem dX10_letterOf_33 : decode cX10_letterOf 33 = .ok (.invokevirtual 46, 3) := by decide +kernel
theorem dX10_letterOf_36 : decode cX10_letterOf 36 = .ok (.ifCond .eq 9, 3) := by decide +kernel
theorem dX10_letterOf_39 : decode cX10_letterOf 39 = .ok (.iload_n 2, 1) := by decide +kernel
theorem dX10_letterOf_40 : decode cX10_letterOf 40 = .ok (.iconst 2, 1) := by decide +kernel
theorem dX10_letterOf_41 : decode cX10_letterOf 41 = .ok (.irem, 1) := by decide +kernel
theorem dX10_letterOf_42 : decode cX10_letterOf 42 = .ok (.goto 4, 3) := by decide +kernel
theorem dX10_letterOf_45 : decode cX10_letterOf 45 = .ok (.iconst (-1), 1) := by decide +kernel
theorem dX10_letterOf_46 : decode cX10_letterOf 46 = .ok (.ireturn, 1) := by decide +kernel
set_option maxRecDepth 20000 in
theorem ggX10_isSchoolWeek_X10_daysBetween : GoodIn wsX10_isSchoolWeek wsX10_daysBetween := goodIn_r _ [5, 6, 7, 8, 4, 9, 10, 11, 12, 13] (by decide +kernel) (by decide +kernel)
set_option maxRecDepth 20000 in
theorem gX10_isSchoolWeek_X10_daysBetween : GoodIn wsX10_isSchoolWeek (wsV RX10 49 RX10 yX10_daysBetween wsX10_daysBetween) := goodIn_app (goodIn_of _ (by decide +kernel)) ggX10_isSchoolWeek_X10_daysBetween
theorem dX10_isSchoolWeek_0 : decode cX10_isSchoolWeek 0 = .ok (.aload_n 0, 1) := by decide +kernel
theorem dX10_isSchoolWeek_1 : decode cX10_isSchoolWeek 1 = .ok (.iload_n 1, 1) := by decide +kernel
theorem dX10_isSchoolWeek_2 : decode cX10_isSchoolWeek 2 = .ok (.bipush 7, 2) := by decide +kernel
theorem dX10_isSchoolWeek_4 : decode cX10_isSchoolWeek 4 = .ok (.imul, 1) := by decide +kernel
theorem dX10_isSchoolWeek_5 : decode cX10_isSchoolWeek 5 = .ok (.iload_n 1, 1) := by decide +kernel
theorem dX10_isSchoolWeek_6 : decode cX10_isSchoolWeek 6 = .ok (.bipush 7, 2) := by decide +kernel
theorem dX10_isSchoolWeek_8 : decode cX10_isSchoolWeek 8 = .ok (.imul, 1) := by decide +kernel
theorem dX10_isSchoolWeek_9 : decode cX10_isSchoolWeek 9 = .ok (.bipush 7, 2) := by decide +kernel
theorem dX10_isSchoolWeek_11 : decode cX10_isSchoolWeek 11 = .ok (.iadd, 1) := by decide +kernel
theorem dX10_isSchoolWeek_12 : decode cX10_isSchoolWeek 12 = .ok (.invokevirtual 49, 3) := by decide +kernel
theorem dX10_isSchoolWeek_15 : decode cX10_isSchoolWeek 15 = .ok (.ifCond .le 7, 3) := by decide +kernel
theorem dX10_isSchoolWeek_18 : decode cX10_isSchoolWeek 18 = .ok (.iconst 1, 1) := by decide +kernel
theorem dX10_isSchoolWeek_19 : decode cX10_isSchoolWeek 19 = .ok (.goto 4, 3) := by decide +kernel
theorem dX10_isSchoolWeek_22 : decode cX10_isSchoolWeek 22 = .ok (.iconst 0, 1) := by decide +kernel
theorem dX10_isSchoolWeek_23 : decode cX10_isSchoolWeek 23 = .ok (.ireturn, 1) := by decide +kernel
theorem dX10_holidaysOn_0 : decode cX10_holidaysOn 0 = .ok (.iconst 0, 1) := by decide +kernel
theorem dX10_holidaysOn_1 : decode cX10_holidaysOn 1 = .ok (.istore_n 2, 1) := by decide +kernel
theorem dX10_holidaysOn_2 : decode cX10_holidaysOn 2 = .ok (.iconst 0, 1) := by decide +kernel
theorem dX10_holidaysOn_3 : decode cX10_holidaysOn 3 = .ok (.istore_n 3, 1) := by decide +kernel
theorem dX10_holidaysOn_4 : decode cX10_holidaysOn 4 = .ok (.iload_n 3, 1) := by decide +kernel
theorem dX10_holidaysOn_5 : decode cX10_holidaysOn 5 = .ok (.bipush 40, 2) := by decide +kernel
theorem dX10_holidaysOn_7 : decode cX10_holidaysOn 7 = .ok (.if_icmp .ge 31, 3) := by decide +kernel
theorem dX10_holidaysOn_10 : decode cX10_holidaysOn 10 = .ok (.iload_n 2, 1) := by decide +kernel
theorem dX10_holidaysOn_11 : decode cX10_holidaysOn 11 = .ok (.aload_n 0, 1) := by decide +kernel
theorem dX10_holidaysOn_12 : decode cX10_holidaysOn 12 = .ok (.getfield 11, 3) := by decide +kernel
theorem dX10_holidaysOn_15 : decode cX10_holidaysOn 15 = .ok (.iload_n 3, 1) := by decide +kernel
theorem dX10_holidaysOn_16 : decode cX10_holidaysOn 16 = .ok (.bipush 7, 2) := by decide +kernel
theorem dX10_holidaysOn_18 : decode cX10_holidaysOn 18 = .ok (.imul, 1) := by decide +kernel
theorem dX10_holidaysOn_19 : decode cX10_holidaysOn 19 = .ok (.iload_n 1, 1) := by decide +kernel
theorem dX10_holidaysOn_20 : decode cX10_holidaysOn 20 = .ok (.iadd, 1) := by decide +kernel
theorem dX10_holidaysOn_21 : decode cX10_holidaysOn 21 = .ok (.baload, 1) := by decide +kernel
theorem dX10_holidaysOn_22 : decode cX10_holidaysOn 22 = .ok (.ifCond .eq 7, 3) := by decide +kernel
theorem dX10_holidaysOn_25 : decode cX10_holidaysOn 25 = .ok (.iconst 1, 1) := by decide +kernel
theorem dX10_holidaysOn_26 : decode cX10_holidaysOn 26 = .ok (.goto 4, 3) := by decide +kernel
theorem dX10_holidaysOn_29 : decode cX10_holidaysOn 29 = .ok (.iconst 0, 1) := by decide +kernel
theorem dX10_holidaysOn_30 : decode cX10_holidaysOn 30 = .ok (.iadd, 1) := by decide +kernel
theorem dX10_holidaysOn_31 : decode cX10_holidaysOn 31 = .ok (.istore_n 2, 1) := by decide +kernel
theorem dX10_holidaysOn_32 : decode cX10_holidaysOn 32 = .ok (.iinc 3 1, 3) := by decide +kernel
theorem dX10_holidaysOn_35 : decode cX10_holidaysOn 35 = .ok (.goto (-31), 3) := by decide +kernel
theorem dX10_holidaysOn_38 : decode cX10_holidaysOn 38 = .ok (.iload_n 2, 1) := by decide +kernel
theorem dX10_holidaysOn_39 : decode cX10_holidaysOn 39 = .ok (.ireturn, 1) := by decide +kernel
set_option maxRecDepth 20000 in
theorem ggX11_init_X8_init : GoodIn wsX11_init wsX8_init := goodIn_r _ [50, 51, 2, 3, 52, 53, 54, 123, 124] (by decide +kernel) (by decide +kernel)
set_option maxRecDepth 20000 in
theorem gX11_init_X8_init : GoodIn wsX11_init (wsX8_init) := ggX11_init_X8_init
set_option maxRecDepth 20000 in
theorem ggX11_init_X5_init : GoodIn wsX11_init wsX5_init := goodIn_r _ [56, 57, 2, 3, 52, 58, 136, 137, 138] (by decide +kernel) (by decide +kernel)
set_option maxRecDepth 20000 in
theorem gX11_init_X5_init_n18 : GoodIn wsX11_init (wsX5_init) := ggX11_init_X5_init
set_option maxRecDepth 20000 in
theorem ggX11_init_X7_init : GoodIn wsX11_init wsX7_init := goodIn_r _ [60, 61, 2, 3, 52, 62, 63, 64, 65, 66, 67, 68, 69, 70, 71, 72, 139, 140, 141, 142, 143, 144, 145, 146, 147, 148, 149, 150] (by decide +kernel) (by decide +kernel)
set_option maxRecDepth 20000 in
theorem gX11_init_X7_init_n25 : GoodIn wsX11_init (wsX7_init) := ggX11_init_X7_init
set_option maxRecDepth 20000 in
theorem ggX11_init_X4_init : GoodIn wsX11_init wsX4_init := goodIn_r _ [74, 75, 2, 3, 76, 13, 14, 77, 52, 78, 79, 80, 81, 82, 83, 59, 60, 61, 62, 63, 64, 65, 66, 67, 68, 69, 70, 71, 72, 139, 140, 141, 142, 143, 144, 145, 146, 147, 148, 149, 150, 151, 152, 153, 154, 155, 156, 157, 158] (by decide +kernel) (by decide +kernel)
set_option maxRecDepth 20000 in
theorem gX11_init_X4_init_n32 : GoodIn wsX11_init (wsX4_init) := ggX11_init_X4_init
set_option maxRecDepth 20000 in
theorem ggX11_init_X6_init : GoodIn wsX11_init wsX6_init := goodIn_r _ [85, 86, 2, 3, 52, 87, 88, 159, 160, 161] (by decide +kernel) (by decide +kernel)
set_option maxRecDepth 20000 in
theorem gX11_init_X6_init_n39 : GoodIn wsX11_init (wsX6_init) := ggX11_init_X6_init
set_option maxRecDepth 20000 in
theorem ggX11_init_X1_init : GoodIn wsX11_init wsX1_init := goodIn_r _ [90, 91, 2, 3, 52, 92, 162] (by decide +kernel) (by decide +kernel)
set_option maxRecDepth 20000 in
theorem gX11_init_X1_init_n46 : GoodIn wsX11_init (wsX1_init) := ggX11_init_X1_init
set_option maxRecDepth 20000 in
theorem ggX11_init_X2_init : GoodIn wsX11_init wsX2_init := goodIn_r _ [94, 95, 2, 3, 52, 96, 97, 163, 164, 165, 166, 167] (by decide +kernel) (by decide +kernel)
set_option maxRecDepth 20000 in
theorem gX11_init_X2_init_n53 : GoodIn wsX11_init (wsX2_init) := ggX11_init_X2_init
set_option maxRecDepth 20000 in
theorem ggX11_init_X3_init : GoodIn wsX11_init wsX3_init := goodIn_r _ [99, 100, 2, 3, 52, 101, 168] (by decide +kernel) (by decide +kernel)
set_option maxRecDepth 20000 in
theorem gX11_init_X3_init_n60 : GoodIn wsX11_init (wsX3_init) := ggX11_init_X3_init
set_option maxRecDepth 20000 in
theorem ggX11_init_X0_init : GoodIn wsX11_init wsX0_init := goodIn_r _ [104, 105, 2, 3, 52, 106, 107, 108, 169, 170, 171] (by decide +kernel) (by decide +kernel)
set_option maxRecDepth 20000 in
theorem gX11_init_X0_init : GoodIn wsX11_init (wsX0_init) := ggX11_init_X0_init
set_option maxRecDepth 20000 in
theorem ggX11_init_X10_init : GoodIn wsX11_init wsX10_init := goodIn_r _ [110, 111, 2, 3, 112, 113, 114, 172, 173, 174] (by decide +kernel) (by decide +kernel)
set_option maxRecDepth 20000 in
theorem gX11_init_X10_init_n74 : GoodIn wsX11_init (wsX10_init) := ggX11_init_X10_init
set_option maxRecDepth 20000 in
theorem ggX11_init_X9_init : GoodIn wsX11_init wsX9_init := goodIn_r _ [116, 117, 2, 3, 52, 118, 119, 120, 121, 122, 175, 176, 177, 178, 179, 180, 181, 182] (by decide +kernel) (by decide +kernel)
set_option maxRecDepth 20000 in
theorem gX11_init_X9_init_n81 : GoodIn wsX11_init (wsX9_init) := ggX11_init_X9_init
theorem dX11_init_0 : decode cX11_init 0 = .ok (.aload_n 0, 1) := by decide +kernel
theorem dX11_init_1 : decode cX11_init 1 = .ok (.invokespecial 3, 3) := by decide +kernel
theorem dX11_init_4 : decode cX11_init 4 = .ok (.aload_n 0, 1) := by decide +kernel
theorem dX11_init_5 : decode cX11_init 5 = .ok (.new 9, 3) := by decide +kernel
theorem dX11_init_8 : decode cX11_init 8 = .ok (.dup, 1) := by decide +kernel
theorem dX11_init_9 : decode cX11_init 9 = .ok (.invokespecial 11, 3) := by decide +kernel
theorem dX11_init_12 : decode cX11_init 12 = .ok (.putfield 12, 3) := by decide +kernel
theorem dX11_init_15 : decode cX11_init 15 = .ok (.aload_n 0, 1) := by decide +kernel
theorem dX11_init_16 : decode cX11_init 16 = .ok (.new 16, 3) := by decide +kernel
theorem dX11_init_19 : decode cX11_init 19 = .ok (.dup, 1) := by decide +kernel
theorem dX11_init_20 : decode cX11_init 20 = .ok (.invokespecial 18, 3) := by decide +kernel
theorem dX11_init_23 : decode cX11_init 23 = .ok (.putfield 19, 3) := by decide +kernel
theorem dX11_init_26 : decode cX11_init 26 = .ok (.aload_n 0, 1) := by decide +kernel
theorem dX11_init_27 : decode cX11_init 27 = .ok (.new 23, 3) := by decide +kernel
theorem dX11_init_30 : decode cX11_init 30 = .ok (.dup, 1) := by decide +kernel
theorem dX11_init_31 : decode cX11_init 31 = .ok (.invokespecial 25, 3) := by decide +kernel
theorem dX11_init_34 : decode cX11_init 34 = .ok (.putfield 26, 3) := by decide +kernel
theorem dX11_init_37 : decode cX11_init 37 = .ok (.aload_n 0, 1) := by decide +kernel
theorem dX11_init_38 : decode cX11_init 38 = .ok (.new 30, 3) := by decide +kernel
theorem dX11_init_41 : decode cX11_init 41 = .ok (.dup, 1) := by decide +kernel
theorem dX11_init_42 : decode cX11_init 42 = .ok (.invokespecial 32, 3) := by decide +kernel
theorem dX11_init_45 : decode cX11_init 45 = .ok (.putfield 33, 3) := by decide +kernel
theorem dX11_init_48 : decode cX11_init 48 = .ok (.aload_n 0, 1) := by decide +kernel
theorem dX11_init_49 : decode cX11_init 49 = .ok (.new 37, 3) := by decide +kernel
theorem dX11_init_52 : decode cX11_init 52 = .ok (.dup, 1) := by decide +kernel
theorem dX11_init_53 : decode cX11_init 53 = .ok (.invokespecial 39, 3) := by decide +kernel
theorem dX11_init_56 : decode cX11_init 56 = .ok (.putfield 40, 3) := by decide +kernel
theorem dX11_init_59 : decode cX11_init 59 = .ok (.aload_n 0, 1) := by decide +kernel
theorem dX11_init_60 : decode cX11_init 60 = .ok (.new 44, 3) := by decide +kernel
theorem dX11_init_63 : decode cX11_init 63 = .ok (.dup, 1) := by decide +kernel
theorem dX11_init_64 : decode cX11_init 64 = .ok (.invokespecial 46, 3) := by decide +kernel
theorem dX11_init_67 : decode cX11_init 67 = .ok (.putfield 47, 3) := by decide +kernel
theorem dX11_init_70 : decode cX11_init 70 = .ok (.aload_n 0, 1) := by decide +kernel
theorem dX11_init_71 : decode cX11_init 71 = .ok (.new 51, 3) := by decide +kernel
theorem dX11_init_74 : decode cX11_init 74 = .ok (.dup, 1) := by decide +kernel
theorem dX11_init_75 : decode cX11_init 75 = .ok (.invokespecial 53, 3) := by decide +kernel
theorem dX11_init_78 : decode cX11_init 78 = .ok (.putfield 54, 3) := by decide +kernel
theorem dX11_init_81 : decode cX11_init 81 = .ok (.aload_n 0, 1) := by decide +kernel
theorem dX11_init_82 : decode cX11_init 82 = .ok (.new 58, 3) := by decide +kernel
theorem dX11_init_85 : decode cX11_init 85 = .ok (.dup, 1) := by decide +kernel
theorem dX11_init_86 : decode cX11_init 86 = .ok (.invokespecial 60, 3) := by decide +kernel
theorem dX11_init_89 : decode cX11_init 89 = .ok (.putfield 61, 3) := by decide +kernel
theorem dX11_init_92 : decode cX11_init 92 = .ok (.aload_n 0, 1) := by decide +kernel
theorem dX11_init_93 : decode cX11_init 93 = .ok (.new 65, 3) := by decide +kernel
theorem dX11_init_96 : decode cX11_init 96 = .ok (.dup, 1) := by decide +kernel
theorem dX11_init_97 : decode cX11_init 97 = .ok (.invokespecial 67, 3) := by decide +kernel
theorem dX11_init_100 : decode cX11_init 100 = .ok (.putfield 68, 3) := by decide +kernel
theorem dX11_init_103 : decode cX11_init 103 = .ok (.aload_n 0, 1) := by decide +kernel
theorem dX11_init_104 : decode cX11_init 104 = .ok (.new 72, 3) := by decide +kernel
theorem dX11_init_107 : decode cX11_init 107 = .ok (.dup, 1) := by decide +kernel
theorem dX11_init_108 : decode cX11_init 108 = .ok (.invokespecial 74, 3) := by decide +kernel
theorem dX11_init_111 : decode cX11_init 111 = .ok (.putfield 75, 3) := by decide +kernel
theorem dX11_init_114 : decode cX11_init 114 = .ok (.aload_n 0, 1) := by decide +kernel
theorem dX11_init_115 : decode cX11_init 115 = .ok (.new 79, 3) := by decide +kernel
theorem dX11_init_118 : decode cX11_init 118 = .ok (.dup, 1) := by decide +kernel
theorem dX11_init_119 : decode cX11_init 119 = .ok (.invokespecial 81, 3) := by decide +kernel
theorem dX11_init_122 : decode cX11_init 122 = .ok (.putfield 82, 3) := by decide +kernel
theorem dX11_init_125 : decode cX11_init 125 = .ok (.return_, 1) := by decide +kernel
set_option maxRecDepth 20000 in
theorem ggX11_lesson_X11_requireRange : GoodIn wsX11_lesson wsX11_requireRange := goodIn_ca (goodIn_r _ [10, 11, 12, 13, 9, 14, 1, 2] (by decide +kernel) (by decide +kernel)) (goodIn_sub (fun _ h => List.mem_cons_of_mem _ (List.mem_append_left _ (List.mem_append_right _ h))) (by decide +kernel))
set_option maxRecDepth 20000 in
theorem gX11_lesson_X11_requireRange : GoodIn wsX11_lesson (wsV RX11 86 RX11 yX11_requireRange wsX11_requireRange) := goodIn_app (goodIn_of _ (by decide +kernel)) ggX11_lesson_X11_requireRange
set_option maxRecDepth 20000 in
theorem ggX11_lesson_X8_subjectsOf : GoodIn wsX11_lesson wsX8_subjectsOf := goodIn_r _ [19, 20, 74, 75] (by decide +kernel) (by decide +kernel)
set_option maxRecDepth 20000 in
theorem gX11_lesson_X8_subjectsOf : GoodIn wsX11_lesson (wsV RX11 90 RX8 yX8_subjectsOf wsX8_subjectsOf) := goodIn_app (goodIn_of _ (by decide +kernel)) ggX11_lesson_X8_subjectsOf
set_option maxRecDepth 20000 in
theorem ggX11_lesson_X8_lessonTotal : GoodIn wsX11_lesson wsX8_lessonTotal := goodIn_r _ [24, 20, 74, 75] (by decide +kernel) (by decide +kernel)
set_option maxRecDepth 20000 in
theorem gX11_lesson_X8_lessonTotal : GoodIn wsX11_lesson (wsV RX11 101 RX8 yX8_lessonTotal wsX8_lessonTotal) := goodIn_app (goodIn_of _ (by decide +kernel)) ggX11_lesson_X8_lessonTotal
set_option maxRecDepth 20000 in
theorem ggX11_lesson_X11_beginChange : GoodIn wsX11_lesson wsX11_beginChange := goodIn_r _ [28, 29, 5, 30, 31, 32, 33, 34, 35, 36, 37, 38, 39, 40, 41, 42, 43, 44, 45, 46, 47, 48, 49, 50, 51, 52, 53, 54, 63, 64, 65, 66, 67, 68, 69, 70, 71, 72, 73, 74, 75, 76, 77, 78, 79, 80, 81, 82, 83, 84, 85, 86] (by decide +kernel) (by decide +kernel)
set_option maxRecDepth 20000 in
theorem gX11_lesson_X11_beginChange : GoodIn wsX11_lesson (wsV RX11 110 RX11 yX11_beginChange wsX11_beginChange) := goodIn_app (goodIn_of _ (by decide +kernel)) ggX11_lesson_X11_beginChange
set_option maxRecDepth 20000 in
theorem ggX11_lesson_X8_loseTable : GoodIn wsX11_lesson wsX8_loseTable := goodIn_r _ [58, 20, 74, 75] (by decide +kernel) (by decide +kernel)
set_option maxRecDepth 20000 in
theorem gX11_lesson_X8_loseTable : GoodIn wsX11_lesson (wsV RX11 113 RX8 yX8_loseTable wsX8_loseTable) := goodIn_app (goodIn_of _ (by decide +kernel)) ggX11_lesson_X8_loseTable
set_option maxRecDepth 20000 in
theorem ggX11_lesson_X8_addLesson : GoodIn wsX11_lesson wsX8_addLesson := goodIn_r _ [62, 20, 74, 75] (by decide +kernel) (by decide +kernel)
set_option maxRecDepth 20000 in
theorem gX11_lesson_X8_addLesson : GoodIn wsX11_lesson (wsV RX11 116 RX8 yX8_addLesson wsX8_addLesson) := goodIn_app (goodIn_of _ (by decide +kernel)) ggX11_lesson_X8_addLesson
theorem dX11_lesson_0 : decode cX11_lesson 0 = .ok (.aload_n 0, 1) := by decide +kernel
theorem dX11_lesson_1 : decode cX11_lesson 1 = .ok (.iload_n 1, 1) := by decide +kernel
theorem dX11_lesson_2 : decode cX11_lesson 2 = .ok (.iconst 4, 1) := by decide +kernel
theorem dX11_lesson_3 : decode cX11_lesson 3 = .ok (.invokevirtual 86, 3) := by decide +kernel
theorem dX11_lesson_6 : decode cX11_lesson 6 = .ok (.aload_n 0, 1) := by decide +kernel
theorem dX11_lesson_7 : decode cX11_lesson 7 = .ok (.iload_n 2, 1) := by decide +kernel
theorem dX11_lesson_8 : decode cX11_lesson 8 = .ok (.bipush 6, 2) := by decide +kernel
theorem dX11_lesson_10 : decode cX11_lesson 10 = .ok (.invokevirtual 86, 3) := by decide +kernel
theorem dX11_lesson_13 : decode cX11_lesson 13 = .ok (.aload_n 0, 1) := by decide +kernel
theorem dX11_lesson_14 : decode cX11_lesson 14 = .ok (.iload_n 3, 1) := by decide +kernel
theorem dX11_lesson_15 : decode cX11_lesson 15 = .ok (.bipush 6, 2) := by decide +kernel
theorem dX11_lesson_17 : decode cX11_lesson 17 = .ok (.invokevirtual 86, 3) := by decide +kernel
theorem dX11_lesson_20 : decode cX11_lesson 20 = .ok (.iload 4, 2) := by decide +kernel
theorem dX11_lesson_22 : decode cX11_lesson 22 = .ok (.iconst (-1), 1) := by decide +kernel
theorem dX11_lesson_23 : decode cX11_lesson 23 = .ok (.if_icmp .eq 10, 3) := by decide +kernel
theorem dX11_lesson_26 : decode cX11_lesson 26 = .ok (.aload_n 0, 1) := by decide +kernel
theorem dX11_lesson_27 : decode cX11_lesson 27 = .ok (.iload 4, 2) := by decide +kernel
theorem dX11_lesson_29 : decode cX11_lesson 29 = .ok (.iconst 3, 1) := by decide +kernel
theorem dX11_lesson_30 : decode cX11_lesson 30 = .ok (.invokevirtual 86, 3) := by decide +kernel
theorem dX11_lesson_33 : decode cX11_lesson 33 = .ok (.aload_n 0, 1) := by decide +kernel
theorem dX11_lesson_34 : decode cX11_lesson 34 = .ok (.getfield 12, 3) := by decide +kernel
theorem dX11_lesson_37 : decode cX11_lesson 37 = .ok (.iload_n 2, 1) := by decide +kernel
theorem dX11_lesson_38 : decode cX11_lesson 38 = .ok (.invokevirtual 90, 3) := by decide +kernel
theorem dX11_lesson_41 : decode cX11_lesson 41 = .ok (.iload_n 3, 1) := by decide +kernel
theorem dX11_lesson_42 : decode cX11_lesson 42 = .ok (.ishr, 1) := by decide +kernel
theorem dX11_lesson_43 : decode cX11_lesson 43 = .ok (.iconst 1, 1) := by decide +kernel
theorem dX11_lesson_44 : decode cX11_lesson 44 = .ok (.iand, 1) := by decide +kernel
theorem dX11_lesson_45 : decode cX11_lesson 45 = .ok (.ifCond .ne 13, 3) := by decide +kernel
theorem dX11_lesson_48 : decode cX11_lesson 48 = .ok (.new 94, 3) := by decide +kernel
theorem dX11_lesson_51 : decode cX11_lesson 51 = .ok (.dup, 1) := by decide +kernel
theorem dX11_lesson_52 : decode cX11_lesson 52 = .ok (.ldc 96, 2) := by decide +kernel
theorem dX11_lesson_54 : decode cX11_lesson 54 = .ok (.invokespecial 98, 3) := by decide +kernel
theorem dX11_lesson_57 : decode cX11_lesson 57 = .ok (.athrow, 1) := by decide +kernel
theorem dX11_lesson_58 : decode cX11_lesson 58 = .ok (.aload_n 0, 1) := by decide +kernel
theorem dX11_lesson_59 : decode cX11_lesson 59 = .ok (.getfield 12, 3) := by decide +kernel
theorem dX11_lesson_62 : decode cX11_lesson 62 = .ok (.invokevirtual 101, 3) := by decide +kernel
theorem dX11_lesson_65 : decode cX11_lesson 65 = .ok (.bipush 9, 2) := by decide +kernel
theorem dX11_lesson_67 : decode cX11_lesson 67 = .ok (.if_icmp .lt 13, 3) := by decide +kernel
theorem dX11_lesson_70 : decode cX11_lesson 70 = .ok (.new 105, 3) := by decide +kernel
theorem dX11_lesson_73 : decode cX11_lesson 73 = .ok (.dup, 1) := by decide +kernel
theorem dX11_lesson_74 : decode cX11_lesson 74 = .ok (.ldc 107, 2) := by decide +kernel
theorem dX11_lesson_76 : decode cX11_lesson 76 = .ok (.invokespecial 109, 3) := by decide +kernel
theorem dX11_lesson_79 : decode cX11_lesson 79 = .ok (.athrow, 1) := by decide +kernel
theorem dX11_lesson_80 : decode cX11_lesson 80 = .ok (.aload_n 0, 1) := by decide +kernel
theorem dX11_lesson_81 : decode cX11_lesson 81 = .ok (.invokevirtual 110, 3) := by decide +kernel
theorem dX11_lesson_84 : decode cX11_lesson 84 = .ok (.aload_n 0, 1) := by decide +kernel
theorem dX11_lesson_85 : decode cX11_lesson 85 = .ok (.getfield 12, 3) := by decide +kernel
theorem dX11_lesson_88 : decode cX11_lesson 88 = .ok (.invokevirtual 113, 3) := by decide +kernel
theorem dX11_lesson_91 : decode cX11_lesson 91 = .ok (.aload_n 0, 1) := by decide +kernel
theorem dX11_lesson_92 : decode cX11_lesson 92 = .ok (.getfield 12, 3) := by decide +kernel
theorem dX11_lesson_95 : decode cX11_lesson 95 = .ok (.iload_n 1, 1) := by decide +kernel
theorem dX11_lesson_96 : decode cX11_lesson 96 = .ok (.iload_n 2, 1) := by decide +kernel
theorem dX11_lesson_97 : decode cX11_lesson 97 = .ok (.iload_n 3, 1) := by decide +kernel
theorem dX11_lesson_98 : decode cX11_lesson 98 = .ok (.iload 4, 2) := by decide +kernel
theorem dX11_lesson_100 : decode cX11_lesson 100 = .ok (.iload 5, 2) := by decide +kernel
theorem dX11_lesson_102 : decode cX11_lesson 102 = .ok (.ifCond .eq 7, 3) := by decide +kernel
theorem dX11_lesson_105 : decode cX11_lesson 105 = .ok (.iconst 1, 1) := by decide +kernel
theorem dX11_lesson_106 : decode cX11_lesson 106 = .ok (.goto 4, 3) := by decide +kernel
theorem dX11_lesson_109 : decode cX11_lesson 109 = .ok (.iconst 0, 1) := by decide +kernel
theorem dX11_lesson_110 : decode cX11_lesson 110 = .ok (.invokevirtual 116, 3) := by decide +kernel
theorem dX11_lesson_113 : decode cX11_lesson 113 = .ok (.ireturn, 1) := by decide +kernel
set_option maxRecDepth 20000 in
theorem ggX11_dropLesson_X11_requireLesson : GoodIn wsX11_dropLesson wsX11_requireLesson := goodIn_ca (goodIn_r _ [6, 7, 8, 1, 9, 10, 11, 12, 13, 14, 75, 76, 77, 78, 79, 80, 81, 82, 83, 84, 85, 86, 87] (by decide +kernel) (by decide +kernel)) (goodIn_sub (fun _ h => List.mem_cons_of_mem _ (List.mem_append_right _ h)) (by decide +kernel))
set_option maxRecDepth 20000 in
theorem gX11_dropLesson_X11_requireLesson : GoodIn wsX11_dropLesson (wsV RX11 120 RX11 yX11_requireLesson wsX11_requireLesson) := goodIn_app (goodIn_of _ (by decide +kernel)) ggX11_dropLesson_X11_requireLesson
set_option maxRecDepth 20000 in
theorem ggX11_dropLesson_X11_beginChange : GoodIn wsX11_dropLesson wsX11_beginChange := goodIn_r _ [18, 19, 1, 20, 21, 22, 23, 24, 25, 26, 27, 28, 29, 30, 31, 32, 33, 34, 35, 36, 37, 38, 39, 40, 41, 42, 43, 44, 75, 76, 77, 78, 79, 80, 81, 82, 83, 84, 85, 86, 87, 88, 89, 90, 91, 92, 93, 94, 95, 96, 97, 98] (by decide +kernel) (by decide +kernel)
set_option maxRecDepth 20000 in
theorem gX11_dropLesson_X11_beginChange : GoodIn wsX11_dropLesson (wsV RX11 110 RX11 yX11_beginChange wsX11_beginChange) := goodIn_app (goodIn_of _ (by decide +kernel)) ggX11_dropLesson_X11_beginChange
set_option maxRecDepth 20000 in
theorem ggX11_dropLesson_X8_loseTable : GoodIn wsX11_dropLesson wsX8_loseTable := goodIn_r _ [48, 14, 86, 87] (by decide +kernel) (by decide +kernel)
set_option maxRecDepth 20000 in
theorem gX11_dropLesson_X8_loseTable : GoodIn wsX11_dropLesson (wsV RX11 113 RX8 yX8_loseTable wsX8_loseTable) := goodIn_app (goodIn_of _ (by decide +kernel)) ggX11_dropLesson_X8_loseTable
set_option maxRecDepth 20000 in
theorem ggX11_dropLesson_X8_removeLesson : GoodIn wsX11_dropLesson wsX8_removeLesson := goodIn_r _ [52, 14, 53, 30, 31, 32, 54, 55, 56, 12, 57, 58, 59, 60, 61, 62, 63, 64, 65, 66, 67, 68, 69, 70, 71, 72, 73, 74, 10, 11, 13, 86, 87] (by decide +kernel) (by decide +kernel)
set_option maxRecDepth 20000 in
theorem gX11_dropLesson_X8_removeLesson : GoodIn wsX11_dropLesson (wsV RX11 124 RX8 yX8_removeLesson wsX8_removeLesson) := goodIn_app (goodIn_of _ (by decide +kernel)) ggX11_dropLesson_X8_removeLesson
theorem dX11_dropLesson_0 : decode cX11_dropLesson 0 = .ok (.aload_n 0, 1) := by decide +kernel
theorem dX11_dropLesson_1 : decode cX11_dropLesson 1 = .ok (.iload_n 1, 1) := by decide +kernel
theorem dX11_dropLesson_2 : decode cX11_dropLesson 2 = .ok (.invokevirtual 120, 3) := by decide +kernel
theorem dX11_dropLesson_5 : decode cX11_dropLesson 5 = .ok (.aload_n 0, 1) := by decide +kernel
theorem dX11_dropLesson_6 : decode cX11_dropLesson 6 = .ok (.invokevirtual 110, 3) := by decide +kernel
theorem dX11_dropLesson_9 : decode cX11_dropLesson 9 = .ok (.aload_n 0, 1) := by decide +kernel
theorem dX11_dropLesson_10 : decode cX11_dropLesson 10 = .ok (.getfield 12, 3) := by decide +kernel
theorem dX11_dropLesson_13 : decode cX11_dropLesson 13 = .ok (.invokevirtual 113, 3) := by decide +kernel
theorem dX11_dropLesson_16 : decode cX11_dropLesson 16 = .ok (.aload_n 0, 1) := by decide +kernel
theorem dX11_dropLesson_17 : decode cX11_dropLesson 17 = .ok (.getfield 12, 3) := by decide +kernel
theorem dX11_dropLesson_20 : decode cX11_dropLesson 20 = .ok (.iload_n 1, 1) := by decide +kernel
theorem dX11_dropLesson_21 : decode cX11_dropLesson 21 = .ok (.invokevirtual 124, 3) := by decide +kernel
theorem dX11_dropLesson_24 : decode cX11_dropLesson 24 = .ok (.ireturn, 1) := by decide +kernel
set_option maxRecDepth 20000 in
theorem ggX11_lessonOf_X11_requireLesson : GoodIn wsX11_lessonOf wsX11_requireLesson := goodIn_ca (goodIn_r _ [6, 7, 8, 1, 9, 10, 11, 12, 13, 14, 29, 30, 31, 32, 33, 34, 35, 36, 37, 38, 39, 40, 41] (by decide +kernel) (by decide +kernel)) (goodIn_sub (fun _ h => List.mem_cons_of_mem _ (List.mem_append_left _ (List.mem_append_right _ h))) (by decide +kernel))
set_option maxRecDepth 20000 in
theorem gX11_lessonOf_X11_requireLesson : GoodIn wsX11_lessonOf (wsV RX11 120 RX11 yX11_requireLesson wsX11_requireLesson) := goodIn_app (goodIn_of _ (by decide +kernel)) ggX11_lessonOf_X11_requireLesson
set_option maxRecDepth 20000 in
theorem ggX11_lessonOf_X11_requireRange : GoodIn wsX11_lessonOf wsX11_requireRange := goodIn_ca (goodIn_r _ [18, 19, 20, 21, 5, 22, 23, 24] (by decide +kernel) (by decide +kernel)) (goodIn_sub (fun _ h => List.mem_cons_of_mem _ (List.mem_append_right _ h)) (by decide +kernel))
set_option maxRecDepth 20000 in
theorem gX11_lessonOf_X11_requireRange : GoodIn wsX11_lessonOf (wsV RX11 86 RX11 yX11_requireRange wsX11_requireRange) := goodIn_app (goodIn_of _ (by decide +kernel)) ggX11_lessonOf_X11_requireRange
set_option maxRecDepth 20000 in
theorem ggX11_lessonOf_X8_ofLesson : GoodIn wsX11_lessonOf wsX8_ofLesson := goodIn_r _ [28, 14, 40, 41] (by decide +kernel) (by decide +kernel)
set_option maxRecDepth 20000 in
theorem gX11_lessonOf_X8_ofLesson : GoodIn wsX11_lessonOf (wsV RX11 127 RX8 yX8_ofLesson wsX8_ofLesson) := goodIn_app (goodIn_of _ (by decide +kernel)) ggX11_lessonOf_X8_ofLesson
theorem dX11_lessonOf_0 : decode cX11_lessonOf 0 = .ok (.aload_n 0, 1) := by decide +kernel
theorem dX11_lessonOf_1 : decode cX11_lessonOf 1 = .ok (.iload_n 1, 1) := by decide +kernel
theorem dX11_lessonOf_2 : decode cX11_lessonOf 2 = .ok (.invokevirtual 120, 3) := by decide +kernel
theorem dX11_lessonOf_5 : decode cX11_lessonOf 5 = .ok (.aload_n 0, 1) := by decide +kernel
theorem dX11_lessonOf_6 : decode cX11_lessonOf 6 = .ok (.iload_n 2, 1) := by decide +kernel
theorem dX11_lessonOf_7 : decode cX11_lessonOf 7 = .ok (.iconst 5, 1) := by decide +kernel
theorem dX11_lessonOf_8 : decode cX11_lessonOf 8 = .ok (.invokevirtual 86, 3) := by decide +kernel
theorem dX11_lessonOf_11 : decode cX11_lessonOf 11 = .ok (.aload_n 0, 1) := by decide +kernel
theorem dX11_lessonOf_12 : decode cX11_lessonOf 12 = .ok (.getfield 12, 3) := by decide +kernel
theorem dX11_lessonOf_15 : decode cX11_lessonOf 15 = .ok (.iload_n 1, 1) := by decide +kernel
theorem dX11_lessonOf_16 : decode cX11_lessonOf 16 = .ok (.iload_n 2, 1) := by decide +kernel
theorem dX11_lessonOf_17 : decode cX11_lessonOf 17 = .ok (.invokevirtual 127, 3) := by decide +kernel
theorem dX11_lessonOf_20 : decode cX11_lessonOf 20 = .ok (.ireturn, 1) := by decide +kernel
set_option maxRecDepth 20000 in
theorem ggX11_lessons_X8_lessonTotal : GoodIn wsX11_lessons wsX8_lessonTotal := goodIn_r _ [6, 7, 19, 20] (by decide +kernel) (by decide +kernel)
set_option maxRecDepth 20000 in
theorem gX11_lessons_X8_lessonTotal : GoodIn wsX11_lessons (wsV RX11 101 RX8 yX8_lessonTotal wsX8_lessonTotal) := goodIn_app (goodIn_of _ (by decide +kernel)) ggX11_lessons_X8_lessonTotal
theorem dX11_lessons_0 : decode cX11_lessons 0 = .ok (.aload_n 0, 1) := by decide +kernel
theorem dX11_lessons_1 : decode cX11_lessons 1 = .ok (.getfield 12, 3) := by decide +kernel
theorem dX11_lessons_4 : decode cX11_lessons 4 = .ok (.invokevirtual 101, 3) := by decide +kernel
theorem dX11_lessons_7 : decode cX11_lessons 7 = .ok (.ireturn, 1) := by decide +kernel
set_option maxRecDepth 20000 in
theorem ggX11_setSubjects_X11_requireRange : GoodIn wsX11_setSubjects wsX11_requireRange := goodIn_ca (goodIn_r _ [8, 9, 10, 11, 7, 12, 13, 14] (by decide +kernel) (by decide +kernel)) (goodIn_sub (fun _ h => List.mem_cons_of_mem _ (List.mem_append_right _ h)) (by decide +kernel))
set_option maxRecDepth 20000 in
theorem gX11_setSubjects_X11_requireRange : GoodIn wsX11_setSubjects (wsV RX11 86 RX11 yX11_requireRange wsX11_requireRange) := goodIn_app (goodIn_of _ (by decide +kernel)) ggX11_setSubjects_X11_requireRange
set_option maxRecDepth 20000 in
theorem ggX11_setSubjects_X8_subjectsGiven : GoodIn wsX11_setSubjects wsX8_subjectsGiven := goodIn_r _ [19, 20, 21, 22, 18, 23, 24, 25, 26, 27, 28, 29, 30, 31, 32, 82, 83] (by decide +kernel) (by decide +kernel)
set_option maxRecDepth 20000 in
theorem gX11_setSubjects_X8_subjectsGiven : GoodIn wsX11_setSubjects (wsV RX11 131 RX8 yX8_subjectsGiven wsX8_subjectsGiven) := goodIn_app (goodIn_of _ (by decide +kernel)) ggX11_setSubjects_X8_subjectsGiven
set_option maxRecDepth 20000 in
theorem ggX11_setSubjects_X11_beginChange : GoodIn wsX11_setSubjects wsX11_beginChange := goodIn_r _ [36, 37, 3, 38, 39, 40, 41, 42, 43, 44, 45, 46, 47, 48, 49, 50, 51, 52, 53, 54, 55, 56, 57, 58, 59, 60, 61, 62, 71, 72, 73, 74, 75, 76, 77, 78, 79, 80, 81, 82, 83, 84, 85, 86, 87, 88, 89, 90, 91, 92, 93, 94] (by decide +kernel) (by decide +kernel)
set_option maxRecDepth 20000 in
theorem gX11_setSubjects_X11_beginChange : GoodIn wsX11_setSubjects (wsV RX11 110 RX11 yX11_beginChange wsX11_beginChange) := goodIn_app (goodIn_of _ (by decide +kernel)) ggX11_setSubjects_X11_beginChange
set_option maxRecDepth 20000 in
theorem ggX11_setSubjects_X8_loseTable : GoodIn wsX11_setSubjects wsX8_loseTable := goodIn_r _ [66, 24, 82, 83] (by decide +kernel) (by decide +kernel)
set_option maxRecDepth 20000 in
theorem gX11_setSubjects_X8_loseTable : GoodIn wsX11_setSubjects (wsV RX11 113 RX8 yX8_loseTable wsX8_loseTable) := goodIn_app (goodIn_of _ (by decide +kernel)) ggX11_setSubjects_X8_loseTable
set_option maxRecDepth 20000 in
theorem ggX11_setSubjects_X8_putSubjects : GoodIn wsX11_setSubjects wsX8_putSubjects := goodIn_r _ [70, 24, 82, 83] (by decide +kernel) (by decide +kernel)
set_option maxRecDepth 20000 in
theorem gX11_setSubjects_X8_putSubjects : GoodIn wsX11_setSubjects (wsV RX11 136 RX8 yX8_putSubjects wsX8_putSubjects) := goodIn_app (goodIn_of _ (by decide +kernel)) ggX11_setSubjects_X8_putSubjects
theorem dX11_setSubjects_0 : decode cX11_setSubjects 0 = .ok (.aload_n 0, 1) := by decide +kernel
theorem dX11_setSubjects_1 : decode cX11_setSubjects 1 = .ok (.iload_n 1, 1) := by decide +kernel
theorem dX11_setSubjects_2 : decode cX11_setSubjects 2 = .ok (.bipush 6, 2) := by decide +kernel
theorem dX11_setSubjects_4 : decode cX11_setSubjects 4 = .ok (.invokevirtual 86, 3) := by decide +kernel
theorem dX11_setSubjects_7 : decode cX11_setSubjects 7 = .ok (.aload_n 0, 1) := by decide +kernel
theorem dX11_setSubjects_8 : decode cX11_setSubjects 8 = .ok (.iload_n 2, 1) := by decide +kernel
theorem dX11_setSubjects_9 : decode cX11_setSubjects 9 = .ok (.bipush 64, 2) := by decide +kernel
theorem dX11_setSubjects_11 : decode cX11_setSubjects 11 = .ok (.invokevirtual 86, 3) := by decide +kernel
theorem dX11_setSubjects_14 : decode cX11_setSubjects 14 = .ok (.aload_n 0, 1) := by decide +kernel
theorem dX11_setSubjects_15 : decode cX11_setSubjects 15 = .ok (.getfield 12, 3) := by decide +kernel
theorem dX11_setSubjects_18 : decode cX11_setSubjects 18 = .ok (.iload_n 1, 1) := by decide +kernel
theorem dX11_setSubjects_19 : decode cX11_setSubjects 19 = .ok (.invokevirtual 131, 3) := by decide +kernel
theorem dX11_setSubjects_22 : decode cX11_setSubjects 22 = .ok (.iload_n 2, 1) := by decide +kernel
theorem dX11_setSubjects_23 : decode cX11_setSubjects 23 = .ok (.iconst (-1), 1) := by decide +kernel
theorem dX11_setSubjects_24 : decode cX11_setSubjects 24 = .ok (.ixor, 1) := by decide +kernel
theorem dX11_setSubjects_25 : decode cX11_setSubjects 25 = .ok (.iand, 1) := by decide +kernel
theorem dX11_setSubjects_26 : decode cX11_setSubjects 26 = .ok (.ifCond .eq 13, 3) := by decide +kernel
theorem dX11_setSubjects_29 : decode cX11_setSubjects 29 = .ok (.new 105, 3) := by decide +kernel
theorem dX11_setSubjects_32 : decode cX11_setSubjects 32 = .ok (.dup, 1) := by decide +kernel
theorem dX11_setSubjects_33 : decode cX11_setSubjects 33 = .ok (.ldc 134, 2) := by decide +kernel
theorem dX11_setSubjects_35 : decode cX11_setSubjects 35 = .ok (.invokespecial 109, 3) := by decide +kernel
theorem dX11_setSubjects_38 : decode cX11_setSubjects 38 = .ok (.athrow, 1) := by decide +kernel
theorem dX11_setSubjects_39 : decode cX11_setSubjects 39 = .ok (.aload_n 0, 1) := by decide +kernel
theorem dX11_setSubjects_40 : decode cX11_setSubjects 40 = .ok (.invokevirtual 110, 3) := by decide +kernel
theorem dX11_setSubjects_43 : decode cX11_setSubjects 43 = .ok (.aload_n 0, 1) := by decide +kernel
theorem dX11_setSubjects_44 : decode cX11_setSubjects 44 = .ok (.getfield 12, 3) := by decide +kernel
theorem dX11_setSubjects_47 : decode cX11_setSubjects 47 = .ok (.invokevirtual 113, 3) := by decide +kernel
theorem dX11_setSubjects_50 : decode cX11_setSubjects 50 = .ok (.aload_n 0, 1) := by decide +kernel
theorem dX11_setSubjects_51 : decode cX11_setSubjects 51 = .ok (.getfield 12, 3) := by decide +kernel
theorem dX11_setSubjects_54 : decode cX11_setSubjects 54 = .ok (.iload_n 1, 1) := by decide +kernel
theorem dX11_setSubjects_55 : decode cX11_setSubjects 55 = .ok (.iload_n 2, 1) := by decide +kernel
theorem dX11_setSubjects_56 : decode cX11_setSubjects 56 = .ok (.invokevirtual 136, 3) := by decide +kernel
theorem dX11_setSubjects_59 : decode cX11_setSubjects 59 = .ok (.ireturn, 1) := by decide +kernel
set_option maxRecDepth 20000 in
theorem ggX11_setRooms_X11_requireRange : GoodIn wsX11_setRooms wsX11_requireRange := goodIn_ca (goodIn_r _ [6, 7, 8, 9, 5, 10, 11, 12] (by decide +kernel) (by decide +kernel)) (goodIn_sub (fun _ h => List.mem_cons_of_mem _ (List.mem_append_right _ h)) (by decide +kernel))
set_option maxRecDepth 20000 in
theorem gX11_setRooms_X11_requireRange : GoodIn wsX11_setRooms (wsV RX11 86 RX11 yX11_requireRange wsX11_requireRange) := goodIn_app (goodIn_of _ (by decide +kernel)) ggX11_setRooms_X11_requireRange
set_option maxRecDepth 20000 in
theorem ggX11_setRooms_X11_beginChange : GoodIn wsX11_setRooms wsX11_beginChange := goodIn_r _ [16, 17, 1, 18, 19, 20, 21, 22, 23, 24, 25, 26, 27, 28, 29, 30, 31, 32, 33, 34, 35, 36, 37, 38, 39, 40, 41, 42, 53, 54, 55, 56, 57, 58, 59, 60, 61, 62, 63, 64, 65, 66, 67, 68, 69, 70, 71, 72, 73, 74, 75, 76] (by decide +kernel) (by decide +kernel)
set_option maxRecDepth 20000 in
theorem gX11_setRooms_X11_beginChange : GoodIn wsX11_setRooms (wsV RX11 110 RX11 yX11_beginChange wsX11_beginChange) := goodIn_app (goodIn_of _ (by decide +kernel)) ggX11_setRooms_X11_beginChange
set_option maxRecDepth 20000 in
theorem ggX11_setRooms_X8_loseTable : GoodIn wsX11_setRooms wsX8_loseTable := goodIn_r _ [47, 48, 64, 65] (by decide +kernel) (by decide +kernel)
set_option maxRecDepth 20000 in
theorem gX11_setRooms_X8_loseTable : GoodIn wsX11_setRooms (wsV RX11 113 RX8 yX8_loseTable wsX8_loseTable) := goodIn_app (goodIn_of _ (by decide +kernel)) ggX11_setRooms_X8_loseTable
set_option maxRecDepth 20000 in
theorem ggX11_setRooms_X8_putRooms : GoodIn wsX11_setRooms wsX8_putRooms := goodIn_r _ [52, 48, 64, 65] (by decide +kernel) (by decide +kernel)
set_option maxRecDepth 20000 in
theorem gX11_setRooms_X8_putRooms : GoodIn wsX11_setRooms (wsV RX11 139 RX8 yX8_putRooms wsX8_putRooms) := goodIn_app (goodIn_of _ (by decide +kernel)) ggX11_setRooms_X8_putRooms
theorem dX11_setRooms_0 : decode cX11_setRooms 0 = .ok (.aload_n 0, 1) := by decide +kernel
theorem dX11_setRooms_1 : decode cX11_setRooms 1 = .ok (.iload_n 1, 1) := by decide +kernel
theorem dX11_setRooms_2 : decode cX11_setRooms 2 = .ok (.iconst 3, 1) := by decide +kernel
theorem dX11_setRooms_3 : decode cX11_setRooms 3 = .ok (.invokevirtual 86, 3) := by decide +kernel
theorem dX11_setRooms_6 : decode cX11_setRooms 6 = .ok (.aload_n 0, 1) := by decide +kernel
theorem dX11_setRooms_7 : decode cX11_setRooms 7 = .ok (.iload_n 2, 1) := by decide +kernel
theorem dX11_setRooms_8 : decode cX11_setRooms 8 = .ok (.iconst 4, 1) := by decide +kernel
theorem dX11_setRooms_9 : decode cX11_setRooms 9 = .ok (.invokevirtual 86, 3) := by decide +kernel
theorem dX11_setRooms_12 : decode cX11_setRooms 12 = .ok (.aload_n 0, 1) := by decide +kernel
theorem dX11_setRooms_13 : decode cX11_setRooms 13 = .ok (.invokevirtual 110, 3) := by decide +kernel
theorem dX11_setRooms_16 : decode cX11_setRooms 16 = .ok (.aload_n 0, 1) := by decide +kernel
theorem dX11_setRooms_17 : decode cX11_setRooms 17 = .ok (.getfield 12, 3) := by decide +kernel
theorem dX11_setRooms_20 : decode cX11_setRooms 20 = .ok (.invokevirtual 113, 3) := by decide +kernel
theorem dX11_setRooms_23 : decode cX11_setRooms 23 = .ok (.aload_n 0, 1) := by decide +kernel
theorem dX11_setRooms_24 : decode cX11_setRooms 24 = .ok (.getfield 12, 3) := by decide +kernel
theorem dX11_setRooms_27 : decode cX11_setRooms 27 = .ok (.iload_n 1, 1) := by decide +kernel
theorem dX11_setRooms_28 : decode cX11_setRooms 28 = .ok (.iload_n 2, 1) := by decide +kernel
theorem dX11_setRooms_29 : decode cX11_setRooms 29 = .ok (.invokevirtual 139, 3) := by decide +kernel
theorem dX11_setRooms_32 : decode cX11_setRooms 32 = .ok (.ireturn, 1) := by decide +kernel
set_option maxRecDepth 20000 in
theorem ggX11_wish_X11_requireRange : GoodIn wsX11_wish wsX11_requireRange := goodIn_ca (goodIn_r _ [10, 11, 12, 13, 9, 14, 1, 2] (by decide +kernel) (by decide +kernel)) (goodIn_sub (fun _ h => List.mem_cons_of_mem _ (List.mem_append_left _ (List.mem_append_left _ (List.mem_append_right _ h)))) (by decide +kernel))
set_option maxRecDepth 20000 in
theorem gX11_wish_X11_requireRange : GoodIn wsX11_wish (wsV RX11 86 RX11 yX11_requireRange wsX11_requireRange) := goodIn_app (goodIn_of _ (by decide +kernel)) ggX11_wish_X11_requireRange
set_option maxRecDepth 20000 in
theorem ggX11_wish_X11_requireLesson : GoodIn wsX11_wish wsX11_requireLesson := goodIn_ca (goodIn_r _ [18, 19, 20, 5, 21, 22, 23, 24, 25, 26, 69, 70, 71, 72, 73, 74, 75, 76, 77, 78, 79, 80, 81] (by decide +kernel) (by decide +kernel)) (goodIn_sub (fun _ h => List.mem_cons_of_mem _ (List.mem_append_right _ h)) (by decide +kernel))
set_option maxRecDepth 20000 in
theorem gX11_wish_X11_requireLesson : GoodIn wsX11_wish (wsV RX11 120 RX11 yX11_requireLesson wsX11_requireLesson) := goodIn_app (goodIn_of _ (by decide +kernel)) ggX11_wish_X11_requireLesson
set_option maxRecDepth 20000 in
theorem ggX11_wish_X8_wishTotal : GoodIn wsX11_wish wsX8_wishTotal := goodIn_r _ [30, 26, 80, 81] (by decide +kernel) (by decide +kernel)
set_option maxRecDepth 20000 in
theorem gX11_wish_X8_wishTotal : GoodIn wsX11_wish (wsV RX11 144 RX8 yX8_wishTotal wsX8_wishTotal) := goodIn_app (goodIn_of _ (by decide +kernel)) ggX11_wish_X8_wishTotal
set_option maxRecDepth 20000 in
theorem ggX11_wish_X11_beginChange : GoodIn wsX11_wish wsX11_beginChange := goodIn_r _ [34, 35, 5, 36, 37, 38, 39, 40, 41, 42, 43, 44, 45, 46, 47, 48, 49, 50, 51, 52, 53, 54, 55, 56, 57, 58, 59, 60, 69, 70, 71, 72, 73, 74, 75, 76, 77, 78, 79, 80, 81, 82, 83, 84, 85, 86, 87, 88, 89, 90, 91, 92] (by decide +kernel) (by decide +kernel)
set_option maxRecDepth 20000 in
theorem gX11_wish_X11_beginChange : GoodIn wsX11_wish (wsV RX11 110 RX11 yX11_beginChange wsX11_beginChange) := goodIn_app (goodIn_of _ (by decide +kernel)) ggX11_wish_X11_beginChange
set_option maxRecDepth 20000 in
theorem ggX11_wish_X8_loseTable : GoodIn wsX11_wish wsX8_loseTable := goodIn_r _ [64, 26, 80, 81] (by decide +kernel) (by decide +kernel)
set_option maxRecDepth 20000 in
theorem gX11_wish_X8_loseTable : GoodIn wsX11_wish (wsV RX11 113 RX8 yX8_loseTable wsX8_loseTable) := goodIn_app (goodIn_of _ (by decide +kernel)) ggX11_wish_X8_loseTable
set_option maxRecDepth 20000 in
theorem ggX11_wish_X8_addWish : GoodIn wsX11_wish wsX8_addWish := goodIn_r _ [68, 26, 80, 81] (by decide +kernel) (by decide +kernel)
set_option maxRecDepth 20000 in
theorem gX11_wish_X8_addWish : GoodIn wsX11_wish (wsV RX11 149 RX8 yX8_addWish wsX8_addWish) := goodIn_app (goodIn_of _ (by decide +kernel)) ggX11_wish_X8_addWish
theorem dX11_wish_0 : decode cX11_wish 0 = .ok (.aload_n 0, 1) := by decide +kernel
theorem dX11_wish_1 : decode cX11_wish 1 = .ok (.iload_n 1, 1) := by decide +kernel
theorem dX11_wish_2 : decode cX11_wish 2 = .ok (.bipush 7, 2) := by decide +kernel
theorem dX11_wish_4 : decode cX11_wish 4 = .ok (.invokevirtual 86, 3) := by decide +kernel
theorem dX11_wish_7 : decode cX11_wish 7 = .ok (.aload_n 0, 1) := by decide +kernel
theorem dX11_wish_8 : decode cX11_wish 8 = .ok (.iload 4, 2) := by decide +kernel
theorem dX11_wish_10 : decode cX11_wish 10 = .ok (.bipush 10, 2) := by decide +kernel
theorem dX11_wish_12 : decode cX11_wish 12 = .ok (.invokevirtual 86, 3) := by decide +kernel
theorem dX11_wish_15 : decode cX11_wish 15 = .ok (.iload_n 1, 1) := by decide +kernel
theorem dX11_wish_16 : decode cX11_wish 16 = .ok (.ifCond .eq 8, 3) := by decide +kernel
theorem dX11_wish_19 : decode cX11_wish 19 = .ok (.iload_n 1, 1) := by decide +kernel
theorem dX11_wish_20 : decode cX11_wish 20 = .ok (.iconst 1, 1) := by decide +kernel
theorem dX11_wish_21 : decode cX11_wish 21 = .ok (.if_icmp .ne 28, 3) := by decide +kernel
theorem dX11_wish_24 : decode cX11_wish 24 = .ok (.aload_n 0, 1) := by decide +kernel
theorem dX11_wish_25 : decode cX11_wish 25 = .ok (.iload_n 2, 1) := by decide +kernel
theorem dX11_wish_26 : decode cX11_wish 26 = .ok (.iload_n 1, 1) := by decide +kernel
theorem dX11_wish_27 : decode cX11_wish 27 = .ok (.ifCond .ne 8, 3) := by decide +kernel
theorem dX11_wish_30 : decode cX11_wish 30 = .ok (.bipush 6, 2) := by decide +kernel
theorem dX11_wish_32 : decode cX11_wish 32 = .ok (.goto 4, 3) := by decide +kernel
theorem dX11_wish_35 : decode cX11_wish 35 = .ok (.iconst 4, 1) := by decide +kernel
theorem dX11_wish_36 : decode cX11_wish 36 = .ok (.invokevirtual 86, 3) := by decide +kernel
theorem dX11_wish_39 : decode cX11_wish 39 = .ok (.aload_n 0, 1) := by decide +kernel
theorem dX11_wish_40 : decode cX11_wish 40 = .ok (.iload_n 3, 1) := by decide +kernel
theorem dX11_wish_41 : decode cX11_wish 41 = .ok (.bipush 20, 2) := by decide +kernel
theorem dX11_wish_43 : decode cX11_wish 43 = .ok (.invokevirtual 86, 3) := by decide +kernel
theorem dX11_wish_46 : decode cX11_wish 46 = .ok (.goto 62, 3) := by decide +kernel
theorem dX11_wish_49 : decode cX11_wish 49 = .ok (.iload_n 1, 1) := by decide +kernel
theorem dX11_wish_50 : decode cX11_wish 50 = .ok (.iconst 2, 1) := by decide +kernel
theorem dX11_wish_51 : decode cX11_wish 51 = .ok (.if_icmp .eq 8, 3) := by decide +kernel
theorem dX11_wish_54 : decode cX11_wish 54 = .ok (.iload_n 1, 1) := by decide +kernel
theorem dX11_wish_55 : decode cX11_wish 55 = .ok (.iconst 3, 1) := by decide +kernel
theorem dX11_wish_56 : decode cX11_wish 56 = .ok (.if_icmp .ne 27, 3) := by decide +kernel
theorem dX11_wish_59 : decode cX11_wish 59 = .ok (.aload_n 0, 1) := by decide +kernel
theorem dX11_wish_60 : decode cX11_wish 60 = .ok (.iload_n 3, 1) := by decide +kernel
theorem dX11_wish_61 : decode cX11_wish 61 = .ok (.iload_n 1, 1) := by decide +kernel
theorem dX11_wish_62 : decode cX11_wish 62 = .ok (.iconst 2, 1) := by decide +kernel
theorem dX11_wish_63 : decode cX11_wish 63 = .ok (.if_icmp .ne 7, 3) := by decide +kernel
theorem dX11_wish_66 : decode cX11_wish 66 = .ok (.iconst 5, 1) := by decide +kernel
theorem dX11_wish_67 : decode cX11_wish 67 = .ok (.goto 5, 3) := by decide +kernel
theorem dX11_wish_70 : decode cX11_wish 70 = .ok (.bipush 20, 2) := by decide +kernel
theorem dX11_wish_72 : decode cX11_wish 72 = .ok (.invokevirtual 86, 3) := by decide +kernel
theorem dX11_wish_75 : decode cX11_wish 75 = .ok (.aload_n 0, 1) := by decide +kernel
theorem dX11_wish_76 : decode cX11_wish 76 = .ok (.iload_n 2, 1) := by decide +kernel
theorem dX11_wish_77 : decode cX11_wish 77 = .ok (.invokevirtual 120, 3) := by decide +kernel
theorem dX11_wish_80 : decode cX11_wish 80 = .ok (.goto 28, 3) := by decide +kernel
theorem dX11_wish_83 : decode cX11_wish 83 = .ok (.iload_n 2, 1) := by decide +kernel
theorem dX11_wish_84 : decode cX11_wish 84 = .ok (.iload_n 3, 1) := by decide +kernel
theorem dX11_wish_85 : decode cX11_wish 85 = .ok (.if_icmp .ne 13, 3) := by decide +kernel
theorem dX11_wish_88 : decode cX11_wish 88 = .ok (.new 94, 3) := by decide +kernel
theorem dX11_wish_91 : decode cX11_wish 91 = .ok (.dup, 1) := by decide +kernel
theorem dX11_wish_92 : decode cX11_wish 92 = .ok (.ldc 142, 2) := by decide +kernel
theorem dX11_wish_94 : decode cX11_wish 94 = .ok (.invokespecial 98, 3) := by decide +kernel
theorem dX11_wish_97 : decode cX11_wish 97 = .ok (.athrow, 1) := by decide +kernel
theorem dX11_wish_98 : decode cX11_wish 98 = .ok (.aload_n 0, 1) := by decide +kernel
theorem dX11_wish_99 : decode cX11_wish 99 = .ok (.iload_n 2, 1) := by decide +kernel
theorem dX11_wish_100 : decode cX11_wish 100 = .ok (.invokevirtual 120, 3) := by decide +kernel
theorem dX11_wish_103 : decode cX11_wish 103 = .ok (.aload_n 0, 1) := by decide +kernel
theorem dX11_wish_104 : decode cX11_wish 104 = .ok (.iload_n 3, 1) := by decide +kernel
theorem dX11_wish_105 : decode cX11_wish 105 = .ok (.invokevirtual 120, 3) := by decide +kernel
theorem dX11_wish_108 : decode cX11_wish 108 = .ok (.aload_n 0, 1) := by decide +kernel
theorem dX11_wish_109 : decode cX11_wish 109 = .ok (.getfield 12, 3) := by decide +kernel
theorem dX11_wish_112 : decode cX11_wish 112 = .ok (.invokevirtual 144, 3) := by decide +kernel
theorem dX11_wish_115 : decode cX11_wish 115 = .ok (.bipush 12, 2) := by decide +kernel
theorem dX11_wish_117 : decode cX11_wish 117 = .ok (.if_icmp .lt 13, 3) := by decide +kernel
theorem dX11_wish_120 : decode cX11_wish 120 = .ok (.new 105, 3) := by decide +kernel
theorem dX11_wish_123 : decode cX11_wish 123 = .ok (.dup, 1) := by decide +kernel
theorem dX11_wish_124 : decode cX11_wish 124 = .ok (.ldc 147, 2) := by decide +kernel
theorem dX11_wish_126 : decode cX11_wish 126 = .ok (.invokespecial 109, 3) := by decide +kernel
theorem dX11_wish_129 : decode cX11_wish 129 = .ok (.athrow, 1) := by decide +kernel
theorem dX11_wish_130 : decode cX11_wish 130 = .ok (.aload_n 0, 1) := by decide +kernel
theorem dX11_wish_131 : decode cX11_wish 131 = .ok (.invokevirtual 110, 3) := by decide +kernel
theorem dX11_wish_134 : decode cX11_wish 134 = .ok (.aload_n 0, 1) := by decide +kernel
theorem dX11_wish_135 : decode cX11_wish 135 = .ok (.getfield 12, 3) := by decide +kernel
theorem dX11_wish_138 : decode cX11_wish 138 = .ok (.invokevirtual 113, 3) := by decide +kernel
theorem dX11_wish_141 : decode cX11_wish 141 = .ok (.aload_n 0, 1) := by decide +kernel
theorem dX11_wish_142 : decode cX11_wish 142 = .ok (.getfield 12, 3) := by decide +kernel
theorem dX11_wish_145 : decode cX11_wish 145 = .ok (.iload_n 1, 1) := by decide +kernel
theorem dX11_wish_146 : decode cX11_wish 146 = .ok (.iload_n 2, 1) := by decide +kernel
theorem dX11_wish_147 : decode cX11_wish 147 = .ok (.iload_n 3, 1) := by decide +kernel
theorem dX11_wish_148 : decode cX11_wish 148 = .ok (.iload 4, 2) := by decide +kernel
theorem dX11_wish_150 : decode cX11_wish 150 = .ok (.invokevirtual 149, 3) := by decide +kernel
theorem dX11_wish_153 : decode cX11_wish 153 = .ok (.ireturn, 1) := by decide +kernel
set_option maxRecDepth 20000 in
theorem ggX11_dropWish_X11_requireWish : GoodIn wsX11_dropWish wsX11_requireWish := goodIn_ca (goodIn_r _ [6, 7, 8, 1, 9, 10, 11, 12, 13, 14, 55, 56, 57, 58, 59, 60, 61, 62, 63, 64, 65, 66, 67] (by decide +kernel) (by decide +kernel)) (goodIn_sub (fun _ h => List.mem_cons_of_mem _ (List.mem_append_right _ h)) (by decide +kernel))
set_option maxRecDepth 20000 in
theorem gX11_dropWish_X11_requireWish : GoodIn wsX11_dropWish (wsV RX11 153 RX11 yX11_requireWish wsX11_requireWish) := goodIn_app (goodIn_of _ (by decide +kernel)) ggX11_dropWish_X11_requireWish
set_option maxRecDepth 20000 in
theorem ggX11_dropWish_X11_beginChange : GoodIn wsX11_dropWish wsX11_beginChange := goodIn_r _ [18, 19, 1, 20, 21, 22, 23, 24, 25, 26, 27, 28, 29, 30, 31, 32, 33, 34, 35, 36, 37, 38, 39, 40, 41, 42, 43, 44, 55, 56, 57, 58, 59, 60, 61, 62, 63, 64, 65, 66, 67, 68, 69, 70, 71, 72, 73, 74, 75, 76, 77, 78] (by decide +kernel) (by decide +kernel)
set_option maxRecDepth 20000 in
theorem gX11_dropWish_X11_beginChange : GoodIn wsX11_dropWish (wsV RX11 110 RX11 yX11_beginChange wsX11_beginChange) := goodIn_app (goodIn_of _ (by decide +kernel)) ggX11_dropWish_X11_beginChange
set_option maxRecDepth 20000 in
theorem ggX11_dropWish_X8_loseTable : GoodIn wsX11_dropWish wsX8_loseTable := goodIn_r _ [48, 14, 66, 67] (by decide +kernel) (by decide +kernel)
set_option maxRecDepth 20000 in
theorem gX11_dropWish_X8_loseTable : GoodIn wsX11_dropWish (wsV RX11 113 RX8 yX8_loseTable wsX8_loseTable) := goodIn_app (goodIn_of _ (by decide +kernel)) ggX11_dropWish_X8_loseTable
set_option maxRecDepth 20000 in
theorem ggX11_dropWish_X8_removeWish : GoodIn wsX11_dropWish wsX8_removeWish := goodIn_r _ [52, 14, 53, 30, 31, 32, 54, 10, 11, 12, 13, 66, 67] (by decide +kernel) (by decide +kernel)
set_option maxRecDepth 20000 in
theorem gX11_dropWish_X8_removeWish : GoodIn wsX11_dropWish (wsV RX11 156 RX8 yX8_removeWish wsX8_removeWish) := goodIn_app (goodIn_of _ (by decide +kernel)) ggX11_dropWish_X8_removeWish
theorem dX11_dropWish_0 : decode cX11_dropWish 0 = .ok (.aload_n 0, 1) := by decide +kernel
theorem dX11_dropWish_1 : decode cX11_dropWish 1 = .ok (.iload_n 1, 1) := by decide +kernel
theorem dX11_dropWish_2 : decode cX11_dropWish 2 = .ok (.invokevirtual 153, 3) := by decide +kernel
theorem dX11_dropWish_5 : decode cX11_dropWish 5 = .ok (.aload_n 0, 1) := by decide +kernel
theorem dX11_dropWish_6 : decode cX11_dropWish 6 = .ok (.invokevirtual 110, 3) := by decide +kernel
theorem dX11_dropWish_9 : decode cX11_dropWish 9 = .ok (.aload_n 0, 1) := by decide +kernel
theorem dX11_dropWish_10 : decode cX11_dropWish 10 = .ok (.getfield 12, 3) := by decide +kernel
theorem dX11_dropWish_13 : decode cX11_dropWish 13 = .ok (.invokevirtual 113, 3) := by decide +kernel
theorem dX11_dropWish_16 : decode cX11_dropWish 16 = .ok (.aload_n 0, 1) := by decide +kernel
theorem dX11_dropWish_17 : decode cX11_dropWish 17 = .ok (.getfield 12, 3) := by decide +kernel
theorem dX11_dropWish_20 : decode cX11_dropWish 20 = .ok (.iload_n 1, 1) := by decide +kernel
theorem dX11_dropWish_21 : decode cX11_dropWish 21 = .ok (.invokevirtual 156, 3) := by decide +kernel
theorem dX11_dropWish_24 : decode cX11_dropWish 24 = .ok (.ireturn, 1) := by decide +kernel
set_option maxRecDepth 20000 in
theorem ggX11_wishOf_X11_requireWish : GoodIn wsX11_wishOf wsX11_requireWish := goodIn_ca (goodIn_r _ [6, 7, 8, 1, 9, 10, 11, 12, 13, 14, 29, 30, 31, 32, 33, 34, 35, 36, 37, 38, 39, 40, 41] (by decide +kernel) (by decide +kernel)) (goodIn_sub (fun _ h => List.mem_cons_of_mem _ (List.mem_append_left _ (List.mem_append_right _ h))) (by decide +kernel))
set_option maxRecDepth 20000 in
theorem gX11_wishOf_X11_requireWish : GoodIn wsX11_wishOf (wsV RX11 153 RX11 yX11_requireWish wsX11_requireWish) := goodIn_app (goodIn_of _ (by decide +kernel)) ggX11_wishOf_X11_requireWish
set_option maxRecDepth 20000 in
theorem ggX11_wishOf_X11_requireRange : GoodIn wsX11_wishOf wsX11_requireRange := goodIn_ca (goodIn_r _ [18, 19, 20, 21, 5, 22, 23, 24] (by decide +kernel) (by decide +kernel)) (goodIn_sub (fun _ h => List.mem_cons_of_mem _ (List.mem_append_right _ h)) (by decide +kernel))
set_option maxRecDepth 20000 in
theorem gX11_wishOf_X11_requireRange : GoodIn wsX11_wishOf (wsV RX11 86 RX11 yX11_requireRange wsX11_requireRange) := goodIn_app (goodIn_of _ (by decide +kernel)) ggX11_wishOf_X11_requireRange
set_option maxRecDepth 20000 in
theorem ggX11_wishOf_X8_ofWish : GoodIn wsX11_wishOf wsX8_ofWish := goodIn_r _ [28, 14, 40, 41] (by decide +kernel) (by decide +kernel)
set_option maxRecDepth 20000 in
theorem gX11_wishOf_X8_ofWish : GoodIn wsX11_wishOf (wsV RX11 159 RX8 yX8_ofWish wsX8_ofWish) := goodIn_app (goodIn_of _ (by decide +kernel)) ggX11_wishOf_X8_ofWish
theorem dX11_wishOf_0 : decode cX11_wishOf 0 = .ok (.aload_n 0, 1) := by decide +kernel
theorem dX11_wishOf_1 : decode cX11_wishOf 1 = .ok (.iload_n 1, 1) := by decide +kernel
theorem dX11_wishOf_2 : decode cX11_wishOf 2 = .ok (.invokevirtual 153, 3) := by decide +kernel
theorem dX11_wishOf_5 : decode cX11_wishOf 5 = .ok (.aload_n 0, 1) := by decide +kernel
theorem dX11_wishOf_6 : decode cX11_wishOf 6 = .ok (.iload_n 2, 1) := by decide +kernel
theorem dX11_wishOf_7 : decode cX11_wishOf 7 = .ok (.iconst 4, 1) := by decide +kernel
theorem dX11_wishOf_8 : decode cX11_wishOf 8 = .ok (.invokevirtual 86, 3) := by decide +kernel
theorem dX11_wishOf_11 : decode cX11_wishOf 11 = .ok (.aload_n 0, 1) := by decide +kernel
theorem dX11_wishOf_12 : decode cX11_wishOf 12 = .ok (.getfield 12, 3) := by decide +kernel
theorem dX11_wishOf_15 : decode cX11_wishOf 15 = .ok (.iload_n 1, 1) := by decide +kernel
theorem dX11_wishOf_16 : decode cX11_wishOf 16 = .ok (.iload_n 2, 1) := by decide +kernel
theorem dX11_wishOf_17 : decode cX11_wishOf 17 = .ok (.invokevirtual 159, 3) := by decide +kernel
theorem dX11_wishOf_20 : decode cX11_wishOf 20 = .ok (.ireturn, 1) := by decide +kernel
set_option maxRecDepth 20000 in
theorem ggX11_wishes_X8_wishTotal : GoodIn wsX11_wishes wsX8_wishTotal := goodIn_r _ [6, 7, 19, 20] (by decide +kernel) (by decide +kernel)
set_option maxRecDepth 20000 in
theorem gX11_wishes_X8_wishTotal : GoodIn wsX11_wishes (wsV RX11 144 RX8 yX8_wishTotal wsX8_wishTotal) := goodIn_app (goodIn_of _ (by decide +kernel)) ggX11_wishes_X8_wishTotal
theorem dX11_wishes_0 : decode cX11_wishes 0 = .ok (.aload_n 0, 1) := by decide +kernel
theorem dX11_wishes_1 : decode cX11_wishes 1 = .ok (.getfield 12, 3) := by decide +kernel
theorem dX11_wishes_4 : decode cX11_wishes 4 = .ok (.invokevirtual 144, 3) := by decide +kernel
theorem dX11_wishes_7 : decode cX11_wishes 7 = .ok (.ireturn, 1) := by decide +kernel
set_option maxRecDepth 20000 in
theorem ggX11_find_X4_seekFirst : GoodIn wsX11_find wsX4_seekFirst := goodIn_r _ [8, 9, 10, 11, 12, 13, 14, 15, 16, 17, 18, 19, 20, 21, 22, 23, 24, 25, 26, 27, 28, 29, 30, 31, 32, 33, 34, 35, 36, 37, 38, 39, 40, 41, 42, 43, 44, 45, 46, 47, 48, 49, 50, 51, 52, 53, 54, 55, 56, 57, 58, 59, 60, 61, 62, 63, 64, 65, 66, 67, 68, 69, 70, 71, 72, 73, 74, 75, 76, 77, 7, 78, 79, 80, 81, 82, 83, 84, 85, 86, 87, 88, 89, 90, 91, 92, 93, 94, 95, 96, 97, 98, 99, 100, 101, 102, 103, 104, 105, 106, 107, 108, 109, 110, 111, 112, 113, 114, 115, 116, 117, 118, 119, 120, 121, 122, 123, 124, 125, 126, 127, 128, 129, 130, 131, 132, 133, 134, 135, 136, 137, 138, 139, 189, 190, 191, 192, 193, 194, 195, 196, 197, 198, 199, 200, 201, 202, 203, 204, 205, 206, 207, 208, 209, 210] (by decide +kernel) (by decide +kernel)
set_option maxRecDepth 20000 in
theorem gX11_find_X4_seekFirst : GoodIn wsX11_find (wsV RX11 162 RX4 yX4_seekFirst wsX4_seekFirst) := goodIn_app (goodIn_of _ (by decide +kernel)) ggX11_find_X4_seekFirst
set_option maxRecDepth 20000 in
theorem ggX11_find_X4_seekProof : GoodIn wsX11_find wsX4_seekProof := goodIn_r _ [143, 9, 144, 145, 13, 14, 15, 16, 17, 18, 19, 20, 21, 22, 23, 24, 25, 26, 146, 27, 28, 29, 30, 31, 32, 33, 34, 35, 36, 37, 38, 39, 40, 41, 42, 43, 44, 45, 46, 47, 48, 49, 50, 51, 52, 53, 54, 55, 56, 57, 58, 59, 60, 61, 62, 63, 64, 65, 66, 67, 68, 69, 70, 71, 72, 73, 74, 75, 76, 77, 7, 78, 10, 11, 79, 80, 81, 12, 82, 83, 84, 85, 86, 87, 88, 89, 90, 91, 92, 93, 94, 95, 96, 97, 98, 99, 100, 101, 102, 103, 104, 105, 106, 107, 108, 109, 110, 111, 112, 113, 114, 115, 116, 117, 118, 119, 120, 121, 122, 123, 124, 125, 126, 127, 128, 129, 130, 131, 132, 133, 134, 135, 136, 137, 138, 139, 189, 190, 191, 192, 193, 194, 195, 196, 209, 210, 197, 198, 199, 200, 201, 202, 203, 204, 205, 206, 207, 208] (by decide +kernel) (by decide +kernel)
set_option maxRecDepth 20000 in
theorem gX11_find_X4_seekProof : GoodIn wsX11_find (wsV RX11 166 RX4 yX4_seekProof wsX4_seekProof) := goodIn_app (goodIn_of _ (by decide +kernel)) ggX11_find_X4_seekProof
set_option maxRecDepth 20000 in
theorem ggX11_find_X11_beginChange : GoodIn wsX11_find wsX11_beginChange := goodIn_r _ [151, 152, 2, 1, 153, 154, 155, 156, 157, 158, 159, 160, 161, 83, 84, 85, 162, 163, 164, 165, 166, 167, 168, 169, 170, 7, 171, 144, 178, 179, 180, 181, 182, 183, 184, 185, 186, 187, 188, 209, 210, 211, 212, 213, 189, 190, 191, 192, 193, 194, 195, 196] (by decide +kernel) (by decide +kernel)
set_option maxRecDepth 20000 in
theorem gX11_find_X11_beginChange : GoodIn wsX11_find (wsV RX11 110 RX11 yX11_beginChange wsX11_beginChange) := goodIn_app (goodIn_of _ (by decide +kernel)) ggX11_find_X11_beginChange
set_option maxRecDepth 20000 in
theorem ggX11_find_X8_putTable : GoodIn wsX11_find wsX8_putTable := goodIn_r _ [175, 22, 176, 177, 83, 84, 85, 209, 210] (by decide +kernel) (by decide +kernel)
set_option maxRecDepth 20000 in
theorem gX11_find_X8_putTable : GoodIn wsX11_find (wsV RX11 174 RX8 yX8_putTable wsX8_putTable) := goodIn_app (goodIn_of _ (by decide +kernel)) ggX11_find_X8_putTable
theorem dX11_find_0 : decode cX11_find 0 = .ok (.aload_n 0, 1) := by decide +kernel
theorem dX11_find_1 : decode cX11_find 1 = .ok (.getfield 33, 3) := by decide +kernel
theorem dX11_find_4 : decode cX11_find 4 = .ok (.aload_n 0, 1) := by decide +kernel
theorem dX11_find_5 : decode cX11_find 5 = .ok (.getfield 12, 3) := by decide +kernel
theorem dX11_find_8 : decode cX11_find 8 = .ok (.invokevirtual 162, 3) := by decide +kernel
theorem dX11_find_11 : decode cX11_find 11 = .ok (.ifCond .ne 16, 3) := by decide +kernel
theorem dX11_find_14 : decode cX11_find 14 = .ok (.aload_n 0, 1) := by decide +kernel
theorem dX11_find_15 : decode cX11_find 15 = .ok (.getfield 33, 3) := by decide +kernel
theorem dX11_find_18 : decode cX11_find 18 = .ok (.aload_n 0, 1) := by decide +kernel
theorem dX11_find_19 : decode cX11_find 19 = .ok (.getfield 12, 3) := by decide +kernel
theorem dX11_find_22 : decode cX11_find 22 = .ok (.invokevirtual 166, 3) := by decide +kernel
theorem dX11_find_25 : decode cX11_find 25 = .ok (.iconst 0, 1) := by decide +kernel
theorem dX11_find_26 : decode cX11_find 26 = .ok (.ireturn, 1) := by decide +kernel
theorem dX11_find_27 : decode cX11_find 27 = .ok (.aload_n 0, 1) := by decide +kernel
theorem dX11_find_28 : decode cX11_find 28 = .ok (.invokevirtual 110, 3) := by decide +kernel
theorem dX11_find_31 : decode cX11_find 31 = .ok (.aload_n 0, 1) := by decide +kernel
theorem dX11_find_32 : decode cX11_find 32 = .ok (.getfield 12, 3) := by decide +kernel
theorem dX11_find_35 : decode cX11_find 35 = .ok (.aload_n 0, 1) := by decide +kernel
theorem dX11_find_36 : decode cX11_find 36 = .ok (.getfield 33, 3) := by decide +kernel
theorem dX11_find_39 : decode cX11_find 39 = .ok (.getfield 170, 3) := by decide +kernel
theorem dX11_find_42 : decode cX11_find 42 = .ok (.invokevirtual 174, 3) := by decide +kernel
theorem dX11_find_45 : decode cX11_find 45 = .ok (.iconst 1, 1) := by decide +kernel
theorem dX11_find_46 : decode cX11_find 46 = .ok (.ireturn, 1) := by decide +kernel
theorem dX11_proof_0 : decode cX11_proof 0 = .ok (.aload_n 0, 1) := by decide +kernel
theorem dX11_proof_1 : decode cX11_proof 1 = .ok (.getfield 33, 3) := by decide +kernel
theorem dX11_proof_4 : decode cX11_proof 4 = .ok (.getfield 178, 3) := by decide +kernel
theorem dX11_proof_7 : decode cX11_proof 7 = .ok (.ireturn, 1) := by decide +kernel
theorem dX11_proofAt_0 : decode cX11_proofAt 0 = .ok (.iload_n 1, 1) := by decide +kernel
theorem dX11_proofAt_1 : decode cX11_proofAt 1 = .ok (.ifCond .lt 14, 3) := by decide +kernel
theorem dX11_proofAt_4 : decode cX11_proofAt 4 = .ok (.iload_n 1, 1) := by decide +kernel
theorem dX11_proofAt_5 : decode cX11_proofAt 5 = .ok (.aload_n 0, 1) := by decide +kernel
theorem dX11_proofAt_6 : decode cX11_proofAt 6 = .ok (.getfield 33, 3) := by decide +kernel
theorem dX11_proofAt_9 : decode cX11_proofAt 9 = .ok (.getfield 178, 3) := by decide +kernel
theorem dX11_proofAt_12 : decode cX11_proofAt 12 = .ok (.if_icmp .lt 13, 3) := by decide +kernel
theorem dX11_proofAt_15 : decode cX11_proofAt 15 = .ok (.new 182, 3) := by decide +kernel
theorem dX11_proofAt_18 : decode cX11_proofAt 18 = .ok (.dup, 1) := by decide +kernel
theorem dX11_proofAt_19 : decode cX11_proofAt 19 = .ok (.ldc 184, 2) := by decide +kernel
theorem dX11_proofAt_21 : decode cX11_proofAt 21 = .ok (.invokespecial 186, 3) := by decide +kernel
theorem dX11_proofAt_24 : decode cX11_proofAt 24 = .ok (.athrow, 1) := by decide +kernel
theorem dX11_proofAt_25 : decode cX11_proofAt 25 = .ok (.aload_n 0, 1) := by decide +kernel
theorem dX11_proofAt_26 : decode cX11_proofAt 26 = .ok (.getfield 33, 3) := by decide +kernel
theorem dX11_proofAt_29 : decode cX11_proofAt 29 = .ok (.getfield 187, 3) := by decide +kernel
theorem dX11_proofAt_32 : decode cX11_proofAt 32 = .ok (.iload_n 1, 1) := by decide +kernel
theorem dX11_proofAt_33 : decode cX11_proofAt 33 = .ok (.iaload, 1) := by decide +kernel
theorem dX11_proofAt_34 : decode cX11_proofAt 34 = .ok (.ireturn, 1) := by decide +kernel
set_option maxRecDepth 20000 in
theorem ggX11_slotOf_X11_requireLesson : GoodIn wsX11_slotOf wsX11_requireLesson := goodIn_ca (goodIn_r _ [7, 8, 9, 1, 10, 11, 12, 13, 14, 15, 26, 27, 28, 29, 30, 31, 32, 33, 34, 35, 36, 37, 38] (by decide +kernel) (by decide +kernel)) (goodIn_sub (fun _ h => List.mem_cons_of_mem _ (List.mem_append_left _ (List.mem_append_right _ h))) (by decide +kernel))
set_option maxRecDepth 20000 in
theorem gX11_slotOf_X11_requireLesson : GoodIn wsX11_slotOf (wsV RX11 120 RX11 yX11_requireLesson wsX11_requireLesson) := goodIn_app (goodIn_of _ (by decide +kernel)) ggX11_slotOf_X11_requireLesson
set_option maxRecDepth 20000 in
theorem ggX11_slotOf_X11_requireTable : GoodIn wsX11_slotOf wsX11_requireTable := goodIn_ca (goodIn_r _ [19, 20, 21, 1, 22, 23, 24, 13, 25, 15, 26, 27, 28, 29, 30, 31, 32, 33, 34, 35, 36, 37, 38] (by decide +kernel) (by decide +kernel)) (goodIn_sub (fun _ h => List.mem_cons_of_mem _ (List.mem_append_right _ h)) (by decide +kernel))
set_option maxRecDepth 20000 in
theorem gX11_slotOf_X11_requireTable : GoodIn wsX11_slotOf (wsV RX11 190 RX11 yX11_requireTable wsX11_requireTable) := goodIn_app (goodIn_of _ (by decide +kernel)) ggX11_slotOf_X11_requireTable
theorem dX11_slotOf_0 : decode cX11_slotOf 0 = .ok (.aload_n 0, 1) := by decide +kernel
theorem dX11_slotOf_1 : decode cX11_slotOf 1 = .ok (.iload_n 1, 1) := by decide +kernel
theorem dX11_slotOf_2 : decode cX11_slotOf 2 = .ok (.invokevirtual 120, 3) := by decide +kernel
theorem dX11_slotOf_5 : decode cX11_slotOf 5 = .ok (.aload_n 0, 1) := by decide +kernel
theorem dX11_slotOf_6 : decode cX11_slotOf 6 = .ok (.invokevirtual 190, 3) := by decide +kernel
theorem dX11_slotOf_9 : decode cX11_slotOf 9 = .ok (.aload_n 0, 1) := by decide +kernel
theorem dX11_slotOf_10 : decode cX11_slotOf 10 = .ok (.getfield 12, 3) := by decide +kernel
theorem dX11_slotOf_13 : decode cX11_slotOf 13 = .ok (.getfield 193, 3) := by decide +kernel
theorem dX11_slotOf_16 : decode cX11_slotOf 16 = .ok (.iload_n 1, 1) := by decide +kernel
theorem dX11_slotOf_17 : decode cX11_slotOf 17 = .ok (.iaload, 1) := by decide +kernel
theorem dX11_slotOf_18 : decode cX11_slotOf 18 = .ok (.ireturn, 1) := by decide +kernel
set_option maxRecDepth 20000 in
theorem ggX11_lessonAt_X11_requirePerson : GoodIn wsX11_lessonAt wsX11_requirePerson := goodIn_ca (goodIn_r _ [7, 8, 9, 10, 6, 11, 12, 13, 14, 15, 16, 17] (by decide +kernel) (by decide +kernel)) (goodIn_sub (fun _ h => List.mem_cons_of_mem _ (List.mem_append_left _ (List.mem_append_right _ h))) (by decide +kernel))
set_option maxRecDepth 20000 in
theorem gX11_lessonAt_X11_requirePerson : GoodIn wsX11_lessonAt (wsV RX11 194 RX11 yX11_requirePerson wsX11_requirePerson) := goodIn_app (goodIn_of _ (by decide +kernel)) ggX11_lessonAt_X11_requirePerson
set_option maxRecDepth 20000 in
theorem ggX11_lessonAt_X11_requireRange : GoodIn wsX11_lessonAt wsX11_requireRange := goodIn_ca (goodIn_r _ [11, 12, 13, 14, 6, 15, 16, 17] (by decide +kernel) (by decide +kernel)) (goodIn_sub (fun _ h => List.mem_cons_of_mem _ (List.mem_append_left _ (List.mem_append_right _ h))) (by decide +kernel))
set_option maxRecDepth 20000 in
theorem gX11_lessonAt_X11_requireRange : GoodIn wsX11_lessonAt (wsV RX11 86 RX11 yX11_requireRange wsX11_requireRange) := goodIn_app (goodIn_of _ (by decide +kernel)) ggX11_lessonAt_X11_requireRange
set_option maxRecDepth 20000 in
theorem ggX11_lessonAt_X11_requireTable : GoodIn wsX11_lessonAt wsX11_requireTable := goodIn_ca (goodIn_r _ [21, 22, 23, 1, 24, 25, 26, 27, 28, 29, 42, 43, 44, 45, 46, 47, 48, 49, 50, 51, 52, 53, 54] (by decide +kernel) (by decide +kernel)) (goodIn_sub (fun _ h => List.mem_cons_of_mem _ (List.mem_append_right _ h)) (by decide +kernel))
set_option maxRecDepth 20000 in
theorem gX11_lessonAt_X11_requireTable : GoodIn wsX11_lessonAt (wsV RX11 190 RX11 yX11_requireTable wsX11_requireTable) := goodIn_app (goodIn_of _ (by decide +kernel)) ggX11_lessonAt_X11_requireTable
set_option maxRecDepth 20000 in
theorem ggX11_lessonAt_X8_lessonTotal : GoodIn wsX11_lessonAt wsX8_lessonTotal := goodIn_r _ [33, 29, 53, 54] (by decide +kernel) (by decide +kernel)
set_option maxRecDepth 20000 in
theorem gX11_lessonAt_X8_lessonTotal : GoodIn wsX11_lessonAt (wsV RX11 101 RX8 yX8_lessonTotal wsX8_lessonTotal) := goodIn_app (goodIn_of _ (by decide +kernel)) ggX11_lessonAt_X8_lessonTotal
set_option maxRecDepth 20000 in
theorem ggX11_lessonAt_X8_isOf : GoodIn wsX11_lessonAt wsX8_isOf := goodIn_r _ [37, 29, 53, 54] (by decide +kernel) (by decide +kernel)
set_option maxRecDepth 20000 in
theorem gX11_lessonAt_X8_isOf : GoodIn wsX11_lessonAt (wsV RX11 198 RX8 yX8_isOf wsX8_isOf) := goodIn_app (goodIn_of _ (by decide +kernel)) ggX11_lessonAt_X8_isOf
set_option maxRecDepth 20000 in
theorem ggX11_lessonAt_X8_slotsTaken : GoodIn wsX11_lessonAt wsX8_slotsTaken := goodIn_r _ [41, 29, 53, 54] (by decide +kernel) (by decide +kernel)
set_option maxRecDepth 20000 in
theorem gX11_lessonAt_X8_slotsTaken : GoodIn wsX11_lessonAt (wsV RX11 202 RX8 yX8_slotsTaken wsX8_slotsTaken) := goodIn_app (goodIn_of _ (by decide +kernel)) ggX11_lessonAt_X8_slotsTaken
theorem dX11_lessonAt_0 : decode cX11_lessonAt 0 = .ok (.aload_n 0, 1) := by decide +kernel
theorem dX11_lessonAt_1 : decode cX11_lessonAt 1 = .ok (.iload_n 1, 1) := by decide +kernel
theorem dX11_lessonAt_2 : decode cX11_lessonAt 2 = .ok (.iload_n 2, 1) := by decide +kernel
theorem dX11_lessonAt_3 : decode cX11_lessonAt 3 = .ok (.invokevirtual 194, 3) := by decide +kernel
theorem dX11_lessonAt_6 : decode cX11_lessonAt 6 = .ok (.aload_n 0, 1) := by decide +kernel
theorem dX11_lessonAt_7 : decode cX11_lessonAt 7 = .ok (.iload_n 3, 1) := by decide +kernel
theorem dX11_lessonAt_8 : decode cX11_lessonAt 8 = .ok (.bipush 20, 2) := by decide +kernel
theorem dX11_lessonAt_10 : decode cX11_lessonAt 10 = .ok (.invokevirtual 86, 3) := by decide +kernel
theorem dX11_lessonAt_13 : decode cX11_lessonAt 13 = .ok (.aload_n 0, 1) := by decide +kernel
theorem dX11_lessonAt_14 : decode cX11_lessonAt 14 = .ok (.invokevirtual 190, 3) := by decide +kernel
theorem dX11_lessonAt_17 : decode cX11_lessonAt 17 = .ok (.iconst 0, 1) := by decide +kernel
theorem dX11_lessonAt_18 : decode cX11_lessonAt 18 = .ok (.istore 4, 2) := by decide +kernel
theorem dX11_lessonAt_20 : decode cX11_lessonAt 20 = .ok (.iload 4, 2) := by decide +kernel
theorem dX11_lessonAt_22 : decode cX11_lessonAt 22 = .ok (.aload_n 0, 1) := by decide +kernel
theorem dX11_lessonAt_23 : decode cX11_lessonAt 23 = .ok (.getfield 12, 3) := by decide +kernel
theorem dX11_lessonAt_26 : decode cX11_lessonAt 26 = .ok (.invokevirtual 101, 3) := by decide +kernel
theorem dX11_lessonAt_29 : decode cX11_lessonAt 29 = .ok (.if_icmp .ge 49, 3) := by decide +kernel
theorem dX11_lessonAt_32 : decode cX11_lessonAt 32 = .ok (.aload_n 0, 1) := by decide +kernel
theorem dX11_lessonAt_33 : decode cX11_lessonAt 33 = .ok (.getfield 12, 3) := by decide +kernel
theorem dX11_lessonAt_36 : decode cX11_lessonAt 36 = .ok (.iload 4, 2) := by decide +kernel
theorem dX11_lessonAt_38 : decode cX11_lessonAt 38 = .ok (.iload_n 1, 1) := by decide +kernel
theorem dX11_lessonAt_39 : decode cX11_lessonAt 39 = .ok (.iload_n 2, 1) := by decide +kernel
theorem dX11_lessonAt_40 : decode cX11_lessonAt 40 = .ok (.invokevirtual 198, 3) := by decide +kernel
theorem dX11_lessonAt_43 : decode cX11_lessonAt 43 = .ok (.ifCond .eq 29, 3) := by decide +kernel
theorem dX11_lessonAt_46 : decode cX11_lessonAt 46 = .ok (.aload_n 0, 1) := by decide +kernel
theorem dX11_lessonAt_47 : decode cX11_lessonAt 47 = .ok (.getfield 12, 3) := by decide +kernel
theorem dX11_lessonAt_50 : decode cX11_lessonAt 50 = .ok (.iload 4, 2) := by decide +kernel
theorem dX11_lessonAt_52 : decode cX11_lessonAt 52 = .ok (.aload_n 0, 1) := by decide +kernel
theorem dX11_lessonAt_53 : decode cX11_lessonAt 53 = .ok (.getfield 12, 3) := by decide +kernel
theorem dX11_lessonAt_56 : decode cX11_lessonAt 56 = .ok (.getfield 193, 3) := by decide +kernel
theorem dX11_lessonAt_59 : decode cX11_lessonAt 59 = .ok (.invokevirtual 202, 3) := by decide +kernel
theorem dX11_lessonAt_62 : decode cX11_lessonAt 62 = .ok (.iload_n 3, 1) := by decide +kernel
theorem dX11_lessonAt_63 : decode cX11_lessonAt 63 = .ok (.ishr, 1) := by decide +kernel
theorem dX11_lessonAt_64 : decode cX11_lessonAt 64 = .ok (.iconst 1, 1) := by decide +kernel
theorem dX11_lessonAt_65 : decode cX11_lessonAt 65 = .ok (.iand, 1) := by decide +kernel
theorem dX11_lessonAt_66 : decode cX11_lessonAt 66 = .ok (.ifCond .eq 6, 3) := by decide +kernel
theorem dX11_lessonAt_69 : decode cX11_lessonAt 69 = .ok (.iload 4, 2) := by decide +kernel
theorem dX11_lessonAt_71 : decode cX11_lessonAt 71 = .ok (.ireturn, 1) := by decide +kernel
theorem dX11_lessonAt_72 : decode cX11_lessonAt 72 = .ok (.iinc 4 1, 3) := by decide +kernel
theorem dX11_lessonAt_75 : decode cX11_lessonAt 75 = .ok (.goto (-55), 3) := by decide +kernel
theorem dX11_lessonAt_78 : decode cX11_lessonAt 78 = .ok (.iconst (-1), 1) := by decide +kernel
theorem dX11_lessonAt_79 : decode cX11_lessonAt 79 = .ok (.ireturn, 1) := by decide +kernel
set_option maxRecDepth 20000 in
theorem ggX11_roomOf_X11_requireLesson : GoodIn wsX11_roomOf wsX11_requireLesson := goodIn_ca (goodIn_r _ [8, 9, 10, 2, 11, 12, 13, 14, 15, 16, 87, 88, 89, 90, 91, 92, 93, 94, 95, 96, 97, 98, 99] (by decide +kernel) (by decide +kernel)) (goodIn_sub (fun _ h => List.mem_cons_of_mem _ (List.mem_append_left _ (List.mem_append_right _ h))) (by decide +kernel))
set_option maxRecDepth 20000 in
theorem gX11_roomOf_X11_requireLesson : GoodIn wsX11_roomOf (wsV RX11 120 RX11 yX11_requireLesson wsX11_requireLesson) := goodIn_app (goodIn_of _ (by decide +kernel)) ggX11_roomOf_X11_requireLesson
set_option maxRecDepth 20000 in
theorem ggX11_roomOf_X11_requireTable : GoodIn wsX11_roomOf wsX11_requireTable := goodIn_ca (goodIn_r _ [20, 21, 22, 2, 23, 24, 25, 14, 26, 16, 87, 88, 89, 90, 91, 92, 93, 94, 95, 96, 97, 98, 99] (by decide +kernel) (by decide +kernel)) (goodIn_sub (fun _ h => List.mem_cons_of_mem _ (List.mem_append_right _ h)) (by decide +kernel))
set_option maxRecDepth 20000 in
theorem gX11_roomOf_X11_requireTable : GoodIn wsX11_roomOf (wsV RX11 190 RX11 yX11_requireTable wsX11_requireTable) := goodIn_app (goodIn_of _ (by decide +kernel)) ggX11_roomOf_X11_requireTable
set_option maxRecDepth 20000 in
theorem ggX11_roomOf_X7_take : GoodIn wsX11_roomOf wsX7_take := goodIn_r _ [31, 32, 33, 12, 13, 14, 15, 16, 34, 35, 36, 30, 37, 38, 39, 40, 41, 42, 43, 44, 45, 46, 47, 48, 49, 50, 51, 52, 53, 54, 55, 56, 57, 58, 59, 60, 61, 62, 63, 64, 65, 66, 67, 68, 69, 70, 71, 72, 73, 74, 75, 76, 77, 100, 101, 102, 103, 104, 105, 106, 107, 108, 109, 110, 111, 98, 99] (by decide +kernel) (by decide +kernel)
set_option maxRecDepth 20000 in
theorem gX11_roomOf_X7_take : GoodIn wsX11_roomOf (wsV RX11 206 RX7 yX7_take wsX7_take) := goodIn_app (goodIn_of _ (by decide +kernel)) ggX11_roomOf_X7_take
set_option maxRecDepth 20000 in
theorem ggX11_roomOf_X7_giveRooms : GoodIn wsX11_roomOf wsX7_giveRooms := goodIn_r _ [81, 32, 82, 38, 83, 84, 85, 30, 86, 39, 49, 100, 101, 102, 103, 104, 105, 106, 107, 108, 109, 110, 111] (by decide +kernel) (by decide +kernel)
set_option maxRecDepth 20000 in
theorem gX11_roomOf_X7_giveRooms : GoodIn wsX11_roomOf (wsV RX11 210 RX7 yX7_giveRooms wsX7_giveRooms) := goodIn_app (goodIn_of _ (by decide +kernel)) ggX11_roomOf_X7_giveRooms
theorem dX11_roomOf_0 : decode cX11_roomOf 0 = .ok (.aload_n 0, 1) := by decide +kernel
theorem dX11_roomOf_1 : decode cX11_roomOf 1 = .ok (.iload_n 1, 1) := by decide +kernel
theorem dX11_roomOf_2 : decode cX11_roomOf 2 = .ok (.invokevirtual 120, 3) := by decide +kernel
theorem dX11_roomOf_5 : decode cX11_roomOf 5 = .ok (.aload_n 0, 1) := by decide +kernel
theorem dX11_roomOf_6 : decode cX11_roomOf 6 = .ok (.invokevirtual 190, 3) := by decide +kernel
theorem dX11_roomOf_9 : decode cX11_roomOf 9 = .ok (.aload_n 0, 1) := by decide +kernel
theorem dX11_roomOf_10 : decode cX11_roomOf 10 = .ok (.getfield 26, 3) := by decide +kernel
theorem dX11_roomOf_13 : decode cX11_roomOf 13 = .ok (.aload_n 0, 1) := by decide +kernel
theorem dX11_roomOf_14 : decode cX11_roomOf 14 = .ok (.getfield 12, 3) := by decide +kernel
theorem dX11_roomOf_17 : decode cX11_roomOf 17 = .ok (.iconst 0, 1) := by decide +kernel
theorem dX11_roomOf_18 : decode cX11_roomOf 18 = .ok (.invokevirtual 206, 3) := by decide +kernel
theorem dX11_roomOf_21 : decode cX11_roomOf 21 = .ok (.aload_n 0, 1) := by decide +kernel
theorem dX11_roomOf_22 : decode cX11_roomOf 22 = .ok (.getfield 26, 3) := by decide +kernel
theorem dX11_roomOf_25 : decode cX11_roomOf 25 = .ok (.aload_n 0, 1) := by decide +kernel
theorem dX11_roomOf_26 : decode cX11_roomOf 26 = .ok (.getfield 12, 3) := by decide +kernel
theorem dX11_roomOf_29 : decode cX11_roomOf 29 = .ok (.getfield 193, 3) := by decide +kernel
theorem dX11_roomOf_32 : decode cX11_roomOf 32 = .ok (.iload_n 1, 1) := by decide +kernel
theorem dX11_roomOf_33 : decode cX11_roomOf 33 = .ok (.invokevirtual 210, 3) := by decide +kernel
theorem dX11_roomOf_36 : decode cX11_roomOf 36 = .ok (.ireturn, 1) := by decide +kernel
set_option maxRecDepth 20000 in
theorem ggX11_choices_X11_requireLesson : GoodIn wsX11_choices wsX11_requireLesson := goodIn_ca (goodIn_r _ [8, 9, 10, 2, 11, 12, 13, 14, 15, 16, 95, 96, 97, 98, 99, 100, 101, 102, 103, 104, 105, 106, 107] (by decide +kernel) (by decide +kernel)) (goodIn_sub (fun _ h => List.mem_cons_of_mem _ (List.mem_append_left _ (List.mem_append_right _ h))) (by decide +kernel))
set_option maxRecDepth 20000 in
theorem gX11_choices_X11_requireLesson : GoodIn wsX11_choices (wsV RX11 120 RX11 yX11_requireLesson wsX11_requireLesson) := goodIn_app (goodIn_of _ (by decide +kernel)) ggX11_choices_X11_requireLesson
set_option maxRecDepth 20000 in
theorem ggX11_choices_X11_requireTable : GoodIn wsX11_choices wsX11_requireTable := goodIn_ca (goodIn_r _ [20, 21, 22, 2, 23, 24, 25, 14, 26, 16, 95, 96, 97, 98, 99, 100, 101, 102, 103, 104, 105, 106, 107] (by decide +kernel) (by decide +kernel)) (goodIn_sub (fun _ h => List.mem_cons_of_mem _ (List.mem_append_right _ h)) (by decide +kernel))
set_option maxRecDepth 20000 in
theorem gX11_choices_X11_requireTable : GoodIn wsX11_choices (wsV RX11 190 RX11 yX11_requireTable wsX11_requireTable) := goodIn_app (goodIn_of _ (by decide +kernel)) ggX11_choices_X11_requireTable
set_option maxRecDepth 20000 in
theorem ggX11_choices_X8_hardWishes : GoodIn wsX11_choices wsX8_hardWishes := goodIn_r _ [30, 31, 32, 33, 14, 34, 16, 35, 36, 37, 38, 106, 107] (by decide +kernel) (by decide +kernel)
set_option maxRecDepth 20000 in
theorem gX11_choices_X8_hardWishes : GoodIn wsX11_choices (wsV RX11 214 RX8 yX8_hardWishes wsX8_hardWishes) := goodIn_app (goodIn_of _ (by decide +kernel)) ggX11_choices_X8_hardWishes
set_option maxRecDepth 20000 in
theorem ggX11_choices_X7_take : GoodIn wsX11_choices wsX7_take := goodIn_r _ [43, 44, 45, 12, 13, 14, 15, 16, 46, 47, 48, 42, 49, 50, 51, 52, 53, 54, 55, 56, 57, 58, 59, 60, 61, 62, 63, 64, 65, 66, 67, 68, 69, 70, 71, 72, 73, 74, 32, 33, 34, 75, 36, 37, 38, 76, 77, 78, 79, 80, 81, 82, 83, 108, 109, 110, 111, 112, 113, 114, 115, 116, 117, 118, 119, 106, 107] (by decide +kernel) (by decide +kernel)
set_option maxRecDepth 20000 in
theorem gX11_choices_X7_take : GoodIn wsX11_choices (wsV RX11 206 RX7 yX7_take wsX7_take) := goodIn_app (goodIn_of _ (by decide +kernel)) ggX11_choices_X7_take
set_option maxRecDepth 20000 in
theorem ggX11_choices_X7_allowed : GoodIn wsX11_choices wsX7_allowed := goodIn_r _ [87, 53, 44, 51, 56, 52, 57, 58, 59, 60, 61, 50, 108, 109, 110, 111, 112, 113, 114, 115, 116, 117, 118, 119] (by decide +kernel) (by decide +kernel)
set_option maxRecDepth 20000 in
theorem gX11_choices_X7_allowed : GoodIn wsX11_choices (wsV RX11 217 RX7 yX7_allowed wsX7_allowed) := goodIn_app (goodIn_of _ (by decide +kernel)) ggX11_choices_X7_allowed
set_option maxRecDepth 20000 in
theorem ggX11_choices_J6_bitCount_0f7a4 : GoodIn wsX11_choices wsJ6_bitCount_0f7a4 := goodIn_r _ [91, 92, 93, 94] (by decide +kernel) (by decide +kernel)
set_option maxRecDepth 20000 in
theorem gX11_choices_J6_bitCount_0f7a4 : GoodIn wsX11_choices (va_wsS RX11 221 yJ6_bitCount_0f7a4 wsJ6_bitCount_0f7a4) := goodIn_app (goodIn_of _ (by decide +kernel)) ggX11_choices_J6_bitCount_0f7a4
theorem dX11_choices_0 : decode cX11_choices 0 = .ok (.aload_n 0, 1) := by decide +kernel
theorem dX11_choices_1 : decode cX11_choices 1 = .ok (.iload_n 1, 1) := by decide +kernel
theorem dX11_choices_2 : decode cX11_choices 2 = .ok (.invokevirtual 120, 3) := by decide +kernel
theorem dX11_choices_5 : decode cX11_choices 5 = .ok (.aload_n 0, 1) := by decide +kernel
theorem dX11_choices_6 : decode cX11_choices 6 = .ok (.invokevirtual 190, 3) := by decide +kernel
theorem dX11_choices_9 : decode cX11_choices 9 = .ok (.aload_n 0, 1) := by decide +kernel
theorem dX11_choices_10 : decode cX11_choices 10 = .ok (.getfield 26, 3) := by decide +kernel
theorem dX11_choices_13 : decode cX11_choices 13 = .ok (.aload_n 0, 1) := by decide +kernel
theorem dX11_choices_14 : decode cX11_choices 14 = .ok (.getfield 12, 3) := by decide +kernel
theorem dX11_choices_17 : decode cX11_choices 17 = .ok (.aload_n 0, 1) := by decide +kernel
theorem dX11_choices_18 : decode cX11_choices 18 = .ok (.getfield 12, 3) := by decide +kernel
theorem dX11_choices_21 : decode cX11_choices 21 = .ok (.invokevirtual 214, 3) := by decide +kernel
theorem dX11_choices_24 : decode cX11_choices 24 = .ok (.invokevirtual 206, 3) := by decide +kernel
theorem dX11_choices_27 : decode cX11_choices 27 = .ok (.aload_n 0, 1) := by decide +kernel
theorem dX11_choices_28 : decode cX11_choices 28 = .ok (.getfield 26, 3) := by decide +kernel
theorem dX11_choices_31 : decode cX11_choices 31 = .ok (.iload_n 1, 1) := by decide +kernel
theorem dX11_choices_32 : decode cX11_choices 32 = .ok (.aload_n 0, 1) := by decide +kernel
theorem dX11_choices_33 : decode cX11_choices 33 = .ok (.getfield 12, 3) := by decide +kernel
theorem dX11_choices_36 : decode cX11_choices 36 = .ok (.getfield 193, 3) := by decide +kernel
theorem dX11_choices_39 : decode cX11_choices 39 = .ok (.iconst (-1), 1) := by decide +kernel
theorem dX11_choices_40 : decode cX11_choices 40 = .ok (.invokevirtual 217, 3) := by decide +kernel
theorem dX11_choices_43 : decode cX11_choices 43 = .ok (.iconst 1, 1) := by decide +kernel
theorem dX11_choices_44 : decode cX11_choices 44 = .ok (.aload_n 0, 1) := by decide +kernel
theorem dX11_choices_45 : decode cX11_choices 45 = .ok (.getfield 12, 3) := by decide +kernel
theorem dX11_choices_48 : decode cX11_choices 48 = .ok (.getfield 193, 3) := by decide +kernel
theorem dX11_choices_51 : decode cX11_choices 51 = .ok (.iload_n 1, 1) := by decide +kernel
theorem dX11_choices_52 : decode cX11_choices 52 = .ok (.iaload, 1) := by decide +kernel
theorem dX11_choices_53 : decode cX11_choices 53 = .ok (.ishl, 1) := by decide +kernel
theorem dX11_choices_54 : decode cX11_choices 54 = .ok (.iconst (-1), 1) := by decide +kernel
theorem dX11_choices_55 : decode cX11_choices 55 = .ok (.ixor, 1) := by decide +kernel
theorem dX11_choices_56 : decode cX11_choices 56 = .ok (.iand, 1) := by decide +kernel
theorem dX11_choices_57 : decode cX11_choices 57 = .ok (.invokestatic 221, 3) := by decide +kernel
theorem dX11_choices_60 : decode cX11_choices 60 = .ok (.ireturn, 1) := by decide +kernel
set_option maxRecDepth 20000 in
theorem ggX11_move_X11_requireLesson : GoodIn wsX11_move wsX11_requireLesson := goodIn_ca (goodIn_r _ [11, 12, 13, 4, 14, 15, 16, 17, 18, 19, 168, 169, 170, 171, 172, 173, 174, 175, 176, 177, 178, 179, 180] (by decide +kernel) (by decide +kernel)) (goodIn_sub (fun _ h => List.mem_cons_of_mem _ (List.mem_append_left _ (List.mem_append_right _ h))) (by decide +kernel))
set_option maxRecDepth 20000 in
theorem gX11_move_X11_requireLesson : GoodIn wsX11_move (wsV RX11 120 RX11 yX11_requireLesson wsX11_requireLesson) := goodIn_app (goodIn_of _ (by decide +kernel)) ggX11_move_X11_requireLesson
set_option maxRecDepth 20000 in
theorem ggX11_move_X11_requireRange : GoodIn wsX11_move wsX11_requireRange := goodIn_ca (goodIn_r _ [23, 24, 25, 26, 10, 27, 28, 29] (by decide +kernel) (by decide +kernel)) (goodIn_sub (fun _ h => List.mem_cons_of_mem _ (List.mem_append_right _ h)) (by decide +kernel))
set_option maxRecDepth 20000 in
theorem gX11_move_X11_requireRange : GoodIn wsX11_move (wsV RX11 86 RX11 yX11_requireRange wsX11_requireRange) := goodIn_app (goodIn_of _ (by decide +kernel)) ggX11_move_X11_requireRange
set_option maxRecDepth 20000 in
theorem ggX11_move_X11_requireTable : GoodIn wsX11_move wsX11_requireTable := goodIn_ca (goodIn_r _ [33, 1, 2, 4, 34, 35, 36, 17, 37, 19, 168, 169, 170, 171, 172, 173, 174, 175, 176, 177, 178, 179, 180] (by decide +kernel) (by decide +kernel)) (goodIn_sub (fun _ h => List.mem_cons_of_mem _ (List.mem_append_left _ (List.mem_append_left _ (List.mem_append_right _ h)))) (by decide +kernel))
set_option maxRecDepth 20000 in
theorem gX11_move_X11_requireTable : GoodIn wsX11_move (wsV RX11 190 RX11 yX11_requireTable wsX11_requireTable) := goodIn_app (goodIn_of _ (by decide +kernel)) ggX11_move_X11_requireTable
set_option maxRecDepth 20000 in
theorem ggX11_move_X8_hardWishes : GoodIn wsX11_move wsX8_hardWishes := goodIn_r _ [41, 42, 43, 44, 17, 45, 19, 46, 47, 48, 49, 179, 180] (by decide +kernel) (by decide +kernel)
set_option maxRecDepth 20000 in
theorem gX11_move_X8_hardWishes : GoodIn wsX11_move (wsV RX11 214 RX8 yX8_hardWishes wsX8_hardWishes) := goodIn_app (goodIn_of _ (by decide +kernel)) ggX11_move_X8_hardWishes
set_option maxRecDepth 20000 in
theorem ggX11_move_X7_take : GoodIn wsX11_move wsX7_take := goodIn_r _ [54, 55, 56, 15, 16, 17, 18, 19, 57, 58, 59, 53, 60, 61, 62, 63, 64, 65, 66, 67, 68, 69, 70, 71, 72, 73, 74, 75, 76, 77, 78, 79, 80, 81, 82, 83, 84, 85, 43, 44, 45, 86, 47, 48, 49, 87, 88, 89, 90, 91, 92, 93, 94, 181, 182, 183, 184, 185, 186, 187, 188, 189, 190, 191, 192, 179, 180] (by decide +kernel) (by decide +kernel)
set_option maxRecDepth 20000 in
theorem gX11_move_X7_take : GoodIn wsX11_move (wsV RX11 206 RX7 yX7_take wsX7_take) := goodIn_app (goodIn_of _ (by decide +kernel)) ggX11_move_X7_take
set_option maxRecDepth 20000 in
theorem ggX11_move_X7_allowed : GoodIn wsX11_move wsX7_allowed := goodIn_r _ [98, 64, 55, 62, 67, 63, 68, 69, 70, 71, 72, 61, 181, 182, 183, 184, 185, 186, 187, 188, 189, 190, 191, 192] (by decide +kernel) (by decide +kernel)
set_option maxRecDepth 20000 in
theorem gX11_move_X7_allowed : GoodIn wsX11_move (wsV RX11 217 RX7 yX7_allowed wsX7_allowed) := goodIn_app (goodIn_of _ (by decide +kernel)) ggX11_move_X7_allowed
set_option maxRecDepth 20000 in
theorem ggX11_move_X11_beginChange : GoodIn wsX11_move wsX11_beginChange := goodIn_r _ [102, 103, 4, 104, 105, 106, 107, 108, 109, 110, 111, 112, 113, 114, 115, 116, 117, 118, 119, 120, 121, 122, 123, 124, 125, 126, 127, 128, 168, 169, 170, 171, 172, 173, 174, 175, 176, 177, 178, 179, 180, 193, 194, 195, 196, 197, 198, 199, 200, 201, 202, 203] (by decide +kernel) (by decide +kernel)
set_option maxRecDepth 20000 in
theorem gX11_move_X11_beginChange : GoodIn wsX11_move (wsV RX11 110 RX11 yX11_beginChange wsX11_beginChange) := goodIn_app (goodIn_of _ (by decide +kernel)) ggX11_move_X11_beginChange
set_option maxRecDepth 20000 in
theorem ggX11_move_X6_costOf : GoodIn wsX11_move wsX6_costOf := goodIn_r _ [133, 134, 135, 136, 17, 137, 138, 15, 16, 18, 19, 139, 92, 93, 94, 140, 141, 142, 143, 144, 145, 146, 132, 147, 148, 149, 150, 151, 152, 153, 154, 155, 156, 157, 158, 159, 160, 161, 43, 44, 45, 162, 47, 48, 49, 163, 164, 165, 166, 46, 167, 179, 180] (by decide +kernel) (by decide +kernel)
set_option maxRecDepth 20000 in
theorem gX11_move_X6_costOf : GoodIn wsX11_move (wsV RX11 228 RX6 yX6_costOf wsX6_costOf) := goodIn_app (goodIn_of _ (by decide +kernel)) ggX11_move_X6_costOf
theorem dX11_move_0 : decode cX11_move 0 = .ok (.aload_n 0, 1) := by decide +kernel
theorem dX11_move_1 : decode cX11_move 1 = .ok (.iload_n 1, 1) := by decide +kernel
theorem dX11_move_2 : decode cX11_move 2 = .ok (.invokevirtual 120, 3) := by decide +kernel
theorem dX11_move_5 : decode cX11_move 5 = .ok (.aload_n 0, 1) := by decide +kernel
theorem dX11_move_6 : decode cX11_move 6 = .ok (.iload_n 2, 1) := by decide +kernel
theorem dX11_move_7 : decode cX11_move 7 = .ok (.bipush 20, 2) := by decide +kernel
theorem dX11_move_9 : decode cX11_move 9 = .ok (.invokevirtual 86, 3) := by decide +kernel
theorem dX11_move_12 : decode cX11_move 12 = .ok (.aload_n 0, 1) := by decide +kernel
theorem dX11_move_13 : decode cX11_move 13 = .ok (.invokevirtual 190, 3) := by decide +kernel
theorem dX11_move_16 : decode cX11_move 16 = .ok (.aload_n 0, 1) := by decide +kernel
theorem dX11_move_17 : decode cX11_move 17 = .ok (.getfield 26, 3) := by decide +kernel
theorem dX11_move_20 : decode cX11_move 20 = .ok (.aload_n 0, 1) := by decide +kernel
theorem dX11_move_21 : decode cX11_move 21 = .ok (.getfield 12, 3) := by decide +kernel
theorem dX11_move_24 : decode cX11_move 24 = .ok (.aload_n 0, 1) := by decide +kernel
theorem dX11_move_25 : decode cX11_move 25 = .ok (.getfield 12, 3) := by decide +kernel
theorem dX11_move_28 : decode cX11_move 28 = .ok (.invokevirtual 214, 3) := by decide +kernel
theorem dX11_move_31 : decode cX11_move 31 = .ok (.invokevirtual 206, 3) := by decide +kernel
theorem dX11_move_34 : decode cX11_move 34 = .ok (.aload_n 0, 1) := by decide +kernel
theorem dX11_move_35 : decode cX11_move 35 = .ok (.getfield 26, 3) := by decide +kernel
theorem dX11_move_38 : decode cX11_move 38 = .ok (.iload_n 1, 1) := by decide +kernel
theorem dX11_move_39 : decode cX11_move 39 = .ok (.aload_n 0, 1) := by decide +kernel
theorem dX11_move_40 : decode cX11_move 40 = .ok (.getfield 12, 3) := by decide +kernel
theorem dX11_move_43 : decode cX11_move 43 = .ok (.getfield 193, 3) := by decide +kernel
theorem dX11_move_46 : decode cX11_move 46 = .ok (.iconst (-1), 1) := by decide +kernel
theorem dX11_move_47 : decode cX11_move 47 = .ok (.invokevirtual 217, 3) := by decide +kernel
theorem dX11_move_50 : decode cX11_move 50 = .ok (.iload_n 2, 1) := by decide +kernel
theorem dX11_move_51 : decode cX11_move 51 = .ok (.ishr, 1) := by decide +kernel
theorem dX11_move_52 : decode cX11_move 52 = .ok (.iconst 1, 1) := by decide +kernel
theorem dX11_move_53 : decode cX11_move 53 = .ok (.iand, 1) := by decide +kernel
theorem dX11_move_54 : decode cX11_move 54 = .ok (.ifCond .ne 13, 3) := by decide +kernel
theorem dX11_move_57 : decode cX11_move 57 = .ok (.new 105, 3) := by decide +kernel
theorem dX11_move_60 : decode cX11_move 60 = .ok (.dup, 1) := by decide +kernel
theorem dX11_move_61 : decode cX11_move 61 = .ok (.ldc 226, 2) := by decide +kernel
theorem dX11_move_63 : decode cX11_move 63 = .ok (.invokespecial 109, 3) := by decide +kernel
theorem dX11_move_66 : decode cX11_move 66 = .ok (.athrow, 1) := by decide +kernel
theorem dX11_move_67 : decode cX11_move 67 = .ok (.aload_n 0, 1) := by decide +kernel
theorem dX11_move_68 : decode cX11_move 68 = .ok (.invokevirtual 110, 3) := by decide +kernel
theorem dX11_move_71 : decode cX11_move 71 = .ok (.aload_n 0, 1) := by decide +kernel
theorem dX11_move_72 : decode cX11_move 72 = .ok (.getfield 12, 3) := by decide +kernel
theorem dX11_move_75 : decode cX11_move 75 = .ok (.getfield 193, 3) := by decide +kernel
theorem dX11_move_78 : decode cX11_move 78 = .ok (.iload_n 1, 1) := by decide +kernel
theorem dX11_move_79 : decode cX11_move 79 = .ok (.iload_n 2, 1) := by decide +kernel
theorem dX11_move_80 : decode cX11_move 80 = .ok (.iastore, 1) := by decide +kernel
theorem dX11_move_81 : decode cX11_move 81 = .ok (.aload_n 0, 1) := by decide +kernel
theorem dX11_move_82 : decode cX11_move 82 = .ok (.getfield 40, 3) := by decide +kernel
theorem dX11_move_85 : decode cX11_move 85 = .ok (.aload_n 0, 1) := by decide +kernel
theorem dX11_move_86 : decode cX11_move 86 = .ok (.getfield 12, 3) := by decide +kernel
theorem dX11_move_89 : decode cX11_move 89 = .ok (.aload_n 0, 1) := by decide +kernel
theorem dX11_move_90 : decode cX11_move 90 = .ok (.getfield 12, 3) := by decide +kernel
theorem dX11_move_93 : decode cX11_move 93 = .ok (.getfield 193, 3) := by decide +kernel
theorem dX11_move_96 : decode cX11_move 96 = .ok (.invokevirtual 228, 3) := by decide +kernel
theorem dX11_move_99 : decode cX11_move 99 = .ok (.ireturn, 1) := by decide +kernel
set_option maxRecDepth 20000 in
theorem ggX11_holds_X11_requireWish : GoodIn wsX11_holds wsX11_requireWish := goodIn_ca (goodIn_r _ [7, 8, 9, 1, 10, 11, 12, 13, 14, 15, 50, 51, 52, 53, 54, 55, 56, 57, 58, 59, 60, 61, 62] (by decide +kernel) (by decide +kernel)) (goodIn_sub (fun _ h => List.mem_cons_of_mem _ (List.mem_append_left _ (List.mem_append_right _ h))) (by decide +kernel))
set_option maxRecDepth 20000 in
theorem gX11_holds_X11_requireWish : GoodIn wsX11_holds (wsV RX11 153 RX11 yX11_requireWish wsX11_requireWish) := goodIn_app (goodIn_of _ (by decide +kernel)) ggX11_holds_X11_requireWish
set_option maxRecDepth 20000 in
theorem ggX11_holds_X11_requireTable : GoodIn wsX11_holds wsX11_requireTable := goodIn_ca (goodIn_r _ [19, 20, 21, 1, 22, 23, 24, 13, 25, 15, 50, 51, 52, 53, 54, 55, 56, 57, 58, 59, 60, 61, 62] (by decide +kernel) (by decide +kernel)) (goodIn_sub (fun _ h => List.mem_cons_of_mem _ (List.mem_append_right _ h)) (by decide +kernel))
set_option maxRecDepth 20000 in
theorem gX11_holds_X11_requireTable : GoodIn wsX11_holds (wsV RX11 190 RX11 yX11_requireTable wsX11_requireTable) := goodIn_app (goodIn_of _ (by decide +kernel)) ggX11_holds_X11_requireTable
set_option maxRecDepth 20000 in
theorem ggX11_holds_X8_fulfils : GoodIn wsX11_holds wsX8_fulfils := goodIn_r _ [29, 30, 31, 32, 13, 33, 15, 34, 35, 36, 37, 38, 39, 40, 41, 42, 43, 44, 45, 46, 47, 48, 49, 61, 62] (by decide +kernel) (by decide +kernel)
set_option maxRecDepth 20000 in
theorem gX11_holds_X8_fulfils : GoodIn wsX11_holds (wsV RX11 232 RX8 yX8_fulfils wsX8_fulfils) := goodIn_app (goodIn_of _ (by decide +kernel)) ggX11_holds_X8_fulfils
theorem dX11_holds_0 : decode cX11_holds 0 = .ok (.aload_n 0, 1) := by decide +kernel
theorem dX11_holds_1 : decode cX11_holds 1 = .ok (.iload_n 1, 1) := by decide +kernel
theorem dX11_holds_2 : decode cX11_holds 2 = .ok (.invokevirtual 153, 3) := by decide +kernel
theorem dX11_holds_5 : decode cX11_holds 5 = .ok (.aload_n 0, 1) := by decide +kernel
theorem dX11_holds_6 : decode cX11_holds 6 = .ok (.invokevirtual 190, 3) := by decide +kernel
theorem dX11_holds_9 : decode cX11_holds 9 = .ok (.aload_n 0, 1) := by decide +kernel
theorem dX11_holds_10 : decode cX11_holds 10 = .ok (.getfield 12, 3) := by decide +kernel
theorem dX11_holds_13 : decode cX11_holds 13 = .ok (.iload_n 1, 1) := by decide +kernel
theorem dX11_holds_14 : decode cX11_holds 14 = .ok (.aload_n 0, 1) := by decide +kernel
theorem dX11_holds_15 : decode cX11_holds 15 = .ok (.getfield 12, 3) := by decide +kernel
theorem dX11_holds_18 : decode cX11_holds 18 = .ok (.getfield 193, 3) := by decide +kernel
theorem dX11_holds_21 : decode cX11_holds 21 = .ok (.invokevirtual 232, 3) := by decide +kernel
theorem dX11_holds_24 : decode cX11_holds 24 = .ok (.ireturn, 1) := by decide +kernel
set_option maxRecDepth 20000 in
theorem ggX11_cost_X11_requireTable : GoodIn wsX11_cost wsX11_requireTable := goodIn_ca (goodIn_r _ [8, 9, 10, 2, 11, 12, 13, 14, 15, 16, 69, 70, 71, 72, 73, 74, 75, 76, 77, 78, 79, 80, 81] (by decide +kernel) (by decide +kernel)) (goodIn_sub (fun _ h => List.mem_cons_of_mem _ (List.mem_append_right _ h)) (by decide +kernel))
set_option maxRecDepth 20000 in
theorem gX11_cost_X11_requireTable : GoodIn wsX11_cost (wsV RX11 190 RX11 yX11_requireTable wsX11_requireTable) := goodIn_app (goodIn_of _ (by decide +kernel)) ggX11_cost_X11_requireTable
set_option maxRecDepth 20000 in
theorem ggX11_cost_X6_costOf : GoodIn wsX11_cost wsX6_costOf := goodIn_r _ [21, 22, 23, 24, 14, 25, 26, 27, 28, 29, 16, 30, 31, 32, 33, 34, 35, 36, 37, 38, 39, 40, 20, 41, 42, 43, 44, 45, 46, 47, 48, 49, 50, 51, 52, 53, 54, 55, 56, 57, 58, 59, 60, 61, 62, 63, 64, 65, 66, 67, 68, 80, 81] (by decide +kernel) (by decide +kernel)
set_option maxRecDepth 20000 in
theorem gX11_cost_X6_costOf : GoodIn wsX11_cost (wsV RX11 228 RX6 yX6_costOf wsX6_costOf) := goodIn_app (goodIn_of _ (by decide +kernel)) ggX11_cost_X6_costOf
theorem dX11_cost_0 : decode cX11_cost 0 = .ok (.aload_n 0, 1) := by decide +kernel
theorem dX11_cost_1 : decode cX11_cost 1 = .ok (.invokevirtual 190, 3) := by decide +kernel
theorem dX11_cost_4 : decode cX11_cost 4 = .ok (.aload_n 0, 1) := by decide +kernel
theorem dX11_cost_5 : decode cX11_cost 5 = .ok (.getfield 40, 3) := by decide +kernel
theorem dX11_cost_8 : decode cX11_cost 8 = .ok (.aload_n 0, 1) := by decide +kernel
theorem dX11_cost_9 : decode cX11_cost 9 = .ok (.getfield 12, 3) := by decide +kernel
theorem dX11_cost_12 : decode cX11_cost 12 = .ok (.aload_n 0, 1) := by decide +kernel
theorem dX11_cost_13 : decode cX11_cost 13 = .ok (.getfield 12, 3) := by decide +kernel
theorem dX11_cost_16 : decode cX11_cost 16 = .ok (.getfield 193, 3) := by decide +kernel
theorem dX11_cost_19 : decode cX11_cost 19 = .ok (.invokevirtual 228, 3) := by decide +kernel
theorem dX11_cost_22 : decode cX11_cost 22 = .ok (.ireturn, 1) := by decide +kernel
set_option maxRecDepth 20000 in
theorem ggX11_gaps_X11_requirePerson : GoodIn wsX11_gaps wsX11_requirePerson := goodIn_ca (goodIn_r _ [8, 9, 10, 11, 7, 12, 13, 14, 15, 16, 17, 18] (by decide +kernel) (by decide +kernel)) (goodIn_sub (fun _ h => List.mem_cons_of_mem _ (List.mem_append_left _ (List.mem_append_right _ h))) (by decide +kernel))
set_option maxRecDepth 20000 in
theorem gX11_gaps_X11_requirePerson : GoodIn wsX11_gaps (wsV RX11 194 RX11 yX11_requirePerson wsX11_requirePerson) := goodIn_app (goodIn_of _ (by decide +kernel)) ggX11_gaps_X11_requirePerson
set_option maxRecDepth 20000 in
theorem ggX11_gaps_X11_requireTable : GoodIn wsX11_gaps wsX11_requireTable := goodIn_ca (goodIn_r _ [22, 23, 24, 2, 25, 26, 27, 28, 29, 30, 65, 66, 67, 68, 69, 70, 71, 72, 73, 74, 75, 76, 77] (by decide +kernel) (by decide +kernel)) (goodIn_sub (fun _ h => List.mem_cons_of_mem _ (List.mem_append_right _ h)) (by decide +kernel))
set_option maxRecDepth 20000 in
theorem gX11_gaps_X11_requireTable : GoodIn wsX11_gaps (wsV RX11 190 RX11 yX11_requireTable wsX11_requireTable) := goodIn_app (goodIn_of _ (by decide +kernel)) ggX11_gaps_X11_requireTable
set_option maxRecDepth 20000 in
theorem ggX11_gaps_X8_slotsOfPerson : GoodIn wsX11_gaps wsX8_slotsOfPerson := goodIn_r _ [34, 35, 36, 37, 28, 38, 30, 39, 40, 41, 42, 43, 44, 45, 46, 76, 77] (by decide +kernel) (by decide +kernel)
set_option maxRecDepth 20000 in
theorem gX11_gaps_X8_slotsOfPerson : GoodIn wsX11_gaps (wsV RX11 236 RX8 yX8_slotsOfPerson wsX8_slotsOfPerson) := goodIn_app (goodIn_of _ (by decide +kernel)) ggX11_gaps_X8_slotsOfPerson
set_option maxRecDepth 20000 in
theorem ggX11_gaps_X6_gapsIn : GoodIn wsX11_gaps wsX6_gapsIn := goodIn_r _ [51, 52, 53, 54, 55, 56, 57, 58, 59, 60, 61, 62, 63, 64] (by decide +kernel) (by decide +kernel)
set_option maxRecDepth 20000 in
theorem gX11_gaps_X6_gapsIn : GoodIn wsX11_gaps (wsV RX11 240 RX6 yX6_gapsIn wsX6_gapsIn) := goodIn_app (goodIn_of _ (by decide +kernel)) ggX11_gaps_X6_gapsIn
theorem dX11_gaps_0 : decode cX11_gaps 0 = .ok (.aload_n 0, 1) := by decide +kernel
theorem dX11_gaps_1 : decode cX11_gaps 1 = .ok (.iload_n 1, 1) := by decide +kernel
theorem dX11_gaps_2 : decode cX11_gaps 2 = .ok (.iload_n 2, 1) := by decide +kernel
theorem dX11_gaps_3 : decode cX11_gaps 3 = .ok (.invokevirtual 194, 3) := by decide +kernel
theorem dX11_gaps_6 : decode cX11_gaps 6 = .ok (.aload_n 0, 1) := by decide +kernel
theorem dX11_gaps_7 : decode cX11_gaps 7 = .ok (.invokevirtual 190, 3) := by decide +kernel
theorem dX11_gaps_10 : decode cX11_gaps 10 = .ok (.aload_n 0, 1) := by decide +kernel
theorem dX11_gaps_11 : decode cX11_gaps 11 = .ok (.getfield 40, 3) := by decide +kernel
theorem dX11_gaps_14 : decode cX11_gaps 14 = .ok (.aload_n 0, 1) := by decide +kernel
theorem dX11_gaps_15 : decode cX11_gaps 15 = .ok (.getfield 12, 3) := by decide +kernel
theorem dX11_gaps_18 : decode cX11_gaps 18 = .ok (.iload_n 1, 1) := by decide +kernel
theorem dX11_gaps_19 : decode cX11_gaps 19 = .ok (.iload_n 2, 1) := by decide +kernel
theorem dX11_gaps_20 : decode cX11_gaps 20 = .ok (.aload_n 0, 1) := by decide +kernel
theorem dX11_gaps_21 : decode cX11_gaps 21 = .ok (.getfield 12, 3) := by decide +kernel
theorem dX11_gaps_24 : decode cX11_gaps 24 = .ok (.getfield 193, 3) := by decide +kernel
theorem dX11_gaps_27 : decode cX11_gaps 27 = .ok (.invokevirtual 236, 3) := by decide +kernel
theorem dX11_gaps_30 : decode cX11_gaps 30 = .ok (.invokevirtual 240, 3) := by decide +kernel
theorem dX11_gaps_33 : decode cX11_gaps 33 = .ok (.ireturn, 1) := by decide +kernel
set_option maxRecDepth 20000 in
theorem ggX11_improve_X11_requireTable : GoodIn wsX11_improve wsX11_requireTable := goodIn_ca (goodIn_r _ [9, 10, 11, 2, 12, 13, 14, 15, 16, 17, 184, 185, 186, 187, 188, 189, 190, 191, 192, 193, 194, 198, 199] (by decide +kernel) (by decide +kernel)) (goodIn_sub (fun _ h => List.mem_cons_of_mem _ (List.mem_append_right _ h)) (by decide +kernel))
set_option maxRecDepth 20000 in
theorem gX11_improve_X11_requireTable : GoodIn wsX11_improve (wsV RX11 190 RX11 yX11_requireTable wsX11_requireTable) := goodIn_app (goodIn_of _ (by decide +kernel)) ggX11_improve_X11_requireTable
set_option maxRecDepth 20000 in
theorem ggX11_improve_X8_hardWishes : GoodIn wsX11_improve wsX8_hardWishes := goodIn_r _ [21, 22, 23, 24, 15, 25, 17, 26, 27, 28, 29, 198, 199] (by decide +kernel) (by decide +kernel)
set_option maxRecDepth 20000 in
theorem gX11_improve_X8_hardWishes : GoodIn wsX11_improve (wsV RX11 214 RX8 yX8_hardWishes wsX8_hardWishes) := goodIn_app (goodIn_of _ (by decide +kernel)) ggX11_improve_X8_hardWishes
set_option maxRecDepth 20000 in
theorem ggX11_improve_X7_take : GoodIn wsX11_improve wsX7_take := goodIn_r _ [34, 35, 36, 37, 38, 15, 39, 17, 40, 41, 42, 33, 43, 44, 45, 46, 47, 48, 49, 50, 51, 52, 53, 54, 55, 56, 57, 58, 59, 60, 61, 62, 63, 64, 65, 66, 67, 68, 23, 24, 25, 69, 27, 28, 29, 70, 71, 72, 73, 74, 75, 76, 77, 200, 201, 202, 203, 204, 205, 206, 207, 208, 209, 210, 211, 198, 199] (by decide +kernel) (by decide +kernel)
set_option maxRecDepth 20000 in
theorem gX11_improve_X7_take : GoodIn wsX11_improve (wsV RX11 206 RX7 yX7_take wsX7_take) := goodIn_app (goodIn_of _ (by decide +kernel)) ggX11_improve_X7_take
set_option maxRecDepth 20000 in
theorem ggX11_improve_X6_seekBest : GoodIn wsX11_improve wsX6_seekBest := goodIn_r _ [82, 83, 84, 85, 86, 87, 88, 89, 90, 91, 92, 93, 81, 94, 95, 96, 97, 15, 98, 99, 37, 38, 39, 17, 100, 75, 76, 77, 101, 102, 103, 104, 105, 106, 107, 108, 109, 110, 111, 112, 113, 114, 115, 116, 117, 118, 119, 120, 121, 122, 23, 24, 25, 123, 27, 28, 29, 124, 125, 126, 127, 26, 128, 129, 130, 131, 132, 133, 134, 135, 33, 136, 47, 35, 45, 50, 46, 51, 52, 53, 54, 55, 44, 137, 138, 139, 140, 141, 142, 143, 144, 145, 146, 147, 148, 149, 150, 198, 199, 195, 196, 197, 200, 201, 202, 203, 204, 205, 206, 207, 208, 209, 210, 211] (by decide +kernel) (by decide +kernel)
set_option maxRecDepth 20000 in
theorem gX11_improve_X6_seekBest : GoodIn wsX11_improve (wsV RX11 243 RX6 yX6_seekBest wsX6_seekBest) := goodIn_app (goodIn_of _ (by decide +kernel)) ggX11_improve_X6_seekBest
set_option maxRecDepth 20000 in
theorem ggX11_improve_X11_beginChange : GoodIn wsX11_improve wsX11_beginChange := goodIn_r _ [154, 155, 2, 156, 157, 158, 159, 160, 161, 162, 163, 164, 165, 87, 88, 89, 166, 167, 168, 169, 170, 171, 172, 173, 174, 175, 176, 177, 184, 185, 186, 187, 188, 189, 190, 191, 192, 193, 194, 198, 199, 212, 213, 214, 215, 216, 217, 218, 219, 220, 221, 222] (by decide +kernel) (by decide +kernel)
set_option maxRecDepth 20000 in
theorem gX11_improve_X11_beginChange : GoodIn wsX11_improve (wsV RX11 110 RX11 yX11_beginChange wsX11_beginChange) := goodIn_app (goodIn_of _ (by decide +kernel)) ggX11_improve_X11_beginChange
set_option maxRecDepth 20000 in
theorem ggX11_improve_X8_putTable : GoodIn wsX11_improve wsX8_putTable := goodIn_r _ [181, 17, 182, 183, 87, 88, 89, 198, 199] (by decide +kernel) (by decide +kernel)
set_option maxRecDepth 20000 in
theorem gX11_improve_X8_putTable : GoodIn wsX11_improve (wsV RX11 174 RX8 yX8_putTable wsX8_putTable) := goodIn_app (goodIn_of _ (by decide +kernel)) ggX11_improve_X8_putTable
theorem dX11_improve_0 : decode cX11_improve 0 = .ok (.aload_n 0, 1) := by decide +kernel
theorem dX11_improve_1 : decode cX11_improve 1 = .ok (.invokevirtual 190, 3) := by decide +kernel
theorem dX11_improve_4 : decode cX11_improve 4 = .ok (.aload_n 0, 1) := by decide +kernel
theorem dX11_improve_5 : decode cX11_improve 5 = .ok (.getfield 26, 3) := by decide +kernel
theorem dX11_improve_8 : decode cX11_improve 8 = .ok (.aload_n 0, 1) := by decide +kernel
theorem dX11_improve_9 : decode cX11_improve 9 = .ok (.getfield 12, 3) := by decide +kernel
theorem dX11_improve_12 : decode cX11_improve 12 = .ok (.aload_n 0, 1) := by decide +kernel
theorem dX11_improve_13 : decode cX11_improve 13 = .ok (.getfield 12, 3) := by decide +kernel
theorem dX11_improve_16 : decode cX11_improve 16 = .ok (.invokevirtual 214, 3) := by decide +kernel
theorem dX11_improve_19 : decode cX11_improve 19 = .ok (.invokevirtual 206, 3) := by decide +kernel
theorem dX11_improve_22 : decode cX11_improve 22 = .ok (.aload_n 0, 1) := by decide +kernel
theorem dX11_improve_23 : decode cX11_improve 23 = .ok (.getfield 40, 3) := by decide +kernel
theorem dX11_improve_26 : decode cX11_improve 26 = .ok (.aload_n 0, 1) := by decide +kernel
theorem dX11_improve_27 : decode cX11_improve 27 = .ok (.getfield 12, 3) := by decide +kernel
theorem dX11_improve_30 : decode cX11_improve 30 = .ok (.aload_n 0, 1) := by decide +kernel
theorem dX11_improve_31 : decode cX11_improve 31 = .ok (.getfield 26, 3) := by decide +kernel
theorem dX11_improve_34 : decode cX11_improve 34 = .ok (.invokevirtual 243, 3) := by decide +kernel
theorem dX11_improve_37 : decode cX11_improve 37 = .ok (.istore_n 1, 1) := by decide +kernel
theorem dX11_improve_38 : decode cX11_improve 38 = .ok (.iload_n 1, 1) := by decide +kernel
theorem dX11_improve_39 : decode cX11_improve 39 = .ok (.ifCond .le 21, 3) := by decide +kernel
theorem dX11_improve_42 : decode cX11_improve 42 = .ok (.aload_n 0, 1) := by decide +kernel
theorem dX11_improve_43 : decode cX11_improve 43 = .ok (.invokevirtual 110, 3) := by decide +kernel
theorem dX11_improve_46 : decode cX11_improve 46 = .ok (.aload_n 0, 1) := by decide +kernel
theorem dX11_improve_47 : decode cX11_improve 47 = .ok (.getfield 12, 3) := by decide +kernel
theorem dX11_improve_50 : decode cX11_improve 50 = .ok (.aload_n 0, 1) := by decide +kernel
theorem dX11_improve_51 : decode cX11_improve 51 = .ok (.getfield 40, 3) := by decide +kernel
theorem dX11_improve_54 : decode cX11_improve 54 = .ok (.getfield 247, 3) := by decide +kernel
theorem dX11_improve_57 : decode cX11_improve 57 = .ok (.invokevirtual 174, 3) := by decide +kernel
theorem dX11_improve_60 : decode cX11_improve 60 = .ok (.iload_n 1, 1) := by decide +kernel
theorem dX11_improve_61 : decode cX11_improve 61 = .ok (.ireturn, 1) := by decide +kernel
set_option maxRecDepth 20000 in
theorem ggX11_most_X1_mostOf : GoodIn wsX11_most wsX1_mostOf := goodIn_r _ [7, 8, 9, 10, 11, 12, 13, 14, 6, 15, 16, 17, 18, 19, 20, 21, 22, 23, 24, 25, 37, 38] (by decide +kernel) (by decide +kernel)
set_option maxRecDepth 20000 in
theorem gX11_most_X1_mostOf : GoodIn wsX11_most (wsV RX11 250 RX1 yX1_mostOf wsX1_mostOf) := goodIn_app (goodIn_of _ (by decide +kernel)) ggX11_most_X1_mostOf
theorem dX11_most_0 : decode cX11_most 0 = .ok (.aload_n 0, 1) := by decide +kernel
theorem dX11_most_1 : decode cX11_most 1 = .ok (.getfield 47, 3) := by decide +kernel
theorem dX11_most_4 : decode cX11_most 4 = .ok (.aload_n 0, 1) := by decide +kernel
theorem dX11_most_5 : decode cX11_most 5 = .ok (.getfield 12, 3) := by decide +kernel
theorem dX11_most_8 : decode cX11_most 8 = .ok (.invokevirtual 250, 3) := by decide +kernel
theorem dX11_most_11 : decode cX11_most 11 = .ok (.ireturn, 1) := by decide +kernel
set_option maxRecDepth 20000 in
theorem ggX11_colour_X11_requireLesson : GoodIn wsX11_colour wsX11_requireLesson := goodIn_ca (goodIn_r _ [8, 9, 10, 2, 11, 12, 13, 14, 15, 16, 60, 61, 62, 63, 64, 65, 66, 67, 68, 69, 70, 72, 73] (by decide +kernel) (by decide +kernel)) (goodIn_sub (fun _ h => List.mem_cons_of_mem _ (List.mem_append_right _ h)) (by decide +kernel))
set_option maxRecDepth 20000 in
theorem gX11_colour_X11_requireLesson : GoodIn wsX11_colour (wsV RX11 120 RX11 yX11_requireLesson wsX11_requireLesson) := goodIn_app (goodIn_of _ (by decide +kernel)) ggX11_colour_X11_requireLesson
set_option maxRecDepth 20000 in
theorem ggX11_colour_X1_paint : GoodIn wsX11_colour wsX1_paint := goodIn_r _ [21, 22, 23, 24, 25, 20, 26, 27, 28, 29, 30, 31, 32, 33, 34, 35, 12, 13, 14, 15, 16, 36, 37, 38, 39, 40, 41, 42, 43, 44, 45, 46, 47, 48, 49, 50, 51, 52, 53, 54, 55, 56, 57, 58, 59, 71, 72, 73] (by decide +kernel) (by decide +kernel)
set_option maxRecDepth 20000 in
theorem gX11_colour_X1_paint : GoodIn wsX11_colour (wsV RX11 254 RX1 yX1_paint wsX1_paint) := goodIn_app (goodIn_of _ (by decide +kernel)) ggX11_colour_X1_paint
theorem dX11_colour_0 : decode cX11_colour 0 = .ok (.aload_n 0, 1) := by decide +kernel
theorem dX11_colour_1 : decode cX11_colour 1 = .ok (.iload_n 1, 1) := by decide +kernel
theorem dX11_colour_2 : decode cX11_colour 2 = .ok (.invokevirtual 120, 3) := by decide +kernel
theorem dX11_colour_5 : decode cX11_colour 5 = .ok (.aload_n 0, 1) := by decide +kernel
theorem dX11_colour_6 : decode cX11_colour 6 = .ok (.getfield 47, 3) := by decide +kernel
theorem dX11_colour_9 : decode cX11_colour 9 = .ok (.aload_n 0, 1) := by decide +kernel
theorem dX11_colour_10 : decode cX11_colour 10 = .ok (.getfield 12, 3) := by decide +kernel
theorem dX11_colour_13 : decode cX11_colour 13 = .ok (.invokevirtual 254, 3) := by decide +kernel
theorem dX11_colour_16 : decode cX11_colour 16 = .ok (.aload_n 0, 1) := by decide +kernel
theorem dX11_colour_17 : decode cX11_colour 17 = .ok (.getfield 47, 3) := by decide +kernel
theorem dX11_colour_20 : decode cX11_colour 20 = .ok (.getfield 257, 3) := by decide +kernel
theorem dX11_colour_23 : decode cX11_colour 23 = .ok (.iload_n 1, 1) := by decide +kernel
theorem dX11_colour_24 : decode cX11_colour 24 = .ok (.iaload, 1) := by decide +kernel
theorem dX11_colour_25 : decode cX11_colour 25 = .ok (.ireturn, 1) := by decide +kernel
set_option maxRecDepth 20000 in
theorem ggX11_setIll_X11_requireRange : GoodIn wsX11_setIll wsX11_requireRange := goodIn_ca (goodIn_r _ [6, 7, 8, 9, 5, 10, 11, 12] (by decide +kernel) (by decide +kernel)) (goodIn_sub (fun _ h => List.mem_cons_of_mem _ (List.mem_append_right _ h)) (by decide +kernel))
set_option maxRecDepth 20000 in
theorem gX11_setIll_X11_requireRange : GoodIn wsX11_setIll (wsV RX11 86 RX11 yX11_requireRange wsX11_requireRange) := goodIn_app (goodIn_of _ (by decide +kernel)) ggX11_setIll_X11_requireRange
set_option maxRecDepth 20000 in
theorem ggX11_setIll_X11_beginChange : GoodIn wsX11_setIll wsX11_beginChange := goodIn_r _ [16, 17, 1, 18, 19, 20, 21, 22, 23, 24, 25, 26, 27, 28, 29, 30, 31, 32, 33, 34, 35, 36, 37, 38, 39, 40, 41, 42, 53, 54, 55, 56, 57, 58, 59, 60, 61, 62, 63, 64, 65, 66, 67, 68, 69, 70, 71, 72, 73, 74, 75, 76] (by decide +kernel) (by decide +kernel)
set_option maxRecDepth 20000 in
theorem gX11_setIll_X11_beginChange : GoodIn wsX11_setIll (wsV RX11 110 RX11 yX11_beginChange wsX11_beginChange) := goodIn_app (goodIn_of _ (by decide +kernel)) ggX11_setIll_X11_beginChange
set_option maxRecDepth 20000 in
theorem ggX11_setIll_X8_putIll : GoodIn wsX11_setIll wsX8_putIll := goodIn_r _ [47, 48, 49, 50, 46, 51, 52, 64, 65] (by decide +kernel) (by decide +kernel)
set_option maxRecDepth 20000 in
theorem gX11_setIll_X8_putIll : GoodIn wsX11_setIll (wsV RX11 260 RX8 yX8_putIll wsX8_putIll) := goodIn_app (goodIn_of _ (by decide +kernel)) ggX11_setIll_X8_putIll
theorem dX11_setIll_0 : decode cX11_setIll 0 = .ok (.aload_n 0, 1) := by decide +kernel
theorem dX11_setIll_1 : decode cX11_setIll 1 = .ok (.iload_n 1, 1) := by decide +kernel
theorem dX11_setIll_2 : decode cX11_setIll 2 = .ok (.bipush 6, 2) := by decide +kernel
theorem dX11_setIll_4 : decode cX11_setIll 4 = .ok (.invokevirtual 86, 3) := by decide +kernel
theorem dX11_setIll_7 : decode cX11_setIll 7 = .ok (.aload_n 0, 1) := by decide +kernel
theorem dX11_setIll_8 : decode cX11_setIll 8 = .ok (.iload_n 2, 1) := by decide +kernel
theorem dX11_setIll_9 : decode cX11_setIll 9 = .ok (.iconst 5, 1) := by decide +kernel
theorem dX11_setIll_10 : decode cX11_setIll 10 = .ok (.invokevirtual 86, 3) := by decide +kernel
theorem dX11_setIll_13 : decode cX11_setIll 13 = .ok (.aload_n 0, 1) := by decide +kernel
theorem dX11_setIll_14 : decode cX11_setIll 14 = .ok (.invokevirtual 110, 3) := by decide +kernel
theorem dX11_setIll_17 : decode cX11_setIll 17 = .ok (.aload_n 0, 1) := by decide +kernel
theorem dX11_setIll_18 : decode cX11_setIll 18 = .ok (.getfield 12, 3) := by decide +kernel
theorem dX11_setIll_21 : decode cX11_setIll 21 = .ok (.iload_n 1, 1) := by decide +kernel
theorem dX11_setIll_22 : decode cX11_setIll 22 = .ok (.iload_n 2, 1) := by decide +kernel
theorem dX11_setIll_23 : decode cX11_setIll 23 = .ok (.iload_n 3, 1) := by decide +kernel
theorem dX11_setIll_24 : decode cX11_setIll 24 = .ok (.invokevirtual 260, 3) := by decide +kernel
theorem dX11_setIll_27 : decode cX11_setIll 27 = .ok (.ireturn, 1) := by decide +kernel
set_option maxRecDepth 20000 in
theorem ggX11_ill_X11_requireRange : GoodIn wsX11_ill wsX11_requireRange := goodIn_ca (goodIn_r _ [9, 10, 11, 12, 8, 13, 14, 15] (by decide +kernel) (by decide +kernel)) (goodIn_sub (fun _ h => List.mem_cons_of_mem _ (List.mem_append_left _ (List.mem_append_right _ h))) (by decide +kernel))
set_option maxRecDepth 20000 in
theorem gX11_ill_X11_requireRange : GoodIn wsX11_ill (wsV RX11 86 RX11 yX11_requireRange wsX11_requireRange) := goodIn_app (goodIn_of _ (by decide +kernel)) ggX11_ill_X11_requireRange
set_option maxRecDepth 20000 in
theorem ggX11_ill_X11_requireTable : GoodIn wsX11_ill wsX11_requireTable := goodIn_ca (goodIn_r _ [19, 20, 21, 2, 22, 23, 24, 25, 26, 27, 95, 96, 97, 98, 99, 100, 101, 102, 103, 104, 105, 111, 112] (by decide +kernel) (by decide +kernel)) (goodIn_sub (fun _ h => List.mem_cons_of_mem _ (List.mem_append_right _ h)) (by decide +kernel))
set_option maxRecDepth 20000 in
theorem gX11_ill_X11_requireTable : GoodIn wsX11_ill (wsV RX11 190 RX11 yX11_requireTable wsX11_requireTable) := goodIn_app (goodIn_of _ (by decide +kernel)) ggX11_ill_X11_requireTable
set_option maxRecDepth 20000 in
theorem ggX11_ill_X2_plan : GoodIn wsX11_ill wsX2_plan := goodIn_r _ [32, 33, 34, 35, 36, 37, 38, 39, 40, 31, 41, 42, 43, 44, 45, 25, 46, 47, 48, 49, 50, 27, 51, 52, 53, 54, 55, 56, 57, 58, 59, 60, 61, 62, 63, 64, 65, 66, 67, 68, 69, 70, 71, 72, 73, 74, 75, 76, 77, 78, 79, 80, 81, 82, 83, 84, 85, 86, 87, 106, 107, 108, 109, 110, 111, 112] (by decide +kernel) (by decide +kernel)
set_option maxRecDepth 20000 in
theorem gX11_ill_X2_plan : GoodIn wsX11_ill (wsV RX11 264 RX2 yX2_plan wsX2_plan) := goodIn_app (goodIn_of _ (by decide +kernel)) ggX11_ill_X2_plan
set_option maxRecDepth 20000 in
theorem ggX11_ill_J6_bitCount_0f7a4 : GoodIn wsX11_ill wsJ6_bitCount_0f7a4 := goodIn_r _ [91, 92, 93, 94] (by decide +kernel) (by decide +kernel)
set_option maxRecDepth 20000 in
theorem gX11_ill_J6_bitCount_0f7a4 : GoodIn wsX11_ill (va_wsS RX11 221 yJ6_bitCount_0f7a4 wsJ6_bitCount_0f7a4) := goodIn_app (goodIn_of _ (by decide +kernel)) ggX11_ill_J6_bitCount_0f7a4
theorem dX11_ill_0 : decode cX11_ill 0 = .ok (.aload_n 0, 1) := by decide +kernel
theorem dX11_ill_1 : decode cX11_ill 1 = .ok (.iload_n 1, 1) := by decide +kernel
theorem dX11_ill_2 : decode cX11_ill 2 = .ok (.iconst 5, 1) := by decide +kernel
theorem dX11_ill_3 : decode cX11_ill 3 = .ok (.invokevirtual 86, 3) := by decide +kernel
theorem dX11_ill_6 : decode cX11_ill 6 = .ok (.aload_n 0, 1) := by decide +kernel
theorem dX11_ill_7 : decode cX11_ill 7 = .ok (.invokevirtual 190, 3) := by decide +kernel
theorem dX11_ill_10 : decode cX11_ill 10 = .ok (.iconst 0, 1) := by decide +kernel
theorem dX11_ill_11 : decode cX11_ill 11 = .ok (.istore_n 3, 1) := by decide +kernel
theorem dX11_ill_12 : decode cX11_ill 12 = .ok (.iload_n 1, 1) := by decide +kernel
theorem dX11_ill_13 : decode cX11_ill 13 = .ok (.iconst 4, 1) := by decide +kernel
theorem dX11_ill_14 : decode cX11_ill 14 = .ok (.imul, 1) := by decide +kernel
theorem dX11_ill_15 : decode cX11_ill 15 = .ok (.istore 4, 2) := by decide +kernel
theorem dX11_ill_17 : decode cX11_ill 17 = .ok (.iload 4, 2) := by decide +kernel
theorem dX11_ill_19 : decode cX11_ill 19 = .ok (.iload_n 1, 1) := by decide +kernel
theorem dX11_ill_20 : decode cX11_ill 20 = .ok (.iconst 1, 1) := by decide +kernel
theorem dX11_ill_21 : decode cX11_ill 21 = .ok (.iadd, 1) := by decide +kernel
theorem dX11_ill_22 : decode cX11_ill 22 = .ok (.iconst 4, 1) := by decide +kernel
theorem dX11_ill_23 : decode cX11_ill 23 = .ok (.imul, 1) := by decide +kernel
theorem dX11_ill_24 : decode cX11_ill 24 = .ok (.if_icmp .ge 49, 3) := by decide +kernel
theorem dX11_ill_27 : decode cX11_ill 27 = .ok (.aload_n 0, 1) := by decide +kernel
theorem dX11_ill_28 : decode cX11_ill 28 = .ok (.getfield 54, 3) := by decide +kernel
theorem dX11_ill_31 : decode cX11_ill 31 = .ok (.aload_n 0, 1) := by decide +kernel
theorem dX11_ill_32 : decode cX11_ill 32 = .ok (.getfield 12, 3) := by decide +kernel
theorem dX11_ill_35 : decode cX11_ill 35 = .ok (.iload 4, 2) := by decide +kernel
theorem dX11_ill_37 : decode cX11_ill 37 = .ok (.invokevirtual 264, 3) := by decide +kernel
theorem dX11_ill_40 : decode cX11_ill 40 = .ok (.iload_n 3, 1) := by decide +kernel
theorem dX11_ill_41 : decode cX11_ill 41 = .ok (.iload_n 2, 1) := by decide +kernel
theorem dX11_ill_42 : decode cX11_ill 42 = .ok (.ifCond .eq 13, 3) := by decide +kernel
theorem dX11_ill_45 : decode cX11_ill 45 = .ok (.aload_n 0, 1) := by decide +kernel
theorem dX11_ill_46 : decode cX11_ill 46 = .ok (.getfield 54, 3) := by decide +kernel
theorem dX11_ill_49 : decode cX11_ill 49 = .ok (.getfield 267, 3) := by decide +kernel
theorem dX11_ill_52 : decode cX11_ill 52 = .ok (.goto 10, 3) := by decide +kernel
theorem dX11_ill_55 : decode cX11_ill 55 = .ok (.aload_n 0, 1) := by decide +kernel
theorem dX11_ill_56 : decode cX11_ill 56 = .ok (.getfield 54, 3) := by decide +kernel
theorem dX11_ill_59 : decode cX11_ill 59 = .ok (.getfield 270, 3) := by decide +kernel
theorem dX11_ill_62 : decode cX11_ill 62 = .ok (.invokestatic 221, 3) := by decide +kernel
theorem dX11_ill_65 : decode cX11_ill 65 = .ok (.iadd, 1) := by decide +kernel
theorem dX11_ill_66 : decode cX11_ill 66 = .ok (.istore_n 3, 1) := by decide +kernel
theorem dX11_ill_67 : decode cX11_ill 67 = .ok (.iinc 4 1, 3) := by decide +kernel
theorem dX11_ill_70 : decode cX11_ill 70 = .ok (.goto (-53), 3) := by decide +kernel
theorem dX11_ill_73 : decode cX11_ill 73 = .ok (.iload_n 3, 1) := by decide +kernel
theorem dX11_ill_74 : decode cX11_ill 74 = .ok (.ireturn, 1) := by decide +kernel
set_option maxRecDepth 20000 in
theorem ggX11_substitute_X11_requireLesson : GoodIn wsX11_substitute wsX11_requireLesson := goodIn_ca (goodIn_r _ [8, 9, 10, 2, 11, 12, 13, 14, 15, 16, 94, 95, 96, 97, 98, 99, 100, 101, 102, 103, 104, 110, 111] (by decide +kernel) (by decide +kernel)) (goodIn_sub (fun _ h => List.mem_cons_of_mem _ (List.mem_append_left _ (List.mem_append_left _ (List.mem_append_right _ h)))) (by decide +kernel))
set_option maxRecDepth 20000 in
theorem gX11_substitute_X11_requireLesson : GoodIn wsX11_substitute (wsV RX11 120 RX11 yX11_requireLesson wsX11_requireLesson) := goodIn_app (goodIn_of _ (by decide +kernel)) ggX11_substitute_X11_requireLesson
set_option maxRecDepth 20000 in
theorem ggX11_substitute_X11_requireRange : GoodIn wsX11_substitute wsX11_requireRange := goodIn_ca (goodIn_r _ [20, 21, 22, 23, 7, 24, 25, 26] (by decide +kernel) (by decide +kernel)) (goodIn_sub (fun _ h => List.mem_cons_of_mem _ (List.mem_append_left _ (List.mem_append_right _ h))) (by decide +kernel))
set_option maxRecDepth 20000 in
theorem gX11_substitute_X11_requireRange : GoodIn wsX11_substitute (wsV RX11 86 RX11 yX11_requireRange wsX11_requireRange) := goodIn_app (goodIn_of _ (by decide +kernel)) ggX11_substitute_X11_requireRange
set_option maxRecDepth 20000 in
theorem ggX11_substitute_X11_requireTable : GoodIn wsX11_substitute wsX11_requireTable := goodIn_ca (goodIn_r _ [30, 31, 32, 2, 33, 34, 35, 14, 36, 16, 94, 95, 96, 97, 98, 99, 100, 101, 102, 103, 104, 110, 111] (by decide +kernel) (by decide +kernel)) (goodIn_sub (fun _ h => List.mem_cons_of_mem _ (List.mem_append_right _ h)) (by decide +kernel))
set_option maxRecDepth 20000 in
theorem gX11_substitute_X11_requireTable : GoodIn wsX11_substitute (wsV RX11 190 RX11 yX11_requireTable wsX11_requireTable) := goodIn_app (goodIn_of _ (by decide +kernel)) ggX11_substitute_X11_requireTable
set_option maxRecDepth 20000 in
theorem ggX11_substitute_X2_plan : GoodIn wsX11_substitute wsX2_plan := goodIn_r _ [41, 42, 43, 44, 45, 46, 47, 48, 49, 40, 50, 51, 52, 53, 54, 14, 55, 56, 12, 13, 15, 16, 57, 58, 59, 60, 61, 62, 63, 64, 65, 66, 67, 68, 69, 70, 71, 72, 73, 74, 75, 76, 77, 78, 79, 80, 81, 82, 83, 84, 85, 86, 87, 88, 89, 90, 91, 92, 93, 105, 106, 107, 108, 109, 110, 111] (by decide +kernel) (by decide +kernel)
set_option maxRecDepth 20000 in
theorem gX11_substitute_X2_plan : GoodIn wsX11_substitute (wsV RX11 264 RX2 yX2_plan wsX2_plan) := goodIn_app (goodIn_of _ (by decide +kernel)) ggX11_substitute_X2_plan
theorem dX11_substitute_0 : decode cX11_substitute 0 = .ok (.aload_n 0, 1) := by decide +kernel
theorem dX11_substitute_1 : decode cX11_substitute 1 = .ok (.iload_n 1, 1) := by decide +kernel
theorem dX11_substitute_2 : decode cX11_substitute 2 = .ok (.invokevirtual 120, 3) := by decide +kernel
theorem dX11_substitute_5 : decode cX11_substitute 5 = .ok (.aload_n 0, 1) := by decide +kernel
theorem dX11_substitute_6 : decode cX11_substitute 6 = .ok (.iload_n 2, 1) := by decide +kernel
theorem dX11_substitute_7 : decode cX11_substitute 7 = .ok (.bipush 20, 2) := by decide +kernel
theorem dX11_substitute_9 : decode cX11_substitute 9 = .ok (.invokevirtual 86, 3) := by decide +kernel
theorem dX11_substitute_12 : decode cX11_substitute 12 = .ok (.aload_n 0, 1) := by decide +kernel
theorem dX11_substitute_13 : decode cX11_substitute 13 = .ok (.invokevirtual 190, 3) := by decide +kernel
theorem dX11_substitute_16 : decode cX11_substitute 16 = .ok (.aload_n 0, 1) := by decide +kernel
theorem dX11_substitute_17 : decode cX11_substitute 17 = .ok (.getfield 54, 3) := by decide +kernel
theorem dX11_substitute_20 : decode cX11_substitute 20 = .ok (.aload_n 0, 1) := by decide +kernel
theorem dX11_substitute_21 : decode cX11_substitute 21 = .ok (.getfield 12, 3) := by decide +kernel
theorem dX11_substitute_24 : decode cX11_substitute 24 = .ok (.iload_n 2, 1) := by decide +kernel
theorem dX11_substitute_25 : decode cX11_substitute 25 = .ok (.invokevirtual 264, 3) := by decide +kernel
theorem dX11_substitute_28 : decode cX11_substitute 28 = .ok (.aload_n 0, 1) := by decide +kernel
theorem dX11_substitute_29 : decode cX11_substitute 29 = .ok (.getfield 54, 3) := by decide +kernel
theorem dX11_substitute_32 : decode cX11_substitute 32 = .ok (.getfield 273, 3) := by decide +kernel
theorem dX11_substitute_35 : decode cX11_substitute 35 = .ok (.iload_n 1, 1) := by decide +kernel
theorem dX11_substitute_36 : decode cX11_substitute 36 = .ok (.iaload, 1) := by decide +kernel
theorem dX11_substitute_37 : decode cX11_substitute 37 = .ok (.ireturn, 1) := by decide +kernel
set_option maxRecDepth 20000 in
theorem ggX11_takes_X11_requireRange : GoodIn wsX11_takes wsX11_requireRange := goodIn_ca (goodIn_r _ [8, 9, 10, 11, 7, 12, 13, 14] (by decide +kernel) (by decide +kernel)) (goodIn_sub (fun _ h => List.mem_cons_of_mem _ (List.mem_append_left _ (List.mem_append_right _ h))) (by decide +kernel))
set_option maxRecDepth 20000 in
theorem gX11_takes_X11_requireRange : GoodIn wsX11_takes (wsV RX11 86 RX11 yX11_requireRange wsX11_requireRange) := goodIn_app (goodIn_of _ (by decide +kernel)) ggX11_takes_X11_requireRange
set_option maxRecDepth 20000 in
theorem ggX11_takes_X11_requireTable : GoodIn wsX11_takes wsX11_requireTable := goodIn_ca (goodIn_r _ [18, 19, 20, 2, 21, 22, 23, 24, 25, 26, 87, 88, 89, 90, 91, 92, 93, 94, 95, 96, 97, 103, 104] (by decide +kernel) (by decide +kernel)) (goodIn_sub (fun _ h => List.mem_cons_of_mem _ (List.mem_append_right _ h)) (by decide +kernel))
set_option maxRecDepth 20000 in
theorem gX11_takes_X11_requireTable : GoodIn wsX11_takes (wsV RX11 190 RX11 yX11_requireTable wsX11_requireTable) := goodIn_app (goodIn_of _ (by decide +kernel)) ggX11_takes_X11_requireTable
set_option maxRecDepth 20000 in
theorem ggX11_takes_X2_plan : GoodIn wsX11_takes wsX2_plan := goodIn_r _ [31, 32, 33, 34, 35, 36, 37, 38, 39, 30, 40, 41, 42, 43, 44, 24, 45, 46, 47, 48, 49, 26, 50, 51, 52, 53, 54, 55, 56, 57, 58, 59, 60, 61, 62, 63, 64, 65, 66, 67, 68, 69, 70, 71, 72, 73, 74, 75, 76, 77, 78, 79, 80, 81, 82, 83, 84, 85, 86, 98, 99, 100, 101, 102, 103, 104] (by decide +kernel) (by decide +kernel)
set_option maxRecDepth 20000 in
theorem gX11_takes_X2_plan : GoodIn wsX11_takes (wsV RX11 264 RX2 yX2_plan wsX2_plan) := goodIn_app (goodIn_of _ (by decide +kernel)) ggX11_takes_X2_plan
theorem dX11_takes_0 : decode cX11_takes 0 = .ok (.aload_n 0, 1) := by decide +kernel
theorem dX11_takes_1 : decode cX11_takes 1 = .ok (.iload_n 1, 1) := by decide +kernel
theorem dX11_takes_2 : decode cX11_takes 2 = .ok (.bipush 6, 2) := by decide +kernel
theorem dX11_takes_4 : decode cX11_takes 4 = .ok (.invokevirtual 86, 3) := by decide +kernel
theorem dX11_takes_7 : decode cX11_takes 7 = .ok (.aload_n 0, 1) := by decide +kernel
theorem dX11_takes_8 : decode cX11_takes 8 = .ok (.invokevirtual 190, 3) := by decide +kernel
theorem dX11_takes_11 : decode cX11_takes 11 = .ok (.iconst 0, 1) := by decide +kernel
theorem dX11_takes_12 : decode cX11_takes 12 = .ok (.istore_n 2, 1) := by decide +kernel
theorem dX11_takes_13 : decode cX11_takes 13 = .ok (.iconst 0, 1) := by decide +kernel
theorem dX11_takes_14 : decode cX11_takes 14 = .ok (.istore_n 3, 1) := by decide +kernel
theorem dX11_takes_15 : decode cX11_takes 15 = .ok (.iload_n 3, 1) := by decide +kernel
theorem dX11_takes_16 : decode cX11_takes 16 = .ok (.bipush 20, 2) := by decide +kernel
theorem dX11_takes_18 : decode cX11_takes 18 = .ok (.if_icmp .ge 37, 3) := by decide +kernel
theorem dX11_takes_21 : decode cX11_takes 21 = .ok (.aload_n 0, 1) := by decide +kernel
theorem dX11_takes_22 : decode cX11_takes 22 = .ok (.getfield 54, 3) := by decide +kernel
theorem dX11_takes_25 : decode cX11_takes 25 = .ok (.aload_n 0, 1) := by decide +kernel
theorem dX11_takes_26 : decode cX11_takes 26 = .ok (.getfield 12, 3) := by decide +kernel
theorem dX11_takes_29 : decode cX11_takes 29 = .ok (.iload_n 3, 1) := by decide +kernel
theorem dX11_takes_30 : decode cX11_takes 30 = .ok (.invokevirtual 264, 3) := by decide +kernel
theorem dX11_takes_33 : decode cX11_takes 33 = .ok (.iload_n 2, 1) := by decide +kernel
theorem dX11_takes_34 : decode cX11_takes 34 = .ok (.aload_n 0, 1) := by decide +kernel
theorem dX11_takes_35 : decode cX11_takes 35 = .ok (.getfield 54, 3) := by decide +kernel
theorem dX11_takes_38 : decode cX11_takes 38 = .ok (.getfield 276, 3) := by decide +kernel
theorem dX11_takes_41 : decode cX11_takes 41 = .ok (.iload_n 1, 1) := by decide +kernel
theorem dX11_takes_42 : decode cX11_takes 42 = .ok (.ishr, 1) := by decide +kernel
theorem dX11_takes_43 : decode cX11_takes 43 = .ok (.iconst 1, 1) := by decide +kernel
theorem dX11_takes_44 : decode cX11_takes 44 = .ok (.iand, 1) := by decide +kernel
theorem dX11_takes_45 : decode cX11_takes 45 = .ok (.iconst 1, 1) := by decide +kernel
theorem dX11_takes_46 : decode cX11_takes 46 = .ok (.ixor, 1) := by decide +kernel
theorem dX11_takes_47 : decode cX11_takes 47 = .ok (.iadd, 1) := by decide +kernel
theorem dX11_takes_48 : decode cX11_takes 48 = .ok (.istore_n 2, 1) := by decide +kernel
theorem dX11_takes_49 : decode cX11_takes 49 = .ok (.iinc 3 1, 3) := by decide +kernel
theorem dX11_takes_52 : decode cX11_takes 52 = .ok (.goto (-37), 3) := by decide +kernel
theorem dX11_takes_55 : decode cX11_takes 55 = .ok (.iload_n 2, 1) := by decide +kernel
theorem dX11_takes_56 : decode cX11_takes 56 = .ok (.ireturn, 1) := by decide +kernel
set_option maxRecDepth 20000 in
theorem ggX11_setApart_X11_requireRange : GoodIn wsX11_setApart wsX11_requireRange := goodIn_ca (goodIn_r _ [8, 9, 10, 11, 7, 12, 1, 2] (by decide +kernel) (by decide +kernel)) (goodIn_sub (fun _ h => List.mem_cons_of_mem _ (List.mem_append_right _ h)) (by decide +kernel))
set_option maxRecDepth 20000 in
theorem gX11_setApart_X11_requireRange : GoodIn wsX11_setApart (wsV RX11 86 RX11 yX11_requireRange wsX11_requireRange) := goodIn_app (goodIn_of _ (by decide +kernel)) ggX11_setApart_X11_requireRange
set_option maxRecDepth 20000 in
theorem ggX11_setApart_X11_beginChange : GoodIn wsX11_setApart wsX11_beginChange := goodIn_r _ [16, 17, 3, 18, 19, 20, 21, 22, 23, 24, 25, 26, 27, 28, 29, 30, 31, 32, 33, 34, 35, 36, 37, 38, 39, 40, 41, 42, 53, 54, 55, 56, 57, 58, 59, 60, 61, 62, 63, 64, 65, 66, 67, 68, 69, 70, 71, 72, 73, 74, 75, 76] (by decide +kernel) (by decide +kernel)
set_option maxRecDepth 20000 in
theorem gX11_setApart_X11_beginChange : GoodIn wsX11_setApart (wsV RX11 110 RX11 yX11_beginChange wsX11_beginChange) := goodIn_app (goodIn_of _ (by decide +kernel)) ggX11_setApart_X11_beginChange
set_option maxRecDepth 20000 in
theorem ggX11_setApart_X8_putApart : GoodIn wsX11_setApart wsX8_putApart := goodIn_r _ [47, 48, 49, 50, 46, 51, 52, 64, 65] (by decide +kernel) (by decide +kernel)
set_option maxRecDepth 20000 in
theorem gX11_setApart_X8_putApart : GoodIn wsX11_setApart (wsV RX11 281 RX8 yX8_putApart wsX8_putApart) := goodIn_app (goodIn_of _ (by decide +kernel)) ggX11_setApart_X8_putApart
theorem dX11_setApart_0 : decode cX11_setApart 0 = .ok (.aload_n 0, 1) := by decide +kernel
theorem dX11_setApart_1 : decode cX11_setApart 1 = .ok (.iload_n 1, 1) := by decide +kernel
theorem dX11_setApart_2 : decode cX11_setApart 2 = .ok (.bipush 8, 2) := by decide +kernel
theorem dX11_setApart_4 : decode cX11_setApart 4 = .ok (.invokevirtual 86, 3) := by decide +kernel
theorem dX11_setApart_7 : decode cX11_setApart 7 = .ok (.aload_n 0, 1) := by decide +kernel
theorem dX11_setApart_8 : decode cX11_setApart 8 = .ok (.iload_n 2, 1) := by decide +kernel
theorem dX11_setApart_9 : decode cX11_setApart 9 = .ok (.bipush 8, 2) := by decide +kernel
theorem dX11_setApart_11 : decode cX11_setApart 11 = .ok (.invokevirtual 86, 3) := by decide +kernel
theorem dX11_setApart_14 : decode cX11_setApart 14 = .ok (.iload_n 1, 1) := by decide +kernel
theorem dX11_setApart_15 : decode cX11_setApart 15 = .ok (.iload_n 2, 1) := by decide +kernel
theorem dX11_setApart_16 : decode cX11_setApart 16 = .ok (.if_icmp .ne 14, 3) := by decide +kernel
theorem dX11_setApart_19 : decode cX11_setApart 19 = .ok (.new 94, 3) := by decide +kernel
theorem dX11_setApart_22 : decode cX11_setApart 22 = .ok (.dup, 1) := by decide +kernel
theorem dX11_setApart_23 : decode cX11_setApart 23 = .ok (.ldc_w 279, 3) := by decide +kernel
theorem dX11_setApart_26 : decode cX11_setApart 26 = .ok (.invokespecial 98, 3) := by decide +kernel
theorem dX11_setApart_29 : decode cX11_setApart 29 = .ok (.athrow, 1) := by decide +kernel
theorem dX11_setApart_30 : decode cX11_setApart 30 = .ok (.aload_n 0, 1) := by decide +kernel
theorem dX11_setApart_31 : decode cX11_setApart 31 = .ok (.invokevirtual 110, 3) := by decide +kernel
theorem dX11_setApart_34 : decode cX11_setApart 34 = .ok (.aload_n 0, 1) := by decide +kernel
theorem dX11_setApart_35 : decode cX11_setApart 35 = .ok (.getfield 12, 3) := by decide +kernel
theorem dX11_setApart_38 : decode cX11_setApart 38 = .ok (.iload_n 1, 1) := by decide +kernel
theorem dX11_setApart_39 : decode cX11_setApart 39 = .ok (.iload_n 2, 1) := by decide +kernel
theorem dX11_setApart_40 : decode cX11_setApart 40 = .ok (.iload_n 3, 1) := by decide +kernel
theorem dX11_setApart_41 : decode cX11_setApart 41 = .ok (.invokevirtual 281, 3) := by decide +kernel
theorem dX11_setApart_44 : decode cX11_setApart 44 = .ok (.ireturn, 1) := by decide +kernel
set_option maxRecDepth 20000 in
theorem ggX11_daysNeeded_X3_plan : GoodIn wsX11_daysNeeded wsX3_plan := goodIn_r _ [7, 8, 9, 10, 6, 11, 12, 13, 14, 15, 16, 17, 18, 19, 20, 21, 22, 23, 24, 36, 37, 38] (by decide +kernel) (by decide +kernel)
set_option maxRecDepth 20000 in
theorem gX11_daysNeeded_X3_plan : GoodIn wsX11_daysNeeded (wsV RX11 284 RX3 yX3_plan wsX3_plan) := goodIn_app (goodIn_of _ (by decide +kernel)) ggX11_daysNeeded_X3_plan
theorem dX11_daysNeeded_0 : decode cX11_daysNeeded 0 = .ok (.aload_n 0, 1) := by decide +kernel
theorem dX11_daysNeeded_1 : decode cX11_daysNeeded 1 = .ok (.getfield 61, 3) := by decide +kernel
theorem dX11_daysNeeded_4 : decode cX11_daysNeeded 4 = .ok (.aload_n 0, 1) := by decide +kernel
theorem dX11_daysNeeded_5 : decode cX11_daysNeeded 5 = .ok (.getfield 12, 3) := by decide +kernel
theorem dX11_daysNeeded_8 : decode cX11_daysNeeded 8 = .ok (.invokevirtual 284, 3) := by decide +kernel
theorem dX11_daysNeeded_11 : decode cX11_daysNeeded 11 = .ok (.ireturn, 1) := by decide +kernel
set_option maxRecDepth 20000 in
theorem ggX11_examDay_X11_requireRange : GoodIn wsX11_examDay wsX11_requireRange := goodIn_ca (goodIn_r _ [8, 9, 10, 11, 7, 12, 13, 14] (by decide +kernel) (by decide +kernel)) (goodIn_sub (fun _ h => List.mem_cons_of_mem _ (List.mem_append_right _ h)) (by decide +kernel))
set_option maxRecDepth 20000 in
theorem gX11_examDay_X11_requireRange : GoodIn wsX11_examDay (wsV RX11 86 RX11 yX11_requireRange wsX11_requireRange) := goodIn_app (goodIn_of _ (by decide +kernel)) ggX11_examDay_X11_requireRange
set_option maxRecDepth 20000 in
theorem ggX11_examDay_X3_plan : GoodIn wsX11_examDay wsX3_plan := goodIn_r _ [19, 20, 21, 22, 18, 23, 24, 25, 26, 27, 28, 29, 30, 31, 32, 33, 34, 35, 36, 48, 49, 50] (by decide +kernel) (by decide +kernel)
set_option maxRecDepth 20000 in
theorem gX11_examDay_X3_plan : GoodIn wsX11_examDay (wsV RX11 284 RX3 yX3_plan wsX3_plan) := goodIn_app (goodIn_of _ (by decide +kernel)) ggX11_examDay_X3_plan
theorem dX11_examDay_0 : decode cX11_examDay 0 = .ok (.aload_n 0, 1) := by decide +kernel
theorem dX11_examDay_1 : decode cX11_examDay 1 = .ok (.iload_n 1, 1) := by decide +kernel
theorem dX11_examDay_2 : decode cX11_examDay 2 = .ok (.bipush 8, 2) := by decide +kernel
theorem dX11_examDay_4 : decode cX11_examDay 4 = .ok (.invokevirtual 86, 3) := by decide +kernel
theorem dX11_examDay_7 : decode cX11_examDay 7 = .ok (.aload_n 0, 1) := by decide +kernel
theorem dX11_examDay_8 : decode cX11_examDay 8 = .ok (.getfield 61, 3) := by decide +kernel
theorem dX11_examDay_11 : decode cX11_examDay 11 = .ok (.aload_n 0, 1) := by decide +kernel
theorem dX11_examDay_12 : decode cX11_examDay 12 = .ok (.getfield 12, 3) := by decide +kernel
theorem dX11_examDay_15 : decode cX11_examDay 15 = .ok (.invokevirtual 284, 3) := by decide +kernel
theorem dX11_examDay_18 : decode cX11_examDay 18 = .ok (.pop, 1) := by decide +kernel
theorem dX11_examDay_19 : decode cX11_examDay 19 = .ok (.aload_n 0, 1) := by decide +kernel
theorem dX11_examDay_20 : decode cX11_examDay 20 = .ok (.getfield 61, 3) := by decide +kernel
theorem dX11_examDay_23 : decode cX11_examDay 23 = .ok (.getfield 286, 3) := by decide +kernel
theorem dX11_examDay_26 : decode cX11_examDay 26 = .ok (.iload_n 1, 1) := by decide +kernel
theorem dX11_examDay_27 : decode cX11_examDay 27 = .ok (.iaload, 1) := by decide +kernel
theorem dX11_examDay_28 : decode cX11_examDay 28 = .ok (.ireturn, 1) := by decide +kernel
set_option maxRecDepth 20000 in
theorem ggX11_group_X3_greatestGroup : GoodIn wsX11_group wsX3_greatestGroup := goodIn_r _ [7, 8, 9, 10, 11, 12, 13, 14, 15, 16, 17, 6, 18, 19, 20, 21, 22, 23, 24, 36, 37] (by decide +kernel) (by decide +kernel)
set_option maxRecDepth 20000 in
theorem gX11_group_X3_greatestGroup : GoodIn wsX11_group (wsV RX11 289 RX3 yX3_greatestGroup wsX3_greatestGroup) := goodIn_app (goodIn_of _ (by decide +kernel)) ggX11_group_X3_greatestGroup
theorem dX11_group_0 : decode cX11_group 0 = .ok (.aload_n 0, 1) := by decide +kernel
theorem dX11_group_1 : decode cX11_group 1 = .ok (.getfield 61, 3) := by decide +kernel
theorem dX11_group_4 : decode cX11_group 4 = .ok (.aload_n 0, 1) := by decide +kernel
theorem dX11_group_5 : decode cX11_group 5 = .ok (.getfield 12, 3) := by decide +kernel
theorem dX11_group_8 : decode cX11_group 8 = .ok (.invokevirtual 289, 3) := by decide +kernel
theorem dX11_group_11 : decode cX11_group 11 = .ok (.ireturn, 1) := by decide +kernel
set_option maxRecDepth 20000 in
theorem ggX11_setBells_X11_requireRange : GoodIn wsX11_setBells wsX11_requireRange := goodIn_ca (goodIn_r _ [6, 7, 8, 9, 5, 10, 11, 12] (by decide +kernel) (by decide +kernel)) (goodIn_sub (fun _ h => List.mem_cons_of_mem _ (List.mem_append_right _ h)) (by decide +kernel))
set_option maxRecDepth 20000 in
theorem gX11_setBells_X11_requireRange : GoodIn wsX11_setBells (wsV RX11 86 RX11 yX11_requireRange wsX11_requireRange) := goodIn_app (goodIn_of _ (by decide +kernel)) ggX11_setBells_X11_requireRange
set_option maxRecDepth 20000 in
theorem ggX11_setBells_X11_requireBetween : GoodIn wsX11_setBells wsX11_requireBetween := goodIn_ca (goodIn_r _ [10, 11, 12] (by decide +kernel) (by decide +kernel)) (goodIn_sub (fun _ h => List.mem_cons_of_mem _ (List.mem_append_right _ h)) (by decide +kernel))
set_option maxRecDepth 20000 in
theorem gX11_setBells_X11_requireBetween : GoodIn wsX11_setBells (wsV RX11 292 RX11 yX11_requireBetween wsX11_requireBetween) := goodIn_app (goodIn_of _ (by decide +kernel)) ggX11_setBells_X11_requireBetween
set_option maxRecDepth 20000 in
theorem ggX11_setBells_X0_put : GoodIn wsX11_setBells wsX0_put := goodIn_r _ [17, 18, 19, 20, 36, 37, 38] (by decide +kernel) (by decide +kernel)
set_option maxRecDepth 20000 in
theorem gX11_setBells_X0_put : GoodIn wsX11_setBells (wsV RX11 296 RX0 yX0_put wsX0_put) := goodIn_app (goodIn_of _ (by decide +kernel)) ggX11_setBells_X0_put
set_option maxRecDepth 20000 in
theorem ggX11_setBells_X0_minute : GoodIn wsX11_setBells wsX0_minute := goodIn_r _ [24, 18, 19, 20, 36, 37, 38] (by decide +kernel) (by decide +kernel)
set_option maxRecDepth 20000 in
theorem gX11_setBells_X0_minute : GoodIn wsX11_setBells (wsV RX11 300 RX0 yX0_minute wsX0_minute) := goodIn_app (goodIn_of _ (by decide +kernel)) ggX11_setBells_X0_minute
theorem dX11_setBells_0 : decode cX11_setBells 0 = .ok (.aload_n 0, 1) := by decide +kernel
theorem dX11_setBells_1 : decode cX11_setBells 1 = .ok (.iload_n 1, 1) := by decide +kernel
theorem dX11_setBells_2 : decode cX11_setBells 2 = .ok (.iconst 5, 1) := by decide +kernel
theorem dX11_setBells_3 : decode cX11_setBells 3 = .ok (.invokevirtual 86, 3) := by decide +kernel
theorem dX11_setBells_6 : decode cX11_setBells 6 = .ok (.aload_n 0, 1) := by decide +kernel
theorem dX11_setBells_7 : decode cX11_setBells 7 = .ok (.iload_n 2, 1) := by decide +kernel
theorem dX11_setBells_8 : decode cX11_setBells 8 = .ok (.sipush 420, 3) := by decide +kernel
theorem dX11_setBells_11 : decode cX11_setBells 11 = .ok (.sipush 600, 3) := by decide +kernel
theorem dX11_setBells_14 : decode cX11_setBells 14 = .ok (.invokevirtual 292, 3) := by decide +kernel
theorem dX11_setBells_17 : decode cX11_setBells 17 = .ok (.aload_n 0, 1) := by decide +kernel
theorem dX11_setBells_18 : decode cX11_setBells 18 = .ok (.iload_n 3, 1) := by decide +kernel
theorem dX11_setBells_19 : decode cX11_setBells 19 = .ok (.bipush 30, 2) := by decide +kernel
theorem dX11_setBells_21 : decode cX11_setBells 21 = .ok (.bipush 60, 2) := by decide +kernel
theorem dX11_setBells_23 : decode cX11_setBells 23 = .ok (.invokevirtual 292, 3) := by decide +kernel
theorem dX11_setBells_26 : decode cX11_setBells 26 = .ok (.aload_n 0, 1) := by decide +kernel
theorem dX11_setBells_27 : decode cX11_setBells 27 = .ok (.iload 4, 2) := by decide +kernel
theorem dX11_setBells_29 : decode cX11_setBells 29 = .ok (.iconst 0, 1) := by decide +kernel
theorem dX11_setBells_30 : decode cX11_setBells 30 = .ok (.bipush 30, 2) := by decide +kernel
theorem dX11_setBells_32 : decode cX11_setBells 32 = .ok (.invokevirtual 292, 3) := by decide +kernel
theorem dX11_setBells_35 : decode cX11_setBells 35 = .ok (.aload_n 0, 1) := by decide +kernel
theorem dX11_setBells_36 : decode cX11_setBells 36 = .ok (.getfield 68, 3) := by decide +kernel
theorem dX11_setBells_39 : decode cX11_setBells 39 = .ok (.iload_n 1, 1) := by decide +kernel
theorem dX11_setBells_40 : decode cX11_setBells 40 = .ok (.iload_n 2, 1) := by decide +kernel
theorem dX11_setBells_41 : decode cX11_setBells 41 = .ok (.iload_n 3, 1) := by decide +kernel
theorem dX11_setBells_42 : decode cX11_setBells 42 = .ok (.iload 4, 2) := by decide +kernel
theorem dX11_setBells_44 : decode cX11_setBells 44 = .ok (.invokevirtual 296, 3) := by decide +kernel
theorem dX11_setBells_47 : decode cX11_setBells 47 = .ok (.aload_n 0, 1) := by decide +kernel
theorem dX11_setBells_48 : decode cX11_setBells 48 = .ok (.getfield 68, 3) := by decide +kernel
theorem dX11_setBells_51 : decode cX11_setBells 51 = .ok (.iload_n 1, 1) := by decide +kernel
theorem dX11_setBells_52 : decode cX11_setBells 52 = .ok (.iconst 1, 1) := by decide +kernel
theorem dX11_setBells_53 : decode cX11_setBells 53 = .ok (.iadd, 1) := by decide +kernel
theorem dX11_setBells_54 : decode cX11_setBells 54 = .ok (.iconst 4, 1) := by decide +kernel
theorem dX11_setBells_55 : decode cX11_setBells 55 = .ok (.imul, 1) := by decide +kernel
theorem dX11_setBells_56 : decode cX11_setBells 56 = .ok (.iconst 1, 1) := by decide +kernel
theorem dX11_setBells_57 : decode cX11_setBells 57 = .ok (.isub, 1) := by decide +kernel
theorem dX11_setBells_58 : decode cX11_setBells 58 = .ok (.iconst 1, 1) := by decide +kernel
theorem dX11_setBells_59 : decode cX11_setBells 59 = .ok (.invokevirtual 300, 3) := by decide +kernel
theorem dX11_setBells_62 : decode cX11_setBells 62 = .ok (.ireturn, 1) := by decide +kernel
set_option maxRecDepth 20000 in
theorem ggX11_bell_X11_requireRange : GoodIn wsX11_bell wsX11_requireRange := goodIn_ca (goodIn_r _ [6, 7, 8, 9, 5, 10, 11, 12] (by decide +kernel) (by decide +kernel)) (goodIn_sub (fun _ h => List.mem_cons_of_mem _ (List.mem_append_right _ h)) (by decide +kernel))
set_option maxRecDepth 20000 in
theorem gX11_bell_X11_requireRange : GoodIn wsX11_bell (wsV RX11 86 RX11 yX11_requireRange wsX11_requireRange) := goodIn_app (goodIn_of _ (by decide +kernel)) ggX11_bell_X11_requireRange
set_option maxRecDepth 20000 in
theorem ggX11_bell_X0_minute : GoodIn wsX11_bell wsX0_minute := goodIn_r _ [17, 18, 19, 20, 32, 33, 34] (by decide +kernel) (by decide +kernel)
set_option maxRecDepth 20000 in
theorem gX11_bell_X0_minute : GoodIn wsX11_bell (wsV RX11 300 RX0 yX0_minute wsX0_minute) := goodIn_app (goodIn_of _ (by decide +kernel)) ggX11_bell_X0_minute
theorem dX11_bell_0 : decode cX11_bell 0 = .ok (.aload_n 0, 1) := by decide +kernel
theorem dX11_bell_1 : decode cX11_bell 1 = .ok (.iload_n 1, 1) := by decide +kernel
theorem dX11_bell_2 : decode cX11_bell 2 = .ok (.bipush 20, 2) := by decide +kernel
theorem dX11_bell_4 : decode cX11_bell 4 = .ok (.invokevirtual 86, 3) := by decide +kernel
theorem dX11_bell_7 : decode cX11_bell 7 = .ok (.aload_n 0, 1) := by decide +kernel
theorem dX11_bell_8 : decode cX11_bell 8 = .ok (.getfield 68, 3) := by decide +kernel
theorem dX11_bell_11 : decode cX11_bell 11 = .ok (.iload_n 1, 1) := by decide +kernel
theorem dX11_bell_12 : decode cX11_bell 12 = .ok (.iload_n 2, 1) := by decide +kernel
theorem dX11_bell_13 : decode cX11_bell 13 = .ok (.invokevirtual 300, 3) := by decide +kernel
theorem dX11_bell_16 : decode cX11_bell 16 = .ok (.ireturn, 1) := by decide +kernel
set_option maxRecDepth 20000 in
theorem ggX11_slotAt_X11_requireRange : GoodIn wsX11_slotAt wsX11_requireRange := goodIn_ca (goodIn_r _ [6, 7, 8, 9, 5, 10, 11, 12] (by decide +kernel) (by decide +kernel)) (goodIn_sub (fun _ h => List.mem_cons_of_mem _ (List.mem_append_right _ h)) (by decide +kernel))
set_option maxRecDepth 20000 in
theorem gX11_slotAt_X11_requireRange : GoodIn wsX11_slotAt (wsV RX11 86 RX11 yX11_requireRange wsX11_requireRange) := goodIn_app (goodIn_of _ (by decide +kernel)) ggX11_slotAt_X11_requireRange
set_option maxRecDepth 20000 in
theorem ggX11_slotAt_X0_minute : GoodIn wsX11_slotAt wsX0_minute := goodIn_r _ [17, 18, 19, 20, 32, 33, 34] (by decide +kernel) (by decide +kernel)
set_option maxRecDepth 20000 in
theorem gX11_slotAt_X0_minute : GoodIn wsX11_slotAt (wsV RX11 300 RX0 yX0_minute wsX0_minute) := goodIn_app (goodIn_of _ (by decide +kernel)) ggX11_slotAt_X0_minute
theorem dX11_slotAt_0 : decode cX11_slotAt 0 = .ok (.aload_n 0, 1) := by decide +kernel
theorem dX11_slotAt_1 : decode cX11_slotAt 1 = .ok (.iload_n 1, 1) := by decide +kernel
theorem dX11_slotAt_2 : decode cX11_slotAt 2 = .ok (.iconst 5, 1) := by decide +kernel
theorem dX11_slotAt_3 : decode cX11_slotAt 3 = .ok (.invokevirtual 86, 3) := by decide +kernel
theorem dX11_slotAt_6 : decode cX11_slotAt 6 = .ok (.aload_n 0, 1) := by decide +kernel
theorem dX11_slotAt_7 : decode cX11_slotAt 7 = .ok (.iload_n 2, 1) := by decide +kernel
theorem dX11_slotAt_8 : decode cX11_slotAt 8 = .ok (.sipush 1440, 3) := by decide +kernel
theorem dX11_slotAt_11 : decode cX11_slotAt 11 = .ok (.invokevirtual 86, 3) := by decide +kernel
theorem dX11_slotAt_14 : decode cX11_slotAt 14 = .ok (.iload_n 1, 1) := by decide +kernel
theorem dX11_slotAt_15 : decode cX11_slotAt 15 = .ok (.iconst 4, 1) := by decide +kernel
theorem dX11_slotAt_16 : decode cX11_slotAt 16 = .ok (.imul, 1) := by decide +kernel
theorem dX11_slotAt_17 : decode cX11_slotAt 17 = .ok (.istore_n 3, 1) := by decide +kernel
theorem dX11_slotAt_18 : decode cX11_slotAt 18 = .ok (.iload_n 3, 1) := by decide +kernel
theorem dX11_slotAt_19 : decode cX11_slotAt 19 = .ok (.iload_n 1, 1) := by decide +kernel
theorem dX11_slotAt_20 : decode cX11_slotAt 20 = .ok (.iconst 1, 1) := by decide +kernel
theorem dX11_slotAt_21 : decode cX11_slotAt 21 = .ok (.iadd, 1) := by decide +kernel
theorem dX11_slotAt_22 : decode cX11_slotAt 22 = .ok (.iconst 4, 1) := by decide +kernel
theorem dX11_slotAt_23 : decode cX11_slotAt 23 = .ok (.imul, 1) := by decide +kernel
theorem dX11_slotAt_24 : decode cX11_slotAt 24 = .ok (.if_icmp .ge 37, 3) := by decide +kernel
theorem dX11_slotAt_27 : decode cX11_slotAt 27 = .ok (.aload_n 0, 1) := by decide +kernel
theorem dX11_slotAt_28 : decode cX11_slotAt 28 = .ok (.getfield 68, 3) := by decide +kernel
theorem dX11_slotAt_31 : decode cX11_slotAt 31 = .ok (.iload_n 3, 1) := by decide +kernel
theorem dX11_slotAt_32 : decode cX11_slotAt 32 = .ok (.iconst 0, 1) := by decide +kernel
theorem dX11_slotAt_33 : decode cX11_slotAt 33 = .ok (.invokevirtual 300, 3) := by decide +kernel
theorem dX11_slotAt_36 : decode cX11_slotAt 36 = .ok (.iload_n 2, 1) := by decide +kernel
theorem dX11_slotAt_37 : decode cX11_slotAt 37 = .ok (.if_icmp .gt 18, 3) := by decide +kernel
theorem dX11_slotAt_40 : decode cX11_slotAt 40 = .ok (.iload_n 2, 1) := by decide +kernel
theorem dX11_slotAt_41 : decode cX11_slotAt 41 = .ok (.aload_n 0, 1) := by decide +kernel
theorem dX11_slotAt_42 : decode cX11_slotAt 42 = .ok (.getfield 68, 3) := by decide +kernel
theorem dX11_slotAt_45 : decode cX11_slotAt 45 = .ok (.iload_n 3, 1) := by decide +kernel
theorem dX11_slotAt_46 : decode cX11_slotAt 46 = .ok (.iconst 1, 1) := by decide +kernel
theorem dX11_slotAt_47 : decode cX11_slotAt 47 = .ok (.invokevirtual 300, 3) := by decide +kernel
theorem dX11_slotAt_50 : decode cX11_slotAt 50 = .ok (.if_icmp .ge 5, 3) := by decide +kernel
theorem dX11_slotAt_53 : decode cX11_slotAt 53 = .ok (.iload_n 3, 1) := by decide +kernel
theorem dX11_slotAt_54 : decode cX11_slotAt 54 = .ok (.ireturn, 1) := by decide +kernel
theorem dX11_slotAt_55 : decode cX11_slotAt 55 = .ok (.iinc 3 1, 3) := by decide +kernel
theorem dX11_slotAt_58 : decode cX11_slotAt 58 = .ok (.goto (-40), 3) := by decide +kernel
theorem dX11_slotAt_61 : decode cX11_slotAt 61 = .ok (.iconst (-1), 1) := by decide +kernel
theorem dX11_slotAt_62 : decode cX11_slotAt 62 = .ok (.ireturn, 1) := by decide +kernel
set_option maxRecDepth 20000 in
theorem ggX11_setYear_X11_requireDate : GoodIn wsX11_setYear wsX11_requireDate := goodIn_ca (goodIn_r _ [8, 1, 2, 3, 9, 10, 11, 12, 13, 14, 15, 16, 17, 18, 19, 20, 21, 22, 23, 45, 46, 47, 48, 49, 50, 51, 52, 53, 54, 55] (by decide +kernel) (by decide +kernel)) (goodIn_sub (fun _ h => List.mem_cons_of_mem _ (List.mem_append_right _ h)) (by decide +kernel))
set_option maxRecDepth 20000 in
theorem gX11_setYear_X11_requireDate : GoodIn wsX11_setYear (wsV RX11 304 RX11 yX11_requireDate wsX11_requireDate) := goodIn_app (goodIn_of _ (by decide +kernel)) ggX11_setYear_X11_requireDate
set_option maxRecDepth 20000 in
theorem ggX11_setYear_X10_weekday : GoodIn wsX11_setYear wsX10_weekday := goodIn_r _ [27, 28, 29, 30, 31] (by decide +kernel) (by decide +kernel)
set_option maxRecDepth 20000 in
theorem gX11_setYear_X10_weekday : GoodIn wsX11_setYear (wsV RX11 307 RX10 yX10_weekday wsX10_weekday) := goodIn_app (goodIn_of _ (by decide +kernel)) ggX11_setYear_X10_weekday
set_option maxRecDepth 20000 in
theorem ggX11_setYear_X10_beginAt : GoodIn wsX11_setYear wsX10_beginAt := goodIn_r _ [35, 36, 37, 38, 39, 40, 41, 12, 42, 23, 22, 43, 44, 56, 57, 58] (by decide +kernel) (by decide +kernel)
set_option maxRecDepth 20000 in
theorem gX11_setYear_X10_beginAt : GoodIn wsX11_setYear (wsV RX11 312 RX10 yX10_beginAt wsX10_beginAt) := goodIn_app (goodIn_of _ (by decide +kernel)) ggX11_setYear_X10_beginAt
theorem dX11_setYear_0 : decode cX11_setYear 0 = .ok (.aload_n 0, 1) := by decide +kernel
theorem dX11_setYear_1 : decode cX11_setYear 1 = .ok (.iload_n 1, 1) := by decide +kernel
theorem dX11_setYear_2 : decode cX11_setYear 2 = .ok (.invokevirtual 304, 3) := by decide +kernel
theorem dX11_setYear_5 : decode cX11_setYear 5 = .ok (.istore_n 2, 1) := by decide +kernel
theorem dX11_setYear_6 : decode cX11_setYear 6 = .ok (.aload_n 0, 1) := by decide +kernel
theorem dX11_setYear_7 : decode cX11_setYear 7 = .ok (.getfield 75, 3) := by decide +kernel
theorem dX11_setYear_10 : decode cX11_setYear 10 = .ok (.iload_n 2, 1) := by decide +kernel
theorem dX11_setYear_11 : decode cX11_setYear 11 = .ok (.invokevirtual 307, 3) := by decide +kernel
theorem dX11_setYear_14 : decode cX11_setYear 14 = .ok (.ifCond .eq 14, 3) := by decide +kernel
theorem dX11_setYear_17 : decode cX11_setYear 17 = .ok (.new 94, 3) := by decide +kernel
theorem dX11_setYear_20 : decode cX11_setYear 20 = .ok (.dup, 1) := by decide +kernel
theorem dX11_setYear_21 : decode cX11_setYear 21 = .ok (.ldc_w 310, 3) := by decide +kernel
theorem dX11_setYear_24 : decode cX11_setYear 24 = .ok (.invokespecial 98, 3) := by decide +kernel
theorem dX11_setYear_27 : decode cX11_setYear 27 = .ok (.athrow, 1) := by decide +kernel
theorem dX11_setYear_28 : decode cX11_setYear 28 = .ok (.aload_n 0, 1) := by decide +kernel
theorem dX11_setYear_29 : decode cX11_setYear 29 = .ok (.getfield 75, 3) := by decide +kernel
theorem dX11_setYear_32 : decode cX11_setYear 32 = .ok (.iload_n 2, 1) := by decide +kernel
theorem dX11_setYear_33 : decode cX11_setYear 33 = .ok (.invokevirtual 312, 3) := by decide +kernel
theorem dX11_setYear_36 : decode cX11_setYear 36 = .ok (.ireturn, 1) := by decide +kernel
set_option maxRecDepth 20000 in
theorem ggX11_holiday_X11_requireDate : GoodIn wsX11_holiday wsX11_requireDate := goodIn_ca (goodIn_r _ [11, 1, 2, 5, 12, 13, 14, 15, 16, 17, 18, 19, 20, 21, 22, 23, 24, 25, 26, 38, 39, 40, 41, 42, 43, 44, 45, 46, 47, 48] (by decide +kernel) (by decide +kernel)) (goodIn_sub (fun _ h => List.mem_cons_of_mem _ (List.mem_append_left _ (List.mem_append_right _ h))) (by decide +kernel))
set_option maxRecDepth 20000 in
theorem gX11_holiday_X11_requireDate : GoodIn wsX11_holiday (wsV RX11 304 RX11 yX11_requireDate wsX11_requireDate) := goodIn_app (goodIn_of _ (by decide +kernel)) ggX11_holiday_X11_requireDate
set_option maxRecDepth 20000 in
theorem ggX11_holiday_X10_addHoliday : GoodIn wsX11_holiday wsX10_addHoliday := goodIn_r _ [30, 31, 32, 33, 34, 35, 36, 37, 49, 50, 51] (by decide +kernel) (by decide +kernel)
set_option maxRecDepth 20000 in
theorem gX11_holiday_X10_addHoliday : GoodIn wsX11_holiday (wsV RX11 322 RX10 yX10_addHoliday wsX10_addHoliday) := goodIn_app (goodIn_of _ (by decide +kernel)) ggX11_holiday_X10_addHoliday
theorem dX11_holiday_0 : decode cX11_holiday 0 = .ok (.aload_n 0, 1) := by decide +kernel
theorem dX11_holiday_1 : decode cX11_holiday 1 = .ok (.iload_n 1, 1) := by decide +kernel
theorem dX11_holiday_2 : decode cX11_holiday 2 = .ok (.invokevirtual 304, 3) := by decide +kernel
theorem dX11_holiday_5 : decode cX11_holiday 5 = .ok (.istore_n 3, 1) := by decide +kernel
theorem dX11_holiday_6 : decode cX11_holiday 6 = .ok (.aload_n 0, 1) := by decide +kernel
theorem dX11_holiday_7 : decode cX11_holiday 7 = .ok (.iload_n 2, 1) := by decide +kernel
theorem dX11_holiday_8 : decode cX11_holiday 8 = .ok (.invokevirtual 304, 3) := by decide +kernel
theorem dX11_holiday_11 : decode cX11_holiday 11 = .ok (.istore 4, 2) := by decide +kernel
theorem dX11_holiday_13 : decode cX11_holiday 13 = .ok (.iload 4, 2) := by decide +kernel
theorem dX11_holiday_15 : decode cX11_holiday 15 = .ok (.iload_n 3, 1) := by decide +kernel
theorem dX11_holiday_16 : decode cX11_holiday 16 = .ok (.if_icmp .ge 14, 3) := by decide +kernel
theorem dX11_holiday_19 : decode cX11_holiday 19 = .ok (.new 94, 3) := by decide +kernel
theorem dX11_holiday_22 : decode cX11_holiday 22 = .ok (.dup, 1) := by decide +kernel
theorem dX11_holiday_23 : decode cX11_holiday 23 = .ok (.ldc_w 315, 3) := by decide +kernel
theorem dX11_holiday_26 : decode cX11_holiday 26 = .ok (.invokespecial 98, 3) := by decide +kernel
theorem dX11_holiday_29 : decode cX11_holiday 29 = .ok (.athrow, 1) := by decide +kernel
theorem dX11_holiday_30 : decode cX11_holiday 30 = .ok (.aload_n 0, 1) := by decide +kernel
theorem dX11_holiday_31 : decode cX11_holiday 31 = .ok (.getfield 75, 3) := by decide +kernel
theorem dX11_holiday_34 : decode cX11_holiday 34 = .ok (.getfield 317, 3) := by decide +kernel
theorem dX11_holiday_37 : decode cX11_holiday 37 = .ok (.bipush 10, 2) := by decide +kernel
theorem dX11_holiday_39 : decode cX11_holiday 39 = .ok (.if_icmp .lt 14, 3) := by decide +kernel
theorem dX11_holiday_42 : decode cX11_holiday 42 = .ok (.new 105, 3) := by decide +kernel
theorem dX11_holiday_45 : decode cX11_holiday 45 = .ok (.dup, 1) := by decide +kernel
theorem dX11_holiday_46 : decode cX11_holiday 46 = .ok (.ldc_w 320, 3) := by decide +kernel
theorem dX11_holiday_49 : decode cX11_holiday 49 = .ok (.invokespecial 109, 3) := by decide +kernel
theorem dX11_holiday_52 : decode cX11_holiday 52 = .ok (.athrow, 1) := by decide +kernel
theorem dX11_holiday_53 : decode cX11_holiday 53 = .ok (.aload_n 0, 1) := by decide +kernel
theorem dX11_holiday_54 : decode cX11_holiday 54 = .ok (.getfield 75, 3) := by decide +kernel
theorem dX11_holiday_57 : decode cX11_holiday 57 = .ok (.iload_n 3, 1) := by decide +kernel
theorem dX11_holiday_58 : decode cX11_holiday 58 = .ok (.iload 4, 2) := by decide +kernel
theorem dX11_holiday_60 : decode cX11_holiday 60 = .ok (.invokevirtual 322, 3) := by decide +kernel
theorem dX11_holiday_63 : decode cX11_holiday 63 = .ok (.ireturn, 1) := by decide +kernel
set_option maxRecDepth 20000 in
theorem ggX11_schoolDays_X10_daysBetween : GoodIn wsX11_schoolDays wsX10_daysBetween := goodIn_r _ [6, 7, 8, 9, 5, 10, 11, 23, 24, 25] (by decide +kernel) (by decide +kernel)
set_option maxRecDepth 20000 in
theorem gX11_schoolDays_X10_daysBetween : GoodIn wsX11_schoolDays (wsV RX11 325 RX10 yX10_daysBetween wsX10_daysBetween) := goodIn_app (goodIn_of _ (by decide +kernel)) ggX11_schoolDays_X10_daysBetween
theorem dX11_schoolDays_0 : decode cX11_schoolDays 0 = .ok (.aload_n 0, 1) := by decide +kernel
theorem dX11_schoolDays_1 : decode cX11_schoolDays 1 = .ok (.getfield 75, 3) := by decide +kernel
theorem dX11_schoolDays_4 : decode cX11_schoolDays 4 = .ok (.iconst 0, 1) := by decide +kernel
theorem dX11_schoolDays_5 : decode cX11_schoolDays 5 = .ok (.sipush 280, 3) := by decide +kernel
theorem dX11_schoolDays_8 : decode cX11_schoolDays 8 = .ok (.invokevirtual 325, 3) := by decide +kernel
theorem dX11_schoolDays_11 : decode cX11_schoolDays 11 = .ok (.ireturn, 1) := by decide +kernel
set_option maxRecDepth 20000 in
theorem ggX11_dateOf_X10_isSchoolDay : GoodIn wsX11_dateOf wsX10_isSchoolDay := goodIn_r _ [9, 10, 30, 31, 32] (by decide +kernel) (by decide +kernel)
set_option maxRecDepth 20000 in
theorem gX11_dateOf_X10_isSchoolDay : GoodIn wsX11_dateOf (wsV RX11 328 RX10 yX10_isSchoolDay wsX10_isSchoolDay) := goodIn_app (goodIn_of _ (by decide +kernel)) ggX11_dateOf_X10_isSchoolDay
set_option maxRecDepth 20000 in
theorem ggX11_dateOf_X10_dateAt : GoodIn wsX11_dateOf wsX10_dateAt := goodIn_r _ [14, 15, 16, 17, 18] (by decide +kernel) (by decide +kernel)
set_option maxRecDepth 20000 in
theorem gX11_dateOf_X10_dateAt : GoodIn wsX11_dateOf (wsV RX11 335 RX10 yX10_dateAt wsX10_dateAt) := goodIn_app (goodIn_of _ (by decide +kernel)) ggX11_dateOf_X10_dateAt
theorem dX11_dateOf_0 : decode cX11_dateOf 0 = .ok (.iload_n 1, 1) := by decide +kernel
theorem dX11_dateOf_1 : decode cX11_dateOf 1 = .ok (.istore_n 2, 1) := by decide +kernel
theorem dX11_dateOf_2 : decode cX11_dateOf 2 = .ok (.iconst 0, 1) := by decide +kernel
theorem dX11_dateOf_3 : decode cX11_dateOf 3 = .ok (.istore_n 3, 1) := by decide +kernel
theorem dX11_dateOf_4 : decode cX11_dateOf 4 = .ok (.iload_n 3, 1) := by decide +kernel
theorem dX11_dateOf_5 : decode cX11_dateOf 5 = .ok (.sipush 280, 3) := by decide +kernel
theorem dX11_dateOf_8 : decode cX11_dateOf 8 = .ok (.if_icmp .ge 48, 3) := by decide +kernel
theorem dX11_dateOf_11 : decode cX11_dateOf 11 = .ok (.iload_n 2, 1) := by decide +kernel
theorem dX11_dateOf_12 : decode cX11_dateOf 12 = .ok (.ifCond .lt 44, 3) := by decide +kernel
theorem dX11_dateOf_15 : decode cX11_dateOf 15 = .ok (.aload_n 0, 1) := by decide +kernel
theorem dX11_dateOf_16 : decode cX11_dateOf 16 = .ok (.getfield 75, 3) := by decide +kernel
theorem dX11_dateOf_19 : decode cX11_dateOf 19 = .ok (.iload_n 3, 1) := by decide +kernel
theorem dX11_dateOf_20 : decode cX11_dateOf 20 = .ok (.invokevirtual 328, 3) := by decide +kernel
theorem dX11_dateOf_23 : decode cX11_dateOf 23 = .ok (.ifCond .eq 27, 3) := by decide +kernel
theorem dX11_dateOf_26 : decode cX11_dateOf 26 = .ok (.iload_n 2, 1) := by decide +kernel
theorem dX11_dateOf_27 : decode cX11_dateOf 27 = .ok (.ifCond .ne 20, 3) := by decide +kernel
theorem dX11_dateOf_30 : decode cX11_dateOf 30 = .ok (.aload_n 0, 1) := by decide +kernel
theorem dX11_dateOf_31 : decode cX11_dateOf 31 = .ok (.getfield 75, 3) := by decide +kernel
theorem dX11_dateOf_34 : decode cX11_dateOf 34 = .ok (.aload_n 0, 1) := by decide +kernel
theorem dX11_dateOf_35 : decode cX11_dateOf 35 = .ok (.getfield 75, 3) := by decide +kernel
theorem dX11_dateOf_38 : decode cX11_dateOf 38 = .ok (.getfield 332, 3) := by decide +kernel
theorem dX11_dateOf_41 : decode cX11_dateOf 41 = .ok (.iload_n 3, 1) := by decide +kernel
theorem dX11_dateOf_42 : decode cX11_dateOf 42 = .ok (.iadd, 1) := by decide +kernel
theorem dX11_dateOf_43 : decode cX11_dateOf 43 = .ok (.invokevirtual 335, 3) := by decide +kernel
theorem dX11_dateOf_46 : decode cX11_dateOf 46 = .ok (.ireturn, 1) := by decide +kernel
theorem dX11_dateOf_47 : decode cX11_dateOf 47 = .ok (.iinc 2 (-1), 3) := by decide +kernel
theorem dX11_dateOf_50 : decode cX11_dateOf 50 = .ok (.iinc 3 1, 3) := by decide +kernel
theorem dX11_dateOf_53 : decode cX11_dateOf 53 = .ok (.goto (-49), 3) := by decide +kernel
theorem dX11_dateOf_56 : decode cX11_dateOf 56 = .ok (.new 182, 3) := by decide +kernel
theorem dX11_dateOf_59 : decode cX11_dateOf 59 = .ok (.dup, 1) := by decide +kernel
theorem dX11_dateOf_60 : decode cX11_dateOf 60 = .ok (.ldc_w 338, 3) := by decide +kernel
theorem dX11_dateOf_63 : decode cX11_dateOf 63 = .ok (.invokespecial 186, 3) := by decide +kernel
theorem dX11_dateOf_66 : decode cX11_dateOf 66 = .ok (.athrow, 1) := by decide +kernel
set_option maxRecDepth 20000 in
theorem ggX11_numberOf_X11_requireDate : GoodIn wsX11_numberOf wsX11_requireDate := goodIn_ca (goodIn_r _ [7, 8, 9, 1, 10, 11, 12, 13, 14, 15, 16, 17, 18, 19, 20, 21, 22, 23, 24, 35, 36, 37, 38, 39, 40, 41, 42, 43, 44, 45] (by decide +kernel) (by decide +kernel)) (goodIn_sub (fun _ h => List.mem_cons_of_mem _ (List.mem_append_right _ h)) (by decide +kernel))
set_option maxRecDepth 20000 in
theorem gX11_numberOf_X11_requireDate : GoodIn wsX11_numberOf (wsV RX11 304 RX11 yX11_requireDate wsX11_requireDate) := goodIn_app (goodIn_of _ (by decide +kernel)) ggX11_numberOf_X11_requireDate
set_option maxRecDepth 20000 in
theorem ggX11_numberOf_X10_isSchoolDay : GoodIn wsX11_numberOf wsX10_isSchoolDay := goodIn_r _ [28, 29, 46, 47, 48] (by decide +kernel) (by decide +kernel)
set_option maxRecDepth 20000 in
theorem gX11_numberOf_X10_isSchoolDay : GoodIn wsX11_numberOf (wsV RX11 328 RX10 yX10_isSchoolDay wsX10_isSchoolDay) := goodIn_app (goodIn_of _ (by decide +kernel)) ggX11_numberOf_X10_isSchoolDay
set_option maxRecDepth 20000 in
theorem ggX11_numberOf_X10_daysBetween : GoodIn wsX11_numberOf wsX10_daysBetween := goodIn_r _ [33, 34, 26, 27, 13, 28, 29, 46, 47, 48] (by decide +kernel) (by decide +kernel)
set_option maxRecDepth 20000 in
theorem gX11_numberOf_X10_daysBetween : GoodIn wsX11_numberOf (wsV RX11 325 RX10 yX10_daysBetween wsX10_daysBetween) := goodIn_app (goodIn_of _ (by decide +kernel)) ggX11_numberOf_X10_daysBetween
theorem dX11_numberOf_0 : decode cX11_numberOf 0 = .ok (.aload_n 0, 1) := by decide +kernel
theorem dX11_numberOf_1 : decode cX11_numberOf 1 = .ok (.iload_n 1, 1) := by decide +kernel
theorem dX11_numberOf_2 : decode cX11_numberOf 2 = .ok (.invokevirtual 304, 3) := by decide +kernel
theorem dX11_numberOf_5 : decode cX11_numberOf 5 = .ok (.aload_n 0, 1) := by decide +kernel
theorem dX11_numberOf_6 : decode cX11_numberOf 6 = .ok (.getfield 75, 3) := by decide +kernel
theorem dX11_numberOf_9 : decode cX11_numberOf 9 = .ok (.getfield 332, 3) := by decide +kernel
theorem dX11_numberOf_12 : decode cX11_numberOf 12 = .ok (.isub, 1) := by decide +kernel
theorem dX11_numberOf_13 : decode cX11_numberOf 13 = .ok (.istore_n 2, 1) := by decide +kernel
theorem dX11_numberOf_14 : decode cX11_numberOf 14 = .ok (.aload_n 0, 1) := by decide +kernel
theorem dX11_numberOf_15 : decode cX11_numberOf 15 = .ok (.getfield 75, 3) := by decide +kernel
theorem dX11_numberOf_18 : decode cX11_numberOf 18 = .ok (.iload_n 2, 1) := by decide +kernel
theorem dX11_numberOf_19 : decode cX11_numberOf 19 = .ok (.invokevirtual 328, 3) := by decide +kernel
theorem dX11_numberOf_22 : decode cX11_numberOf 22 = .ok (.ifCond .eq 15, 3) := by decide +kernel
theorem dX11_numberOf_25 : decode cX11_numberOf 25 = .ok (.aload_n 0, 1) := by decide +kernel
theorem dX11_numberOf_26 : decode cX11_numberOf 26 = .ok (.getfield 75, 3) := by decide +kernel
theorem dX11_numberOf_29 : decode cX11_numberOf 29 = .ok (.iconst 0, 1) := by decide +kernel
theorem dX11_numberOf_30 : decode cX11_numberOf 30 = .ok (.iload_n 2, 1) := by decide +kernel
theorem dX11_numberOf_31 : decode cX11_numberOf 31 = .ok (.invokevirtual 325, 3) := by decide +kernel
theorem dX11_numberOf_34 : decode cX11_numberOf 34 = .ok (.goto 4, 3) := by decide +kernel
theorem dX11_numberOf_37 : decode cX11_numberOf 37 = .ok (.iconst (-1), 1) := by decide +kernel
theorem dX11_numberOf_38 : decode cX11_numberOf 38 = .ok (.ireturn, 1) := by decide +kernel
set_option maxRecDepth 20000 in
theorem ggX11_nextDay_X11_requireDate : GoodIn wsX11_nextDay wsX11_requireDate := goodIn_ca (goodIn_r _ [11, 12, 13, 1, 14, 15, 16, 17, 18, 19, 20, 21, 22, 23, 24, 25, 26, 27, 28, 40, 41, 42, 43, 44, 45, 46, 47, 48, 49, 50] (by decide +kernel) (by decide +kernel)) (goodIn_sub (fun _ h => List.mem_cons_of_mem _ (List.mem_append_right _ h)) (by decide +kernel))
set_option maxRecDepth 20000 in
theorem gX11_nextDay_X11_requireDate : GoodIn wsX11_nextDay (wsV RX11 304 RX11 yX11_requireDate wsX11_requireDate) := goodIn_app (goodIn_of _ (by decide +kernel)) ggX11_nextDay_X11_requireDate
set_option maxRecDepth 20000 in
theorem ggX11_nextDay_X10_isSchoolDay : GoodIn wsX11_nextDay wsX10_isSchoolDay := goodIn_r _ [32, 33, 51, 52, 53] (by decide +kernel) (by decide +kernel)
set_option maxRecDepth 20000 in
theorem gX11_nextDay_X10_isSchoolDay : GoodIn wsX11_nextDay (wsV RX11 328 RX10 yX10_isSchoolDay wsX10_isSchoolDay) := goodIn_app (goodIn_of _ (by decide +kernel)) ggX11_nextDay_X10_isSchoolDay
set_option maxRecDepth 20000 in
theorem ggX11_nextDay_X10_dateAt : GoodIn wsX11_nextDay wsX10_dateAt := goodIn_r _ [37, 28, 27, 38, 39] (by decide +kernel) (by decide +kernel)
set_option maxRecDepth 20000 in
theorem gX11_nextDay_X10_dateAt : GoodIn wsX11_nextDay (wsV RX11 335 RX10 yX10_dateAt wsX10_dateAt) := goodIn_app (goodIn_of _ (by decide +kernel)) ggX11_nextDay_X10_dateAt
theorem dX11_nextDay_0 : decode cX11_nextDay 0 = .ok (.aload_n 0, 1) := by decide +kernel
theorem dX11_nextDay_1 : decode cX11_nextDay 1 = .ok (.iload_n 1, 1) := by decide +kernel
theorem dX11_nextDay_2 : decode cX11_nextDay 2 = .ok (.invokevirtual 304, 3) := by decide +kernel
theorem dX11_nextDay_5 : decode cX11_nextDay 5 = .ok (.aload_n 0, 1) := by decide +kernel
theorem dX11_nextDay_6 : decode cX11_nextDay 6 = .ok (.getfield 75, 3) := by decide +kernel
theorem dX11_nextDay_9 : decode cX11_nextDay 9 = .ok (.getfield 332, 3) := by decide +kernel
theorem dX11_nextDay_12 : decode cX11_nextDay 12 = .ok (.isub, 1) := by decide +kernel
theorem dX11_nextDay_13 : decode cX11_nextDay 13 = .ok (.iconst 1, 1) := by decide +kernel
theorem dX11_nextDay_14 : decode cX11_nextDay 14 = .ok (.iadd, 1) := by decide +kernel
theorem dX11_nextDay_15 : decode cX11_nextDay 15 = .ok (.istore_n 2, 1) := by decide +kernel
theorem dX11_nextDay_16 : decode cX11_nextDay 16 = .ok (.iload_n 2, 1) := by decide +kernel
theorem dX11_nextDay_17 : decode cX11_nextDay 17 = .ok (.iconst 0, 1) := by decide +kernel
theorem dX11_nextDay_18 : decode cX11_nextDay 18 = .ok (.invokestatic 340, 3) := by decide +kernel
theorem dX11_nextDay_21 : decode cX11_nextDay 21 = .ok (.istore_n 3, 1) := by decide +kernel
theorem dX11_nextDay_22 : decode cX11_nextDay 22 = .ok (.iload_n 3, 1) := by decide +kernel
theorem dX11_nextDay_23 : decode cX11_nextDay 23 = .ok (.sipush 280, 3) := by decide +kernel
theorem dX11_nextDay_26 : decode cX11_nextDay 26 = .ok (.if_icmp .ge 37, 3) := by decide +kernel
theorem dX11_nextDay_29 : decode cX11_nextDay 29 = .ok (.aload_n 0, 1) := by decide +kernel
theorem dX11_nextDay_30 : decode cX11_nextDay 30 = .ok (.getfield 75, 3) := by decide +kernel
theorem dX11_nextDay_33 : decode cX11_nextDay 33 = .ok (.iload_n 3, 1) := by decide +kernel
theorem dX11_nextDay_34 : decode cX11_nextDay 34 = .ok (.invokevirtual 328, 3) := by decide +kernel
theorem dX11_nextDay_37 : decode cX11_nextDay 37 = .ok (.ifCond .eq 20, 3) := by decide +kernel
theorem dX11_nextDay_40 : decode cX11_nextDay 40 = .ok (.aload_n 0, 1) := by decide +kernel
theorem dX11_nextDay_41 : decode cX11_nextDay 41 = .ok (.getfield 75, 3) := by decide +kernel
theorem dX11_nextDay_44 : decode cX11_nextDay 44 = .ok (.aload_n 0, 1) := by decide +kernel
theorem dX11_nextDay_45 : decode cX11_nextDay 45 = .ok (.getfield 75, 3) := by decide +kernel
theorem dX11_nextDay_48 : decode cX11_nextDay 48 = .ok (.getfield 332, 3) := by decide +kernel
theorem dX11_nextDay_51 : decode cX11_nextDay 51 = .ok (.iload_n 3, 1) := by decide +kernel
theorem dX11_nextDay_52 : decode cX11_nextDay 52 = .ok (.iadd, 1) := by decide +kernel
theorem dX11_nextDay_53 : decode cX11_nextDay 53 = .ok (.invokevirtual 335, 3) := by decide +kernel
theorem dX11_nextDay_56 : decode cX11_nextDay 56 = .ok (.ireturn, 1) := by decide +kernel
theorem dX11_nextDay_57 : decode cX11_nextDay 57 = .ok (.iinc 3 1, 3) := by decide +kernel
theorem dX11_nextDay_60 : decode cX11_nextDay 60 = .ok (.goto (-38), 3) := by decide +kernel
theorem dX11_nextDay_63 : decode cX11_nextDay 63 = .ok (.iconst (-1), 1) := by decide +kernel
theorem dX11_nextDay_64 : decode cX11_nextDay 64 = .ok (.ireturn, 1) := by decide +kernel
set_option maxRecDepth 20000 in
theorem ggX11_weekOf_X11_requireDate : GoodIn wsX11_weekOf wsX11_requireDate := goodIn_ca (goodIn_r _ [7, 8, 9, 1, 10, 11, 12, 13, 14, 15, 16, 17, 18, 19, 20, 21, 22, 23, 24, 51, 52, 53, 54, 55, 56, 57, 58, 59, 60, 61] (by decide +kernel) (by decide +kernel)) (goodIn_sub (fun _ h => List.mem_cons_of_mem _ (List.mem_append_right _ h)) (by decide +kernel))
set_option maxRecDepth 20000 in
theorem gX11_weekOf_X11_requireDate : GoodIn wsX11_weekOf (wsV RX11 304 RX11 yX11_requireDate wsX11_requireDate) := goodIn_app (goodIn_of _ (by decide +kernel)) ggX11_weekOf_X11_requireDate
set_option maxRecDepth 20000 in
theorem ggX11_weekOf_X11_requireRange : GoodIn wsX11_weekOf wsX11_requireRange := goodIn_ca (goodIn_r _ [28, 29, 30, 31, 6, 32, 8, 9] (by decide +kernel) (by decide +kernel)) (goodIn_sub (fun _ h => List.mem_cons_of_mem _ (List.mem_append_right _ h)) (by decide +kernel))
set_option maxRecDepth 20000 in
theorem gX11_weekOf_X11_requireRange : GoodIn wsX11_weekOf (wsV RX11 86 RX11 yX11_requireRange wsX11_requireRange) := goodIn_app (goodIn_of _ (by decide +kernel)) ggX11_weekOf_X11_requireRange
set_option maxRecDepth 20000 in
theorem ggX11_weekOf_X10_letterOf : GoodIn wsX11_weekOf wsX10_letterOf := goodIn_r _ [36, 37, 38, 39, 13, 40, 41, 42, 43, 44, 45, 46, 47, 48, 49, 62, 63, 64] (by decide +kernel) (by decide +kernel)
set_option maxRecDepth 20000 in
theorem gX11_weekOf_X10_letterOf : GoodIn wsX11_weekOf (wsV RX11 345 RX10 yX10_letterOf wsX10_letterOf) := goodIn_app (goodIn_of _ (by decide +kernel)) ggX11_weekOf_X10_letterOf
set_option maxRecDepth 20000 in
theorem ggX11_weekOf_X10_daysBetween : GoodIn wsX11_weekOf wsX10_daysBetween := goodIn_r _ [44, 45, 46, 47, 13, 48, 49, 62, 63, 64] (by decide +kernel) (by decide +kernel)
set_option maxRecDepth 20000 in
theorem gX11_weekOf_X10_daysBetween : GoodIn wsX11_weekOf (wsV RX11 325 RX10 yX10_daysBetween wsX10_daysBetween) := goodIn_app (goodIn_of _ (by decide +kernel)) ggX11_weekOf_X10_daysBetween
theorem dX11_weekOf_0 : decode cX11_weekOf 0 = .ok (.aload_n 0, 1) := by decide +kernel
theorem dX11_weekOf_1 : decode cX11_weekOf 1 = .ok (.iload_n 1, 1) := by decide +kernel
theorem dX11_weekOf_2 : decode cX11_weekOf 2 = .ok (.invokevirtual 304, 3) := by decide +kernel
theorem dX11_weekOf_5 : decode cX11_weekOf 5 = .ok (.aload_n 0, 1) := by decide +kernel
theorem dX11_weekOf_6 : decode cX11_weekOf 6 = .ok (.getfield 75, 3) := by decide +kernel
theorem dX11_weekOf_9 : decode cX11_weekOf 9 = .ok (.getfield 332, 3) := by decide +kernel
theorem dX11_weekOf_12 : decode cX11_weekOf 12 = .ok (.isub, 1) := by decide +kernel
theorem dX11_weekOf_13 : decode cX11_weekOf 13 = .ok (.istore_n 3, 1) := by decide +kernel
theorem dX11_weekOf_14 : decode cX11_weekOf 14 = .ok (.aload_n 0, 1) := by decide +kernel
theorem dX11_weekOf_15 : decode cX11_weekOf 15 = .ok (.iload_n 2, 1) := by decide +kernel
theorem dX11_weekOf_16 : decode cX11_weekOf 16 = .ok (.iconst 3, 1) := by decide +kernel
theorem dX11_weekOf_17 : decode cX11_weekOf 17 = .ok (.invokevirtual 86, 3) := by decide +kernel
theorem dX11_weekOf_20 : decode cX11_weekOf 20 = .ok (.iload_n 3, 1) := by decide +kernel
theorem dX11_weekOf_21 : decode cX11_weekOf 21 = .ok (.ifCond .lt 10, 3) := by decide +kernel
theorem dX11_weekOf_24 : decode cX11_weekOf 24 = .ok (.iload_n 3, 1) := by decide +kernel
theorem dX11_weekOf_25 : decode cX11_weekOf 25 = .ok (.sipush 280, 3) := by decide +kernel
theorem dX11_weekOf_28 : decode cX11_weekOf 28 = .ok (.if_icmp .lt 5, 3) := by decide +kernel
theorem dX11_weekOf_31 : decode cX11_weekOf 31 = .ok (.iconst (-1), 1) := by decide +kernel
theorem dX11_weekOf_32 : decode cX11_weekOf 32 = .ok (.ireturn, 1) := by decide +kernel
theorem dX11_weekOf_33 : decode cX11_weekOf 33 = .ok (.iload_n 3, 1) := by decide +kernel
theorem dX11_weekOf_34 : decode cX11_weekOf 34 = .ok (.bipush 7, 2) := by decide +kernel
theorem dX11_weekOf_36 : decode cX11_weekOf 36 = .ok (.idiv, 1) := by decide +kernel
theorem dX11_weekOf_37 : decode cX11_weekOf 37 = .ok (.istore 4, 2) := by decide +kernel
theorem dX11_weekOf_39 : decode cX11_weekOf 39 = .ok (.iload_n 2, 1) := by decide +kernel
theorem dX11_weekOf_40 : decode cX11_weekOf 40 = .ok (.ifCond .ne 6, 3) := by decide +kernel
theorem dX11_weekOf_43 : decode cX11_weekOf 43 = .ok (.iload 4, 2) := by decide +kernel
theorem dX11_weekOf_45 : decode cX11_weekOf 45 = .ok (.ireturn, 1) := by decide +kernel
theorem dX11_weekOf_46 : decode cX11_weekOf 46 = .ok (.iload_n 2, 1) := by decide +kernel
theorem dX11_weekOf_47 : decode cX11_weekOf 47 = .ok (.iconst 1, 1) := by decide +kernel
theorem dX11_weekOf_48 : decode cX11_weekOf 48 = .ok (.if_icmp .ne 15, 3) := by decide +kernel
theorem dX11_weekOf_51 : decode cX11_weekOf 51 = .ok (.aload_n 0, 1) := by decide +kernel
theorem dX11_weekOf_52 : decode cX11_weekOf 52 = .ok (.getfield 75, 3) := by decide +kernel
theorem dX11_weekOf_55 : decode cX11_weekOf 55 = .ok (.iload 4, 2) := by decide +kernel
theorem dX11_weekOf_57 : decode cX11_weekOf 57 = .ok (.invokevirtual 345, 3) := by decide +kernel
theorem dX11_weekOf_60 : decode cX11_weekOf 60 = .ok (.goto 23, 3) := by decide +kernel
theorem dX11_weekOf_63 : decode cX11_weekOf 63 = .ok (.aload_n 0, 1) := by decide +kernel
theorem dX11_weekOf_64 : decode cX11_weekOf 64 = .ok (.getfield 75, 3) := by decide +kernel
theorem dX11_weekOf_67 : decode cX11_weekOf 67 = .ok (.iload 4, 2) := by decide +kernel
theorem dX11_weekOf_69 : decode cX11_weekOf 69 = .ok (.bipush 7, 2) := by decide +kernel
theorem dX11_weekOf_71 : decode cX11_weekOf 71 = .ok (.imul, 1) := by decide +kernel
theorem dX11_weekOf_72 : decode cX11_weekOf 72 = .ok (.iload 4, 2) := by decide +kernel
theorem dX11_weekOf_74 : decode cX11_weekOf 74 = .ok (.bipush 7, 2) := by decide +kernel
theorem dX11_weekOf_76 : decode cX11_weekOf 76 = .ok (.imul, 1) := by decide +kernel
theorem dX11_weekOf_77 : decode cX11_weekOf 77 = .ok (.bipush 7, 2) := by decide +kernel
theorem dX11_weekOf_79 : decode cX11_weekOf 79 = .ok (.iadd, 1) := by decide +kernel
theorem dX11_weekOf_80 : decode cX11_weekOf 80 = .ok (.invokevirtual 325, 3) := by decide +kernel
theorem dX11_weekOf_83 : decode cX11_weekOf 83 = .ok (.ireturn, 1) := by decide +kernel
set_option maxRecDepth 20000 in
theorem ggX11_dayOfWeek_X11_requireDate : GoodIn wsX11_dayOfWeek wsX11_requireDate := goodIn_ca (goodIn_r _ [6, 7, 8, 1, 9, 10, 11, 12, 13, 14, 15, 16, 17, 18, 19, 20, 21, 22, 23, 32, 33, 34, 35, 36, 37, 38, 39, 40, 41, 42] (by decide +kernel) (by decide +kernel)) (goodIn_sub (fun _ h => List.mem_cons_of_mem _ (List.mem_append_right _ h)) (by decide +kernel))
set_option maxRecDepth 20000 in
theorem gX11_dayOfWeek_X11_requireDate : GoodIn wsX11_dayOfWeek (wsV RX11 304 RX11 yX11_requireDate wsX11_requireDate) := goodIn_app (goodIn_of _ (by decide +kernel)) ggX11_dayOfWeek_X11_requireDate
set_option maxRecDepth 20000 in
theorem ggX11_dayOfWeek_X10_weekday : GoodIn wsX11_dayOfWeek wsX10_weekday := goodIn_r _ [27, 28, 29, 30, 31] (by decide +kernel) (by decide +kernel)
set_option maxRecDepth 20000 in
theorem gX11_dayOfWeek_X10_weekday : GoodIn wsX11_dayOfWeek (wsV RX11 307 RX10 yX10_weekday wsX10_weekday) := goodIn_app (goodIn_of _ (by decide +kernel)) ggX11_dayOfWeek_X10_weekday
theorem dX11_dayOfWeek_0 : decode cX11_dayOfWeek 0 = .ok (.aload_n 0, 1) := by decide +kernel
theorem dX11_dayOfWeek_1 : decode cX11_dayOfWeek 1 = .ok (.getfield 75, 3) := by decide +kernel
theorem dX11_dayOfWeek_4 : decode cX11_dayOfWeek 4 = .ok (.aload_n 0, 1) := by decide +kernel
theorem dX11_dayOfWeek_5 : decode cX11_dayOfWeek 5 = .ok (.iload_n 1, 1) := by decide +kernel
theorem dX11_dayOfWeek_6 : decode cX11_dayOfWeek 6 = .ok (.invokevirtual 304, 3) := by decide +kernel
theorem dX11_dayOfWeek_9 : decode cX11_dayOfWeek 9 = .ok (.invokevirtual 307, 3) := by decide +kernel
theorem dX11_dayOfWeek_12 : decode cX11_dayOfWeek 12 = .ok (.ireturn, 1) := by decide +kernel
set_option maxRecDepth 20000 in
theorem ggX11_later_X11_requireDate : GoodIn wsX11_later wsX11_requireDate := goodIn_ca (goodIn_r _ [6, 7, 8, 1, 9, 10, 11, 12, 13, 14, 15, 16, 17, 18, 19, 20, 21, 22, 23, 34, 35, 36, 37, 38, 39, 40, 41, 42, 43, 44] (by decide +kernel) (by decide +kernel)) (goodIn_sub (fun _ h => List.mem_cons_of_mem _ (List.mem_append_right _ h)) (by decide +kernel))
set_option maxRecDepth 20000 in
theorem gX11_later_X11_requireDate : GoodIn wsX11_later (wsV RX11 304 RX11 yX11_requireDate wsX11_requireDate) := goodIn_app (goodIn_of _ (by decide +kernel)) ggX11_later_X11_requireDate
set_option maxRecDepth 20000 in
theorem ggX11_later_X11_requireBetween : GoodIn wsX11_later wsX11_requireBetween := goodIn_ca (goodIn_r _ [27, 7, 8] (by decide +kernel) (by decide +kernel)) (goodIn_sub (fun _ h => List.mem_cons_of_mem _ (List.mem_append_right _ h)) (by decide +kernel))
set_option maxRecDepth 20000 in
theorem gX11_later_X11_requireBetween : GoodIn wsX11_later (wsV RX11 292 RX11 yX11_requireBetween wsX11_requireBetween) := goodIn_app (goodIn_of _ (by decide +kernel)) ggX11_later_X11_requireBetween
set_option maxRecDepth 20000 in
theorem ggX11_later_X10_dateAt : GoodIn wsX11_later wsX10_dateAt := goodIn_r _ [31, 23, 22, 32, 33] (by decide +kernel) (by decide +kernel)
set_option maxRecDepth 20000 in
theorem gX11_later_X10_dateAt : GoodIn wsX11_later (wsV RX11 335 RX10 yX10_dateAt wsX10_dateAt) := goodIn_app (goodIn_of _ (by decide +kernel)) ggX11_later_X10_dateAt
theorem dX11_later_0 : decode cX11_later 0 = .ok (.aload_n 0, 1) := by decide +kernel
theorem dX11_later_1 : decode cX11_later 1 = .ok (.iload_n 1, 1) := by decide +kernel
theorem dX11_later_2 : decode cX11_later 2 = .ok (.invokevirtual 304, 3) := by decide +kernel
theorem dX11_later_5 : decode cX11_later 5 = .ok (.istore_n 3, 1) := by decide +kernel
theorem dX11_later_6 : decode cX11_later 6 = .ok (.aload_n 0, 1) := by decide +kernel
theorem dX11_later_7 : decode cX11_later 7 = .ok (.iload_n 2, 1) := by decide +kernel
theorem dX11_later_8 : decode cX11_later 8 = .ok (.sipush (-1000), 3) := by decide +kernel
theorem dX11_later_11 : decode cX11_later 11 = .ok (.sipush 1000, 3) := by decide +kernel
theorem dX11_later_14 : decode cX11_later 14 = .ok (.invokevirtual 292, 3) := by decide +kernel
theorem dX11_later_17 : decode cX11_later 17 = .ok (.aload_n 0, 1) := by decide +kernel
theorem dX11_later_18 : decode cX11_later 18 = .ok (.getfield 75, 3) := by decide +kernel
theorem dX11_later_21 : decode cX11_later 21 = .ok (.iload_n 3, 1) := by decide +kernel
theorem dX11_later_22 : decode cX11_later 22 = .ok (.iload_n 2, 1) := by decide +kernel
theorem dX11_later_23 : decode cX11_later 23 = .ok (.iadd, 1) := by decide +kernel
theorem dX11_later_24 : decode cX11_later 24 = .ok (.invokevirtual 335, 3) := by decide +kernel
theorem dX11_later_27 : decode cX11_later 27 = .ok (.ireturn, 1) := by decide +kernel
set_option maxRecDepth 20000 in
theorem ggX11_lostLessons_X11_requireRange : GoodIn wsX11_lostLessons wsX11_requireRange := goodIn_ca (goodIn_r _ [8, 9, 10, 11, 7, 12, 13, 14] (by decide +kernel) (by decide +kernel)) (goodIn_sub (fun _ h => List.mem_cons_of_mem _ (List.mem_append_left _ (List.mem_append_right _ h))) (by decide +kernel))
set_option maxRecDepth 20000 in
theorem gX11_lostLessons_X11_requireRange : GoodIn wsX11_lostLessons (wsV RX11 86 RX11 yX11_requireRange wsX11_requireRange) := goodIn_app (goodIn_of _ (by decide +kernel)) ggX11_lostLessons_X11_requireRange
set_option maxRecDepth 20000 in
theorem ggX11_lostLessons_X11_requireTable : GoodIn wsX11_lostLessons wsX11_requireTable := goodIn_ca (goodIn_r _ [18, 19, 20, 1, 21, 22, 23, 24, 25, 26, 41, 42, 43, 44, 45, 46, 47, 48, 49, 50, 51, 52, 53] (by decide +kernel) (by decide +kernel)) (goodIn_sub (fun _ h => List.mem_cons_of_mem _ (List.mem_append_right _ h)) (by decide +kernel))
set_option maxRecDepth 20000 in
theorem gX11_lostLessons_X11_requireTable : GoodIn wsX11_lostLessons (wsV RX11 190 RX11 yX11_requireTable wsX11_requireTable) := goodIn_app (goodIn_of _ (by decide +kernel)) ggX11_lostLessons_X11_requireTable
set_option maxRecDepth 20000 in
theorem ggX11_lostLessons_X8_lessonTotal : GoodIn wsX11_lostLessons wsX8_lessonTotal := goodIn_r _ [30, 26, 52, 53] (by decide +kernel) (by decide +kernel)
set_option maxRecDepth 20000 in
theorem gX11_lostLessons_X8_lessonTotal : GoodIn wsX11_lostLessons (wsV RX11 101 RX8 yX8_lessonTotal wsX8_lessonTotal) := goodIn_app (goodIn_of _ (by decide +kernel)) ggX11_lostLessons_X8_lessonTotal
set_option maxRecDepth 20000 in
theorem ggX11_lostLessons_X8_isOf : GoodIn wsX11_lostLessons wsX8_isOf := goodIn_r _ [34, 26, 52, 53] (by decide +kernel) (by decide +kernel)
set_option maxRecDepth 20000 in
theorem gX11_lostLessons_X8_isOf : GoodIn wsX11_lostLessons (wsV RX11 198 RX8 yX8_isOf wsX8_isOf) := goodIn_app (goodIn_of _ (by decide +kernel)) ggX11_lostLessons_X8_isOf
set_option maxRecDepth 20000 in
theorem ggX11_lostLessons_X10_holidaysOn : GoodIn wsX11_lostLessons wsX10_holidaysOn := goodIn_r _ [39, 40, 54, 55, 56] (by decide +kernel) (by decide +kernel)
set_option maxRecDepth 20000 in
theorem gX11_lostLessons_X10_holidaysOn : GoodIn wsX11_lostLessons (wsV RX11 348 RX10 yX10_holidaysOn wsX10_holidaysOn) := goodIn_app (goodIn_of _ (by decide +kernel)) ggX11_lostLessons_X10_holidaysOn
theorem dX11_lostLessons_0 : decode cX11_lostLessons 0 = .ok (.aload_n 0, 1) := by decide +kernel
theorem dX11_lostLessons_1 : decode cX11_lostLessons 1 = .ok (.iload_n 1, 1) := by decide +kernel
theorem dX11_lostLessons_2 : decode cX11_lostLessons 2 = .ok (.iconst 4, 1) := by decide +kernel
theorem dX11_lostLessons_3 : decode cX11_lostLessons 3 = .ok (.invokevirtual 86, 3) := by decide +kernel
theorem dX11_lostLessons_6 : decode cX11_lostLessons 6 = .ok (.aload_n 0, 1) := by decide +kernel
theorem dX11_lostLessons_7 : decode cX11_lostLessons 7 = .ok (.invokevirtual 190, 3) := by decide +kernel
theorem dX11_lostLessons_10 : decode cX11_lostLessons 10 = .ok (.iconst 0, 1) := by decide +kernel
theorem dX11_lostLessons_11 : decode cX11_lostLessons 11 = .ok (.istore_n 2, 1) := by decide +kernel
theorem dX11_lostLessons_12 : decode cX11_lostLessons 12 = .ok (.iconst 0, 1) := by decide +kernel
theorem dX11_lostLessons_13 : decode cX11_lostLessons 13 = .ok (.istore_n 3, 1) := by decide +kernel
theorem dX11_lostLessons_14 : decode cX11_lostLessons 14 = .ok (.iload_n 3, 1) := by decide +kernel
theorem dX11_lostLessons_15 : decode cX11_lostLessons 15 = .ok (.aload_n 0, 1) := by decide +kernel
theorem dX11_lostLessons_16 : decode cX11_lostLessons 16 = .ok (.getfield 12, 3) := by decide +kernel
theorem dX11_lostLessons_19 : decode cX11_lostLessons 19 = .ok (.invokevirtual 101, 3) := by decide +kernel
theorem dX11_lostLessons_22 : decode cX11_lostLessons 22 = .ok (.if_icmp .ge 43, 3) := by decide +kernel
theorem dX11_lostLessons_25 : decode cX11_lostLessons 25 = .ok (.aload_n 0, 1) := by decide +kernel
theorem dX11_lostLessons_26 : decode cX11_lostLessons 26 = .ok (.getfield 12, 3) := by decide +kernel
theorem dX11_lostLessons_29 : decode cX11_lostLessons 29 = .ok (.iload_n 3, 1) := by decide +kernel
theorem dX11_lostLessons_30 : decode cX11_lostLessons 30 = .ok (.iconst 0, 1) := by decide +kernel
theorem dX11_lostLessons_31 : decode cX11_lostLessons 31 = .ok (.iload_n 1, 1) := by decide +kernel
theorem dX11_lostLessons_32 : decode cX11_lostLessons 32 = .ok (.invokevirtual 198, 3) := by decide +kernel
theorem dX11_lostLessons_35 : decode cX11_lostLessons 35 = .ok (.ifCond .eq 24, 3) := by decide +kernel
theorem dX11_lostLessons_38 : decode cX11_lostLessons 38 = .ok (.iload_n 2, 1) := by decide +kernel
theorem dX11_lostLessons_39 : decode cX11_lostLessons 39 = .ok (.aload_n 0, 1) := by decide +kernel
theorem dX11_lostLessons_40 : decode cX11_lostLessons 40 = .ok (.getfield 75, 3) := by decide +kernel
theorem dX11_lostLessons_43 : decode cX11_lostLessons 43 = .ok (.aload_n 0, 1) := by decide +kernel
theorem dX11_lostLessons_44 : decode cX11_lostLessons 44 = .ok (.getfield 12, 3) := by decide +kernel
theorem dX11_lostLessons_47 : decode cX11_lostLessons 47 = .ok (.getfield 193, 3) := by decide +kernel
theorem dX11_lostLessons_50 : decode cX11_lostLessons 50 = .ok (.iload_n 3, 1) := by decide +kernel
theorem dX11_lostLessons_51 : decode cX11_lostLessons 51 = .ok (.iaload, 1) := by decide +kernel
theorem dX11_lostLessons_52 : decode cX11_lostLessons 52 = .ok (.iconst 4, 1) := by decide +kernel
theorem dX11_lostLessons_53 : decode cX11_lostLessons 53 = .ok (.idiv, 1) := by decide +kernel
theorem dX11_lostLessons_54 : decode cX11_lostLessons 54 = .ok (.invokevirtual 348, 3) := by decide +kernel
theorem dX11_lostLessons_57 : decode cX11_lostLessons 57 = .ok (.iadd, 1) := by decide +kernel
theorem dX11_lostLessons_58 : decode cX11_lostLessons 58 = .ok (.istore_n 2, 1) := by decide +kernel
theorem dX11_lostLessons_59 : decode cX11_lostLessons 59 = .ok (.iinc 3 1, 3) := by decide +kernel
theorem dX11_lostLessons_62 : decode cX11_lostLessons 62 = .ok (.goto (-48), 3) := by decide +kernel
theorem dX11_lostLessons_65 : decode cX11_lostLessons 65 = .ok (.iload_n 2, 1) := by decide +kernel
theorem dX11_lostLessons_66 : decode cX11_lostLessons 66 = .ok (.ireturn, 1) := by decide +kernel
set_option maxRecDepth 20000 in
theorem ggX11_append_X9_signsIn : GoodIn wsX11_append wsX9_signsIn := goodIn_r _ [9] (by decide +kernel) (by decide +kernel)
set_option maxRecDepth 20000 in
theorem gX11_append_X9_signsIn : GoodIn wsX11_append (wsV RX11 351 RX9 yX9_signsIn wsX9_signsIn) := goodIn_app (goodIn_of _ (by decide +kernel)) ggX11_append_X9_signsIn
set_option maxRecDepth 20000 in
theorem ggX11_append_X9_add : GoodIn wsX11_append wsX9_add := goodIn_r _ [13, 14, 15, 27, 28, 29, 30, 31, 32, 33, 34] (by decide +kernel) (by decide +kernel)
set_option maxRecDepth 20000 in
theorem gX11_append_X9_add : GoodIn wsX11_append (wsV RX11 359 RX9 yX9_add wsX9_add) := goodIn_app (goodIn_of _ (by decide +kernel)) ggX11_append_X9_add
theorem dX11_append_0 : decode cX11_append 0 = .ok (.aload_n 0, 1) := by decide +kernel
theorem dX11_append_1 : decode cX11_append 1 = .ok (.getfield 82, 3) := by decide +kernel
theorem dX11_append_4 : decode cX11_append 4 = .ok (.iload_n 1, 1) := by decide +kernel
theorem dX11_append_5 : decode cX11_append 5 = .ok (.invokevirtual 351, 3) := by decide +kernel
theorem dX11_append_8 : decode cX11_append 8 = .ok (.aload_n 0, 1) := by decide +kernel
theorem dX11_append_9 : decode cX11_append 9 = .ok (.getfield 82, 3) := by decide +kernel
theorem dX11_append_12 : decode cX11_append 12 = .ok (.iload_n 2, 1) := by decide +kernel
theorem dX11_append_13 : decode cX11_append 13 = .ok (.invokevirtual 351, 3) := by decide +kernel
theorem dX11_append_16 : decode cX11_append 16 = .ok (.iadd, 1) := by decide +kernel
theorem dX11_append_17 : decode cX11_append 17 = .ok (.aload_n 0, 1) := by decide +kernel
theorem dX11_append_18 : decode cX11_append 18 = .ok (.getfield 82, 3) := by decide +kernel
theorem dX11_append_21 : decode cX11_append 21 = .ok (.iload_n 3, 1) := by decide +kernel
theorem dX11_append_22 : decode cX11_append 22 = .ok (.invokevirtual 351, 3) := by decide +kernel
theorem dX11_append_25 : decode cX11_append 25 = .ok (.iadd, 1) := by decide +kernel
theorem dX11_append_26 : decode cX11_append 26 = .ok (.aload_n 0, 1) := by decide +kernel
theorem dX11_append_27 : decode cX11_append 27 = .ok (.getfield 82, 3) := by decide +kernel
theorem dX11_append_30 : decode cX11_append 30 = .ok (.iload 4, 2) := by decide +kernel
theorem dX11_append_32 : decode cX11_append 32 = .ok (.invokevirtual 351, 3) := by decide +kernel
theorem dX11_append_35 : decode cX11_append 35 = .ok (.iadd, 1) := by decide +kernel
theorem dX11_append_36 : decode cX11_append 36 = .ok (.aload_n 0, 1) := by decide +kernel
theorem dX11_append_37 : decode cX11_append 37 = .ok (.getfield 82, 3) := by decide +kernel
theorem dX11_append_40 : decode cX11_append 40 = .ok (.iload 5, 2) := by decide +kernel
theorem dX11_append_42 : decode cX11_append 42 = .ok (.invokevirtual 351, 3) := by decide +kernel
theorem dX11_append_45 : decode cX11_append 45 = .ok (.iadd, 1) := by decide +kernel
theorem dX11_append_46 : decode cX11_append 46 = .ok (.istore 6, 2) := by decide +kernel
theorem dX11_append_48 : decode cX11_append 48 = .ok (.aload_n 0, 1) := by decide +kernel
theorem dX11_append_49 : decode cX11_append 49 = .ok (.getfield 82, 3) := by decide +kernel
theorem dX11_append_52 : decode cX11_append 52 = .ok (.getfield 354, 3) := by decide +kernel
theorem dX11_append_55 : decode cX11_append 55 = .ok (.iload 6, 2) := by decide +kernel
theorem dX11_append_57 : decode cX11_append 57 = .ok (.iadd, 1) := by decide +kernel
theorem dX11_append_58 : decode cX11_append 58 = .ok (.bipush 100, 2) := by decide +kernel
theorem dX11_append_60 : decode cX11_append 60 = .ok (.if_icmp .le 14, 3) := by decide +kernel
theorem dX11_append_63 : decode cX11_append 63 = .ok (.new 105, 3) := by decide +kernel
theorem dX11_append_66 : decode cX11_append 66 = .ok (.dup, 1) := by decide +kernel
theorem dX11_append_67 : decode cX11_append 67 = .ok (.ldc_w 357, 3) := by decide +kernel
theorem dX11_append_70 : decode cX11_append 70 = .ok (.invokespecial 109, 3) := by decide +kernel
theorem dX11_append_73 : decode cX11_append 73 = .ok (.athrow, 1) := by decide +kernel
theorem dX11_append_74 : decode cX11_append 74 = .ok (.aload_n 0, 1) := by decide +kernel
theorem dX11_append_75 : decode cX11_append 75 = .ok (.getfield 82, 3) := by decide +kernel
theorem dX11_append_78 : decode cX11_append 78 = .ok (.iload_n 1, 1) := by decide +kernel
theorem dX11_append_79 : decode cX11_append 79 = .ok (.invokevirtual 359, 3) := by decide +kernel
theorem dX11_append_82 : decode cX11_append 82 = .ok (.aload_n 0, 1) := by decide +kernel
theorem dX11_append_83 : decode cX11_append 83 = .ok (.getfield 82, 3) := by decide +kernel
theorem dX11_append_86 : decode cX11_append 86 = .ok (.iload_n 2, 1) := by decide +kernel
theorem dX11_append_87 : decode cX11_append 87 = .ok (.invokevirtual 359, 3) := by decide +kernel
theorem dX11_append_90 : decode cX11_append 90 = .ok (.aload_n 0, 1) := by decide +kernel
theorem dX11_append_91 : decode cX11_append 91 = .ok (.getfield 82, 3) := by decide +kernel
theorem dX11_append_94 : decode cX11_append 94 = .ok (.iload_n 3, 1) := by decide +kernel
theorem dX11_append_95 : decode cX11_append 95 = .ok (.invokevirtual 359, 3) := by decide +kernel
theorem dX11_append_98 : decode cX11_append 98 = .ok (.aload_n 0, 1) := by decide +kernel
theorem dX11_append_99 : decode cX11_append 99 = .ok (.getfield 82, 3) := by decide +kernel
theorem dX11_append_102 : decode cX11_append 102 = .ok (.iload 4, 2) := by decide +kernel
theorem dX11_append_104 : decode cX11_append 104 = .ok (.invokevirtual 359, 3) := by decide +kernel
theorem dX11_append_107 : decode cX11_append 107 = .ok (.aload_n 0, 1) := by decide +kernel
theorem dX11_append_108 : decode cX11_append 108 = .ok (.getfield 82, 3) := by decide +kernel
theorem dX11_append_111 : decode cX11_append 111 = .ok (.iload 5, 2) := by decide +kernel
theorem dX11_append_113 : decode cX11_append 113 = .ok (.invokevirtual 359, 3) := by decide +kernel
theorem dX11_append_116 : decode cX11_append 116 = .ok (.aload_n 0, 1) := by decide +kernel
theorem dX11_append_117 : decode cX11_append 117 = .ok (.getfield 82, 3) := by decide +kernel
theorem dX11_append_120 : decode cX11_append 120 = .ok (.getfield 354, 3) := by decide +kernel
theorem dX11_append_123 : decode cX11_append 123 = .ok (.ireturn, 1) := by decide +kernel
set_option maxRecDepth 20000 in
theorem ggX11_clearTape_X9_empty : GoodIn wsX11_clearTape wsX9_empty := goodIn_r _ [6, 7, 19, 20, 21, 22, 23, 24, 25, 26] (by decide +kernel) (by decide +kernel)
set_option maxRecDepth 20000 in
theorem gX11_clearTape_X9_empty : GoodIn wsX11_clearTape (wsV RX11 362 RX9 yX9_empty wsX9_empty) := goodIn_app (goodIn_of _ (by decide +kernel)) ggX11_clearTape_X9_empty
theorem dX11_clearTape_0 : decode cX11_clearTape 0 = .ok (.aload_n 0, 1) := by decide +kernel
theorem dX11_clearTape_1 : decode cX11_clearTape 1 = .ok (.getfield 82, 3) := by decide +kernel
theorem dX11_clearTape_4 : decode cX11_clearTape 4 = .ok (.invokevirtual 362, 3) := by decide +kernel
theorem dX11_clearTape_7 : decode cX11_clearTape 7 = .ok (.ireturn, 1) := by decide +kernel
set_option maxRecDepth 20000 in
theorem ggX11_read_X9_parse : GoodIn wsX11_read wsX9_parse := goodIn_r _ [15, 16, 17, 18, 19, 20, 21, 22, 14, 23, 24, 25, 26, 27, 28, 29, 30, 31, 32, 33, 34, 35, 36, 37, 38, 39, 40, 41, 42, 43, 44, 45, 46, 47, 48, 49, 50, 51, 52, 53, 54, 55, 56, 57, 58, 59, 60, 61, 62, 63, 64, 65, 66, 67, 68, 69, 70, 71, 72, 73, 74, 75, 76, 77, 78, 79, 80, 81, 82, 83, 84, 85, 86, 87, 88, 89, 90, 91, 92, 246, 247, 248, 249, 250, 251, 252, 253, 254, 255] (by decide +kernel) (by decide +kernel)
set_option maxRecDepth 20000 in
theorem gX11_read_X9_parse : GoodIn wsX11_read (wsV RX11 365 RX9 yX9_parse wsX9_parse) := goodIn_app (goodIn_of _ (by decide +kernel)) ggX11_read_X9_parse
set_option maxRecDepth 20000 in
theorem ggX11_read_X9_empty : GoodIn wsX11_read wsX9_empty := goodIn_r _ [96, 18, 246, 247, 248, 249, 250, 251, 252, 253] (by decide +kernel) (by decide +kernel)
set_option maxRecDepth 20000 in
theorem gX11_read_X9_empty : GoodIn wsX11_read (wsV RX11 362 RX9 yX9_empty wsX9_empty) := goodIn_app (goodIn_of _ (by decide +kernel)) ggX11_read_X9_empty
set_option maxRecDepth 20000 in
theorem ggX11_read_X8_hardWishes : GoodIn wsX11_read wsX8_hardWishes := goodIn_r _ [100, 101, 102, 103, 32, 104, 34, 105, 106, 107, 108, 254, 255] (by decide +kernel) (by decide +kernel)
set_option maxRecDepth 20000 in
theorem gX11_read_X8_hardWishes : GoodIn wsX11_read (wsV RX11 214 RX8 yX8_hardWishes wsX8_hardWishes) := goodIn_app (goodIn_of _ (by decide +kernel)) ggX11_read_X8_hardWishes
set_option maxRecDepth 20000 in
theorem ggX11_read_X7_take : GoodIn wsX11_read wsX7_take := goodIn_r _ [113, 114, 115, 30, 31, 32, 33, 34, 116, 117, 118, 112, 119, 120, 121, 122, 123, 124, 125, 126, 127, 128, 129, 130, 131, 132, 90, 91, 92, 133, 134, 135, 136, 137, 138, 139, 140, 141, 102, 103, 104, 142, 106, 107, 108, 143, 144, 145, 146, 147, 148, 149, 150, 256, 257, 258, 259, 260, 261, 262, 263, 264, 265, 266, 267, 254, 255] (by decide +kernel) (by decide +kernel)
set_option maxRecDepth 20000 in
theorem gX11_read_X7_take : GoodIn wsX11_read (wsV RX11 206 RX7 yX7_take wsX7_take) := goodIn_app (goodIn_of _ (by decide +kernel)) ggX11_read_X7_take
set_option maxRecDepth 20000 in
theorem ggX11_read_X7_isRight : GoodIn wsX11_read wsX7_isRight := goodIn_r _ [154, 114, 155, 156, 157, 112, 158, 123, 121, 126, 122, 127, 128, 129, 130, 131, 120, 256, 257, 258, 259, 260, 261, 262, 263, 264, 265, 266, 267] (by decide +kernel) (by decide +kernel)
set_option maxRecDepth 20000 in
theorem gX11_read_X7_isRight : GoodIn wsX11_read (wsV RX11 373 RX7 yX7_isRight wsX7_isRight) := goodIn_app (goodIn_of _ (by decide +kernel)) ggX11_read_X7_isRight
set_option maxRecDepth 20000 in
theorem ggX11_read_X11_beginChange : GoodIn wsX11_read wsX11_beginChange := goodIn_r _ [163, 164, 6, 165, 166, 167, 168, 169, 170, 171, 172, 173, 174, 175, 176, 177, 178, 179, 180, 181, 182, 183, 184, 185, 186, 187, 188, 189, 235, 236, 237, 238, 239, 240, 241, 242, 243, 244, 245, 254, 255, 268, 269, 270, 271, 272, 273, 274, 275, 276, 277, 278] (by decide +kernel) (by decide +kernel)
set_option maxRecDepth 20000 in
theorem gX11_read_X11_beginChange : GoodIn wsX11_read (wsV RX11 110 RX11 yX11_beginChange wsX11_beginChange) := goodIn_app (goodIn_of _ (by decide +kernel)) ggX11_read_X11_beginChange
set_option maxRecDepth 20000 in
theorem ggX11_read_X8_putTable : GoodIn wsX11_read wsX8_putTable := goodIn_r _ [193, 34, 194, 195, 175, 176, 177, 254, 255] (by decide +kernel) (by decide +kernel)
set_option maxRecDepth 20000 in
theorem gX11_read_X8_putTable : GoodIn wsX11_read (wsV RX11 174 RX8 yX8_putTable wsX8_putTable) := goodIn_app (goodIn_of _ (by decide +kernel)) ggX11_read_X8_putTable
set_option maxRecDepth 20000 in
theorem ggX11_read_X6_costOf : GoodIn wsX11_read wsX6_costOf := goodIn_r _ [200, 201, 202, 203, 32, 204, 205, 30, 31, 33, 34, 206, 148, 149, 150, 207, 208, 209, 210, 211, 212, 213, 199, 214, 215, 216, 217, 218, 219, 220, 221, 222, 223, 224, 225, 226, 227, 228, 102, 103, 104, 229, 106, 107, 108, 230, 231, 232, 233, 105, 234, 254, 255] (by decide +kernel) (by decide +kernel)
set_option maxRecDepth 20000 in
theorem gX11_read_X6_costOf : GoodIn wsX11_read (wsV RX11 228 RX6 yX6_costOf wsX6_costOf) := goodIn_app (goodIn_of _ (by decide +kernel)) ggX11_read_X6_costOf
theorem dX11_read_0 : decode cX11_read 0 = .ok (.aload_n 0, 1) := by decide +kernel
theorem dX11_read_1 : decode cX11_read 1 = .ok (.getfield 82, 3) := by decide +kernel
theorem dX11_read_4 : decode cX11_read 4 = .ok (.aload_n 0, 1) := by decide +kernel
theorem dX11_read_5 : decode cX11_read 5 = .ok (.getfield 12, 3) := by decide +kernel
theorem dX11_read_8 : decode cX11_read 8 = .ok (.invokevirtual 365, 3) := by decide +kernel
theorem dX11_read_11 : decode cX11_read 11 = .ok (.istore_n 1, 1) := by decide +kernel
theorem dX11_read_12 : decode cX11_read 12 = .ok (.aload_n 0, 1) := by decide +kernel
theorem dX11_read_13 : decode cX11_read 13 = .ok (.getfield 82, 3) := by decide +kernel
theorem dX11_read_16 : decode cX11_read 16 = .ok (.invokevirtual 362, 3) := by decide +kernel
theorem dX11_read_19 : decode cX11_read 19 = .ok (.pop, 1) := by decide +kernel
theorem dX11_read_20 : decode cX11_read 20 = .ok (.iload_n 1, 1) := by decide +kernel
theorem dX11_read_21 : decode cX11_read 21 = .ok (.ifCond .ne 14, 3) := by decide +kernel
theorem dX11_read_24 : decode cX11_read 24 = .ok (.new 94, 3) := by decide +kernel
theorem dX11_read_27 : decode cX11_read 27 = .ok (.dup, 1) := by decide +kernel
theorem dX11_read_28 : decode cX11_read 28 = .ok (.ldc_w 368, 3) := by decide +kernel
theorem dX11_read_31 : decode cX11_read 31 = .ok (.invokespecial 98, 3) := by decide +kernel
theorem dX11_read_34 : decode cX11_read 34 = .ok (.athrow, 1) := by decide +kernel
theorem dX11_read_35 : decode cX11_read 35 = .ok (.aload_n 0, 1) := by decide +kernel
theorem dX11_read_36 : decode cX11_read 36 = .ok (.getfield 26, 3) := by decide +kernel
theorem dX11_read_39 : decode cX11_read 39 = .ok (.aload_n 0, 1) := by decide +kernel
theorem dX11_read_40 : decode cX11_read 40 = .ok (.getfield 12, 3) := by decide +kernel
theorem dX11_read_43 : decode cX11_read 43 = .ok (.aload_n 0, 1) := by decide +kernel
theorem dX11_read_44 : decode cX11_read 44 = .ok (.getfield 12, 3) := by decide +kernel
theorem dX11_read_47 : decode cX11_read 47 = .ok (.invokevirtual 214, 3) := by decide +kernel
theorem dX11_read_50 : decode cX11_read 50 = .ok (.invokevirtual 206, 3) := by decide +kernel
theorem dX11_read_53 : decode cX11_read 53 = .ok (.aload_n 0, 1) := by decide +kernel
theorem dX11_read_54 : decode cX11_read 54 = .ok (.getfield 26, 3) := by decide +kernel
theorem dX11_read_57 : decode cX11_read 57 = .ok (.aload_n 0, 1) := by decide +kernel
theorem dX11_read_58 : decode cX11_read 58 = .ok (.getfield 82, 3) := by decide +kernel
theorem dX11_read_61 : decode cX11_read 61 = .ok (.getfield 370, 3) := by decide +kernel
theorem dX11_read_64 : decode cX11_read 64 = .ok (.invokevirtual 373, 3) := by decide +kernel
theorem dX11_read_67 : decode cX11_read 67 = .ok (.ifCond .ne 14, 3) := by decide +kernel
theorem dX11_read_70 : decode cX11_read 70 = .ok (.new 105, 3) := by decide +kernel
theorem dX11_read_73 : decode cX11_read 73 = .ok (.dup, 1) := by decide +kernel
theorem dX11_read_74 : decode cX11_read 74 = .ok (.ldc_w 377, 3) := by decide +kernel
theorem dX11_read_77 : decode cX11_read 77 = .ok (.invokespecial 109, 3) := by decide +kernel
theorem dX11_read_80 : decode cX11_read 80 = .ok (.athrow, 1) := by decide +kernel
theorem dX11_read_81 : decode cX11_read 81 = .ok (.aload_n 0, 1) := by decide +kernel
theorem dX11_read_82 : decode cX11_read 82 = .ok (.invokevirtual 110, 3) := by decide +kernel
theorem dX11_read_85 : decode cX11_read 85 = .ok (.aload_n 0, 1) := by decide +kernel
theorem dX11_read_86 : decode cX11_read 86 = .ok (.getfield 12, 3) := by decide +kernel
theorem dX11_read_89 : decode cX11_read 89 = .ok (.aload_n 0, 1) := by decide +kernel
theorem dX11_read_90 : decode cX11_read 90 = .ok (.getfield 82, 3) := by decide +kernel
theorem dX11_read_93 : decode cX11_read 93 = .ok (.getfield 370, 3) := by decide +kernel
theorem dX11_read_96 : decode cX11_read 96 = .ok (.invokevirtual 174, 3) := by decide +kernel
theorem dX11_read_99 : decode cX11_read 99 = .ok (.aload_n 0, 1) := by decide +kernel
theorem dX11_read_100 : decode cX11_read 100 = .ok (.getfield 40, 3) := by decide +kernel
theorem dX11_read_103 : decode cX11_read 103 = .ok (.aload_n 0, 1) := by decide +kernel
theorem dX11_read_104 : decode cX11_read 104 = .ok (.getfield 12, 3) := by decide +kernel
theorem dX11_read_107 : decode cX11_read 107 = .ok (.aload_n 0, 1) := by decide +kernel
theorem dX11_read_108 : decode cX11_read 108 = .ok (.getfield 12, 3) := by decide +kernel
theorem dX11_read_111 : decode cX11_read 111 = .ok (.getfield 193, 3) := by decide +kernel
theorem dX11_read_114 : decode cX11_read 114 = .ok (.invokevirtual 228, 3) := by decide +kernel
theorem dX11_read_117 : decode cX11_read 117 = .ok (.ireturn, 1) := by decide +kernel
theorem dX11_errorPosition_0 : decode cX11_errorPosition 0 = .ok (.aload_n 0, 1) := by decide +kernel
theorem dX11_errorPosition_1 : decode cX11_errorPosition 1 = .ok (.getfield 82, 3) := by decide +kernel
theorem dX11_errorPosition_4 : decode cX11_errorPosition 4 = .ok (.getfield 379, 3) := by decide +kernel
theorem dX11_errorPosition_7 : decode cX11_errorPosition 7 = .ok (.ireturn, 1) := by decide +kernel
set_option maxRecDepth 20000 in
theorem ggX11_write_X11_requireTable : GoodIn wsX11_write wsX11_requireTable := goodIn_ca (goodIn_r _ [7, 8, 9, 2, 10, 11, 12, 13, 14, 15, 73, 74, 75, 76, 77, 78, 79, 80, 81, 82, 83, 84, 85] (by decide +kernel) (by decide +kernel)) (goodIn_sub (fun _ h => List.mem_cons_of_mem _ (List.mem_append_right _ h)) (by decide +kernel))
set_option maxRecDepth 20000 in
theorem gX11_write_X11_requireTable : GoodIn wsX11_write (wsV RX11 190 RX11 yX11_requireTable wsX11_requireTable) := goodIn_app (goodIn_of _ (by decide +kernel)) ggX11_write_X11_requireTable
set_option maxRecDepth 20000 in
theorem ggX11_write_X9_print : GoodIn wsX11_write wsX9_print := goodIn_r _ [20, 21, 22, 23, 24, 25, 26, 13, 27, 15, 28, 29, 30, 19, 31, 32, 33, 34, 35, 36, 37, 38, 39, 40, 41, 42, 43, 44, 45, 46, 47, 48, 49, 50, 51, 52, 53, 54, 55, 56, 57, 58, 59, 60, 61, 62, 63, 64, 65, 66, 67, 68, 69, 70, 71, 72, 86, 87, 88, 89, 90, 91, 92, 93, 84, 85] (by decide +kernel) (by decide +kernel)
set_option maxRecDepth 20000 in
theorem gX11_write_X9_print : GoodIn wsX11_write (wsV RX11 382 RX9 yX9_print wsX9_print) := goodIn_app (goodIn_of _ (by decide +kernel)) ggX11_write_X9_print
theorem dX11_write_0 : decode cX11_write 0 = .ok (.aload_n 0, 1) := by decide +kernel
theorem dX11_write_1 : decode cX11_write 1 = .ok (.invokevirtual 190, 3) := by decide +kernel
theorem dX11_write_4 : decode cX11_write 4 = .ok (.aload_n 0, 1) := by decide +kernel
theorem dX11_write_5 : decode cX11_write 5 = .ok (.getfield 82, 3) := by decide +kernel
theorem dX11_write_8 : decode cX11_write 8 = .ok (.aload_n 0, 1) := by decide +kernel
theorem dX11_write_9 : decode cX11_write 9 = .ok (.getfield 12, 3) := by decide +kernel
theorem dX11_write_12 : decode cX11_write 12 = .ok (.invokevirtual 382, 3) := by decide +kernel
theorem dX11_write_15 : decode cX11_write 15 = .ok (.ireturn, 1) := by decide +kernel
theorem dX11_writtenAt_0 : decode cX11_writtenAt 0 = .ok (.iload_n 1, 1) := by decide +kernel
theorem dX11_writtenAt_1 : decode cX11_writtenAt 1 = .ok (.ifCond .lt 14, 3) := by decide +kernel
theorem dX11_writtenAt_4 : decode cX11_writtenAt 4 = .ok (.iload_n 1, 1) := by decide +kernel
theorem dX11_writtenAt_5 : decode cX11_writtenAt 5 = .ok (.aload_n 0, 1) := by decide +kernel
theorem dX11_writtenAt_6 : decode cX11_writtenAt 6 = .ok (.getfield 82, 3) := by decide +kernel
theorem dX11_writtenAt_9 : decode cX11_writtenAt 9 = .ok (.getfield 385, 3) := by decide +kernel
theorem dX11_writtenAt_12 : decode cX11_writtenAt 12 = .ok (.if_icmp .lt 14, 3) := by decide +kernel
theorem dX11_writtenAt_15 : decode cX11_writtenAt 15 = .ok (.new 182, 3) := by decide +kernel
theorem dX11_writtenAt_18 : decode cX11_writtenAt 18 = .ok (.dup, 1) := by decide +kernel
theorem dX11_writtenAt_19 : decode cX11_writtenAt 19 = .ok (.ldc_w 388, 3) := by decide +kernel
theorem dX11_writtenAt_22 : decode cX11_writtenAt 22 = .ok (.invokespecial 186, 3) := by decide +kernel
theorem dX11_writtenAt_25 : decode cX11_writtenAt 25 = .ok (.athrow, 1) := by decide +kernel
theorem dX11_writtenAt_26 : decode cX11_writtenAt 26 = .ok (.aload_n 0, 1) := by decide +kernel
theorem dX11_writtenAt_27 : decode cX11_writtenAt 27 = .ok (.getfield 82, 3) := by decide +kernel
theorem dX11_writtenAt_30 : decode cX11_writtenAt 30 = .ok (.getfield 390, 3) := by decide +kernel
theorem dX11_writtenAt_33 : decode cX11_writtenAt 33 = .ok (.iload_n 1, 1) := by decide +kernel
theorem dX11_writtenAt_34 : decode cX11_writtenAt 34 = .ok (.caload, 1) := by decide +kernel
theorem dX11_writtenAt_35 : decode cX11_writtenAt 35 = .ok (.ireturn, 1) := by decide +kernel
set_option maxRecDepth 20000 in
theorem ggX11_undo_X4_forget : GoodIn wsX11_undo wsX4_forget := goodIn_r _ [9, 10, 39, 40, 41, 42, 43, 44, 45, 46] (by decide +kernel) (by decide +kernel)
set_option maxRecDepth 20000 in
theorem gX11_undo_X4_forget : GoodIn wsX11_undo (wsV RX11 397 RX4 yX4_forget wsX4_forget) := goodIn_app (goodIn_of _ (by decide +kernel)) ggX11_undo_X4_forget
set_option maxRecDepth 20000 in
theorem ggX11_undo_X5_back : GoodIn wsX11_undo wsX5_back := goodIn_r _ [15, 16, 17, 18, 19, 20, 21, 22, 23, 24, 36, 37, 38, 47, 48] (by decide +kernel) (by decide +kernel)
set_option maxRecDepth 20000 in
theorem gX11_undo_X5_back : GoodIn wsX11_undo (wsV RX11 400 RX5 yX5_back wsX5_back) := goodIn_app (goodIn_of _ (by decide +kernel)) ggX11_undo_X5_back
theorem dX11_undo_0 : decode cX11_undo 0 = .ok (.aload_n 0, 1) := by decide +kernel
theorem dX11_undo_1 : decode cX11_undo 1 = .ok (.getfield 19, 3) := by decide +kernel
theorem dX11_undo_4 : decode cX11_undo 4 = .ok (.getfield 394, 3) := by decide +kernel
theorem dX11_undo_7 : decode cX11_undo 7 = .ok (.ifCond .ne 5, 3) := by decide +kernel
theorem dX11_undo_10 : decode cX11_undo 10 = .ok (.iconst (-1), 1) := by decide +kernel
theorem dX11_undo_11 : decode cX11_undo 11 = .ok (.ireturn, 1) := by decide +kernel
theorem dX11_undo_12 : decode cX11_undo 12 = .ok (.aload_n 0, 1) := by decide +kernel
theorem dX11_undo_13 : decode cX11_undo 13 = .ok (.getfield 33, 3) := by decide +kernel
theorem dX11_undo_16 : decode cX11_undo 16 = .ok (.invokevirtual 397, 3) := by decide +kernel
theorem dX11_undo_19 : decode cX11_undo 19 = .ok (.aload_n 0, 1) := by decide +kernel
theorem dX11_undo_20 : decode cX11_undo 20 = .ok (.getfield 19, 3) := by decide +kernel
theorem dX11_undo_23 : decode cX11_undo 23 = .ok (.aload_n 0, 1) := by decide +kernel
theorem dX11_undo_24 : decode cX11_undo 24 = .ok (.getfield 12, 3) := by decide +kernel
theorem dX11_undo_27 : decode cX11_undo 27 = .ok (.invokevirtual 400, 3) := by decide +kernel
theorem dX11_undo_30 : decode cX11_undo 30 = .ok (.ireturn, 1) := by decide +kernel
set_option maxRecDepth 20000 in
theorem ggX11_checksum_X8_hasTable : GoodIn wsX11_checksum wsX8_hasTable := goodIn_r _ [7, 8, 24, 25] (by decide +kernel) (by decide +kernel)
set_option maxRecDepth 20000 in
theorem gX11_checksum_X8_hasTable : GoodIn wsX11_checksum (wsV RX11 403 RX8 yX8_hasTable wsX8_hasTable) := goodIn_app (goodIn_of _ (by decide +kernel)) ggX11_checksum_X8_hasTable
set_option maxRecDepth 20000 in
theorem ggX11_checksum_X8_lessonTotal : GoodIn wsX11_checksum wsX8_lessonTotal := goodIn_r _ [12, 8, 24, 25] (by decide +kernel) (by decide +kernel)
set_option maxRecDepth 20000 in
theorem gX11_checksum_X8_lessonTotal : GoodIn wsX11_checksum (wsV RX11 101 RX8 yX8_lessonTotal wsX8_lessonTotal) := goodIn_app (goodIn_of _ (by decide +kernel)) ggX11_checksum_X8_lessonTotal
theorem dX11_checksum_0 : decode cX11_checksum 0 = .ok (.aload_n 0, 1) := by decide +kernel
theorem dX11_checksum_1 : decode cX11_checksum 1 = .ok (.getfield 12, 3) := by decide +kernel
theorem dX11_checksum_4 : decode cX11_checksum 4 = .ok (.invokevirtual 403, 3) := by decide +kernel
theorem dX11_checksum_7 : decode cX11_checksum 7 = .ok (.ifCond .ne 5, 3) := by decide +kernel
theorem dX11_checksum_10 : decode cX11_checksum 10 = .ok (.iconst 0, 1) := by decide +kernel
theorem dX11_checksum_11 : decode cX11_checksum 11 = .ok (.ireturn, 1) := by decide +kernel
theorem dX11_checksum_12 : decode cX11_checksum 12 = .ok (.bipush 17, 2) := by decide +kernel
theorem dX11_checksum_14 : decode cX11_checksum 14 = .ok (.istore_n 1, 1) := by decide +kernel
theorem dX11_checksum_15 : decode cX11_checksum 15 = .ok (.iconst 0, 1) := by decide +kernel
theorem dX11_checksum_16 : decode cX11_checksum 16 = .ok (.istore_n 2, 1) := by decide +kernel
theorem dX11_checksum_17 : decode cX11_checksum 17 = .ok (.iload_n 2, 1) := by decide +kernel
theorem dX11_checksum_18 : decode cX11_checksum 18 = .ok (.aload_n 0, 1) := by decide +kernel
theorem dX11_checksum_19 : decode cX11_checksum 19 = .ok (.getfield 12, 3) := by decide +kernel
theorem dX11_checksum_22 : decode cX11_checksum 22 = .ok (.invokevirtual 101, 3) := by decide +kernel
theorem dX11_checksum_25 : decode cX11_checksum 25 = .ok (.if_icmp .ge 24, 3) := by decide +kernel
theorem dX11_checksum_28 : decode cX11_checksum 28 = .ok (.bipush 31, 2) := by decide +kernel
theorem dX11_checksum_30 : decode cX11_checksum 30 = .ok (.iload_n 1, 1) := by decide +kernel
theorem dX11_checksum_31 : decode cX11_checksum 31 = .ok (.imul, 1) := by decide +kernel
theorem dX11_checksum_32 : decode cX11_checksum 32 = .ok (.aload_n 0, 1) := by decide +kernel
theorem dX11_checksum_33 : decode cX11_checksum 33 = .ok (.getfield 12, 3) := by decide +kernel
theorem dX11_checksum_36 : decode cX11_checksum 36 = .ok (.getfield 193, 3) := by decide +kernel
theorem dX11_checksum_39 : decode cX11_checksum 39 = .ok (.iload_n 2, 1) := by decide +kernel
theorem dX11_checksum_40 : decode cX11_checksum 40 = .ok (.iaload, 1) := by decide +kernel
theorem dX11_checksum_41 : decode cX11_checksum 41 = .ok (.iadd, 1) := by decide +kernel
theorem dX11_checksum_42 : decode cX11_checksum 42 = .ok (.istore_n 1, 1) := by decide +kernel
theorem dX11_checksum_43 : decode cX11_checksum 43 = .ok (.iinc 2 1, 3) := by decide +kernel
theorem dX11_checksum_46 : decode cX11_checksum 46 = .ok (.goto (-29), 3) := by decide +kernel
theorem dX11_checksum_49 : decode cX11_checksum 49 = .ok (.iload_n 1, 1) := by decide +kernel
theorem dX11_checksum_50 : decode cX11_checksum 50 = .ok (.ireturn, 1) := by decide +kernel
set_option maxRecDepth 20000 in
theorem ggX11_meanSlot_X11_requireTable : GoodIn wsX11_meanSlot wsX11_requireTable := goodIn_ca (goodIn_r _ [7, 8, 9, 1, 10, 11, 12, 13, 14, 15, 20, 21, 22, 23, 24, 25, 26, 27, 28, 29, 30, 31, 32] (by decide +kernel) (by decide +kernel)) (goodIn_sub (fun _ h => List.mem_cons_of_mem _ (List.mem_append_right _ h)) (by decide +kernel))
set_option maxRecDepth 20000 in
theorem gX11_meanSlot_X11_requireTable : GoodIn wsX11_meanSlot (wsV RX11 190 RX11 yX11_requireTable wsX11_requireTable) := goodIn_app (goodIn_of _ (by decide +kernel)) ggX11_meanSlot_X11_requireTable
set_option maxRecDepth 20000 in
theorem ggX11_meanSlot_X8_lessonTotal : GoodIn wsX11_meanSlot wsX8_lessonTotal := goodIn_r _ [19, 15, 31, 32] (by decide +kernel) (by decide +kernel)
set_option maxRecDepth 20000 in
theorem gX11_meanSlot_X8_lessonTotal : GoodIn wsX11_meanSlot (wsV RX11 101 RX8 yX8_lessonTotal wsX8_lessonTotal) := goodIn_app (goodIn_of _ (by decide +kernel)) ggX11_meanSlot_X8_lessonTotal
theorem dX11_meanSlot_0 : decode cX11_meanSlot 0 = .ok (.aload_n 0, 1) := by decide +kernel
theorem dX11_meanSlot_1 : decode cX11_meanSlot 1 = .ok (.invokevirtual 190, 3) := by decide +kernel
theorem dX11_meanSlot_4 : decode cX11_meanSlot 4 = .ok (.iconst 0, 1) := by decide +kernel
theorem dX11_meanSlot_5 : decode cX11_meanSlot 5 = .ok (.istore_n 1, 1) := by decide +kernel
theorem dX11_meanSlot_6 : decode cX11_meanSlot 6 = .ok (.iconst 0, 1) := by decide +kernel
theorem dX11_meanSlot_7 : decode cX11_meanSlot 7 = .ok (.istore_n 2, 1) := by decide +kernel
theorem dX11_meanSlot_8 : decode cX11_meanSlot 8 = .ok (.iload_n 2, 1) := by decide +kernel
theorem dX11_meanSlot_9 : decode cX11_meanSlot 9 = .ok (.aload_n 0, 1) := by decide +kernel
theorem dX11_meanSlot_10 : decode cX11_meanSlot 10 = .ok (.getfield 12, 3) := by decide +kernel
theorem dX11_meanSlot_13 : decode cX11_meanSlot 13 = .ok (.invokevirtual 101, 3) := by decide +kernel
theorem dX11_meanSlot_16 : decode cX11_meanSlot 16 = .ok (.if_icmp .ge 21, 3) := by decide +kernel
theorem dX11_meanSlot_19 : decode cX11_meanSlot 19 = .ok (.iload_n 1, 1) := by decide +kernel
theorem dX11_meanSlot_20 : decode cX11_meanSlot 20 = .ok (.aload_n 0, 1) := by decide +kernel
theorem dX11_meanSlot_21 : decode cX11_meanSlot 21 = .ok (.getfield 12, 3) := by decide +kernel
theorem dX11_meanSlot_24 : decode cX11_meanSlot 24 = .ok (.getfield 193, 3) := by decide +kernel
theorem dX11_meanSlot_27 : decode cX11_meanSlot 27 = .ok (.iload_n 2, 1) := by decide +kernel
theorem dX11_meanSlot_28 : decode cX11_meanSlot 28 = .ok (.iaload, 1) := by decide +kernel
theorem dX11_meanSlot_29 : decode cX11_meanSlot 29 = .ok (.iadd, 1) := by decide +kernel
theorem dX11_meanSlot_30 : decode cX11_meanSlot 30 = .ok (.istore_n 1, 1) := by decide +kernel
theorem dX11_meanSlot_31 : decode cX11_meanSlot 31 = .ok (.iinc 2 1, 3) := by decide +kernel
theorem dX11_meanSlot_34 : decode cX11_meanSlot 34 = .ok (.goto (-26), 3) := by decide +kernel
theorem dX11_meanSlot_37 : decode cX11_meanSlot 37 = .ok (.aload_n 0, 1) := by decide +kernel
theorem dX11_meanSlot_38 : decode cX11_meanSlot 38 = .ok (.getfield 12, 3) := by decide +kernel
theorem dX11_meanSlot_41 : decode cX11_meanSlot 41 = .ok (.invokevirtual 101, 3) := by decide +kernel
theorem dX11_meanSlot_44 : decode cX11_meanSlot 44 = .ok (.ifCond .ne 7, 3) := by decide +kernel
theorem dX11_meanSlot_47 : decode cX11_meanSlot 47 = .ok (.dconst 0, 1) := by decide +kernel
theorem dX11_meanSlot_48 : decode cX11_meanSlot 48 = .ok (.goto 14, 3) := by decide +kernel
theorem dX11_meanSlot_51 : decode cX11_meanSlot 51 = .ok (.iload_n 1, 1) := by decide +kernel
theorem dX11_meanSlot_52 : decode cX11_meanSlot 52 = .ok (.i2d, 1) := by decide +kernel
theorem dX11_meanSlot_53 : decode cX11_meanSlot 53 = .ok (.aload_n 0, 1) := by decide +kernel
theorem dX11_meanSlot_54 : decode cX11_meanSlot 54 = .ok (.getfield 12, 3) := by decide +kernel
theorem dX11_meanSlot_57 : decode cX11_meanSlot 57 = .ok (.invokevirtual 101, 3) := by decide +kernel
theorem dX11_meanSlot_60 : decode cX11_meanSlot 60 = .ok (.i2d, 1) := by decide +kernel
theorem dX11_meanSlot_61 : decode cX11_meanSlot 61 = .ok (.ddiv, 1) := by decide +kernel
theorem dX11_meanSlot_62 : decode cX11_meanSlot 62 = .ok (.dreturn, 1) := by decide +kernel
set_option maxRecDepth 20000 in
theorem ggX11_taken_X11_requireTable : GoodIn wsX11_taken wsX11_requireTable := goodIn_ca (goodIn_r _ [7, 8, 9, 1, 10, 11, 12, 13, 14, 15, 24, 25, 26, 27, 28, 29, 30, 31, 32, 33, 34, 35, 36] (by decide +kernel) (by decide +kernel)) (goodIn_sub (fun _ h => List.mem_cons_of_mem _ (List.mem_append_right _ h)) (by decide +kernel))
set_option maxRecDepth 20000 in
theorem gX11_taken_X11_requireTable : GoodIn wsX11_taken (wsV RX11 190 RX11 yX11_requireTable wsX11_requireTable) := goodIn_app (goodIn_of _ (by decide +kernel)) ggX11_taken_X11_requireTable
set_option maxRecDepth 20000 in
theorem ggX11_taken_X8_lessonTotal : GoodIn wsX11_taken wsX8_lessonTotal := goodIn_r _ [19, 15, 35, 36] (by decide +kernel) (by decide +kernel)
set_option maxRecDepth 20000 in
theorem gX11_taken_X8_lessonTotal : GoodIn wsX11_taken (wsV RX11 101 RX8 yX8_lessonTotal wsX8_lessonTotal) := goodIn_app (goodIn_of _ (by decide +kernel)) ggX11_taken_X8_lessonTotal
set_option maxRecDepth 20000 in
theorem ggX11_taken_X8_ofLesson : GoodIn wsX11_taken wsX8_ofLesson := goodIn_r _ [23, 15, 35, 36] (by decide +kernel) (by decide +kernel)
set_option maxRecDepth 20000 in
theorem gX11_taken_X8_ofLesson : GoodIn wsX11_taken (wsV RX11 127 RX8 yX8_ofLesson wsX8_ofLesson) := goodIn_app (goodIn_of _ (by decide +kernel)) ggX11_taken_X8_ofLesson
theorem dX11_taken_0 : decode cX11_taken 0 = .ok (.aload_n 0, 1) := by decide +kernel
theorem dX11_taken_1 : decode cX11_taken 1 = .ok (.invokevirtual 190, 3) := by decide +kernel
theorem dX11_taken_4 : decode cX11_taken 4 = .ok (.iconst 0, 1) := by decide +kernel
theorem dX11_taken_5 : decode cX11_taken 5 = .ok (.istore_n 1, 1) := by decide +kernel
theorem dX11_taken_6 : decode cX11_taken 6 = .ok (.iconst 0, 1) := by decide +kernel
theorem dX11_taken_7 : decode cX11_taken 7 = .ok (.istore_n 2, 1) := by decide +kernel
theorem dX11_taken_8 : decode cX11_taken 8 = .ok (.iload_n 2, 1) := by decide +kernel
theorem dX11_taken_9 : decode cX11_taken 9 = .ok (.aload_n 0, 1) := by decide +kernel
theorem dX11_taken_10 : decode cX11_taken 10 = .ok (.getfield 12, 3) := by decide +kernel
theorem dX11_taken_13 : decode cX11_taken 13 = .ok (.invokevirtual 101, 3) := by decide +kernel
theorem dX11_taken_16 : decode cX11_taken 16 = .ok (.if_icmp .ge 23, 3) := by decide +kernel
theorem dX11_taken_19 : decode cX11_taken 19 = .ok (.iload_n 1, 1) := by decide +kernel
theorem dX11_taken_20 : decode cX11_taken 20 = .ok (.iconst 1, 1) := by decide +kernel
theorem dX11_taken_21 : decode cX11_taken 21 = .ok (.aload_n 0, 1) := by decide +kernel
theorem dX11_taken_22 : decode cX11_taken 22 = .ok (.getfield 12, 3) := by decide +kernel
theorem dX11_taken_25 : decode cX11_taken 25 = .ok (.iload_n 2, 1) := by decide +kernel
theorem dX11_taken_26 : decode cX11_taken 26 = .ok (.iconst 4, 1) := by decide +kernel
theorem dX11_taken_27 : decode cX11_taken 27 = .ok (.invokevirtual 127, 3) := by decide +kernel
theorem dX11_taken_30 : decode cX11_taken 30 = .ok (.iadd, 1) := by decide +kernel
theorem dX11_taken_31 : decode cX11_taken 31 = .ok (.iadd, 1) := by decide +kernel
theorem dX11_taken_32 : decode cX11_taken 32 = .ok (.istore_n 1, 1) := by decide +kernel
theorem dX11_taken_33 : decode cX11_taken 33 = .ok (.iinc 2 1, 3) := by decide +kernel
theorem dX11_taken_36 : decode cX11_taken 36 = .ok (.goto (-28), 3) := by decide +kernel
theorem dX11_taken_39 : decode cX11_taken 39 = .ok (.iload_n 1, 1) := by decide +kernel
theorem dX11_taken_40 : decode cX11_taken 40 = .ok (.i2f, 1) := by decide +kernel
theorem dX11_taken_41 : decode cX11_taken 41 = .ok (.ldc_w 407, 3) := by decide +kernel
theorem dX11_taken_44 : decode cX11_taken 44 = .ok (.fdiv, 1) := by decide +kernel
theorem dX11_taken_45 : decode cX11_taken 45 = .ok (.freturn, 1) := by decide +kernel
set_option maxRecDepth 20000 in
theorem ggX11_errors_X1_sharedPairs : GoodIn wsX11_errors wsX1_sharedPairs := goodIn_r _ [13, 14, 15, 16, 17, 12, 18, 19, 20, 21, 22, 23, 24, 25, 26, 27, 28, 29, 30, 31, 32, 33, 34, 35, 36, 37, 38, 39, 40, 41, 42, 43, 44, 45, 46, 47, 48, 49, 50, 51, 52, 53, 54, 55, 56, 57, 58, 59, 60, 305, 303, 304] (by decide +kernel) (by decide +kernel)
set_option maxRecDepth 20000 in
theorem gX11_errors_X1_sharedPairs : GoodIn wsX11_errors (wsV RX11 408 RX1 yX1_sharedPairs wsX1_sharedPairs) := goodIn_app (goodIn_of _ (by decide +kernel)) ggX11_errors_X1_sharedPairs
set_option maxRecDepth 20000 in
theorem ggX11_errors_X3_faults : GoodIn wsX11_errors wsX3_faults := goodIn_r _ [65, 66, 67, 68, 69, 64, 70, 71, 72, 73, 74, 24, 25, 26, 75, 76, 77, 78, 79, 80, 34, 81, 36, 82, 83, 84, 85, 86, 87, 88, 89, 90, 91, 92, 93, 94, 95, 96, 306, 303, 304] (by decide +kernel) (by decide +kernel)
set_option maxRecDepth 20000 in
theorem gX11_errors_X3_faults : GoodIn wsX11_errors (wsV RX11 411 RX3 yX3_faults wsX3_faults) := goodIn_app (goodIn_of _ (by decide +kernel)) ggX11_errors_X3_faults
set_option maxRecDepth 20000 in
theorem ggX11_errors_X8_hasTable : GoodIn wsX11_errors wsX8_hasTable := goodIn_r _ [100, 36, 303, 304] (by decide +kernel) (by decide +kernel)
set_option maxRecDepth 20000 in
theorem gX11_errors_X8_hasTable : GoodIn wsX11_errors (wsV RX11 403 RX8 yX8_hasTable wsX8_hasTable) := goodIn_app (goodIn_of _ (by decide +kernel)) ggX11_errors_X8_hasTable
set_option maxRecDepth 20000 in
theorem ggX11_errors_X8_hardWishes : GoodIn wsX11_errors wsX8_hardWishes := goodIn_r _ [104, 105, 106, 107, 34, 108, 36, 109, 110, 111, 112, 303, 304] (by decide +kernel) (by decide +kernel)
set_option maxRecDepth 20000 in
theorem gX11_errors_X8_hardWishes : GoodIn wsX11_errors (wsV RX11 214 RX8 yX8_hardWishes wsX8_hardWishes) := goodIn_app (goodIn_of _ (by decide +kernel)) ggX11_errors_X8_hardWishes
set_option maxRecDepth 20000 in
theorem ggX11_errors_X7_take : GoodIn wsX11_errors wsX7_take := goodIn_r _ [117, 118, 119, 32, 33, 34, 35, 36, 120, 121, 122, 116, 123, 124, 125, 126, 127, 128, 129, 130, 131, 132, 133, 134, 135, 136, 46, 47, 48, 137, 138, 139, 140, 141, 142, 143, 144, 145, 106, 107, 108, 146, 110, 111, 112, 147, 148, 149, 150, 151, 38, 39, 40, 307, 308, 309, 310, 311, 312, 313, 314, 315, 316, 317, 318, 303, 304] (by decide +kernel) (by decide +kernel)
set_option maxRecDepth 20000 in
theorem gX11_errors_X7_take : GoodIn wsX11_errors (wsV RX11 206 RX7 yX7_take wsX7_take) := goodIn_app (goodIn_of _ (by decide +kernel)) ggX11_errors_X7_take
set_option maxRecDepth 20000 in
theorem ggX11_errors_X4_seekFirst : GoodIn wsX11_errors wsX4_seekFirst := goodIn_r _ [156, 157, 158, 159, 160, 161, 102, 103, 34, 104, 105, 106, 107, 108, 36, 109, 110, 111, 112, 162, 114, 115, 116, 117, 118, 119, 32, 33, 35, 120, 121, 122, 123, 124, 125, 126, 127, 128, 129, 130, 131, 132, 133, 134, 135, 136, 46, 47, 48, 137, 138, 139, 140, 141, 142, 143, 144, 145, 146, 147, 148, 149, 150, 151, 38, 39, 40, 163, 164, 165, 155, 166, 167, 168, 169, 170, 171, 172, 173, 174, 175, 176, 177, 178, 179, 180, 181, 182, 183, 184, 185, 186, 187, 188, 189, 190, 191, 192, 193, 194, 195, 196, 197, 198, 199, 200, 201, 202, 203, 204, 205, 206, 207, 208, 209, 210, 211, 212, 87, 88, 89, 90, 91, 92, 213, 214, 215, 216, 217, 218, 219, 220, 221, 295, 296, 297, 298, 299, 300, 301, 302, 307, 308, 309, 310, 311, 312, 313, 314, 315, 316, 317, 318, 303, 304] (by decide +kernel) (by decide +kernel)
set_option maxRecDepth 20000 in
theorem gX11_errors_X4_seekFirst : GoodIn wsX11_errors (wsV RX11 162 RX4 yX4_seekFirst wsX4_seekFirst) := goodIn_app (goodIn_of _ (by decide +kernel)) ggX11_errors_X4_seekFirst
set_option maxRecDepth 20000 in
theorem ggX11_errors_X8_tableIsAheadOf : GoodIn wsX11_errors wsX8_tableIsAheadOf := goodIn_r _ [225, 226, 227, 32, 33, 34, 35, 36, 303, 304] (by decide +kernel) (by decide +kernel)
set_option maxRecDepth 20000 in
theorem gX11_errors_X8_tableIsAheadOf : GoodIn wsX11_errors (wsV RX11 414 RX8 yX8_tableIsAheadOf wsX8_tableIsAheadOf) := goodIn_app (goodIn_of _ (by decide +kernel)) ggX11_errors_X8_tableIsAheadOf
set_option maxRecDepth 20000 in
theorem ggX11_errors_X7_isRight : GoodIn wsX11_errors wsX7_isRight := goodIn_r _ [231, 118, 232, 209, 210, 116, 211, 127, 125, 130, 126, 131, 132, 133, 134, 135, 124, 307, 308, 309, 310, 311, 312, 313, 314, 315, 316, 317, 318] (by decide +kernel) (by decide +kernel)
set_option maxRecDepth 20000 in
theorem gX11_errors_X7_isRight : GoodIn wsX11_errors (wsV RX11 373 RX7 yX7_isRight wsX7_isRight) := goodIn_app (goodIn_of _ (by decide +kernel)) ggX11_errors_X7_isRight
set_option maxRecDepth 20000 in
theorem ggX11_errors_X2_faults : GoodIn wsX11_errors wsX2_faults := goodIn_r _ [237, 238, 239, 240, 241, 242, 243, 236, 244, 245, 246, 247, 248, 249, 250, 251, 252, 253, 254, 34, 255, 227, 32, 33, 35, 36, 256, 38, 39, 40, 257, 258, 259, 260, 261, 262, 263, 264, 265, 266, 267, 46, 47, 48, 268, 269, 270, 271, 272, 273, 274, 275, 276, 277, 278, 279, 24, 25, 26, 280, 281, 282, 283, 319, 320, 321, 322, 323, 303, 304] (by decide +kernel) (by decide +kernel)
set_option maxRecDepth 20000 in
theorem gX11_errors_X2_faults : GoodIn wsX11_errors (wsV RX11 417 RX2 yX2_faults wsX2_faults) := goodIn_app (goodIn_of _ (by decide +kernel)) ggX11_errors_X2_faults
theorem dX11_errors_0 : decode cX11_errors 0 = .ok (.aload_n 0, 1) := by decide +kernel
theorem dX11_errors_1 : decode cX11_errors 1 = .ok (.getfield 47, 3) := by decide +kernel
theorem dX11_errors_4 : decode cX11_errors 4 = .ok (.aload_n 0, 1) := by decide +kernel
theorem dX11_errors_5 : decode cX11_errors 5 = .ok (.getfield 12, 3) := by decide +kernel
theorem dX11_errors_8 : decode cX11_errors 8 = .ok (.invokevirtual 408, 3) := by decide +kernel
theorem dX11_errors_11 : decode cX11_errors 11 = .ok (.aload_n 0, 1) := by decide +kernel
theorem dX11_errors_12 : decode cX11_errors 12 = .ok (.getfield 61, 3) := by decide +kernel
theorem dX11_errors_15 : decode cX11_errors 15 = .ok (.aload_n 0, 1) := by decide +kernel
theorem dX11_errors_16 : decode cX11_errors 16 = .ok (.getfield 12, 3) := by decide +kernel
theorem dX11_errors_19 : decode cX11_errors 19 = .ok (.invokevirtual 411, 3) := by decide +kernel
theorem dX11_errors_22 : decode cX11_errors 22 = .ok (.iadd, 1) := by decide +kernel
theorem dX11_errors_23 : decode cX11_errors 23 = .ok (.istore_n 1, 1) := by decide +kernel
theorem dX11_errors_24 : decode cX11_errors 24 = .ok (.aload_n 0, 1) := by decide +kernel
theorem dX11_errors_25 : decode cX11_errors 25 = .ok (.getfield 12, 3) := by decide +kernel
theorem dX11_errors_28 : decode cX11_errors 28 = .ok (.invokevirtual 403, 3) := by decide +kernel
theorem dX11_errors_31 : decode cX11_errors 31 = .ok (.ifCond .eq 101, 3) := by decide +kernel
theorem dX11_errors_34 : decode cX11_errors 34 = .ok (.aload_n 0, 1) := by decide +kernel
theorem dX11_errors_35 : decode cX11_errors 35 = .ok (.getfield 26, 3) := by decide +kernel
theorem dX11_errors_38 : decode cX11_errors 38 = .ok (.aload_n 0, 1) := by decide +kernel
theorem dX11_errors_39 : decode cX11_errors 39 = .ok (.getfield 12, 3) := by decide +kernel
theorem dX11_errors_42 : decode cX11_errors 42 = .ok (.aload_n 0, 1) := by decide +kernel
theorem dX11_errors_43 : decode cX11_errors 43 = .ok (.getfield 12, 3) := by decide +kernel
theorem dX11_errors_46 : decode cX11_errors 46 = .ok (.invokevirtual 214, 3) := by decide +kernel
theorem dX11_errors_49 : decode cX11_errors 49 = .ok (.invokevirtual 206, 3) := by decide +kernel
theorem dX11_errors_52 : decode cX11_errors 52 = .ok (.aload_n 0, 1) := by decide +kernel
theorem dX11_errors_53 : decode cX11_errors 53 = .ok (.getfield 33, 3) := by decide +kernel
theorem dX11_errors_56 : decode cX11_errors 56 = .ok (.aload_n 0, 1) := by decide +kernel
theorem dX11_errors_57 : decode cX11_errors 57 = .ok (.getfield 12, 3) := by decide +kernel
theorem dX11_errors_60 : decode cX11_errors 60 = .ok (.invokevirtual 162, 3) := by decide +kernel
theorem dX11_errors_63 : decode cX11_errors 63 = .ok (.ifCond .eq 24, 3) := by decide +kernel
theorem dX11_errors_66 : decode cX11_errors 66 = .ok (.aload_n 0, 1) := by decide +kernel
theorem dX11_errors_67 : decode cX11_errors 67 = .ok (.getfield 12, 3) := by decide +kernel
theorem dX11_errors_70 : decode cX11_errors 70 = .ok (.aload_n 0, 1) := by decide +kernel
theorem dX11_errors_71 : decode cX11_errors 71 = .ok (.getfield 33, 3) := by decide +kernel
theorem dX11_errors_74 : decode cX11_errors 74 = .ok (.getfield 170, 3) := by decide +kernel
theorem dX11_errors_77 : decode cX11_errors 77 = .ok (.invokevirtual 414, 3) := by decide +kernel
theorem dX11_errors_80 : decode cX11_errors 80 = .ok (.ifCond .ne 7, 3) := by decide +kernel
theorem dX11_errors_83 : decode cX11_errors 83 = .ok (.iconst 1, 1) := by decide +kernel
theorem dX11_errors_84 : decode cX11_errors 84 = .ok (.goto 4, 3) := by decide +kernel
theorem dX11_errors_87 : decode cX11_errors 87 = .ok (.iconst 0, 1) := by decide +kernel
theorem dX11_errors_88 : decode cX11_errors 88 = .ok (.istore_n 2, 1) := by decide +kernel
theorem dX11_errors_89 : decode cX11_errors 89 = .ok (.iload_n 1, 1) := by decide +kernel
theorem dX11_errors_90 : decode cX11_errors 90 = .ok (.aload_n 0, 1) := by decide +kernel
theorem dX11_errors_91 : decode cX11_errors 91 = .ok (.getfield 26, 3) := by decide +kernel
theorem dX11_errors_94 : decode cX11_errors 94 = .ok (.aload_n 0, 1) := by decide +kernel
theorem dX11_errors_95 : decode cX11_errors 95 = .ok (.getfield 12, 3) := by decide +kernel
theorem dX11_errors_98 : decode cX11_errors 98 = .ok (.getfield 193, 3) := by decide +kernel
theorem dX11_errors_101 : decode cX11_errors 101 = .ok (.invokevirtual 373, 3) := by decide +kernel
theorem dX11_errors_104 : decode cX11_errors 104 = .ok (.ifCond .eq 11, 3) := by decide +kernel
theorem dX11_errors_107 : decode cX11_errors 107 = .ok (.iload_n 2, 1) := by decide +kernel
theorem dX11_errors_108 : decode cX11_errors 108 = .ok (.ifCond .eq 7, 3) := by decide +kernel
theorem dX11_errors_111 : decode cX11_errors 111 = .ok (.iconst 0, 1) := by decide +kernel
theorem dX11_errors_112 : decode cX11_errors 112 = .ok (.goto 4, 3) := by decide +kernel
theorem dX11_errors_115 : decode cX11_errors 115 = .ok (.iconst 1, 1) := by decide +kernel
theorem dX11_errors_116 : decode cX11_errors 116 = .ok (.iadd, 1) := by decide +kernel
theorem dX11_errors_117 : decode cX11_errors 117 = .ok (.istore_n 1, 1) := by decide +kernel
theorem dX11_errors_118 : decode cX11_errors 118 = .ok (.iload_n 1, 1) := by decide +kernel
theorem dX11_errors_119 : decode cX11_errors 119 = .ok (.aload_n 0, 1) := by decide +kernel
theorem dX11_errors_120 : decode cX11_errors 120 = .ok (.getfield 54, 3) := by decide +kernel
theorem dX11_errors_123 : decode cX11_errors 123 = .ok (.aload_n 0, 1) := by decide +kernel
theorem dX11_errors_124 : decode cX11_errors 124 = .ok (.getfield 12, 3) := by decide +kernel
theorem dX11_errors_127 : decode cX11_errors 127 = .ok (.invokevirtual 417, 3) := by decide +kernel
theorem dX11_errors_130 : decode cX11_errors 130 = .ok (.iadd, 1) := by decide +kernel
theorem dX11_errors_131 : decode cX11_errors 131 = .ok (.istore_n 1, 1) := by decide +kernel
theorem dX11_errors_132 : decode cX11_errors 132 = .ok (.iload_n 1, 1) := by decide +kernel
theorem dX11_errors_133 : decode cX11_errors 133 = .ok (.ireturn, 1) := by decide +kernel
set_option maxRecDepth 20000 in
theorem ggX11_beginChange_X5_keep : GoodIn wsX11_beginChange wsX5_keep := goodIn_r _ [8, 9, 10, 11, 12, 13, 14, 15, 16, 17, 18, 19, 20, 21, 39, 40, 41, 42, 43] (by decide +kernel) (by decide +kernel)
set_option maxRecDepth 20000 in
theorem gX11_beginChange_X5_keep : GoodIn wsX11_beginChange (wsV RX11 418 RX5 yX5_keep wsX5_keep) := goodIn_app (goodIn_of _ (by decide +kernel)) ggX11_beginChange_X5_keep
set_option maxRecDepth 20000 in
theorem ggX11_beginChange_X4_forget : GoodIn wsX11_beginChange wsX4_forget := goodIn_r _ [26, 27, 44, 45, 46, 47, 48, 49, 50, 51] (by decide +kernel) (by decide +kernel)
set_option maxRecDepth 20000 in
theorem gX11_beginChange_X4_forget : GoodIn wsX11_beginChange (wsV RX11 397 RX4 yX4_forget wsX4_forget) := goodIn_app (goodIn_of _ (by decide +kernel)) ggX11_beginChange_X4_forget
theorem dX11_beginChange_0 : decode cX11_beginChange 0 = .ok (.aload_n 0, 1) := by decide +kernel
theorem dX11_beginChange_1 : decode cX11_beginChange 1 = .ok (.getfield 19, 3) := by decide +kernel
theorem dX11_beginChange_4 : decode cX11_beginChange 4 = .ok (.aload_n 0, 1) := by decide +kernel
theorem dX11_beginChange_5 : decode cX11_beginChange 5 = .ok (.getfield 12, 3) := by decide +kernel
theorem dX11_beginChange_8 : decode cX11_beginChange 8 = .ok (.invokevirtual 418, 3) := by decide +kernel
theorem dX11_beginChange_11 : decode cX11_beginChange 11 = .ok (.aload_n 0, 1) := by decide +kernel
theorem dX11_beginChange_12 : decode cX11_beginChange 12 = .ok (.getfield 33, 3) := by decide +kernel
theorem dX11_beginChange_15 : decode cX11_beginChange 15 = .ok (.invokevirtual 397, 3) := by decide +kernel
theorem dX11_beginChange_18 : decode cX11_beginChange 18 = .ok (.return_, 1) := by decide +kernel
set_option maxRecDepth 20000 in
theorem ggX11_requireRange_X11_requireBetween : GoodIn wsX11_requireRange wsX11_requireBetween := goodIn_ca (goodIn_r _ [5, 6, 7] (by decide +kernel) (by decide +kernel)) (goodIn_sub (fun _ h => List.mem_cons_of_mem _ (List.mem_append_right _ h)) (by decide +kernel))
set_option maxRecDepth 20000 in
theorem gX11_requireRange_X11_requireBetween : GoodIn wsX11_requireRange (wsV RX11 292 RX11 yX11_requireBetween wsX11_requireBetween) := goodIn_app (goodIn_of _ (by decide +kernel)) ggX11_requireRange_X11_requireBetween
theorem dX11_requireRange_0 : decode cX11_requireRange 0 = .ok (.aload_n 0, 1) := by decide +kernel
theorem dX11_requireRange_1 : decode cX11_requireRange 1 = .ok (.iload_n 1, 1) := by decide +kernel
theorem dX11_requireRange_2 : decode cX11_requireRange 2 = .ok (.iconst 0, 1) := by decide +kernel
theorem dX11_requireRange_3 : decode cX11_requireRange 3 = .ok (.iload_n 2, 1) := by decide +kernel
theorem dX11_requireRange_4 : decode cX11_requireRange 4 = .ok (.iconst 1, 1) := by decide +kernel
theorem dX11_requireRange_5 : decode cX11_requireRange 5 = .ok (.isub, 1) := by decide +kernel
theorem dX11_requireRange_6 : decode cX11_requireRange 6 = .ok (.invokevirtual 292, 3) := by decide +kernel
theorem dX11_requireRange_9 : decode cX11_requireRange 9 = .ok (.return_, 1) := by decide +kernel
theorem dX11_requireBetween_0 : decode cX11_requireBetween 0 = .ok (.iload_n 1, 1) := by decide +kernel
theorem dX11_requireBetween_1 : decode cX11_requireBetween 1 = .ok (.iload_n 2, 1) := by decide +kernel
theorem dX11_requireBetween_2 : decode cX11_requireBetween 2 = .ok (.if_icmp .lt 8, 3) := by decide +kernel
theorem dX11_requireBetween_5 : decode cX11_requireBetween 5 = .ok (.iload_n 1, 1) := by decide +kernel
theorem dX11_requireBetween_6 : decode cX11_requireBetween 6 = .ok (.iload_n 3, 1) := by decide +kernel
theorem dX11_requireBetween_7 : decode cX11_requireBetween 7 = .ok (.if_icmp .le 14, 3) := by decide +kernel
theorem dX11_requireBetween_10 : decode cX11_requireBetween 10 = .ok (.new 94, 3) := by decide +kernel
theorem dX11_requireBetween_13 : decode cX11_requireBetween 13 = .ok (.dup, 1) := by decide +kernel
theorem dX11_requireBetween_14 : decode cX11_requireBetween 14 = .ok (.ldc_w 421, 3) := by decide +kernel
theorem dX11_requireBetween_17 : decode cX11_requireBetween 17 = .ok (.invokespecial 98, 3) := by decide +kernel
theorem dX11_requireBetween_20 : decode cX11_requireBetween 20 = .ok (.athrow, 1) := by decide +kernel
theorem dX11_requireBetween_21 : decode cX11_requireBetween 21 = .ok (.return_, 1) := by decide +kernel
set_option maxRecDepth 20000 in
theorem ggX11_requirePerson_X11_requireRange : GoodIn wsX11_requirePerson wsX11_requireRange := goodIn_ca (goodIn_r _ [5, 6, 7, 8, 4, 9, 10, 11] (by decide +kernel) (by decide +kernel)) (goodIn_sub (fun _ h => List.mem_cons_of_mem _ (List.mem_append_right _ h)) (by decide +kernel))
set_option maxRecDepth 20000 in
theorem gX11_requirePerson_X11_requireRange : GoodIn wsX11_requirePerson (wsV RX11 86 RX11 yX11_requireRange wsX11_requireRange) := goodIn_app (goodIn_of _ (by decide +kernel)) ggX11_requirePerson_X11_requireRange
theorem dX11_requirePerson_0 : decode cX11_requirePerson 0 = .ok (.aload_n 0, 1) := by decide +kernel
theorem dX11_requirePerson_1 : decode cX11_requirePerson 1 = .ok (.iload_n 2, 1) := by decide +kernel
theorem dX11_requirePerson_2 : decode cX11_requirePerson 2 = .ok (.iload_n 1, 1) := by decide +kernel
theorem dX11_requirePerson_3 : decode cX11_requirePerson 3 = .ok (.ifCond .eq 8, 3) := by decide +kernel
theorem dX11_requirePerson_6 : decode cX11_requirePerson 6 = .ok (.bipush 6, 2) := by decide +kernel
theorem dX11_requirePerson_8 : decode cX11_requirePerson 8 = .ok (.goto 4, 3) := by decide +kernel
theorem dX11_requirePerson_11 : decode cX11_requirePerson 11 = .ok (.iconst 4, 1) := by decide +kernel
theorem dX11_requirePerson_12 : decode cX11_requirePerson 12 = .ok (.invokevirtual 86, 3) := by decide +kernel
theorem dX11_requirePerson_15 : decode cX11_requirePerson 15 = .ok (.return_, 1) := by decide +kernel
set_option maxRecDepth 20000 in
theorem ggX11_requireLesson_X8_lessonTotal : GoodIn wsX11_requireLesson wsX8_lessonTotal := goodIn_r _ [8, 9, 21, 22] (by decide +kernel) (by decide +kernel)
set_option maxRecDepth 20000 in
theorem gX11_requireLesson_X8_lessonTotal : GoodIn wsX11_requireLesson (wsV RX11 101 RX8 yX8_lessonTotal wsX8_lessonTotal) := goodIn_app (goodIn_of _ (by decide +kernel)) ggX11_requireLesson_X8_lessonTotal
theorem dX11_requireLesson_0 : decode cX11_requireLesson 0 = .ok (.iload_n 1, 1) := by decide +kernel
theorem dX11_requireLesson_1 : decode cX11_requireLesson 1 = .ok (.ifCond .lt 14, 3) := by decide +kernel
theorem dX11_requireLesson_4 : decode cX11_requireLesson 4 = .ok (.iload_n 1, 1) := by decide +kernel
theorem dX11_requireLesson_5 : decode cX11_requireLesson 5 = .ok (.aload_n 0, 1) := by decide +kernel
theorem dX11_requireLesson_6 : decode cX11_requireLesson 6 = .ok (.getfield 12, 3) := by decide +kernel
theorem dX11_requireLesson_9 : decode cX11_requireLesson 9 = .ok (.invokevirtual 101, 3) := by decide +kernel
theorem dX11_requireLesson_12 : decode cX11_requireLesson 12 = .ok (.if_icmp .lt 14, 3) := by decide +kernel
theorem dX11_requireLesson_15 : decode cX11_requireLesson 15 = .ok (.new 182, 3) := by decide +kernel
theorem dX11_requireLesson_18 : decode cX11_requireLesson 18 = .ok (.dup, 1) := by decide +kernel
theorem dX11_requireLesson_19 : decode cX11_requireLesson 19 = .ok (.ldc_w 423, 3) := by decide +kernel
theorem dX11_requireLesson_22 : decode cX11_requireLesson 22 = .ok (.invokespecial 186, 3) := by decide +kernel
theorem dX11_requireLesson_25 : decode cX11_requireLesson 25 = .ok (.athrow, 1) := by decide +kernel
theorem dX11_requireLesson_26 : decode cX11_requireLesson 26 = .ok (.return_, 1) := by decide +kernel
set_option maxRecDepth 20000 in
theorem ggX11_requireWish_X8_wishTotal : GoodIn wsX11_requireWish wsX8_wishTotal := goodIn_r _ [8, 9, 21, 22] (by decide +kernel) (by decide +kernel)
set_option maxRecDepth 20000 in
theorem gX11_requireWish_X8_wishTotal : GoodIn wsX11_requireWish (wsV RX11 144 RX8 yX8_wishTotal wsX8_wishTotal) := goodIn_app (goodIn_of _ (by decide +kernel)) ggX11_requireWish_X8_wishTotal
theorem dX11_requireWish_0 : decode cX11_requireWish 0 = .ok (.iload_n 1, 1) := by decide +kernel
theorem dX11_requireWish_1 : decode cX11_requireWish 1 = .ok (.ifCond .lt 14, 3) := by decide +kernel
theorem dX11_requireWish_4 : decode cX11_requireWish 4 = .ok (.iload_n 1, 1) := by decide +kernel
theorem dX11_requireWish_5 : decode cX11_requireWish 5 = .ok (.aload_n 0, 1) := by decide +kernel
theorem dX11_requireWish_6 : decode cX11_requireWish 6 = .ok (.getfield 12, 3) := by decide +kernel
theorem dX11_requireWish_9 : decode cX11_requireWish 9 = .ok (.invokevirtual 144, 3) := by decide +kernel
theorem dX11_requireWish_12 : decode cX11_requireWish 12 = .ok (.if_icmp .lt 14, 3) := by decide +kernel
theorem dX11_requireWish_15 : decode cX11_requireWish 15 = .ok (.new 182, 3) := by decide +kernel
theorem dX11_requireWish_18 : decode cX11_requireWish 18 = .ok (.dup, 1) := by decide +kernel
theorem dX11_requireWish_19 : decode cX11_requireWish 19 = .ok (.ldc_w 425, 3) := by decide +kernel
theorem dX11_requireWish_22 : decode cX11_requireWish 22 = .ok (.invokespecial 186, 3) := by decide +kernel
theorem dX11_requireWish_25 : decode cX11_requireWish 25 = .ok (.athrow, 1) := by decide +kernel
theorem dX11_requireWish_26 : decode cX11_requireWish 26 = .ok (.return_, 1) := by decide +kernel
set_option maxRecDepth 20000 in
theorem ggX11_requireTable_X8_hasTable : GoodIn wsX11_requireTable wsX8_hasTable := goodIn_r _ [8, 9, 21, 22] (by decide +kernel) (by decide +kernel)
set_option maxRecDepth 20000 in
theorem gX11_requireTable_X8_hasTable : GoodIn wsX11_requireTable (wsV RX11 403 RX8 yX8_hasTable wsX8_hasTable) := goodIn_app (goodIn_of _ (by decide +kernel)) ggX11_requireTable_X8_hasTable
theorem dX11_requireTable_0 : decode cX11_requireTable 0 = .ok (.aload_n 0, 1) := by decide +kernel
theorem dX11_requireTable_1 : decode cX11_requireTable 1 = .ok (.getfield 12, 3) := by decide +kernel
theorem dX11_requireTable_4 : decode cX11_requireTable 4 = .ok (.invokevirtual 403, 3) := by decide +kernel
theorem dX11_requireTable_7 : decode cX11_requireTable 7 = .ok (.ifCond .ne 14, 3) := by decide +kernel
theorem dX11_requireTable_10 : decode cX11_requireTable 10 = .ok (.new 105, 3) := by decide +kernel
theorem dX11_requireTable_13 : decode cX11_requireTable 13 = .ok (.dup, 1) := by decide +kernel
theorem dX11_requireTable_14 : decode cX11_requireTable 14 = .ok (.ldc_w 427, 3) := by decide +kernel
theorem dX11_requireTable_17 : decode cX11_requireTable 17 = .ok (.invokespecial 109, 3) := by decide +kernel
theorem dX11_requireTable_20 : decode cX11_requireTable 20 = .ok (.athrow, 1) := by decide +kernel
theorem dX11_requireTable_21 : decode cX11_requireTable 21 = .ok (.return_, 1) := by decide +kernel
set_option maxRecDepth 20000 in
theorem ggX11_requireDate_X10_isDate : GoodIn wsX11_requireDate wsX10_isDate := goodIn_r _ [8, 9, 10, 11, 7, 12] (by decide +kernel) (by decide +kernel)
set_option maxRecDepth 20000 in
theorem gX11_requireDate_X10_isDate : GoodIn wsX11_requireDate (wsV RX11 429 RX10 yX10_isDate wsX10_isDate) := goodIn_app (goodIn_of _ (by decide +kernel)) ggX11_requireDate_X10_isDate
set_option maxRecDepth 20000 in
theorem ggX11_requireDate_X10_serialOf : GoodIn wsX11_requireDate wsX10_serialOf := goodIn_r _ [16, 17, 18] (by decide +kernel) (by decide +kernel)
set_option maxRecDepth 20000 in
theorem gX11_requireDate_X10_serialOf : GoodIn wsX11_requireDate (wsV RX11 434 RX10 yX10_serialOf wsX10_serialOf) := goodIn_app (goodIn_of _ (by decide +kernel)) ggX11_requireDate_X10_serialOf
theorem dX11_requireDate_0 : decode cX11_requireDate 0 = .ok (.aload_n 0, 1) := by decide +kernel
theorem dX11_requireDate_1 : decode cX11_requireDate 1 = .ok (.getfield 75, 3) := by decide +kernel
theorem dX11_requireDate_4 : decode cX11_requireDate 4 = .ok (.iload_n 1, 1) := by decide +kernel
theorem dX11_requireDate_5 : decode cX11_requireDate 5 = .ok (.invokevirtual 429, 3) := by decide +kernel
theorem dX11_requireDate_8 : decode cX11_requireDate 8 = .ok (.ifCond .ne 14, 3) := by decide +kernel
theorem dX11_requireDate_11 : decode cX11_requireDate 11 = .ok (.new 94, 3) := by decide +kernel
theorem dX11_requireDate_14 : decode cX11_requireDate 14 = .ok (.dup, 1) := by decide +kernel
theorem dX11_requireDate_15 : decode cX11_requireDate 15 = .ok (.ldc_w 432, 3) := by decide +kernel
theorem dX11_requireDate_18 : decode cX11_requireDate 18 = .ok (.invokespecial 98, 3) := by decide +kernel
theorem dX11_requireDate_21 : decode cX11_requireDate 21 = .ok (.athrow, 1) := by decide +kernel
theorem dX11_requireDate_22 : decode cX11_requireDate 22 = .ok (.aload_n 0, 1) := by decide +kernel
theorem dX11_requireDate_23 : decode cX11_requireDate 23 = .ok (.getfield 75, 3) := by decide +kernel
theorem dX11_requireDate_26 : decode cX11_requireDate 26 = .ok (.iload_n 1, 1) := by decide +kernel
theorem dX11_requireDate_27 : decode cX11_requireDate 27 = .ok (.invokevirtual 434, 3) := by decide +kernel
theorem dX11_requireDate_30 : decode cX11_requireDate 30 = .ok (.ireturn, 1) := by decide +kernel
theorem dX12_thrown_0 : decode cX12_thrown 0 = .ok (.aload_n 0, 1) := by decide +kernel
theorem dX12_thrown_1 : decode cX12_thrown 1 = .ok (.getfield 1, 3) := by decide +kernel
theorem dX12_thrown_4 : decode cX12_thrown 4 = .ok (.ireturn, 1) := by decide +kernel
theorem dX12_in_0 : decode cX12_in 0 = .ok (.iload_n 0, 1) := by decide +kernel
theorem dX12_in_1 : decode cX12_in 1 = .ok (.iload_n 1, 1) := by decide +kernel
theorem dX12_in_2 : decode cX12_in 2 = .ok (.if_icmp .lt 12, 3) := by decide +kernel
theorem dX12_in_5 : decode cX12_in 5 = .ok (.iload_n 0, 1) := by decide +kernel
theorem dX12_in_6 : decode cX12_in 6 = .ok (.iload_n 2, 1) := by decide +kernel
theorem dX12_in_7 : decode cX12_in 7 = .ok (.if_icmp .gt 7, 3) := by decide +kernel
theorem dX12_in_10 : decode cX12_in 10 = .ok (.iconst 1, 1) := by decide +kernel
theorem dX12_in_11 : decode cX12_in 11 = .ok (.goto 4, 3) := by decide +kernel
theorem dX12_in_14 : decode cX12_in 14 = .ok (.iconst 0, 1) := by decide +kernel
theorem dX12_in_15 : decode cX12_in 15 = .ok (.ireturn, 1) := by decide +kernel
theorem dX12_fails_0 : decode cX12_fails 0 = .ok (.iload_n 1, 1) := by decide +kernel
theorem dX12_fails_1 : decode cX12_fails 1 = .ok (.ifCond .ne 15, 3) := by decide +kernel
theorem dX12_fails_4 : decode cX12_fails 4 = .ok (.aload_n 0, 1) := by decide +kernel
theorem dX12_fails_5 : decode cX12_fails 5 = .ok (.getfield 1, 3) := by decide +kernel
theorem dX12_fails_8 : decode cX12_fails 8 = .ok (.ifCond .ne 8, 3) := by decide +kernel
theorem dX12_fails_11 : decode cX12_fails 11 = .ok (.aload_n 0, 1) := by decide +kernel
theorem dX12_fails_12 : decode cX12_fails 12 = .ok (.iload_n 2, 1) := by decide +kernel
theorem dX12_fails_13 : decode cX12_fails 13 = .ok (.putfield 1, 3) := by decide +kernel
theorem dX12_fails_16 : decode cX12_fails 16 = .ok (.aload_n 0, 1) := by decide +kernel
theorem dX12_fails_17 : decode cX12_fails 17 = .ok (.getfield 1, 3) := by decide +kernel
theorem dX12_fails_20 : decode cX12_fails 20 = .ok (.ifCond .eq 7, 3) := by decide +kernel
theorem dX12_fails_23 : decode cX12_fails 23 = .ok (.iconst 1, 1) := by decide +kernel
theorem dX12_fails_24 : decode cX12_fails 24 = .ok (.goto 4, 3) := by decide +kernel
theorem dX12_fails_27 : decode cX12_fails 27 = .ok (.iconst 0, 1) := by decide +kernel
theorem dX12_fails_28 : decode cX12_fails 28 = .ok (.ireturn, 1) := by decide +kernel
theorem dX12_init_0 : decode cX12_init 0 = .ok (.aload_n 0, 1) := by decide +kernel
theorem dX12_init_1 : decode cX12_init 1 = .ok (.invokespecial 7, 3) := by decide +kernel
theorem dX12_init_4 : decode cX12_init 4 = .ok (.aload_n 0, 1) := by decide +kernel
theorem dX12_init_5 : decode cX12_init 5 = .ok (.sipush 128, 3) := by decide +kernel
theorem dX12_init_8 : decode cX12_init 8 = .ok (.newarray .int, 2) := by decide +kernel
theorem dX12_init_10 : decode cX12_init 10 = .ok (.putfield 13, 3) := by decide +kernel
theorem dX12_init_13 : decode cX12_init 13 = .ok (.aload_n 0, 1) := by decide +kernel
theorem dX12_init_14 : decode cX12_init 14 = .ok (.sipush 2560, 3) := by decide +kernel
theorem dX12_init_17 : decode cX12_init 17 = .ok (.newarray .int, 2) := by decide +kernel
theorem dX12_init_19 : decode cX12_init 19 = .ok (.putfield 17, 3) := by decide +kernel
theorem dX12_init_22 : decode cX12_init 22 = .ok (.aload_n 0, 1) := by decide +kernel
theorem dX12_init_23 : decode cX12_init 23 = .ok (.bipush 9, 2) := by decide +kernel
theorem dX12_init_25 : decode cX12_init 25 = .ok (.newarray .int, 2) := by decide +kernel
theorem dX12_init_27 : decode cX12_init 27 = .ok (.putfield 20, 3) := by decide +kernel
theorem dX12_init_30 : decode cX12_init 30 = .ok (.aload_n 0, 1) := by decide +kernel
theorem dX12_init_31 : decode cX12_init 31 = .ok (.bipush 12, 2) := by decide +kernel
theorem dX12_init_33 : decode cX12_init 33 = .ok (.newarray .boolean, 2) := by decide +kernel
theorem dX12_init_35 : decode cX12_init 35 = .ok (.putfield 23, 3) := by decide +kernel
theorem dX12_init_38 : decode cX12_init 38 = .ok (.aload_n 0, 1) := by decide +kernel
theorem dX12_init_39 : decode cX12_init 39 = .ok (.bipush 9, 2) := by decide +kernel
theorem dX12_init_41 : decode cX12_init 41 = .ok (.newarray .int, 2) := by decide +kernel
theorem dX12_init_43 : decode cX12_init 43 = .ok (.putfield 27, 3) := by decide +kernel
theorem dX12_init_46 : decode cX12_init 46 = .ok (.aload_n 0, 1) := by decide +kernel
theorem dX12_init_47 : decode cX12_init 47 = .ok (.iconst (-1), 1) := by decide +kernel
theorem dX12_init_48 : decode cX12_init 48 = .ok (.putfield 30, 3) := by decide +kernel
theorem dX12_init_51 : decode cX12_init 51 = .ok (.aload_n 0, 1) := by decide +kernel
theorem dX12_init_52 : decode cX12_init 52 = .ok (.bipush 12, 2) := by decide +kernel
theorem dX12_init_54 : decode cX12_init 54 = .ok (.newarray .int, 2) := by decide +kernel
theorem dX12_init_56 : decode cX12_init 56 = .ok (.putfield 33, 3) := by decide +kernel
theorem dX12_init_59 : decode cX12_init 59 = .ok (.aload_n 0, 1) := by decide +kernel
theorem dX12_init_60 : decode cX12_init 60 = .ok (.bipush 9, 2) := by decide +kernel
theorem dX12_init_62 : decode cX12_init 62 = .ok (.newarray .int, 2) := by decide +kernel
theorem dX12_init_64 : decode cX12_init 64 = .ok (.putfield 36, 3) := by decide +kernel
theorem dX12_init_67 : decode cX12_init 67 = .ok (.aload_n 0, 1) := by decide +kernel
theorem dX12_init_68 : decode cX12_init 68 = .ok (.bipush 9, 2) := by decide +kernel
theorem dX12_init_70 : decode cX12_init 70 = .ok (.newarray .int, 2) := by decide +kernel
theorem dX12_init_72 : decode cX12_init 72 = .ok (.putfield 39, 3) := by decide +kernel
theorem dX12_init_75 : decode cX12_init 75 = .ok (.aload_n 0, 1) := by decide +kernel
theorem dX12_init_76 : decode cX12_init 76 = .ok (.bipush 9, 2) := by decide +kernel
theorem dX12_init_78 : decode cX12_init 78 = .ok (.newarray .int, 2) := by decide +kernel
theorem dX12_init_80 : decode cX12_init 80 = .ok (.putfield 42, 3) := by decide +kernel
theorem dX12_init_83 : decode cX12_init 83 = .ok (.aload_n 0, 1) := by decide +kernel
theorem dX12_init_84 : decode cX12_init 84 = .ok (.bipush 9, 2) := by decide +kernel
theorem dX12_init_86 : decode cX12_init 86 = .ok (.newarray .int, 2) := by decide +kernel
theorem dX12_init_88 : decode cX12_init 88 = .ok (.putfield 45, 3) := by decide +kernel
theorem dX12_init_91 : decode cX12_init 91 = .ok (.aload_n 0, 1) := by decide +kernel
theorem dX12_init_92 : decode cX12_init 92 = .ok (.bipush 9, 2) := by decide +kernel
theorem dX12_init_94 : decode cX12_init 94 = .ok (.newarray .int, 2) := by decide +kernel
theorem dX12_init_96 : decode cX12_init 96 = .ok (.putfield 48, 3) := by decide +kernel
theorem dX12_init_99 : decode cX12_init 99 = .ok (.aload_n 0, 1) := by decide +kernel
theorem dX12_init_100 : decode cX12_init 100 = .ok (.bipush 9, 2) := by decide +kernel
theorem dX12_init_102 : decode cX12_init 102 = .ok (.newarray .int, 2) := by decide +kernel
theorem dX12_init_104 : decode cX12_init 104 = .ok (.putfield 51, 3) := by decide +kernel
theorem dX12_init_107 : decode cX12_init 107 = .ok (.aload_n 0, 1) := by decide +kernel
theorem dX12_init_108 : decode cX12_init 108 = .ok (.bipush 8, 2) := by decide +kernel
theorem dX12_init_110 : decode cX12_init 110 = .ok (.newarray .int, 2) := by decide +kernel
theorem dX12_init_112 : decode cX12_init 112 = .ok (.putfield 54, 3) := by decide +kernel
theorem dX12_init_115 : decode cX12_init 115 = .ok (.aload_n 0, 1) := by decide +kernel
theorem dX12_init_116 : decode cX12_init 116 = .ok (.iconst 5, 1) := by decide +kernel
theorem dX12_init_117 : decode cX12_init 117 = .ok (.newarray .int, 2) := by decide +kernel
theorem dX12_init_119 : decode cX12_init 119 = .ok (.dup, 1) := by decide +kernel
theorem dX12_init_120 : decode cX12_init 120 = .ok (.iconst 0, 1) := by decide +kernel
theorem dX12_init_121 : decode cX12_init 121 = .ok (.sipush 480, 3) := by decide +kernel
theorem dX12_init_124 : decode cX12_init 124 = .ok (.iastore, 1) := by decide +kernel
theorem dX12_init_125 : decode cX12_init 125 = .ok (.dup, 1) := by decide +kernel
theorem dX12_init_126 : decode cX12_init 126 = .ok (.iconst 1, 1) := by decide +kernel
theorem dX12_init_127 : decode cX12_init 127 = .ok (.sipush 480, 3) := by decide +kernel
theorem dX12_init_130 : decode cX12_init 130 = .ok (.iastore, 1) := by decide +kernel
theorem dX12_init_131 : decode cX12_init 131 = .ok (.dup, 1) := by decide +kernel
theorem dX12_init_132 : decode cX12_init 132 = .ok (.iconst 2, 1) := by decide +kernel
theorem dX12_init_133 : decode cX12_init 133 = .ok (.sipush 480, 3) := by decide +kernel
theorem dX12_init_136 : decode cX12_init 136 = .ok (.iastore, 1) := by decide +kernel
theorem dX12_init_137 : decode cX12_init 137 = .ok (.dup, 1) := by decide +kernel
theorem dX12_init_138 : decode cX12_init 138 = .ok (.iconst 3, 1) := by decide +kernel
theorem dX12_init_139 : decode cX12_init 139 = .ok (.sipush 480, 3) := by decide +kernel
theorem dX12_init_142 : decode cX12_init 142 = .ok (.iastore, 1) := by decide +kernel
theorem dX12_init_143 : decode cX12_init 143 = .ok (.dup, 1) := by decide +kernel
theorem dX12_init_144 : decode cX12_init 144 = .ok (.iconst 4, 1) := by decide +kernel
theorem dX12_init_145 : decode cX12_init 145 = .ok (.sipush 480, 3) := by decide +kernel
theorem dX12_init_148 : decode cX12_init 148 = .ok (.iastore, 1) := by decide +kernel
theorem dX12_init_149 : decode cX12_init 149 = .ok (.putfield 57, 3) := by decide +kernel
theorem dX12_init_152 : decode cX12_init 152 = .ok (.aload_n 0, 1) := by decide +kernel
theorem dX12_init_153 : decode cX12_init 153 = .ok (.iconst 5, 1) := by decide +kernel
theorem dX12_init_154 : decode cX12_init 154 = .ok (.newarray .int, 2) := by decide +kernel
theorem dX12_init_156 : decode cX12_init 156 = .ok (.dup, 1) := by decide +kernel
theorem dX12_init_157 : decode cX12_init 157 = .ok (.iconst 0, 1) := by decide +kernel
theorem dX12_init_158 : decode cX12_init 158 = .ok (.bipush 45, 2) := by decide +kernel
theorem dX12_init_160 : decode cX12_init 160 = .ok (.iastore, 1) := by decide +kernel
theorem dX12_init_161 : decode cX12_init 161 = .ok (.dup, 1) := by decide +kernel
theorem dX12_init_162 : decode cX12_init 162 = .ok (.iconst 1, 1) := by decide +kernel
theorem dX12_init_163 : decode cX12_init 163 = .ok (.bipush 45, 2) := by decide +kernel
theorem dX12_init_165 : decode cX12_init 165 = .ok (.iastore, 1) := by decide +kernel
theorem dX12_init_166 : decode cX12_init 166 = .ok (.dup, 1) := by decide +kernel
theorem dX12_init_167 : decode cX12_init 167 = .ok (.iconst 2, 1) := by decide +kernel
theorem dX12_init_168 : decode cX12_init 168 = .ok (.bipush 45, 2) := by decide +kernel
theorem dX12_init_170 : decode cX12_init 170 = .ok (.iastore, 1) := by decide +kernel
theorem dX12_init_171 : decode cX12_init 171 = .ok (.dup, 1) := by decide +kernel
theorem dX12_init_172 : decode cX12_init 172 = .ok (.iconst 3, 1) := by decide +kernel
theorem dX12_init_173 : decode cX12_init 173 = .ok (.bipush 45, 2) := by decide +kernel
theorem dX12_init_175 : decode cX12_init 175 = .ok (.iastore, 1) := by decide +kernel
theorem dX12_init_176 : decode cX12_init 176 = .ok (.dup, 1) := by decide +kernel
theorem dX12_init_177 : decode cX12_init 177 = .ok (.iconst 4, 1) := by decide +kernel
theorem dX12_init_178 : decode cX12_init 178 = .ok (.bipush 45, 2) := by decide +kernel
theorem dX12_init_180 : decode cX12_init 180 = .ok (.iastore, 1) := by decide +kernel
theorem dX12_init_181 : decode cX12_init 181 = .ok (.putfield 60, 3) := by decide +kernel
theorem dX12_init_184 : decode cX12_init 184 = .ok (.aload_n 0, 1) := by decide +kernel
theorem dX12_init_185 : decode cX12_init 185 = .ok (.iconst 5, 1) := by decide +kernel
theorem dX12_init_186 : decode cX12_init 186 = .ok (.newarray .int, 2) := by decide +kernel
theorem dX12_init_188 : decode cX12_init 188 = .ok (.dup, 1) := by decide +kernel
theorem dX12_init_189 : decode cX12_init 189 = .ok (.iconst 0, 1) := by decide +kernel
theorem dX12_init_190 : decode cX12_init 190 = .ok (.bipush 10, 2) := by decide +kernel
theorem dX12_init_192 : decode cX12_init 192 = .ok (.iastore, 1) := by decide +kernel
theorem dX12_init_193 : decode cX12_init 193 = .ok (.dup, 1) := by decide +kernel
theorem dX12_init_194 : decode cX12_init 194 = .ok (.iconst 1, 1) := by decide +kernel
theorem dX12_init_195 : decode cX12_init 195 = .ok (.bipush 10, 2) := by decide +kernel
theorem dX12_init_197 : decode cX12_init 197 = .ok (.iastore, 1) := by decide +kernel
theorem dX12_init_198 : decode cX12_init 198 = .ok (.dup, 1) := by decide +kernel
theorem dX12_init_199 : decode cX12_init 199 = .ok (.iconst 2, 1) := by decide +kernel
theorem dX12_init_200 : decode cX12_init 200 = .ok (.bipush 10, 2) := by decide +kernel
theorem dX12_init_202 : decode cX12_init 202 = .ok (.iastore, 1) := by decide +kernel
theorem dX12_init_203 : decode cX12_init 203 = .ok (.dup, 1) := by decide +kernel
theorem dX12_init_204 : decode cX12_init 204 = .ok (.iconst 3, 1) := by decide +kernel
theorem dX12_init_205 : decode cX12_init 205 = .ok (.bipush 10, 2) := by decide +kernel
theorem dX12_init_207 : decode cX12_init 207 = .ok (.iastore, 1) := by decide +kernel
theorem dX12_init_208 : decode cX12_init 208 = .ok (.dup, 1) := by decide +kernel
theorem dX12_init_209 : decode cX12_init 209 = .ok (.iconst 4, 1) := by decide +kernel
theorem dX12_init_210 : decode cX12_init 210 = .ok (.bipush 10, 2) := by decide +kernel
theorem dX12_init_212 : decode cX12_init 212 = .ok (.iastore, 1) := by decide +kernel
theorem dX12_init_213 : decode cX12_init 213 = .ok (.putfield 63, 3) := by decide +kernel
theorem dX12_init_216 : decode cX12_init 216 = .ok (.aload_n 0, 1) := by decide +kernel
theorem dX12_init_217 : decode cX12_init 217 = .ok (.ldc 66, 2) := by decide +kernel
theorem dX12_init_219 : decode cX12_init 219 = .ok (.putfield 67, 3) := by decide +kernel
theorem dX12_init_222 : decode cX12_init 222 = .ok (.aload_n 0, 1) := by decide +kernel
theorem dX12_init_223 : decode cX12_init 223 = .ok (.bipush 10, 2) := by decide +kernel
theorem dX12_init_225 : decode cX12_init 225 = .ok (.newarray .int, 2) := by decide +kernel
theorem dX12_init_227 : decode cX12_init 227 = .ok (.putfield 70, 3) := by decide +kernel
theorem dX12_init_230 : decode cX12_init 230 = .ok (.aload_n 0, 1) := by decide +kernel
theorem dX12_init_231 : decode cX12_init 231 = .ok (.bipush 10, 2) := by decide +kernel
theorem dX12_init_233 : decode cX12_init 233 = .ok (.newarray .int, 2) := by decide +kernel
theorem dX12_init_235 : decode cX12_init 235 = .ok (.putfield 73, 3) := by decide +kernel
theorem dX12_init_238 : decode cX12_init 238 = .ok (.aload_n 0, 1) := by decide +kernel
theorem dX12_init_239 : decode cX12_init 239 = .ok (.bipush 100, 2) := by decide +kernel
theorem dX12_init_241 : decode cX12_init 241 = .ok (.newarray .int, 2) := by decide +kernel
theorem dX12_init_243 : decode cX12_init 243 = .ok (.putfield 76, 3) := by decide +kernel
theorem dX12_init_246 : decode cX12_init 246 = .ok (.aload_n 0, 1) := by decide +kernel
theorem dX12_init_247 : decode cX12_init 247 = .ok (.iconst (-1), 1) := by decide +kernel
theorem dX12_init_248 : decode cX12_init 248 = .ok (.putfield 79, 3) := by decide +kernel
theorem dX12_init_251 : decode cX12_init 251 = .ok (.aload_n 0, 1) := by decide +kernel
theorem dX12_init_252 : decode cX12_init 252 = .ok (.bipush 36, 2) := by decide +kernel
theorem dX12_init_254 : decode cX12_init 254 = .ok (.newarray .int, 2) := by decide +kernel
theorem dX12_init_256 : decode cX12_init 256 = .ok (.putfield 82, 3) := by decide +kernel
theorem dX12_init_259 : decode cX12_init 259 = .ok (.iconst 0, 1) := by decide +kernel
theorem dX12_init_260 : decode cX12_init 260 = .ok (.istore_n 1, 1) := by decide +kernel
theorem dX12_init_261 : decode cX12_init 261 = .ok (.iload_n 1, 1) := by decide +kernel
theorem dX12_init_262 : decode cX12_init 262 = .ok (.bipush 6, 2) := by decide +kernel
theorem dX12_init_264 : decode cX12_init 264 = .ok (.if_icmp .ge 20, 3) := by decide +kernel
theorem dX12_init_267 : decode cX12_init 267 = .ok (.aload_n 0, 1) := by decide +kernel
theorem dX12_init_268 : decode cX12_init 268 = .ok (.getfield 13, 3) := by decide +kernel
theorem dX12_init_271 : decode cX12_init 271 = .ok (.bipush 93, 2) := by decide +kernel
theorem dX12_init_273 : decode cX12_init 273 = .ok (.iload_n 1, 1) := by decide +kernel
theorem dX12_init_274 : decode cX12_init 274 = .ok (.iadd, 1) := by decide +kernel
theorem dX12_init_275 : decode cX12_init 275 = .ok (.bipush 63, 2) := by decide +kernel
theorem dX12_init_277 : decode cX12_init 277 = .ok (.iastore, 1) := by decide +kernel
theorem dX12_init_278 : decode cX12_init 278 = .ok (.iinc 1 1, 3) := by decide +kernel
theorem dX12_init_281 : decode cX12_init 281 = .ok (.goto (-20), 3) := by decide +kernel
theorem dX12_init_284 : decode cX12_init 284 = .ok (.iconst 0, 1) := by decide +kernel
theorem dX12_init_285 : decode cX12_init 285 = .ok (.istore_n 1, 1) := by decide +kernel
theorem dX12_init_286 : decode cX12_init 286 = .ok (.iload_n 1, 1) := by decide +kernel
theorem dX12_init_287 : decode cX12_init 287 = .ok (.iconst 3, 1) := by decide +kernel
theorem dX12_init_288 : decode cX12_init 288 = .ok (.if_icmp .ge 19, 3) := by decide +kernel
theorem dX12_init_291 : decode cX12_init 291 = .ok (.aload_n 0, 1) := by decide +kernel
theorem dX12_init_292 : decode cX12_init 292 = .ok (.getfield 13, 3) := by decide +kernel
theorem dX12_init_295 : decode cX12_init 295 = .ok (.bipush 99, 2) := by decide +kernel
theorem dX12_init_297 : decode cX12_init 297 = .ok (.iload_n 1, 1) := by decide +kernel
theorem dX12_init_298 : decode cX12_init 298 = .ok (.iadd, 1) := by decide +kernel
theorem dX12_init_299 : decode cX12_init 299 = .ok (.iconst 3, 1) := by decide +kernel
theorem dX12_init_300 : decode cX12_init 300 = .ok (.iastore, 1) := by decide +kernel
theorem dX12_init_301 : decode cX12_init 301 = .ok (.iinc 1 1, 3) := by decide +kernel
theorem dX12_init_304 : decode cX12_init 304 = .ok (.goto (-18), 3) := by decide +kernel
theorem dX12_init_307 : decode cX12_init 307 = .ok (.return_, 1) := by decide +kernel
theorem dX12_keeps_0 : decode cX12_keeps 0 = .ok (.aload_n 0, 1) := by decide +kernel
theorem dX12_keeps_1 : decode cX12_keeps 1 = .ok (.getfield 85, 3) := by decide +kernel
theorem dX12_keeps_4 : decode cX12_keeps 4 = .ok (.bipush 20, 2) := by decide +kernel
theorem dX12_keeps_6 : decode cX12_keeps 6 = .ok (.if_icmp .ne 49, 3) := by decide +kernel
theorem dX12_keeps_9 : decode cX12_keeps 9 = .ok (.aload_n 0, 1) := by decide +kernel
theorem dX12_keeps_10 : decode cX12_keeps 10 = .ok (.dup, 1) := by decide +kernel
theorem dX12_keeps_11 : decode cX12_keeps 11 = .ok (.getfield 85, 3) := by decide +kernel
theorem dX12_keeps_14 : decode cX12_keeps 14 = .ok (.iconst 1, 1) := by decide +kernel
theorem dX12_keeps_15 : decode cX12_keeps 15 = .ok (.isub, 1) := by decide +kernel
theorem dX12_keeps_16 : decode cX12_keeps 16 = .ok (.putfield 85, 3) := by decide +kernel
theorem dX12_keeps_19 : decode cX12_keeps 19 = .ok (.iconst 0, 1) := by decide +kernel
theorem dX12_keeps_20 : decode cX12_keeps 20 = .ok (.istore_n 1, 1) := by decide +kernel
theorem dX12_keeps_21 : decode cX12_keeps 21 = .ok (.iload_n 1, 1) := by decide +kernel
theorem dX12_keeps_22 : decode cX12_keeps 22 = .ok (.sipush 128, 3) := by decide +kernel
theorem dX12_keeps_25 : decode cX12_keeps 25 = .ok (.aload_n 0, 1) := by decide +kernel
theorem dX12_keeps_26 : decode cX12_keeps 26 = .ok (.getfield 85, 3) := by decide +kernel
theorem dX12_keeps_29 : decode cX12_keeps 29 = .ok (.imul, 1) := by decide +kernel
theorem dX12_keeps_30 : decode cX12_keeps 30 = .ok (.if_icmp .ge 25, 3) := by decide +kernel
theorem dX12_keeps_33 : decode cX12_keeps 33 = .ok (.aload_n 0, 1) := by decide +kernel
theorem dX12_keeps_34 : decode cX12_keeps 34 = .ok (.getfield 17, 3) := by decide +kernel
theorem dX12_keeps_37 : decode cX12_keeps 37 = .ok (.iload_n 1, 1) := by decide +kernel
theorem dX12_keeps_38 : decode cX12_keeps 38 = .ok (.aload_n 0, 1) := by decide +kernel
theorem dX12_keeps_39 : decode cX12_keeps 39 = .ok (.getfield 17, 3) := by decide +kernel
theorem dX12_keeps_42 : decode cX12_keeps 42 = .ok (.iload_n 1, 1) := by decide +kernel
theorem dX12_keeps_43 : decode cX12_keeps 43 = .ok (.sipush 128, 3) := by decide +kernel
theorem dX12_keeps_46 : decode cX12_keeps 46 = .ok (.iadd, 1) := by decide +kernel
theorem dX12_keeps_47 : decode cX12_keeps 47 = .ok (.iaload, 1) := by decide +kernel
theorem dX12_keeps_48 : decode cX12_keeps 48 = .ok (.iastore, 1) := by decide +kernel
theorem dX12_keeps_49 : decode cX12_keeps 49 = .ok (.iinc 1 1, 3) := by decide +kernel
theorem dX12_keeps_52 : decode cX12_keeps 52 = .ok (.goto (-31), 3) := by decide +kernel
theorem dX12_keeps_55 : decode cX12_keeps 55 = .ok (.iconst 0, 1) := by decide +kernel
theorem dX12_keeps_56 : decode cX12_keeps 56 = .ok (.istore_n 1, 1) := by decide +kernel
theorem dX12_keeps_57 : decode cX12_keeps 57 = .ok (.iload_n 1, 1) := by decide +kernel
theorem dX12_keeps_58 : decode cX12_keeps 58 = .ok (.sipush 128, 3) := by decide +kernel
theorem dX12_keeps_61 : decode cX12_keeps 61 = .ok (.if_icmp .ge 30, 3) := by decide +kernel
theorem dX12_keeps_64 : decode cX12_keeps 64 = .ok (.aload_n 0, 1) := by decide +kernel
theorem dX12_keeps_65 : decode cX12_keeps 65 = .ok (.getfield 17, 3) := by decide +kernel
theorem dX12_keeps_68 : decode cX12_keeps 68 = .ok (.sipush 128, 3) := by decide +kernel
theorem dX12_keeps_71 : decode cX12_keeps 71 = .ok (.aload_n 0, 1) := by decide +kernel
theorem dX12_keeps_72 : decode cX12_keeps 72 = .ok (.getfield 85, 3) := by decide +kernel
theorem dX12_keeps_75 : decode cX12_keeps 75 = .ok (.imul, 1) := by decide +kernel
theorem dX12_keeps_76 : decode cX12_keeps 76 = .ok (.iload_n 1, 1) := by decide +kernel
theorem dX12_keeps_77 : decode cX12_keeps 77 = .ok (.iadd, 1) := by decide +kernel
theorem dX12_keeps_78 : decode cX12_keeps 78 = .ok (.aload_n 0, 1) := by decide +kernel
theorem dX12_keeps_79 : decode cX12_keeps 79 = .ok (.getfield 13, 3) := by decide +kernel
theorem dX12_keeps_82 : decode cX12_keeps 82 = .ok (.iload_n 1, 1) := by decide +kernel
theorem dX12_keeps_83 : decode cX12_keeps 83 = .ok (.iaload, 1) := by decide +kernel
theorem dX12_keeps_84 : decode cX12_keeps 84 = .ok (.iastore, 1) := by decide +kernel
theorem dX12_keeps_85 : decode cX12_keeps 85 = .ok (.iinc 1 1, 3) := by decide +kernel
theorem dX12_keeps_88 : decode cX12_keeps 88 = .ok (.goto (-31), 3) := by decide +kernel
theorem dX12_keeps_91 : decode cX12_keeps 91 = .ok (.aload_n 0, 1) := by decide +kernel
theorem dX12_keeps_92 : decode cX12_keeps 92 = .ok (.dup, 1) := by decide +kernel
theorem dX12_keeps_93 : decode cX12_keeps 93 = .ok (.getfield 85, 3) := by decide +kernel
theorem dX12_keeps_96 : decode cX12_keeps 96 = .ok (.iconst 1, 1) := by decide +kernel
theorem dX12_keeps_97 : decode cX12_keeps 97 = .ok (.iadd, 1) := by decide +kernel
theorem dX12_keeps_98 : decode cX12_keeps 98 = .ok (.putfield 85, 3) := by decide +kernel
theorem dX12_keeps_101 : decode cX12_keeps 101 = .ok (.aload_n 0, 1) := by decide +kernel
theorem dX12_keeps_102 : decode cX12_keeps 102 = .ok (.iconst (-1), 1) := by decide +kernel
theorem dX12_keeps_103 : decode cX12_keeps 103 = .ok (.putfield 30, 3) := by decide +kernel
theorem dX12_keeps_106 : decode cX12_keeps 106 = .ok (.return_, 1) := by decide +kernel
theorem dX12_undo_0 : decode cX12_undo 0 = .ok (.aload_n 0, 1) := by decide +kernel
theorem dX12_undo_1 : decode cX12_undo 1 = .ok (.iconst 0, 1) := by decide +kernel
theorem dX12_undo_2 : decode cX12_undo 2 = .ok (.putfield 1, 3) := by decide +kernel
theorem dX12_undo_5 : decode cX12_undo 5 = .ok (.aload_n 0, 1) := by decide +kernel
theorem dX12_undo_6 : decode cX12_undo 6 = .ok (.getfield 85, 3) := by decide +kernel
theorem dX12_undo_9 : decode cX12_undo 9 = .ok (.ifCond .ne 5, 3) := by decide +kernel
theorem dX12_undo_12 : decode cX12_undo 12 = .ok (.iconst (-1), 1) := by decide +kernel
theorem dX12_undo_13 : decode cX12_undo 13 = .ok (.ireturn, 1) := by decide +kernel
theorem dX12_undo_14 : decode cX12_undo 14 = .ok (.aload_n 0, 1) := by decide +kernel
theorem dX12_undo_15 : decode cX12_undo 15 = .ok (.dup, 1) := by decide +kernel
theorem dX12_undo_16 : decode cX12_undo 16 = .ok (.getfield 85, 3) := by decide +kernel
theorem dX12_undo_19 : decode cX12_undo 19 = .ok (.iconst 1, 1) := by decide +kernel
theorem dX12_undo_20 : decode cX12_undo 20 = .ok (.isub, 1) := by decide +kernel
theorem dX12_undo_21 : decode cX12_undo 21 = .ok (.putfield 85, 3) := by decide +kernel
theorem dX12_undo_24 : decode cX12_undo 24 = .ok (.iconst 0, 1) := by decide +kernel
theorem dX12_undo_25 : decode cX12_undo 25 = .ok (.istore_n 1, 1) := by decide +kernel
theorem dX12_undo_26 : decode cX12_undo 26 = .ok (.iload_n 1, 1) := by decide +kernel
theorem dX12_undo_27 : decode cX12_undo 27 = .ok (.sipush 128, 3) := by decide +kernel
theorem dX12_undo_30 : decode cX12_undo 30 = .ok (.if_icmp .ge 30, 3) := by decide +kernel
theorem dX12_undo_33 : decode cX12_undo 33 = .ok (.aload_n 0, 1) := by decide +kernel
theorem dX12_undo_34 : decode cX12_undo 34 = .ok (.getfield 13, 3) := by decide +kernel
theorem dX12_undo_37 : decode cX12_undo 37 = .ok (.iload_n 1, 1) := by decide +kernel
theorem dX12_undo_38 : decode cX12_undo 38 = .ok (.aload_n 0, 1) := by decide +kernel
theorem dX12_undo_39 : decode cX12_undo 39 = .ok (.getfield 17, 3) := by decide +kernel
theorem dX12_undo_42 : decode cX12_undo 42 = .ok (.sipush 128, 3) := by decide +kernel
theorem dX12_undo_45 : decode cX12_undo 45 = .ok (.aload_n 0, 1) := by decide +kernel
theorem dX12_undo_46 : decode cX12_undo 46 = .ok (.getfield 85, 3) := by decide +kernel
theorem dX12_undo_49 : decode cX12_undo 49 = .ok (.imul, 1) := by decide +kernel
theorem dX12_undo_50 : decode cX12_undo 50 = .ok (.iload_n 1, 1) := by decide +kernel
theorem dX12_undo_51 : decode cX12_undo 51 = .ok (.iadd, 1) := by decide +kernel
theorem dX12_undo_52 : decode cX12_undo 52 = .ok (.iaload, 1) := by decide +kernel
theorem dX12_undo_53 : decode cX12_undo 53 = .ok (.iastore, 1) := by decide +kernel
theorem dX12_undo_54 : decode cX12_undo 54 = .ok (.iinc 1 1, 3) := by decide +kernel
theorem dX12_undo_57 : decode cX12_undo 57 = .ok (.goto (-31), 3) := by decide +kernel
theorem dX12_undo_60 : decode cX12_undo 60 = .ok (.aload_n 0, 1) := by decide +kernel
theorem dX12_undo_61 : decode cX12_undo 61 = .ok (.iconst (-1), 1) := by decide +kernel
theorem dX12_undo_62 : decode cX12_undo 62 = .ok (.putfield 30, 3) := by decide +kernel
theorem dX12_undo_65 : decode cX12_undo 65 = .ok (.aload_n 0, 1) := by decide +kernel
theorem dX12_undo_66 : decode cX12_undo 66 = .ok (.getfield 85, 3) := by decide +kernel
theorem dX12_undo_69 : decode cX12_undo 69 = .ok (.ireturn, 1) := by decide +kernel
theorem dX12_many_0 : decode cX12_many 0 = .ok (.aload_n 0, 1) := by decide +kernel
theorem dX12_many_1 : decode cX12_many 1 = .ok (.getfield 13, 3) := by decide +kernel
theorem dX12_many_4 : decode cX12_many 4 = .ok (.bipush 125, 2) := by decide +kernel
theorem dX12_many_6 : decode cX12_many 6 = .ok (.iaload, 1) := by decide +kernel
theorem dX12_many_7 : decode cX12_many 7 = .ok (.ireturn, 1) := by decide +kernel
set_option maxRecDepth 20000 in
theorem ggX12_noLesson_X12_many : GoodIn wsX12_noLesson wsX12_many := goodIn_r _ [5, 6, 15, 16, 17, 18, 19, 20, 21, 22, 23, 24, 25, 26, 27, 28, 29, 30, 31, 32, 33, 34, 35, 36, 37, 38, 39, 40, 41, 42, 43, 44] (by decide +kernel) (by decide +kernel)
set_option maxRecDepth 20000 in
theorem gX12_noLesson_X12_many : GoodIn wsX12_noLesson (wsV RX12 88 RX12 yX12_many wsX12_many) := goodIn_app (goodIn_of _ (by decide +kernel)) ggX12_noLesson_X12_many
set_option maxRecDepth 20000 in
theorem ggX12_noLesson_X12_in : GoodIn wsX12_noLesson wsX12_in := goodIn_r _ [9] (by decide +kernel) (by decide +kernel)
set_option maxRecDepth 20000 in
theorem gX12_noLesson_X12_in : GoodIn wsX12_noLesson (va_wsS RX12 92 yX12_in wsX12_in) := goodIn_app (goodIn_of _ (by decide +kernel)) ggX12_noLesson_X12_in
set_option maxRecDepth 20000 in
theorem ggX12_noLesson_X12_fails : GoodIn wsX12_noLesson wsX12_fails := goodIn_r _ [13, 14, 15, 16, 17, 18, 19, 20, 21, 22, 23, 24, 25, 26, 27, 28, 29, 30, 31, 32, 33, 34, 35, 36, 37, 38, 39, 40, 41, 42, 43, 44] (by decide +kernel) (by decide +kernel)
set_option maxRecDepth 20000 in
theorem gX12_noLesson_X12_fails : GoodIn wsX12_noLesson (wsV RX12 96 RX12 yX12_fails wsX12_fails) := goodIn_app (goodIn_of _ (by decide +kernel)) ggX12_noLesson_X12_fails
theorem dX12_noLesson_0 : decode cX12_noLesson 0 = .ok (.aload_n 0, 1) := by decide +kernel
theorem dX12_noLesson_1 : decode cX12_noLesson 1 = .ok (.iload_n 1, 1) := by decide +kernel
theorem dX12_noLesson_2 : decode cX12_noLesson 2 = .ok (.iconst 0, 1) := by decide +kernel
theorem dX12_noLesson_3 : decode cX12_noLesson 3 = .ok (.aload_n 0, 1) := by decide +kernel
theorem dX12_noLesson_4 : decode cX12_noLesson 4 = .ok (.invokevirtual 88, 3) := by decide +kernel
theorem dX12_noLesson_7 : decode cX12_noLesson 7 = .ok (.iconst 1, 1) := by decide +kernel
theorem dX12_noLesson_8 : decode cX12_noLesson 8 = .ok (.isub, 1) := by decide +kernel
theorem dX12_noLesson_9 : decode cX12_noLesson 9 = .ok (.invokestatic 92, 3) := by decide +kernel
theorem dX12_noLesson_12 : decode cX12_noLesson 12 = .ok (.iload_n 2, 1) := by decide +kernel
theorem dX12_noLesson_13 : decode cX12_noLesson 13 = .ok (.invokevirtual 96, 3) := by decide +kernel
theorem dX12_noLesson_16 : decode cX12_noLesson 16 = .ok (.ireturn, 1) := by decide +kernel
set_option maxRecDepth 20000 in
theorem ggX12_noTable_X12_fails : GoodIn wsX12_noTable wsX12_fails := goodIn_r _ [6, 7, 8, 9, 10, 11, 12, 13, 14, 15, 16, 17, 18, 19, 20, 21, 22, 23, 24, 25, 26, 27, 28, 29, 30, 31, 32, 33, 34, 35, 36, 37] (by decide +kernel) (by decide +kernel)
set_option maxRecDepth 20000 in
theorem gX12_noTable_X12_fails : GoodIn wsX12_noTable (wsV RX12 96 RX12 yX12_fails wsX12_fails) := goodIn_app (goodIn_of _ (by decide +kernel)) ggX12_noTable_X12_fails
theorem dX12_noTable_0 : decode cX12_noTable 0 = .ok (.aload_n 0, 1) := by decide +kernel
theorem dX12_noTable_1 : decode cX12_noTable 1 = .ok (.aload_n 0, 1) := by decide +kernel
theorem dX12_noTable_2 : decode cX12_noTable 2 = .ok (.getfield 13, 3) := by decide +kernel
theorem dX12_noTable_5 : decode cX12_noTable 5 = .ok (.bipush 127, 2) := by decide +kernel
theorem dX12_noTable_7 : decode cX12_noTable 7 = .ok (.iaload, 1) := by decide +kernel
theorem dX12_noTable_8 : decode cX12_noTable 8 = .ok (.iconst 1, 1) := by decide +kernel
theorem dX12_noTable_9 : decode cX12_noTable 9 = .ok (.if_icmp .ne 7, 3) := by decide +kernel
theorem dX12_noTable_12 : decode cX12_noTable 12 = .ok (.iconst 1, 1) := by decide +kernel
theorem dX12_noTable_13 : decode cX12_noTable 13 = .ok (.goto 4, 3) := by decide +kernel
theorem dX12_noTable_16 : decode cX12_noTable 16 = .ok (.iconst 0, 1) := by decide +kernel
theorem dX12_noTable_17 : decode cX12_noTable 17 = .ok (.iload_n 1, 1) := by decide +kernel
theorem dX12_noTable_18 : decode cX12_noTable 18 = .ok (.invokevirtual 96, 3) := by decide +kernel
theorem dX12_noTable_21 : decode cX12_noTable 21 = .ok (.ireturn, 1) := by decide +kernel
set_option maxRecDepth 20000 in
theorem ggX12_lesson_X12_in : GoodIn wsX12_lesson wsX12_in := goodIn_r _ [6] (by decide +kernel) (by decide +kernel)
set_option maxRecDepth 20000 in
theorem gX12_lesson_X12_in : GoodIn wsX12_lesson (va_wsS RX12 92 yX12_in wsX12_in) := goodIn_app (goodIn_of _ (by decide +kernel)) ggX12_lesson_X12_in
set_option maxRecDepth 20000 in
theorem ggX12_lesson_X12_fails : GoodIn wsX12_lesson wsX12_fails := goodIn_r _ [10, 1, 22, 23, 24, 25, 26, 27, 28, 29, 30, 31, 32, 33, 34, 35, 36, 37, 38, 39, 40, 41, 42, 43, 44, 45, 46, 47, 48, 49, 50, 51] (by decide +kernel) (by decide +kernel)
set_option maxRecDepth 20000 in
theorem gX12_lesson_X12_fails : GoodIn wsX12_lesson (wsV RX12 96 RX12 yX12_fails wsX12_fails) := goodIn_app (goodIn_of _ (by decide +kernel)) ggX12_lesson_X12_fails
set_option maxRecDepth 20000 in
theorem ggX12_lesson_X12_many : GoodIn wsX12_lesson wsX12_many := goodIn_r _ [14, 2, 22, 23, 24, 25, 26, 27, 28, 29, 30, 31, 32, 33, 34, 35, 36, 37, 38, 39, 40, 41, 42, 43, 44, 45, 46, 47, 48, 49, 50, 51] (by decide +kernel) (by decide +kernel)
set_option maxRecDepth 20000 in
theorem gX12_lesson_X12_many : GoodIn wsX12_lesson (wsV RX12 88 RX12 yX12_many wsX12_many) := goodIn_app (goodIn_of _ (by decide +kernel)) ggX12_lesson_X12_many
set_option maxRecDepth 20000 in
theorem ggX12_lesson_X12_keeps : GoodIn wsX12_lesson wsX12_keeps := goodIn_r _ [18, 19, 20, 2, 21, 22, 23, 24, 25, 26, 27, 28, 29, 30, 31, 32, 33, 34, 35, 36, 37, 38, 39, 40, 41, 42, 43, 44, 45, 46, 47, 48, 49, 50, 51] (by decide +kernel) (by decide +kernel)
set_option maxRecDepth 20000 in
theorem gX12_lesson_X12_keeps : GoodIn wsX12_lesson (wsV RX12 100 RX12 yX12_keeps wsX12_keeps) := goodIn_app (goodIn_of _ (by decide +kernel)) ggX12_lesson_X12_keeps
theorem dX12_lesson_0 : decode cX12_lesson 0 = .ok (.aload_n 0, 1) := by decide +kernel
theorem dX12_lesson_1 : decode cX12_lesson 1 = .ok (.iconst 0, 1) := by decide +kernel
theorem dX12_lesson_2 : decode cX12_lesson 2 = .ok (.putfield 1, 3) := by decide +kernel
theorem dX12_lesson_5 : decode cX12_lesson 5 = .ok (.aload_n 0, 1) := by decide +kernel
theorem dX12_lesson_6 : decode cX12_lesson 6 = .ok (.iload_n 1, 1) := by decide +kernel
theorem dX12_lesson_7 : decode cX12_lesson 7 = .ok (.iconst 0, 1) := by decide +kernel
theorem dX12_lesson_8 : decode cX12_lesson 8 = .ok (.iconst 3, 1) := by decide +kernel
theorem dX12_lesson_9 : decode cX12_lesson 9 = .ok (.invokestatic 92, 3) := by decide +kernel
theorem dX12_lesson_12 : decode cX12_lesson 12 = .ok (.ifCond .eq 35, 3) := by decide +kernel
theorem dX12_lesson_15 : decode cX12_lesson 15 = .ok (.iload_n 2, 1) := by decide +kernel
theorem dX12_lesson_16 : decode cX12_lesson 16 = .ok (.iconst 0, 1) := by decide +kernel
theorem dX12_lesson_17 : decode cX12_lesson 17 = .ok (.iconst 5, 1) := by decide +kernel
theorem dX12_lesson_18 : decode cX12_lesson 18 = .ok (.invokestatic 92, 3) := by decide +kernel
theorem dX12_lesson_21 : decode cX12_lesson 21 = .ok (.ifCond .eq 26, 3) := by decide +kernel
theorem dX12_lesson_24 : decode cX12_lesson 24 = .ok (.iload_n 3, 1) := by decide +kernel
theorem dX12_lesson_25 : decode cX12_lesson 25 = .ok (.iconst 0, 1) := by decide +kernel
theorem dX12_lesson_26 : decode cX12_lesson 26 = .ok (.iconst 5, 1) := by decide +kernel
theorem dX12_lesson_27 : decode cX12_lesson 27 = .ok (.invokestatic 92, 3) := by decide +kernel
theorem dX12_lesson_30 : decode cX12_lesson 30 = .ok (.ifCond .eq 17, 3) := by decide +kernel
theorem dX12_lesson_33 : decode cX12_lesson 33 = .ok (.iload 4, 2) := by decide +kernel
theorem dX12_lesson_35 : decode cX12_lesson 35 = .ok (.iconst (-1), 1) := by decide +kernel
theorem dX12_lesson_36 : decode cX12_lesson 36 = .ok (.iconst 2, 1) := by decide +kernel
theorem dX12_lesson_37 : decode cX12_lesson 37 = .ok (.invokestatic 92, 3) := by decide +kernel
theorem dX12_lesson_40 : decode cX12_lesson 40 = .ok (.ifCond .eq 7, 3) := by decide +kernel
theorem dX12_lesson_43 : decode cX12_lesson 43 = .ok (.iconst 1, 1) := by decide +kernel
theorem dX12_lesson_44 : decode cX12_lesson 44 = .ok (.goto 4, 3) := by decide +kernel
theorem dX12_lesson_47 : decode cX12_lesson 47 = .ok (.iconst 0, 1) := by decide +kernel
theorem dX12_lesson_48 : decode cX12_lesson 48 = .ok (.iconst 1, 1) := by decide +kernel
theorem dX12_lesson_49 : decode cX12_lesson 49 = .ok (.invokevirtual 96, 3) := by decide +kernel
theorem dX12_lesson_52 : decode cX12_lesson 52 = .ok (.ifCond .eq 5, 3) := by decide +kernel
theorem dX12_lesson_55 : decode cX12_lesson 55 = .ok (.iconst 0, 1) := by decide +kernel
theorem dX12_lesson_56 : decode cX12_lesson 56 = .ok (.ireturn, 1) := by decide +kernel
theorem dX12_lesson_57 : decode cX12_lesson 57 = .ok (.aload_n 0, 1) := by decide +kernel
theorem dX12_lesson_58 : decode cX12_lesson 58 = .ok (.aload_n 0, 1) := by decide +kernel
theorem dX12_lesson_59 : decode cX12_lesson 59 = .ok (.getfield 13, 3) := by decide +kernel
theorem dX12_lesson_62 : decode cX12_lesson 62 = .ok (.bipush 93, 2) := by decide +kernel
theorem dX12_lesson_64 : decode cX12_lesson 64 = .ok (.iload_n 2, 1) := by decide +kernel
theorem dX12_lesson_65 : decode cX12_lesson 65 = .ok (.iadd, 1) := by decide +kernel
theorem dX12_lesson_66 : decode cX12_lesson 66 = .ok (.iaload, 1) := by decide +kernel
theorem dX12_lesson_67 : decode cX12_lesson 67 = .ok (.iload_n 3, 1) := by decide +kernel
theorem dX12_lesson_68 : decode cX12_lesson 68 = .ok (.ishr, 1) := by decide +kernel
theorem dX12_lesson_69 : decode cX12_lesson 69 = .ok (.iconst 1, 1) := by decide +kernel
theorem dX12_lesson_70 : decode cX12_lesson 70 = .ok (.iand, 1) := by decide +kernel
theorem dX12_lesson_71 : decode cX12_lesson 71 = .ok (.iconst 1, 1) := by decide +kernel
theorem dX12_lesson_72 : decode cX12_lesson 72 = .ok (.if_icmp .ne 7, 3) := by decide +kernel
theorem dX12_lesson_75 : decode cX12_lesson 75 = .ok (.iconst 1, 1) := by decide +kernel
theorem dX12_lesson_76 : decode cX12_lesson 76 = .ok (.goto 4, 3) := by decide +kernel
theorem dX12_lesson_79 : decode cX12_lesson 79 = .ok (.iconst 0, 1) := by decide +kernel
theorem dX12_lesson_80 : decode cX12_lesson 80 = .ok (.iconst 1, 1) := by decide +kernel
theorem dX12_lesson_81 : decode cX12_lesson 81 = .ok (.invokevirtual 96, 3) := by decide +kernel
theorem dX12_lesson_84 : decode cX12_lesson 84 = .ok (.ifCond .ne 25, 3) := by decide +kernel
theorem dX12_lesson_87 : decode cX12_lesson 87 = .ok (.aload_n 0, 1) := by decide +kernel
theorem dX12_lesson_88 : decode cX12_lesson 88 = .ok (.aload_n 0, 1) := by decide +kernel
theorem dX12_lesson_89 : decode cX12_lesson 89 = .ok (.invokevirtual 88, 3) := by decide +kernel
theorem dX12_lesson_92 : decode cX12_lesson 92 = .ok (.bipush 9, 2) := by decide +kernel
theorem dX12_lesson_94 : decode cX12_lesson 94 = .ok (.if_icmp .ge 7, 3) := by decide +kernel
theorem dX12_lesson_97 : decode cX12_lesson 97 = .ok (.iconst 1, 1) := by decide +kernel
theorem dX12_lesson_98 : decode cX12_lesson 98 = .ok (.goto 4, 3) := by decide +kernel
theorem dX12_lesson_101 : decode cX12_lesson 101 = .ok (.iconst 0, 1) := by decide +kernel
theorem dX12_lesson_102 : decode cX12_lesson 102 = .ok (.iconst 2, 1) := by decide +kernel
theorem dX12_lesson_103 : decode cX12_lesson 103 = .ok (.invokevirtual 96, 3) := by decide +kernel
theorem dX12_lesson_106 : decode cX12_lesson 106 = .ok (.ifCond .eq 5, 3) := by decide +kernel
theorem dX12_lesson_109 : decode cX12_lesson 109 = .ok (.iconst 0, 1) := by decide +kernel
theorem dX12_lesson_110 : decode cX12_lesson 110 = .ok (.ireturn, 1) := by decide +kernel
theorem dX12_lesson_111 : decode cX12_lesson 111 = .ok (.aload_n 0, 1) := by decide +kernel
theorem dX12_lesson_112 : decode cX12_lesson 112 = .ok (.invokevirtual 100, 3) := by decide +kernel
theorem dX12_lesson_115 : decode cX12_lesson 115 = .ok (.aload_n 0, 1) := by decide +kernel
theorem dX12_lesson_116 : decode cX12_lesson 116 = .ok (.invokevirtual 88, 3) := by decide +kernel
theorem dX12_lesson_119 : decode cX12_lesson 119 = .ok (.istore 6, 2) := by decide +kernel
theorem dX12_lesson_121 : decode cX12_lesson 121 = .ok (.aload_n 0, 1) := by decide +kernel
theorem dX12_lesson_122 : decode cX12_lesson 122 = .ok (.getfield 13, 3) := by decide +kernel
theorem dX12_lesson_125 : decode cX12_lesson 125 = .ok (.iconst 0, 1) := by decide +kernel
theorem dX12_lesson_126 : decode cX12_lesson 126 = .ok (.iload 6, 2) := by decide +kernel
theorem dX12_lesson_128 : decode cX12_lesson 128 = .ok (.iadd, 1) := by decide +kernel
theorem dX12_lesson_129 : decode cX12_lesson 129 = .ok (.iload_n 1, 1) := by decide +kernel
theorem dX12_lesson_130 : decode cX12_lesson 130 = .ok (.iastore, 1) := by decide +kernel
theorem dX12_lesson_131 : decode cX12_lesson 131 = .ok (.aload_n 0, 1) := by decide +kernel
theorem dX12_lesson_132 : decode cX12_lesson 132 = .ok (.getfield 13, 3) := by decide +kernel
theorem dX12_lesson_135 : decode cX12_lesson 135 = .ok (.bipush 9, 2) := by decide +kernel
theorem dX12_lesson_137 : decode cX12_lesson 137 = .ok (.iload 6, 2) := by decide +kernel
theorem dX12_lesson_139 : decode cX12_lesson 139 = .ok (.iadd, 1) := by decide +kernel
theorem dX12_lesson_140 : decode cX12_lesson 140 = .ok (.iload_n 2, 1) := by decide +kernel
theorem dX12_lesson_141 : decode cX12_lesson 141 = .ok (.iastore, 1) := by decide +kernel
theorem dX12_lesson_142 : decode cX12_lesson 142 = .ok (.aload_n 0, 1) := by decide +kernel
theorem dX12_lesson_143 : decode cX12_lesson 143 = .ok (.getfield 13, 3) := by decide +kernel
theorem dX12_lesson_146 : decode cX12_lesson 146 = .ok (.bipush 18, 2) := by decide +kernel
theorem dX12_lesson_148 : decode cX12_lesson 148 = .ok (.iload 6, 2) := by decide +kernel
theorem dX12_lesson_150 : decode cX12_lesson 150 = .ok (.iadd, 1) := by decide +kernel
theorem dX12_lesson_151 : decode cX12_lesson 151 = .ok (.iload_n 3, 1) := by decide +kernel
theorem dX12_lesson_152 : decode cX12_lesson 152 = .ok (.iastore, 1) := by decide +kernel
theorem dX12_lesson_153 : decode cX12_lesson 153 = .ok (.aload_n 0, 1) := by decide +kernel
theorem dX12_lesson_154 : decode cX12_lesson 154 = .ok (.getfield 13, 3) := by decide +kernel
theorem dX12_lesson_157 : decode cX12_lesson 157 = .ok (.bipush 27, 2) := by decide +kernel
theorem dX12_lesson_159 : decode cX12_lesson 159 = .ok (.iload 6, 2) := by decide +kernel
theorem dX12_lesson_161 : decode cX12_lesson 161 = .ok (.iadd, 1) := by decide +kernel
theorem dX12_lesson_162 : decode cX12_lesson 162 = .ok (.iload 4, 2) := by decide +kernel
theorem dX12_lesson_164 : decode cX12_lesson 164 = .ok (.iastore, 1) := by decide +kernel
theorem dX12_lesson_165 : decode cX12_lesson 165 = .ok (.aload_n 0, 1) := by decide +kernel
theorem dX12_lesson_166 : decode cX12_lesson 166 = .ok (.getfield 13, 3) := by decide +kernel
theorem dX12_lesson_169 : decode cX12_lesson 169 = .ok (.bipush 36, 2) := by decide +kernel
theorem dX12_lesson_171 : decode cX12_lesson 171 = .ok (.iload 6, 2) := by decide +kernel
theorem dX12_lesson_173 : decode cX12_lesson 173 = .ok (.iadd, 1) := by decide +kernel
theorem dX12_lesson_174 : decode cX12_lesson 174 = .ok (.iload 5, 2) := by decide +kernel
theorem dX12_lesson_176 : decode cX12_lesson 176 = .ok (.ifCond .eq 7, 3) := by decide +kernel
theorem dX12_lesson_179 : decode cX12_lesson 179 = .ok (.iconst 1, 1) := by decide +kernel
theorem dX12_lesson_180 : decode cX12_lesson 180 = .ok (.goto 4, 3) := by decide +kernel
theorem dX12_lesson_183 : decode cX12_lesson 183 = .ok (.iconst 0, 1) := by decide +kernel
theorem dX12_lesson_184 : decode cX12_lesson 184 = .ok (.iastore, 1) := by decide +kernel
theorem dX12_lesson_185 : decode cX12_lesson 185 = .ok (.aload_n 0, 1) := by decide +kernel
theorem dX12_lesson_186 : decode cX12_lesson 186 = .ok (.getfield 13, 3) := by decide +kernel
theorem dX12_lesson_189 : decode cX12_lesson 189 = .ok (.bipush 125, 2) := by decide +kernel
theorem dX12_lesson_191 : decode cX12_lesson 191 = .ok (.dup2, 1) := by decide +kernel
theorem dX12_lesson_192 : decode cX12_lesson 192 = .ok (.iaload, 1) := by decide +kernel
theorem dX12_lesson_193 : decode cX12_lesson 193 = .ok (.iconst 1, 1) := by decide +kernel
theorem dX12_lesson_194 : decode cX12_lesson 194 = .ok (.iadd, 1) := by decide +kernel
theorem dX12_lesson_195 : decode cX12_lesson 195 = .ok (.iastore, 1) := by decide +kernel
theorem dX12_lesson_196 : decode cX12_lesson 196 = .ok (.aload_n 0, 1) := by decide +kernel
theorem dX12_lesson_197 : decode cX12_lesson 197 = .ok (.getfield 13, 3) := by decide +kernel
theorem dX12_lesson_200 : decode cX12_lesson 200 = .ok (.bipush 127, 2) := by decide +kernel
theorem dX12_lesson_202 : decode cX12_lesson 202 = .ok (.iconst 0, 1) := by decide +kernel
theorem dX12_lesson_203 : decode cX12_lesson 203 = .ok (.iastore, 1) := by decide +kernel
theorem dX12_lesson_204 : decode cX12_lesson 204 = .ok (.iload 6, 2) := by decide +kernel
theorem dX12_lesson_206 : decode cX12_lesson 206 = .ok (.ireturn, 1) := by decide +kernel
theorem dX12_closes_0 : decode cX12_closes 0 = .ok (.iload_n 2, 1) := by decide +kernel
theorem dX12_closes_1 : decode cX12_closes 1 = .ok (.istore 4, 2) := by decide +kernel
theorem dX12_closes_3 : decode cX12_closes 3 = .ok (.iload 4, 2) := by decide +kernel
theorem dX12_closes_5 : decode cX12_closes 5 = .ok (.iconst 1, 1) := by decide +kernel
theorem dX12_closes_6 : decode cX12_closes 6 = .ok (.iadd, 1) := by decide +kernel
theorem dX12_closes_7 : decode cX12_closes 7 = .ok (.iload_n 3, 1) := by decide +kernel
theorem dX12_closes_8 : decode cX12_closes 8 = .ok (.if_icmp .ge 29, 3) := by decide +kernel
theorem dX12_closes_11 : decode cX12_closes 11 = .ok (.aload_n 0, 1) := by decide +kernel
theorem dX12_closes_12 : decode cX12_closes 12 = .ok (.getfield 13, 3) := by decide +kernel
theorem dX12_closes_15 : decode cX12_closes 15 = .ok (.iload_n 1, 1) := by decide +kernel
theorem dX12_closes_16 : decode cX12_closes 16 = .ok (.iload 4, 2) := by decide +kernel
theorem dX12_closes_18 : decode cX12_closes 18 = .ok (.iadd, 1) := by decide +kernel
theorem dX12_closes_19 : decode cX12_closes 19 = .ok (.aload_n 0, 1) := by decide +kernel
theorem dX12_closes_20 : decode cX12_closes 20 = .ok (.getfield 13, 3) := by decide +kernel
theorem dX12_closes_23 : decode cX12_closes 23 = .ok (.iload_n 1, 1) := by decide +kernel
theorem dX12_closes_24 : decode cX12_closes 24 = .ok (.iload 4, 2) := by decide +kernel
theorem dX12_closes_26 : decode cX12_closes 26 = .ok (.iadd, 1) := by decide +kernel
theorem dX12_closes_27 : decode cX12_closes 27 = .ok (.iconst 1, 1) := by decide +kernel
theorem dX12_closes_28 : decode cX12_closes 28 = .ok (.iadd, 1) := by decide +kernel
theorem dX12_closes_29 : decode cX12_closes 29 = .ok (.iaload, 1) := by decide +kernel
theorem dX12_closes_30 : decode cX12_closes 30 = .ok (.iastore, 1) := by decide +kernel
theorem dX12_closes_31 : decode cX12_closes 31 = .ok (.iinc 4 1, 3) := by decide +kernel
theorem dX12_closes_34 : decode cX12_closes 34 = .ok (.goto (-31), 3) := by decide +kernel
theorem dX12_closes_37 : decode cX12_closes 37 = .ok (.return_, 1) := by decide +kernel
set_option maxRecDepth 20000 in
theorem ggX12_dropsWish_X12_closes : GoodIn wsX12_dropsWish wsX12_closes := goodIn_r _ [6, 1, 7, 8, 9, 10, 11, 12, 13, 14, 15, 16, 17, 18, 19, 20, 21, 22, 23, 24, 25, 26, 27, 28, 29, 30, 31, 32, 33, 34, 35, 36] (by decide +kernel) (by decide +kernel)
set_option maxRecDepth 20000 in
theorem gX12_dropsWish_X12_closes : GoodIn wsX12_dropsWish (wsV RX12 103 RX12 yX12_closes wsX12_closes) := goodIn_app (goodIn_of _ (by decide +kernel)) ggX12_dropsWish_X12_closes
theorem dX12_dropsWish_0 : decode cX12_dropsWish 0 = .ok (.aload_n 0, 1) := by decide +kernel
theorem dX12_dropsWish_1 : decode cX12_dropsWish 1 = .ok (.bipush 45, 2) := by decide +kernel
theorem dX12_dropsWish_3 : decode cX12_dropsWish 3 = .ok (.iload_n 1, 1) := by decide +kernel
theorem dX12_dropsWish_4 : decode cX12_dropsWish 4 = .ok (.bipush 12, 2) := by decide +kernel
theorem dX12_dropsWish_6 : decode cX12_dropsWish 6 = .ok (.invokevirtual 103, 3) := by decide +kernel
theorem dX12_dropsWish_9 : decode cX12_dropsWish 9 = .ok (.aload_n 0, 1) := by decide +kernel
theorem dX12_dropsWish_10 : decode cX12_dropsWish 10 = .ok (.bipush 57, 2) := by decide +kernel
theorem dX12_dropsWish_12 : decode cX12_dropsWish 12 = .ok (.iload_n 1, 1) := by decide +kernel
theorem dX12_dropsWish_13 : decode cX12_dropsWish 13 = .ok (.bipush 12, 2) := by decide +kernel
theorem dX12_dropsWish_15 : decode cX12_dropsWish 15 = .ok (.invokevirtual 103, 3) := by decide +kernel
theorem dX12_dropsWish_18 : decode cX12_dropsWish 18 = .ok (.aload_n 0, 1) := by decide +kernel
theorem dX12_dropsWish_19 : decode cX12_dropsWish 19 = .ok (.bipush 69, 2) := by decide +kernel
theorem dX12_dropsWish_21 : decode cX12_dropsWish 21 = .ok (.iload_n 1, 1) := by decide +kernel
theorem dX12_dropsWish_22 : decode cX12_dropsWish 22 = .ok (.bipush 12, 2) := by decide +kernel
theorem dX12_dropsWish_24 : decode cX12_dropsWish 24 = .ok (.invokevirtual 103, 3) := by decide +kernel
theorem dX12_dropsWish_27 : decode cX12_dropsWish 27 = .ok (.aload_n 0, 1) := by decide +kernel
theorem dX12_dropsWish_28 : decode cX12_dropsWish 28 = .ok (.bipush 81, 2) := by decide +kernel
theorem dX12_dropsWish_30 : decode cX12_dropsWish 30 = .ok (.iload_n 1, 1) := by decide +kernel
theorem dX12_dropsWish_31 : decode cX12_dropsWish 31 = .ok (.bipush 12, 2) := by decide +kernel
theorem dX12_dropsWish_33 : decode cX12_dropsWish 33 = .ok (.invokevirtual 103, 3) := by decide +kernel
theorem dX12_dropsWish_36 : decode cX12_dropsWish 36 = .ok (.aload_n 0, 1) := by decide +kernel
theorem dX12_dropsWish_37 : decode cX12_dropsWish 37 = .ok (.getfield 13, 3) := by decide +kernel
theorem dX12_dropsWish_40 : decode cX12_dropsWish 40 = .ok (.bipush 126, 2) := by decide +kernel
theorem dX12_dropsWish_42 : decode cX12_dropsWish 42 = .ok (.dup2, 1) := by decide +kernel
theorem dX12_dropsWish_43 : decode cX12_dropsWish 43 = .ok (.iaload, 1) := by decide +kernel
theorem dX12_dropsWish_44 : decode cX12_dropsWish 44 = .ok (.iconst 1, 1) := by decide +kernel
theorem dX12_dropsWish_45 : decode cX12_dropsWish 45 = .ok (.isub, 1) := by decide +kernel
theorem dX12_dropsWish_46 : decode cX12_dropsWish 46 = .ok (.iastore, 1) := by decide +kernel
theorem dX12_dropsWish_47 : decode cX12_dropsWish 47 = .ok (.return_, 1) := by decide +kernel
theorem dX12_isOfLesson_0 : decode cX12_isOfLesson 0 = .ok (.iload_n 1, 1) := by decide +kernel
theorem dX12_isOfLesson_1 : decode cX12_isOfLesson 1 = .ok (.iconst 1, 1) := by decide +kernel
theorem dX12_isOfLesson_2 : decode cX12_isOfLesson 2 = .ok (.if_icmp .le 7, 3) := by decide +kernel
theorem dX12_isOfLesson_5 : decode cX12_isOfLesson 5 = .ok (.iconst 1, 1) := by decide +kernel
theorem dX12_isOfLesson_6 : decode cX12_isOfLesson 6 = .ok (.goto 4, 3) := by decide +kernel
theorem dX12_isOfLesson_9 : decode cX12_isOfLesson 9 = .ok (.iconst 0, 1) := by decide +kernel
theorem dX12_isOfLesson_10 : decode cX12_isOfLesson 10 = .ok (.ireturn, 1) := by decide +kernel
theorem dX12_isOfTwo_0 : decode cX12_isOfTwo 0 = .ok (.iload_n 1, 1) := by decide +kernel
theorem dX12_isOfTwo_1 : decode cX12_isOfTwo 1 = .ok (.iconst 3, 1) := by decide +kernel
theorem dX12_isOfTwo_2 : decode cX12_isOfTwo 2 = .ok (.if_icmp .le 7, 3) := by decide +kernel
theorem dX12_isOfTwo_5 : decode cX12_isOfTwo 5 = .ok (.iconst 1, 1) := by decide +kernel
theorem dX12_isOfTwo_6 : decode cX12_isOfTwo 6 = .ok (.goto 4, 3) := by decide +kernel
theorem dX12_isOfTwo_9 : decode cX12_isOfTwo 9 = .ok (.iconst 0, 1) := by decide +kernel
theorem dX12_isOfTwo_10 : decode cX12_isOfTwo 10 = .ok (.ireturn, 1) := by decide +kernel
set_option maxRecDepth 20000 in
theorem ggX12_dropLesson_X12_noLesson : GoodIn wsX12_dropLesson wsX12_noLesson := goodIn_r _ [7, 8, 9, 10, 6, 11, 2, 12, 13, 14, 15, 16, 17, 18, 1, 42, 43, 44, 45, 46, 47, 48, 49, 50, 51, 52, 53, 54, 55, 56, 57, 58, 59, 60, 61, 62, 63, 64, 65, 66, 67, 68, 69, 70, 71] (by decide +kernel) (by decide +kernel)
set_option maxRecDepth 20000 in
theorem gX12_dropLesson_X12_noLesson : GoodIn wsX12_dropLesson (wsV RX12 107 RX12 yX12_noLesson wsX12_noLesson) := goodIn_app (goodIn_of _ (by decide +kernel)) ggX12_dropLesson_X12_noLesson
set_option maxRecDepth 20000 in
theorem ggX12_dropLesson_X12_keeps : GoodIn wsX12_dropLesson wsX12_keeps := goodIn_r _ [22, 23, 24, 2, 25, 42, 43, 44, 45, 46, 47, 48, 49, 50, 51, 52, 53, 54, 55, 56, 57, 58, 59, 60, 61, 62, 63, 64, 65, 66, 67, 68, 69, 70, 71] (by decide +kernel) (by decide +kernel)
set_option maxRecDepth 20000 in
theorem gX12_dropLesson_X12_keeps : GoodIn wsX12_dropLesson (wsV RX12 100 RX12 yX12_keeps wsX12_keeps) := goodIn_app (goodIn_of _ (by decide +kernel)) ggX12_dropLesson_X12_keeps
set_option maxRecDepth 20000 in
theorem ggX12_dropLesson_X12_isOfLesson : GoodIn wsX12_dropLesson wsX12_isOfLesson := goodIn_r _ [29] (by decide +kernel) (by decide +kernel)
set_option maxRecDepth 20000 in
theorem gX12_dropLesson_X12_isOfLesson : GoodIn wsX12_dropLesson (wsV RX12 111 RX12 yX12_isOfLesson wsX12_isOfLesson) := goodIn_app (goodIn_of _ (by decide +kernel)) ggX12_dropLesson_X12_isOfLesson
set_option maxRecDepth 20000 in
theorem ggX12_dropLesson_X12_isOfTwo : GoodIn wsX12_dropLesson wsX12_isOfTwo := goodIn_r _ [33] (by decide +kernel) (by decide +kernel)
set_option maxRecDepth 20000 in
theorem gX12_dropLesson_X12_isOfTwo : GoodIn wsX12_dropLesson (wsV RX12 115 RX12 yX12_isOfTwo wsX12_isOfTwo) := goodIn_app (goodIn_of _ (by decide +kernel)) ggX12_dropLesson_X12_isOfTwo
set_option maxRecDepth 20000 in
theorem ggX12_dropLesson_X12_dropsWish : GoodIn wsX12_dropLesson wsX12_dropsWish := goodIn_r _ [37, 2, 38, 39, 40, 6, 41, 42, 43, 44, 45, 46, 47, 48, 49, 50, 51, 52, 53, 54, 55, 56, 57, 58, 59, 60, 61, 62, 63, 64, 65, 66, 67, 68, 69, 70, 71] (by decide +kernel) (by decide +kernel)
set_option maxRecDepth 20000 in
theorem gX12_dropLesson_X12_dropsWish : GoodIn wsX12_dropLesson (wsV RX12 118 RX12 yX12_dropsWish wsX12_dropsWish) := goodIn_app (goodIn_of _ (by decide +kernel)) ggX12_dropLesson_X12_dropsWish
set_option maxRecDepth 20000 in
theorem ggX12_dropLesson_X12_closes : GoodIn wsX12_dropLesson wsX12_closes := goodIn_r _ [41, 2, 42, 43, 44, 45, 46, 47, 48, 49, 50, 51, 52, 53, 54, 55, 56, 57, 58, 59, 60, 61, 62, 63, 64, 65, 66, 67, 68, 69, 70, 71] (by decide +kernel) (by decide +kernel)
set_option maxRecDepth 20000 in
theorem gX12_dropLesson_X12_closes : GoodIn wsX12_dropLesson (wsV RX12 103 RX12 yX12_closes wsX12_closes) := goodIn_app (goodIn_of _ (by decide +kernel)) ggX12_dropLesson_X12_closes
set_option maxRecDepth 20000 in
theorem ggX12_dropLesson_X12_many : GoodIn wsX12_dropLesson wsX12_many := goodIn_r _ [11, 2, 42, 43, 44, 45, 46, 47, 48, 49, 50, 51, 52, 53, 54, 55, 56, 57, 58, 59, 60, 61, 62, 63, 64, 65, 66, 67, 68, 69, 70, 71] (by decide +kernel) (by decide +kernel)
set_option maxRecDepth 20000 in
theorem gX12_dropLesson_X12_many : GoodIn wsX12_dropLesson (wsV RX12 88 RX12 yX12_many wsX12_many) := goodIn_app (goodIn_of _ (by decide +kernel)) ggX12_dropLesson_X12_many
theorem dX12_dropLesson_0 : decode cX12_dropLesson 0 = .ok (.aload_n 0, 1) := by decide +kernel
theorem dX12_dropLesson_1 : decode cX12_dropLesson 1 = .ok (.iconst 0, 1) := by decide +kernel
theorem dX12_dropLesson_2 : decode cX12_dropLesson 2 = .ok (.putfield 1, 3) := by decide +kernel
theorem dX12_dropLesson_5 : decode cX12_dropLesson 5 = .ok (.aload_n 0, 1) := by decide +kernel
theorem dX12_dropLesson_6 : decode cX12_dropLesson 6 = .ok (.iload_n 1, 1) := by decide +kernel
theorem dX12_dropLesson_7 : decode cX12_dropLesson 7 = .ok (.iconst 1, 1) := by decide +kernel
theorem dX12_dropLesson_8 : decode cX12_dropLesson 8 = .ok (.invokevirtual 107, 3) := by decide +kernel
theorem dX12_dropLesson_11 : decode cX12_dropLesson 11 = .ok (.ifCond .eq 5, 3) := by decide +kernel
theorem dX12_dropLesson_14 : decode cX12_dropLesson 14 = .ok (.iconst 0, 1) := by decide +kernel
theorem dX12_dropLesson_15 : decode cX12_dropLesson 15 = .ok (.ireturn, 1) := by decide +kernel
theorem dX12_dropLesson_16 : decode cX12_dropLesson 16 = .ok (.aload_n 0, 1) := by decide +kernel
theorem dX12_dropLesson_17 : decode cX12_dropLesson 17 = .ok (.invokevirtual 100, 3) := by decide +kernel
theorem dX12_dropLesson_20 : decode cX12_dropLesson 20 = .ok (.aload_n 0, 1) := by decide +kernel
theorem dX12_dropLesson_21 : decode cX12_dropLesson 21 = .ok (.getfield 13, 3) := by decide +kernel
theorem dX12_dropLesson_24 : decode cX12_dropLesson 24 = .ok (.bipush 126, 2) := by decide +kernel
theorem dX12_dropLesson_26 : decode cX12_dropLesson 26 = .ok (.iaload, 1) := by decide +kernel
theorem dX12_dropLesson_27 : decode cX12_dropLesson 27 = .ok (.iconst 1, 1) := by decide +kernel
theorem dX12_dropLesson_28 : decode cX12_dropLesson 28 = .ok (.isub, 1) := by decide +kernel
theorem dX12_dropLesson_29 : decode cX12_dropLesson 29 = .ok (.istore_n 2, 1) := by decide +kernel
theorem dX12_dropLesson_30 : decode cX12_dropLesson 30 = .ok (.iload_n 2, 1) := by decide +kernel
theorem dX12_dropLesson_31 : decode cX12_dropLesson 31 = .ok (.ifCond .lt 137, 3) := by decide +kernel
theorem dX12_dropLesson_34 : decode cX12_dropLesson 34 = .ok (.aload_n 0, 1) := by decide +kernel
theorem dX12_dropLesson_35 : decode cX12_dropLesson 35 = .ok (.getfield 13, 3) := by decide +kernel
theorem dX12_dropLesson_38 : decode cX12_dropLesson 38 = .ok (.bipush 45, 2) := by decide +kernel
theorem dX12_dropLesson_40 : decode cX12_dropLesson 40 = .ok (.iload_n 2, 1) := by decide +kernel
theorem dX12_dropLesson_41 : decode cX12_dropLesson 41 = .ok (.iadd, 1) := by decide +kernel
theorem dX12_dropLesson_42 : decode cX12_dropLesson 42 = .ok (.iaload, 1) := by decide +kernel
theorem dX12_dropLesson_43 : decode cX12_dropLesson 43 = .ok (.istore_n 3, 1) := by decide +kernel
theorem dX12_dropLesson_44 : decode cX12_dropLesson 44 = .ok (.aload_n 0, 1) := by decide +kernel
theorem dX12_dropLesson_45 : decode cX12_dropLesson 45 = .ok (.iload_n 3, 1) := by decide +kernel
theorem dX12_dropLesson_46 : decode cX12_dropLesson 46 = .ok (.invokevirtual 111, 3) := by decide +kernel
theorem dX12_dropLesson_49 : decode cX12_dropLesson 49 = .ok (.ifCond .eq 16, 3) := by decide +kernel
theorem dX12_dropLesson_52 : decode cX12_dropLesson 52 = .ok (.aload_n 0, 1) := by decide +kernel
theorem dX12_dropLesson_53 : decode cX12_dropLesson 53 = .ok (.getfield 13, 3) := by decide +kernel
theorem dX12_dropLesson_56 : decode cX12_dropLesson 56 = .ok (.bipush 57, 2) := by decide +kernel
theorem dX12_dropLesson_58 : decode cX12_dropLesson 58 = .ok (.iload_n 2, 1) := by decide +kernel
theorem dX12_dropLesson_59 : decode cX12_dropLesson 59 = .ok (.iadd, 1) := by decide +kernel
theorem dX12_dropLesson_60 : decode cX12_dropLesson 60 = .ok (.iaload, 1) := by decide +kernel
theorem dX12_dropLesson_61 : decode cX12_dropLesson 61 = .ok (.iload_n 1, 1) := by decide +kernel
theorem dX12_dropLesson_62 : decode cX12_dropLesson 62 = .ok (.if_icmp .eq 24, 3) := by decide +kernel
theorem dX12_dropLesson_65 : decode cX12_dropLesson 65 = .ok (.aload_n 0, 1) := by decide +kernel
theorem dX12_dropLesson_66 : decode cX12_dropLesson 66 = .ok (.iload_n 3, 1) := by decide +kernel
theorem dX12_dropLesson_67 : decode cX12_dropLesson 67 = .ok (.invokevirtual 115, 3) := by decide +kernel
theorem dX12_dropLesson_70 : decode cX12_dropLesson 70 = .ok (.ifCond .eq 24, 3) := by decide +kernel
theorem dX12_dropLesson_73 : decode cX12_dropLesson 73 = .ok (.aload_n 0, 1) := by decide +kernel
theorem dX12_dropLesson_74 : decode cX12_dropLesson 74 = .ok (.getfield 13, 3) := by decide +kernel
theorem dX12_dropLesson_77 : decode cX12_dropLesson 77 = .ok (.bipush 69, 2) := by decide +kernel
theorem dX12_dropLesson_79 : decode cX12_dropLesson 79 = .ok (.iload_n 2, 1) := by decide +kernel
theorem dX12_dropLesson_80 : decode cX12_dropLesson 80 = .ok (.iadd, 1) := by decide +kernel
theorem dX12_dropLesson_81 : decode cX12_dropLesson 81 = .ok (.iaload, 1) := by decide +kernel
theorem dX12_dropLesson_82 : decode cX12_dropLesson 82 = .ok (.iload_n 1, 1) := by decide +kernel
theorem dX12_dropLesson_83 : decode cX12_dropLesson 83 = .ok (.if_icmp .ne 11, 3) := by decide +kernel
theorem dX12_dropLesson_86 : decode cX12_dropLesson 86 = .ok (.aload_n 0, 1) := by decide +kernel
theorem dX12_dropLesson_87 : decode cX12_dropLesson 87 = .ok (.iload_n 2, 1) := by decide +kernel
theorem dX12_dropLesson_88 : decode cX12_dropLesson 88 = .ok (.invokevirtual 118, 3) := by decide +kernel
theorem dX12_dropLesson_91 : decode cX12_dropLesson 91 = .ok (.goto 71, 3) := by decide +kernel
theorem dX12_dropLesson_94 : decode cX12_dropLesson 94 = .ok (.aload_n 0, 1) := by decide +kernel
theorem dX12_dropLesson_95 : decode cX12_dropLesson 95 = .ok (.iload_n 3, 1) := by decide +kernel
theorem dX12_dropLesson_96 : decode cX12_dropLesson 96 = .ok (.invokevirtual 111, 3) := by decide +kernel
theorem dX12_dropLesson_99 : decode cX12_dropLesson 99 = .ok (.ifCond .eq 29, 3) := by decide +kernel
theorem dX12_dropLesson_102 : decode cX12_dropLesson 102 = .ok (.aload_n 0, 1) := by decide +kernel
theorem dX12_dropLesson_103 : decode cX12_dropLesson 103 = .ok (.getfield 13, 3) := by decide +kernel
theorem dX12_dropLesson_106 : decode cX12_dropLesson 106 = .ok (.bipush 57, 2) := by decide +kernel
theorem dX12_dropLesson_108 : decode cX12_dropLesson 108 = .ok (.iload_n 2, 1) := by decide +kernel
theorem dX12_dropLesson_109 : decode cX12_dropLesson 109 = .ok (.iadd, 1) := by decide +kernel
theorem dX12_dropLesson_110 : decode cX12_dropLesson 110 = .ok (.iaload, 1) := by decide +kernel
theorem dX12_dropLesson_111 : decode cX12_dropLesson 111 = .ok (.iload_n 1, 1) := by decide +kernel
theorem dX12_dropLesson_112 : decode cX12_dropLesson 112 = .ok (.if_icmp .le 16, 3) := by decide +kernel
theorem dX12_dropLesson_115 : decode cX12_dropLesson 115 = .ok (.aload_n 0, 1) := by decide +kernel
theorem dX12_dropLesson_116 : decode cX12_dropLesson 116 = .ok (.getfield 13, 3) := by decide +kernel
theorem dX12_dropLesson_119 : decode cX12_dropLesson 119 = .ok (.bipush 57, 2) := by decide +kernel
theorem dX12_dropLesson_121 : decode cX12_dropLesson 121 = .ok (.iload_n 2, 1) := by decide +kernel
theorem dX12_dropLesson_122 : decode cX12_dropLesson 122 = .ok (.iadd, 1) := by decide +kernel
theorem dX12_dropLesson_123 : decode cX12_dropLesson 123 = .ok (.dup2, 1) := by decide +kernel
theorem dX12_dropLesson_124 : decode cX12_dropLesson 124 = .ok (.iaload, 1) := by decide +kernel
theorem dX12_dropLesson_125 : decode cX12_dropLesson 125 = .ok (.iconst 1, 1) := by decide +kernel
theorem dX12_dropLesson_126 : decode cX12_dropLesson 126 = .ok (.isub, 1) := by decide +kernel
theorem dX12_dropLesson_127 : decode cX12_dropLesson 127 = .ok (.iastore, 1) := by decide +kernel
theorem dX12_dropLesson_128 : decode cX12_dropLesson 128 = .ok (.aload_n 0, 1) := by decide +kernel
theorem dX12_dropLesson_129 : decode cX12_dropLesson 129 = .ok (.iload_n 3, 1) := by decide +kernel
theorem dX12_dropLesson_130 : decode cX12_dropLesson 130 = .ok (.invokevirtual 115, 3) := by decide +kernel
theorem dX12_dropLesson_133 : decode cX12_dropLesson 133 = .ok (.ifCond .eq 29, 3) := by decide +kernel
theorem dX12_dropLesson_136 : decode cX12_dropLesson 136 = .ok (.aload_n 0, 1) := by decide +kernel
theorem dX12_dropLesson_137 : decode cX12_dropLesson 137 = .ok (.getfield 13, 3) := by decide +kernel
theorem dX12_dropLesson_140 : decode cX12_dropLesson 140 = .ok (.bipush 69, 2) := by decide +kernel
theorem dX12_dropLesson_142 : decode cX12_dropLesson 142 = .ok (.iload_n 2, 1) := by decide +kernel
theorem dX12_dropLesson_143 : decode cX12_dropLesson 143 = .ok (.iadd, 1) := by decide +kernel
theorem dX12_dropLesson_144 : decode cX12_dropLesson 144 = .ok (.iaload, 1) := by decide +kernel
theorem dX12_dropLesson_145 : decode cX12_dropLesson 145 = .ok (.iload_n 1, 1) := by decide +kernel
theorem dX12_dropLesson_146 : decode cX12_dropLesson 146 = .ok (.if_icmp .le 16, 3) := by decide +kernel
theorem dX12_dropLesson_149 : decode cX12_dropLesson 149 = .ok (.aload_n 0, 1) := by decide +kernel
theorem dX12_dropLesson_150 : decode cX12_dropLesson 150 = .ok (.getfield 13, 3) := by decide +kernel
theorem dX12_dropLesson_153 : decode cX12_dropLesson 153 = .ok (.bipush 69, 2) := by decide +kernel
theorem dX12_dropLesson_155 : decode cX12_dropLesson 155 = .ok (.iload_n 2, 1) := by decide +kernel
theorem dX12_dropLesson_156 : decode cX12_dropLesson 156 = .ok (.iadd, 1) := by decide +kernel
theorem dX12_dropLesson_157 : decode cX12_dropLesson 157 = .ok (.dup2, 1) := by decide +kernel
theorem dX12_dropLesson_158 : decode cX12_dropLesson 158 = .ok (.iaload, 1) := by decide +kernel
theorem dX12_dropLesson_159 : decode cX12_dropLesson 159 = .ok (.iconst 1, 1) := by decide +kernel
theorem dX12_dropLesson_160 : decode cX12_dropLesson 160 = .ok (.isub, 1) := by decide +kernel
theorem dX12_dropLesson_161 : decode cX12_dropLesson 161 = .ok (.iastore, 1) := by decide +kernel
theorem dX12_dropLesson_162 : decode cX12_dropLesson 162 = .ok (.iinc 2 (-1), 3) := by decide +kernel
theorem dX12_dropLesson_165 : decode cX12_dropLesson 165 = .ok (.goto (-135), 3) := by decide +kernel
theorem dX12_dropLesson_168 : decode cX12_dropLesson 168 = .ok (.aload_n 0, 1) := by decide +kernel
theorem dX12_dropLesson_169 : decode cX12_dropLesson 169 = .ok (.iconst 0, 1) := by decide +kernel
theorem dX12_dropLesson_170 : decode cX12_dropLesson 170 = .ok (.iload_n 1, 1) := by decide +kernel
theorem dX12_dropLesson_171 : decode cX12_dropLesson 171 = .ok (.bipush 9, 2) := by decide +kernel
theorem dX12_dropLesson_173 : decode cX12_dropLesson 173 = .ok (.invokevirtual 103, 3) := by decide +kernel
theorem dX12_dropLesson_176 : decode cX12_dropLesson 176 = .ok (.aload_n 0, 1) := by decide +kernel
theorem dX12_dropLesson_177 : decode cX12_dropLesson 177 = .ok (.bipush 9, 2) := by decide +kernel
theorem dX12_dropLesson_179 : decode cX12_dropLesson 179 = .ok (.iload_n 1, 1) := by decide +kernel
theorem dX12_dropLesson_180 : decode cX12_dropLesson 180 = .ok (.bipush 9, 2) := by decide +kernel
theorem dX12_dropLesson_182 : decode cX12_dropLesson 182 = .ok (.invokevirtual 103, 3) := by decide +kernel
theorem dX12_dropLesson_185 : decode cX12_dropLesson 185 = .ok (.aload_n 0, 1) := by decide +kernel
theorem dX12_dropLesson_186 : decode cX12_dropLesson 186 = .ok (.bipush 18, 2) := by decide +kernel
theorem dX12_dropLesson_188 : decode cX12_dropLesson 188 = .ok (.iload_n 1, 1) := by decide +kernel
theorem dX12_dropLesson_189 : decode cX12_dropLesson 189 = .ok (.bipush 9, 2) := by decide +kernel
theorem dX12_dropLesson_191 : decode cX12_dropLesson 191 = .ok (.invokevirtual 103, 3) := by decide +kernel
theorem dX12_dropLesson_194 : decode cX12_dropLesson 194 = .ok (.aload_n 0, 1) := by decide +kernel
theorem dX12_dropLesson_195 : decode cX12_dropLesson 195 = .ok (.bipush 27, 2) := by decide +kernel
theorem dX12_dropLesson_197 : decode cX12_dropLesson 197 = .ok (.iload_n 1, 1) := by decide +kernel
theorem dX12_dropLesson_198 : decode cX12_dropLesson 198 = .ok (.bipush 9, 2) := by decide +kernel
theorem dX12_dropLesson_200 : decode cX12_dropLesson 200 = .ok (.invokevirtual 103, 3) := by decide +kernel
theorem dX12_dropLesson_203 : decode cX12_dropLesson 203 = .ok (.aload_n 0, 1) := by decide +kernel
theorem dX12_dropLesson_204 : decode cX12_dropLesson 204 = .ok (.bipush 36, 2) := by decide +kernel
theorem dX12_dropLesson_206 : decode cX12_dropLesson 206 = .ok (.iload_n 1, 1) := by decide +kernel
theorem dX12_dropLesson_207 : decode cX12_dropLesson 207 = .ok (.bipush 9, 2) := by decide +kernel
theorem dX12_dropLesson_209 : decode cX12_dropLesson 209 = .ok (.invokevirtual 103, 3) := by decide +kernel
theorem dX12_dropLesson_212 : decode cX12_dropLesson 212 = .ok (.aload_n 0, 1) := by decide +kernel
theorem dX12_dropLesson_213 : decode cX12_dropLesson 213 = .ok (.getfield 13, 3) := by decide +kernel
theorem dX12_dropLesson_216 : decode cX12_dropLesson 216 = .ok (.bipush 125, 2) := by decide +kernel
theorem dX12_dropLesson_218 : decode cX12_dropLesson 218 = .ok (.dup2, 1) := by decide +kernel
theorem dX12_dropLesson_219 : decode cX12_dropLesson 219 = .ok (.iaload, 1) := by decide +kernel
theorem dX12_dropLesson_220 : decode cX12_dropLesson 220 = .ok (.iconst 1, 1) := by decide +kernel
theorem dX12_dropLesson_221 : decode cX12_dropLesson 221 = .ok (.isub, 1) := by decide +kernel
theorem dX12_dropLesson_222 : decode cX12_dropLesson 222 = .ok (.iastore, 1) := by decide +kernel
theorem dX12_dropLesson_223 : decode cX12_dropLesson 223 = .ok (.aload_n 0, 1) := by decide +kernel
theorem dX12_dropLesson_224 : decode cX12_dropLesson 224 = .ok (.getfield 13, 3) := by decide +kernel
theorem dX12_dropLesson_227 : decode cX12_dropLesson 227 = .ok (.bipush 127, 2) := by decide +kernel
theorem dX12_dropLesson_229 : decode cX12_dropLesson 229 = .ok (.iconst 0, 1) := by decide +kernel
theorem dX12_dropLesson_230 : decode cX12_dropLesson 230 = .ok (.iastore, 1) := by decide +kernel
theorem dX12_dropLesson_231 : decode cX12_dropLesson 231 = .ok (.aload_n 0, 1) := by decide +kernel
theorem dX12_dropLesson_232 : decode cX12_dropLesson 232 = .ok (.invokevirtual 88, 3) := by decide +kernel
theorem dX12_dropLesson_235 : decode cX12_dropLesson 235 = .ok (.ireturn, 1) := by decide +kernel
set_option maxRecDepth 20000 in
theorem ggX12_lessonOf_X12_noLesson : GoodIn wsX12_lessonOf wsX12_noLesson := goodIn_r _ [7, 8, 9, 10, 6, 11, 2, 12, 13, 14, 15, 16, 17, 18, 1, 19, 20, 21, 22, 23, 24, 25, 26, 27, 28, 29, 30, 31, 32, 33, 34, 35, 36, 37, 38, 39, 40, 41, 42, 43, 44, 45, 46, 47, 48] (by decide +kernel) (by decide +kernel)
set_option maxRecDepth 20000 in
theorem gX12_lessonOf_X12_noLesson : GoodIn wsX12_lessonOf (wsV RX12 107 RX12 yX12_noLesson wsX12_noLesson) := goodIn_app (goodIn_of _ (by decide +kernel)) ggX12_lessonOf_X12_noLesson
set_option maxRecDepth 20000 in
theorem ggX12_lessonOf_X12_in : GoodIn wsX12_lessonOf wsX12_in := goodIn_r _ [14] (by decide +kernel) (by decide +kernel)
set_option maxRecDepth 20000 in
theorem gX12_lessonOf_X12_in : GoodIn wsX12_lessonOf (va_wsS RX12 92 yX12_in wsX12_in) := goodIn_app (goodIn_of _ (by decide +kernel)) ggX12_lessonOf_X12_in
set_option maxRecDepth 20000 in
theorem ggX12_lessonOf_X12_fails : GoodIn wsX12_lessonOf wsX12_fails := goodIn_r _ [18, 1, 19, 20, 21, 22, 23, 24, 25, 26, 27, 28, 29, 30, 31, 32, 33, 34, 35, 36, 37, 38, 39, 40, 41, 42, 43, 44, 45, 46, 47, 48] (by decide +kernel) (by decide +kernel)
set_option maxRecDepth 20000 in
theorem gX12_lessonOf_X12_fails : GoodIn wsX12_lessonOf (wsV RX12 96 RX12 yX12_fails wsX12_fails) := goodIn_app (goodIn_of _ (by decide +kernel)) ggX12_lessonOf_X12_fails
theorem dX12_lessonOf_0 : decode cX12_lessonOf 0 = .ok (.aload_n 0, 1) := by decide +kernel
theorem dX12_lessonOf_1 : decode cX12_lessonOf 1 = .ok (.iconst 0, 1) := by decide +kernel
theorem dX12_lessonOf_2 : decode cX12_lessonOf 2 = .ok (.putfield 1, 3) := by decide +kernel
theorem dX12_lessonOf_5 : decode cX12_lessonOf 5 = .ok (.aload_n 0, 1) := by decide +kernel
theorem dX12_lessonOf_6 : decode cX12_lessonOf 6 = .ok (.iload_n 1, 1) := by decide +kernel
theorem dX12_lessonOf_7 : decode cX12_lessonOf 7 = .ok (.iconst 1, 1) := by decide +kernel
theorem dX12_lessonOf_8 : decode cX12_lessonOf 8 = .ok (.invokevirtual 107, 3) := by decide +kernel
theorem dX12_lessonOf_11 : decode cX12_lessonOf 11 = .ok (.ifCond .ne 17, 3) := by decide +kernel
theorem dX12_lessonOf_14 : decode cX12_lessonOf 14 = .ok (.aload_n 0, 1) := by decide +kernel
theorem dX12_lessonOf_15 : decode cX12_lessonOf 15 = .ok (.iload_n 2, 1) := by decide +kernel
theorem dX12_lessonOf_16 : decode cX12_lessonOf 16 = .ok (.iconst 0, 1) := by decide +kernel
theorem dX12_lessonOf_17 : decode cX12_lessonOf 17 = .ok (.iconst 4, 1) := by decide +kernel
theorem dX12_lessonOf_18 : decode cX12_lessonOf 18 = .ok (.invokestatic 92, 3) := by decide +kernel
theorem dX12_lessonOf_21 : decode cX12_lessonOf 21 = .ok (.iconst 2, 1) := by decide +kernel
theorem dX12_lessonOf_22 : decode cX12_lessonOf 22 = .ok (.invokevirtual 96, 3) := by decide +kernel
theorem dX12_lessonOf_25 : decode cX12_lessonOf 25 = .ok (.ifCond .eq 5, 3) := by decide +kernel
theorem dX12_lessonOf_28 : decode cX12_lessonOf 28 = .ok (.iconst 0, 1) := by decide +kernel
theorem dX12_lessonOf_29 : decode cX12_lessonOf 29 = .ok (.ireturn, 1) := by decide +kernel
theorem dX12_lessonOf_30 : decode cX12_lessonOf 30 = .ok (.aload_n 0, 1) := by decide +kernel
theorem dX12_lessonOf_31 : decode cX12_lessonOf 31 = .ok (.getfield 13, 3) := by decide +kernel
theorem dX12_lessonOf_34 : decode cX12_lessonOf 34 = .ok (.bipush 9, 2) := by decide +kernel
theorem dX12_lessonOf_36 : decode cX12_lessonOf 36 = .ok (.iload_n 2, 1) := by decide +kernel
theorem dX12_lessonOf_37 : decode cX12_lessonOf 37 = .ok (.imul, 1) := by decide +kernel
theorem dX12_lessonOf_38 : decode cX12_lessonOf 38 = .ok (.iload_n 1, 1) := by decide +kernel
theorem dX12_lessonOf_39 : decode cX12_lessonOf 39 = .ok (.iadd, 1) := by decide +kernel
theorem dX12_lessonOf_40 : decode cX12_lessonOf 40 = .ok (.iaload, 1) := by decide +kernel
theorem dX12_lessonOf_41 : decode cX12_lessonOf 41 = .ok (.ireturn, 1) := by decide +kernel
set_option maxRecDepth 20000 in
theorem ggX12_lessons_X12_many : GoodIn wsX12_lessons wsX12_many := goodIn_r _ [6, 7, 8, 9, 10, 11, 12, 13, 14, 15, 16, 17, 18, 19, 20, 21, 22, 23, 24, 25, 26, 27, 28, 29, 30, 31, 32, 33, 34, 35, 36, 37] (by decide +kernel) (by decide +kernel)
set_option maxRecDepth 20000 in
theorem gX12_lessons_X12_many : GoodIn wsX12_lessons (wsV RX12 88 RX12 yX12_many wsX12_many) := goodIn_app (goodIn_of _ (by decide +kernel)) ggX12_lessons_X12_many
theorem dX12_lessons_0 : decode cX12_lessons 0 = .ok (.aload_n 0, 1) := by decide +kernel
theorem dX12_lessons_1 : decode cX12_lessons 1 = .ok (.iconst 0, 1) := by decide +kernel
theorem dX12_lessons_2 : decode cX12_lessons 2 = .ok (.putfield 1, 3) := by decide +kernel
theorem dX12_lessons_5 : decode cX12_lessons 5 = .ok (.aload_n 0, 1) := by decide +kernel
theorem dX12_lessons_6 : decode cX12_lessons 6 = .ok (.invokevirtual 88, 3) := by decide +kernel
theorem dX12_lessons_9 : decode cX12_lessons 9 = .ok (.ireturn, 1) := by decide +kernel
set_option maxRecDepth 20000 in
theorem ggX12_noTeacher_X12_in : GoodIn wsX12_noTeacher wsX12_in := goodIn_r _ [4] (by decide +kernel) (by decide +kernel)
set_option maxRecDepth 20000 in
theorem gX12_noTeacher_X12_in : GoodIn wsX12_noTeacher (va_wsS RX12 92 yX12_in wsX12_in) := goodIn_app (goodIn_of _ (by decide +kernel)) ggX12_noTeacher_X12_in
set_option maxRecDepth 20000 in
theorem ggX12_noTeacher_X12_fails : GoodIn wsX12_noTeacher wsX12_fails := goodIn_r _ [8, 9, 10, 11, 12, 13, 14, 15, 16, 17, 18, 19, 20, 21, 22, 23, 24, 25, 26, 27, 28, 29, 30, 31, 32, 33, 34, 35, 36, 37, 38, 39] (by decide +kernel) (by decide +kernel)
set_option maxRecDepth 20000 in
theorem gX12_noTeacher_X12_fails : GoodIn wsX12_noTeacher (wsV RX12 96 RX12 yX12_fails wsX12_fails) := goodIn_app (goodIn_of _ (by decide +kernel)) ggX12_noTeacher_X12_fails
theorem dX12_noTeacher_0 : decode cX12_noTeacher 0 = .ok (.aload_n 0, 1) := by decide +kernel
theorem dX12_noTeacher_1 : decode cX12_noTeacher 1 = .ok (.iload_n 1, 1) := by decide +kernel
theorem dX12_noTeacher_2 : decode cX12_noTeacher 2 = .ok (.iconst 0, 1) := by decide +kernel
theorem dX12_noTeacher_3 : decode cX12_noTeacher 3 = .ok (.iconst 5, 1) := by decide +kernel
theorem dX12_noTeacher_4 : decode cX12_noTeacher 4 = .ok (.invokestatic 92, 3) := by decide +kernel
theorem dX12_noTeacher_7 : decode cX12_noTeacher 7 = .ok (.iconst 1, 1) := by decide +kernel
theorem dX12_noTeacher_8 : decode cX12_noTeacher 8 = .ok (.invokevirtual 96, 3) := by decide +kernel
theorem dX12_noTeacher_11 : decode cX12_noTeacher 11 = .ok (.ireturn, 1) := by decide +kernel
set_option maxRecDepth 20000 in
theorem ggX12_setSubjects_X12_noTeacher : GoodIn wsX12_setSubjects wsX12_noTeacher := goodIn_r _ [7, 8, 9, 6, 10, 11, 12, 13, 14, 1, 26, 27, 28, 29, 30, 31, 32, 33, 34, 35, 36, 37, 38, 39, 40, 41, 42, 43, 44, 45, 46, 47, 48, 49, 50, 51, 52, 53, 54, 55] (by decide +kernel) (by decide +kernel)
set_option maxRecDepth 20000 in
theorem gX12_setSubjects_X12_noTeacher : GoodIn wsX12_setSubjects (wsV RX12 122 RX12 yX12_noTeacher wsX12_noTeacher) := goodIn_app (goodIn_of _ (by decide +kernel)) ggX12_setSubjects_X12_noTeacher
set_option maxRecDepth 20000 in
theorem ggX12_setSubjects_X12_in : GoodIn wsX12_setSubjects wsX12_in := goodIn_r _ [10] (by decide +kernel) (by decide +kernel)
set_option maxRecDepth 20000 in
theorem gX12_setSubjects_X12_in : GoodIn wsX12_setSubjects (va_wsS RX12 92 yX12_in wsX12_in) := goodIn_app (goodIn_of _ (by decide +kernel)) ggX12_setSubjects_X12_in
set_option maxRecDepth 20000 in
theorem ggX12_setSubjects_X12_fails : GoodIn wsX12_setSubjects wsX12_fails := goodIn_r _ [14, 1, 26, 27, 28, 29, 30, 31, 32, 33, 34, 35, 36, 37, 38, 39, 40, 41, 42, 43, 44, 45, 46, 47, 48, 49, 50, 51, 52, 53, 54, 55] (by decide +kernel) (by decide +kernel)
set_option maxRecDepth 20000 in
theorem gX12_setSubjects_X12_fails : GoodIn wsX12_setSubjects (wsV RX12 96 RX12 yX12_fails wsX12_fails) := goodIn_app (goodIn_of _ (by decide +kernel)) ggX12_setSubjects_X12_fails
set_option maxRecDepth 20000 in
theorem ggX12_setSubjects_X12_many : GoodIn wsX12_setSubjects wsX12_many := goodIn_r _ [18, 2, 26, 27, 28, 29, 30, 31, 32, 33, 34, 35, 36, 37, 38, 39, 40, 41, 42, 43, 44, 45, 46, 47, 48, 49, 50, 51, 52, 53, 54, 55] (by decide +kernel) (by decide +kernel)
set_option maxRecDepth 20000 in
theorem gX12_setSubjects_X12_many : GoodIn wsX12_setSubjects (wsV RX12 88 RX12 yX12_many wsX12_many) := goodIn_app (goodIn_of _ (by decide +kernel)) ggX12_setSubjects_X12_many
set_option maxRecDepth 20000 in
theorem ggX12_setSubjects_X12_keeps : GoodIn wsX12_setSubjects wsX12_keeps := goodIn_r _ [22, 23, 24, 2, 25, 26, 27, 28, 29, 30, 31, 32, 33, 34, 35, 36, 37, 38, 39, 40, 41, 42, 43, 44, 45, 46, 47, 48, 49, 50, 51, 52, 53, 54, 55] (by decide +kernel) (by decide +kernel)
set_option maxRecDepth 20000 in
theorem gX12_setSubjects_X12_keeps : GoodIn wsX12_setSubjects (wsV RX12 100 RX12 yX12_keeps wsX12_keeps) := goodIn_app (goodIn_of _ (by decide +kernel)) ggX12_setSubjects_X12_keeps
theorem dX12_setSubjects_0 : decode cX12_setSubjects 0 = .ok (.aload_n 0, 1) := by decide +kernel
theorem dX12_setSubjects_1 : decode cX12_setSubjects 1 = .ok (.iconst 0, 1) := by decide +kernel
theorem dX12_setSubjects_2 : decode cX12_setSubjects 2 = .ok (.putfield 1, 3) := by decide +kernel
theorem dX12_setSubjects_5 : decode cX12_setSubjects 5 = .ok (.aload_n 0, 1) := by decide +kernel
theorem dX12_setSubjects_6 : decode cX12_setSubjects 6 = .ok (.iload_n 1, 1) := by decide +kernel
theorem dX12_setSubjects_7 : decode cX12_setSubjects 7 = .ok (.invokevirtual 122, 3) := by decide +kernel
theorem dX12_setSubjects_10 : decode cX12_setSubjects 10 = .ok (.ifCond .ne 18, 3) := by decide +kernel
theorem dX12_setSubjects_13 : decode cX12_setSubjects 13 = .ok (.aload_n 0, 1) := by decide +kernel
theorem dX12_setSubjects_14 : decode cX12_setSubjects 14 = .ok (.iload_n 2, 1) := by decide +kernel
theorem dX12_setSubjects_15 : decode cX12_setSubjects 15 = .ok (.iconst 0, 1) := by decide +kernel
theorem dX12_setSubjects_16 : decode cX12_setSubjects 16 = .ok (.bipush 63, 2) := by decide +kernel
theorem dX12_setSubjects_18 : decode cX12_setSubjects 18 = .ok (.invokestatic 92, 3) := by decide +kernel
theorem dX12_setSubjects_21 : decode cX12_setSubjects 21 = .ok (.iconst 1, 1) := by decide +kernel
theorem dX12_setSubjects_22 : decode cX12_setSubjects 22 = .ok (.invokevirtual 96, 3) := by decide +kernel
theorem dX12_setSubjects_25 : decode cX12_setSubjects 25 = .ok (.ifCond .eq 5, 3) := by decide +kernel
theorem dX12_setSubjects_28 : decode cX12_setSubjects 28 = .ok (.iconst 0, 1) := by decide +kernel
theorem dX12_setSubjects_29 : decode cX12_setSubjects 29 = .ok (.ireturn, 1) := by decide +kernel
theorem dX12_setSubjects_30 : decode cX12_setSubjects 30 = .ok (.iconst 1, 1) := by decide +kernel
theorem dX12_setSubjects_31 : decode cX12_setSubjects 31 = .ok (.istore_n 3, 1) := by decide +kernel
theorem dX12_setSubjects_32 : decode cX12_setSubjects 32 = .ok (.iconst 0, 1) := by decide +kernel
theorem dX12_setSubjects_33 : decode cX12_setSubjects 33 = .ok (.istore 4, 2) := by decide +kernel
theorem dX12_setSubjects_35 : decode cX12_setSubjects 35 = .ok (.iload 4, 2) := by decide +kernel
theorem dX12_setSubjects_37 : decode cX12_setSubjects 37 = .ok (.aload_n 0, 1) := by decide +kernel
theorem dX12_setSubjects_38 : decode cX12_setSubjects 38 = .ok (.invokevirtual 88, 3) := by decide +kernel
theorem dX12_setSubjects_41 : decode cX12_setSubjects 41 = .ok (.if_icmp .ge 49, 3) := by decide +kernel
theorem dX12_setSubjects_44 : decode cX12_setSubjects 44 = .ok (.iload_n 3, 1) := by decide +kernel
theorem dX12_setSubjects_45 : decode cX12_setSubjects 45 = .ok (.aload_n 0, 1) := by decide +kernel
theorem dX12_setSubjects_46 : decode cX12_setSubjects 46 = .ok (.getfield 13, 3) := by decide +kernel
theorem dX12_setSubjects_49 : decode cX12_setSubjects 49 = .ok (.bipush 9, 2) := by decide +kernel
theorem dX12_setSubjects_51 : decode cX12_setSubjects 51 = .ok (.iload 4, 2) := by decide +kernel
theorem dX12_setSubjects_53 : decode cX12_setSubjects 53 = .ok (.iadd, 1) := by decide +kernel
theorem dX12_setSubjects_54 : decode cX12_setSubjects 54 = .ok (.iaload, 1) := by decide +kernel
theorem dX12_setSubjects_55 : decode cX12_setSubjects 55 = .ok (.iload_n 1, 1) := by decide +kernel
theorem dX12_setSubjects_56 : decode cX12_setSubjects 56 = .ok (.if_icmp .ne 21, 3) := by decide +kernel
theorem dX12_setSubjects_59 : decode cX12_setSubjects 59 = .ok (.iload_n 2, 1) := by decide +kernel
theorem dX12_setSubjects_60 : decode cX12_setSubjects 60 = .ok (.aload_n 0, 1) := by decide +kernel
theorem dX12_setSubjects_61 : decode cX12_setSubjects 61 = .ok (.getfield 13, 3) := by decide +kernel
theorem dX12_setSubjects_64 : decode cX12_setSubjects 64 = .ok (.bipush 18, 2) := by decide +kernel
theorem dX12_setSubjects_66 : decode cX12_setSubjects 66 = .ok (.iload 4, 2) := by decide +kernel
theorem dX12_setSubjects_68 : decode cX12_setSubjects 68 = .ok (.iadd, 1) := by decide +kernel
theorem dX12_setSubjects_69 : decode cX12_setSubjects 69 = .ok (.iaload, 1) := by decide +kernel
theorem dX12_setSubjects_70 : decode cX12_setSubjects 70 = .ok (.ishr, 1) := by decide +kernel
theorem dX12_setSubjects_71 : decode cX12_setSubjects 71 = .ok (.iconst 1, 1) := by decide +kernel
theorem dX12_setSubjects_72 : decode cX12_setSubjects 72 = .ok (.iand, 1) := by decide +kernel
theorem dX12_setSubjects_73 : decode cX12_setSubjects 73 = .ok (.iconst 1, 1) := by decide +kernel
theorem dX12_setSubjects_74 : decode cX12_setSubjects 74 = .ok (.if_icmp .ne 7, 3) := by decide +kernel
theorem dX12_setSubjects_77 : decode cX12_setSubjects 77 = .ok (.iconst 1, 1) := by decide +kernel
theorem dX12_setSubjects_78 : decode cX12_setSubjects 78 = .ok (.goto 4, 3) := by decide +kernel
theorem dX12_setSubjects_81 : decode cX12_setSubjects 81 = .ok (.iconst 0, 1) := by decide +kernel
theorem dX12_setSubjects_82 : decode cX12_setSubjects 82 = .ok (.iand, 1) := by decide +kernel
theorem dX12_setSubjects_83 : decode cX12_setSubjects 83 = .ok (.istore_n 3, 1) := by decide +kernel
theorem dX12_setSubjects_84 : decode cX12_setSubjects 84 = .ok (.iinc 4 1, 3) := by decide +kernel
theorem dX12_setSubjects_87 : decode cX12_setSubjects 87 = .ok (.goto (-52), 3) := by decide +kernel
theorem dX12_setSubjects_90 : decode cX12_setSubjects 90 = .ok (.aload_n 0, 1) := by decide +kernel
theorem dX12_setSubjects_91 : decode cX12_setSubjects 91 = .ok (.iload_n 3, 1) := by decide +kernel
theorem dX12_setSubjects_92 : decode cX12_setSubjects 92 = .ok (.iconst 2, 1) := by decide +kernel
theorem dX12_setSubjects_93 : decode cX12_setSubjects 93 = .ok (.invokevirtual 96, 3) := by decide +kernel
theorem dX12_setSubjects_96 : decode cX12_setSubjects 96 = .ok (.ifCond .eq 5, 3) := by decide +kernel
theorem dX12_setSubjects_99 : decode cX12_setSubjects 99 = .ok (.iconst 0, 1) := by decide +kernel
theorem dX12_setSubjects_100 : decode cX12_setSubjects 100 = .ok (.ireturn, 1) := by decide +kernel
theorem dX12_setSubjects_101 : decode cX12_setSubjects 101 = .ok (.aload_n 0, 1) := by decide +kernel
theorem dX12_setSubjects_102 : decode cX12_setSubjects 102 = .ok (.invokevirtual 100, 3) := by decide +kernel
theorem dX12_setSubjects_105 : decode cX12_setSubjects 105 = .ok (.aload_n 0, 1) := by decide +kernel
theorem dX12_setSubjects_106 : decode cX12_setSubjects 106 = .ok (.getfield 13, 3) := by decide +kernel
theorem dX12_setSubjects_109 : decode cX12_setSubjects 109 = .ok (.bipush 93, 2) := by decide +kernel
theorem dX12_setSubjects_111 : decode cX12_setSubjects 111 = .ok (.iload_n 1, 1) := by decide +kernel
theorem dX12_setSubjects_112 : decode cX12_setSubjects 112 = .ok (.iadd, 1) := by decide +kernel
theorem dX12_setSubjects_113 : decode cX12_setSubjects 113 = .ok (.iaload, 1) := by decide +kernel
theorem dX12_setSubjects_114 : decode cX12_setSubjects 114 = .ok (.istore 4, 2) := by decide +kernel
theorem dX12_setSubjects_116 : decode cX12_setSubjects 116 = .ok (.aload_n 0, 1) := by decide +kernel
theorem dX12_setSubjects_117 : decode cX12_setSubjects 117 = .ok (.getfield 13, 3) := by decide +kernel
theorem dX12_setSubjects_120 : decode cX12_setSubjects 120 = .ok (.bipush 93, 2) := by decide +kernel
theorem dX12_setSubjects_122 : decode cX12_setSubjects 122 = .ok (.iload_n 1, 1) := by decide +kernel
theorem dX12_setSubjects_123 : decode cX12_setSubjects 123 = .ok (.iadd, 1) := by decide +kernel
theorem dX12_setSubjects_124 : decode cX12_setSubjects 124 = .ok (.iload_n 2, 1) := by decide +kernel
theorem dX12_setSubjects_125 : decode cX12_setSubjects 125 = .ok (.iastore, 1) := by decide +kernel
theorem dX12_setSubjects_126 : decode cX12_setSubjects 126 = .ok (.aload_n 0, 1) := by decide +kernel
theorem dX12_setSubjects_127 : decode cX12_setSubjects 127 = .ok (.getfield 13, 3) := by decide +kernel
theorem dX12_setSubjects_130 : decode cX12_setSubjects 130 = .ok (.bipush 127, 2) := by decide +kernel
theorem dX12_setSubjects_132 : decode cX12_setSubjects 132 = .ok (.iconst 0, 1) := by decide +kernel
theorem dX12_setSubjects_133 : decode cX12_setSubjects 133 = .ok (.iastore, 1) := by decide +kernel
theorem dX12_setSubjects_134 : decode cX12_setSubjects 134 = .ok (.iload 4, 2) := by decide +kernel
theorem dX12_setSubjects_136 : decode cX12_setSubjects 136 = .ok (.ireturn, 1) := by decide +kernel
set_option maxRecDepth 20000 in
theorem ggX12_setRooms_X12_in : GoodIn wsX12_setRooms wsX12_in := goodIn_r _ [6] (by decide +kernel) (by decide +kernel)
set_option maxRecDepth 20000 in
theorem gX12_setRooms_X12_in : GoodIn wsX12_setRooms (va_wsS RX12 92 yX12_in wsX12_in) := goodIn_app (goodIn_of _ (by decide +kernel)) ggX12_setRooms_X12_in
set_option maxRecDepth 20000 in
theorem ggX12_setRooms_X12_fails : GoodIn wsX12_setRooms wsX12_fails := goodIn_r _ [10, 1, 18, 19, 20, 21, 22, 23, 24, 25, 26, 27, 28, 29, 30, 31, 32, 33, 34, 35, 36, 37, 38, 39, 40, 41, 42, 43, 44, 45, 46, 47] (by decide +kernel) (by decide +kernel)
set_option maxRecDepth 20000 in
theorem gX12_setRooms_X12_fails : GoodIn wsX12_setRooms (wsV RX12 96 RX12 yX12_fails wsX12_fails) := goodIn_app (goodIn_of _ (by decide +kernel)) ggX12_setRooms_X12_fails
set_option maxRecDepth 20000 in
theorem ggX12_setRooms_X12_keeps : GoodIn wsX12_setRooms wsX12_keeps := goodIn_r _ [14, 15, 16, 2, 17, 18, 19, 20, 21, 22, 23, 24, 25, 26, 27, 28, 29, 30, 31, 32, 33, 34, 35, 36, 37, 38, 39, 40, 41, 42, 43, 44, 45, 46, 47] (by decide +kernel) (by decide +kernel)
set_option maxRecDepth 20000 in
theorem gX12_setRooms_X12_keeps : GoodIn wsX12_setRooms (wsV RX12 100 RX12 yX12_keeps wsX12_keeps) := goodIn_app (goodIn_of _ (by decide +kernel)) ggX12_setRooms_X12_keeps
theorem dX12_setRooms_0 : decode cX12_setRooms 0 = .ok (.aload_n 0, 1) := by decide +kernel
theorem dX12_setRooms_1 : decode cX12_setRooms 1 = .ok (.iconst 0, 1) := by decide +kernel
theorem dX12_setRooms_2 : decode cX12_setRooms 2 = .ok (.putfield 1, 3) := by decide +kernel
theorem dX12_setRooms_5 : decode cX12_setRooms 5 = .ok (.aload_n 0, 1) := by decide +kernel
theorem dX12_setRooms_6 : decode cX12_setRooms 6 = .ok (.iload_n 1, 1) := by decide +kernel
theorem dX12_setRooms_7 : decode cX12_setRooms 7 = .ok (.iconst 0, 1) := by decide +kernel
theorem dX12_setRooms_8 : decode cX12_setRooms 8 = .ok (.iconst 2, 1) := by decide +kernel
theorem dX12_setRooms_9 : decode cX12_setRooms 9 = .ok (.invokestatic 92, 3) := by decide +kernel
theorem dX12_setRooms_12 : decode cX12_setRooms 12 = .ok (.ifCond .eq 16, 3) := by decide +kernel
theorem dX12_setRooms_15 : decode cX12_setRooms 15 = .ok (.iload_n 2, 1) := by decide +kernel
theorem dX12_setRooms_16 : decode cX12_setRooms 16 = .ok (.iconst 0, 1) := by decide +kernel
theorem dX12_setRooms_17 : decode cX12_setRooms 17 = .ok (.iconst 3, 1) := by decide +kernel
theorem dX12_setRooms_18 : decode cX12_setRooms 18 = .ok (.invokestatic 92, 3) := by decide +kernel
theorem dX12_setRooms_21 : decode cX12_setRooms 21 = .ok (.ifCond .eq 7, 3) := by decide +kernel
theorem dX12_setRooms_24 : decode cX12_setRooms 24 = .ok (.iconst 1, 1) := by decide +kernel
theorem dX12_setRooms_25 : decode cX12_setRooms 25 = .ok (.goto 4, 3) := by decide +kernel
theorem dX12_setRooms_28 : decode cX12_setRooms 28 = .ok (.iconst 0, 1) := by decide +kernel
theorem dX12_setRooms_29 : decode cX12_setRooms 29 = .ok (.iconst 1, 1) := by decide +kernel
theorem dX12_setRooms_30 : decode cX12_setRooms 30 = .ok (.invokevirtual 96, 3) := by decide +kernel
theorem dX12_setRooms_33 : decode cX12_setRooms 33 = .ok (.ifCond .eq 5, 3) := by decide +kernel
theorem dX12_setRooms_36 : decode cX12_setRooms 36 = .ok (.iconst 0, 1) := by decide +kernel
theorem dX12_setRooms_37 : decode cX12_setRooms 37 = .ok (.ireturn, 1) := by decide +kernel
theorem dX12_setRooms_38 : decode cX12_setRooms 38 = .ok (.aload_n 0, 1) := by decide +kernel
theorem dX12_setRooms_39 : decode cX12_setRooms 39 = .ok (.invokevirtual 100, 3) := by decide +kernel
theorem dX12_setRooms_42 : decode cX12_setRooms 42 = .ok (.aload_n 0, 1) := by decide +kernel
theorem dX12_setRooms_43 : decode cX12_setRooms 43 = .ok (.getfield 13, 3) := by decide +kernel
theorem dX12_setRooms_46 : decode cX12_setRooms 46 = .ok (.bipush 99, 2) := by decide +kernel
theorem dX12_setRooms_48 : decode cX12_setRooms 48 = .ok (.iload_n 1, 1) := by decide +kernel
theorem dX12_setRooms_49 : decode cX12_setRooms 49 = .ok (.iadd, 1) := by decide +kernel
theorem dX12_setRooms_50 : decode cX12_setRooms 50 = .ok (.iaload, 1) := by decide +kernel
theorem dX12_setRooms_51 : decode cX12_setRooms 51 = .ok (.istore_n 3, 1) := by decide +kernel
theorem dX12_setRooms_52 : decode cX12_setRooms 52 = .ok (.aload_n 0, 1) := by decide +kernel
theorem dX12_setRooms_53 : decode cX12_setRooms 53 = .ok (.getfield 13, 3) := by decide +kernel
theorem dX12_setRooms_56 : decode cX12_setRooms 56 = .ok (.bipush 99, 2) := by decide +kernel
theorem dX12_setRooms_58 : decode cX12_setRooms 58 = .ok (.iload_n 1, 1) := by decide +kernel
theorem dX12_setRooms_59 : decode cX12_setRooms 59 = .ok (.iadd, 1) := by decide +kernel
theorem dX12_setRooms_60 : decode cX12_setRooms 60 = .ok (.iload_n 2, 1) := by decide +kernel
theorem dX12_setRooms_61 : decode cX12_setRooms 61 = .ok (.iastore, 1) := by decide +kernel
theorem dX12_setRooms_62 : decode cX12_setRooms 62 = .ok (.aload_n 0, 1) := by decide +kernel
theorem dX12_setRooms_63 : decode cX12_setRooms 63 = .ok (.getfield 13, 3) := by decide +kernel
theorem dX12_setRooms_66 : decode cX12_setRooms 66 = .ok (.bipush 127, 2) := by decide +kernel
theorem dX12_setRooms_68 : decode cX12_setRooms 68 = .ok (.iconst 0, 1) := by decide +kernel
theorem dX12_setRooms_69 : decode cX12_setRooms 69 = .ok (.iastore, 1) := by decide +kernel
theorem dX12_setRooms_70 : decode cX12_setRooms 70 = .ok (.iload_n 3, 1) := by decide +kernel
theorem dX12_setRooms_71 : decode cX12_setRooms 71 = .ok (.ireturn, 1) := by decide +kernel
set_option maxRecDepth 20000 in
theorem ggX12_wish_X12_in : GoodIn wsX12_wish wsX12_in := goodIn_r _ [6] (by decide +kernel) (by decide +kernel)
set_option maxRecDepth 20000 in
theorem gX12_wish_X12_in : GoodIn wsX12_wish (va_wsS RX12 92 yX12_in wsX12_in) := goodIn_app (goodIn_of _ (by decide +kernel)) ggX12_wish_X12_in
set_option maxRecDepth 20000 in
theorem ggX12_wish_X12_fails : GoodIn wsX12_wish wsX12_fails := goodIn_r _ [10, 1, 34, 35, 36, 37, 38, 39, 40, 41, 42, 43, 44, 45, 46, 47, 48, 49, 50, 51, 52, 53, 54, 55, 56, 57, 58, 59, 60, 61, 62, 63] (by decide +kernel) (by decide +kernel)
set_option maxRecDepth 20000 in
theorem gX12_wish_X12_fails : GoodIn wsX12_wish (wsV RX12 96 RX12 yX12_fails wsX12_fails) := goodIn_app (goodIn_of _ (by decide +kernel)) ggX12_wish_X12_fails
set_option maxRecDepth 20000 in
theorem ggX12_wish_X12_isOfTwo : GoodIn wsX12_wish wsX12_isOfTwo := goodIn_r _ [14] (by decide +kernel) (by decide +kernel)
set_option maxRecDepth 20000 in
theorem gX12_wish_X12_isOfTwo : GoodIn wsX12_wish (wsV RX12 115 RX12 yX12_isOfTwo wsX12_isOfTwo) := goodIn_app (goodIn_of _ (by decide +kernel)) ggX12_wish_X12_isOfTwo
set_option maxRecDepth 20000 in
theorem ggX12_wish_X12_isOfLesson : GoodIn wsX12_wish wsX12_isOfLesson := goodIn_r _ [18] (by decide +kernel) (by decide +kernel)
set_option maxRecDepth 20000 in
theorem gX12_wish_X12_isOfLesson : GoodIn wsX12_wish (wsV RX12 111 RX12 yX12_isOfLesson wsX12_isOfLesson) := goodIn_app (goodIn_of _ (by decide +kernel)) ggX12_wish_X12_isOfLesson
set_option maxRecDepth 20000 in
theorem ggX12_wish_X12_noLesson : GoodIn wsX12_wish wsX12_noLesson := goodIn_r _ [22, 23, 24, 25, 5, 26, 2, 3, 4, 6, 7, 8, 9, 10, 1, 34, 35, 36, 37, 38, 39, 40, 41, 42, 43, 44, 45, 46, 47, 48, 49, 50, 51, 52, 53, 54, 55, 56, 57, 58, 59, 60, 61, 62, 63] (by decide +kernel) (by decide +kernel)
set_option maxRecDepth 20000 in
theorem gX12_wish_X12_noLesson : GoodIn wsX12_wish (wsV RX12 107 RX12 yX12_noLesson wsX12_noLesson) := goodIn_app (goodIn_of _ (by decide +kernel)) ggX12_wish_X12_noLesson
set_option maxRecDepth 20000 in
theorem ggX12_wish_X12_keeps : GoodIn wsX12_wish wsX12_keeps := goodIn_r _ [30, 31, 32, 2, 33, 34, 35, 36, 37, 38, 39, 40, 41, 42, 43, 44, 45, 46, 47, 48, 49, 50, 51, 52, 53, 54, 55, 56, 57, 58, 59, 60, 61, 62, 63] (by decide +kernel) (by decide +kernel)
set_option maxRecDepth 20000 in
theorem gX12_wish_X12_keeps : GoodIn wsX12_wish (wsV RX12 100 RX12 yX12_keeps wsX12_keeps) := goodIn_app (goodIn_of _ (by decide +kernel)) ggX12_wish_X12_keeps
theorem dX12_wish_0 : decode cX12_wish 0 = .ok (.aload_n 0, 1) := by decide +kernel
theorem dX12_wish_1 : decode cX12_wish 1 = .ok (.iconst 0, 1) := by decide +kernel
theorem dX12_wish_2 : decode cX12_wish 2 = .ok (.putfield 1, 3) := by decide +kernel
theorem dX12_wish_5 : decode cX12_wish 5 = .ok (.aload_n 0, 1) := by decide +kernel
theorem dX12_wish_6 : decode cX12_wish 6 = .ok (.iload_n 1, 1) := by decide +kernel
theorem dX12_wish_7 : decode cX12_wish 7 = .ok (.iconst 0, 1) := by decide +kernel
theorem dX12_wish_8 : decode cX12_wish 8 = .ok (.bipush 6, 2) := by decide +kernel
theorem dX12_wish_10 : decode cX12_wish 10 = .ok (.invokestatic 92, 3) := by decide +kernel
theorem dX12_wish_13 : decode cX12_wish 13 = .ok (.ifCond .eq 18, 3) := by decide +kernel
theorem dX12_wish_16 : decode cX12_wish 16 = .ok (.iload 4, 2) := by decide +kernel
theorem dX12_wish_18 : decode cX12_wish 18 = .ok (.iconst 0, 1) := by decide +kernel
theorem dX12_wish_19 : decode cX12_wish 19 = .ok (.bipush 9, 2) := by decide +kernel
theorem dX12_wish_21 : decode cX12_wish 21 = .ok (.invokestatic 92, 3) := by decide +kernel
theorem dX12_wish_24 : decode cX12_wish 24 = .ok (.ifCond .eq 7, 3) := by decide +kernel
theorem dX12_wish_27 : decode cX12_wish 27 = .ok (.iconst 1, 1) := by decide +kernel
theorem dX12_wish_28 : decode cX12_wish 28 = .ok (.goto 4, 3) := by decide +kernel
theorem dX12_wish_31 : decode cX12_wish 31 = .ok (.iconst 0, 1) := by decide +kernel
theorem dX12_wish_32 : decode cX12_wish 32 = .ok (.iconst 1, 1) := by decide +kernel
theorem dX12_wish_33 : decode cX12_wish 33 = .ok (.invokevirtual 96, 3) := by decide +kernel
theorem dX12_wish_36 : decode cX12_wish 36 = .ok (.ifCond .eq 5, 3) := by decide +kernel
theorem dX12_wish_39 : decode cX12_wish 39 = .ok (.iconst 0, 1) := by decide +kernel
theorem dX12_wish_40 : decode cX12_wish 40 = .ok (.ireturn, 1) := by decide +kernel
theorem dX12_wish_41 : decode cX12_wish 41 = .ok (.iload_n 1, 1) := by decide +kernel
theorem dX12_wish_42 : decode cX12_wish 42 = .ok (.iconst 2, 1) := by decide +kernel
theorem dX12_wish_43 : decode cX12_wish 43 = .ok (.if_icmp .ge 27, 3) := by decide +kernel
theorem dX12_wish_46 : decode cX12_wish 46 = .ok (.aload_n 0, 1) := by decide +kernel
theorem dX12_wish_47 : decode cX12_wish 47 = .ok (.iload_n 2, 1) := by decide +kernel
theorem dX12_wish_48 : decode cX12_wish 48 = .ok (.iconst 0, 1) := by decide +kernel
theorem dX12_wish_49 : decode cX12_wish 49 = .ok (.iload_n 1, 1) := by decide +kernel
theorem dX12_wish_50 : decode cX12_wish 50 = .ok (.ifCond .ne 7, 3) := by decide +kernel
theorem dX12_wish_53 : decode cX12_wish 53 = .ok (.iconst 5, 1) := by decide +kernel
theorem dX12_wish_54 : decode cX12_wish 54 = .ok (.goto 4, 3) := by decide +kernel
theorem dX12_wish_57 : decode cX12_wish 57 = .ok (.iconst 3, 1) := by decide +kernel
theorem dX12_wish_58 : decode cX12_wish 58 = .ok (.invokestatic 92, 3) := by decide +kernel
theorem dX12_wish_61 : decode cX12_wish 61 = .ok (.iconst 1, 1) := by decide +kernel
theorem dX12_wish_62 : decode cX12_wish 62 = .ok (.invokevirtual 96, 3) := by decide +kernel
theorem dX12_wish_65 : decode cX12_wish 65 = .ok (.ifCond .eq 5, 3) := by decide +kernel
theorem dX12_wish_68 : decode cX12_wish 68 = .ok (.iconst 0, 1) := by decide +kernel
theorem dX12_wish_69 : decode cX12_wish 69 = .ok (.ireturn, 1) := by decide +kernel
theorem dX12_wish_70 : decode cX12_wish 70 = .ok (.aload_n 0, 1) := by decide +kernel
theorem dX12_wish_71 : decode cX12_wish 71 = .ok (.iload_n 1, 1) := by decide +kernel
theorem dX12_wish_72 : decode cX12_wish 72 = .ok (.invokevirtual 115, 3) := by decide +kernel
theorem dX12_wish_75 : decode cX12_wish 75 = .ok (.ifCond .ne 29, 3) := by decide +kernel
theorem dX12_wish_78 : decode cX12_wish 78 = .ok (.aload_n 0, 1) := by decide +kernel
theorem dX12_wish_79 : decode cX12_wish 79 = .ok (.iload_n 3, 1) := by decide +kernel
theorem dX12_wish_80 : decode cX12_wish 80 = .ok (.iconst 0, 1) := by decide +kernel
theorem dX12_wish_81 : decode cX12_wish 81 = .ok (.iload_n 1, 1) := by decide +kernel
theorem dX12_wish_82 : decode cX12_wish 82 = .ok (.iconst 2, 1) := by decide +kernel
theorem dX12_wish_83 : decode cX12_wish 83 = .ok (.if_icmp .ne 7, 3) := by decide +kernel
theorem dX12_wish_86 : decode cX12_wish 86 = .ok (.iconst 4, 1) := by decide +kernel
theorem dX12_wish_87 : decode cX12_wish 87 = .ok (.goto 5, 3) := by decide +kernel
theorem dX12_wish_90 : decode cX12_wish 90 = .ok (.bipush 19, 2) := by decide +kernel
theorem dX12_wish_92 : decode cX12_wish 92 = .ok (.invokestatic 92, 3) := by decide +kernel
theorem dX12_wish_95 : decode cX12_wish 95 = .ok (.iconst 1, 1) := by decide +kernel
theorem dX12_wish_96 : decode cX12_wish 96 = .ok (.invokevirtual 96, 3) := by decide +kernel
theorem dX12_wish_99 : decode cX12_wish 99 = .ok (.ifCond .eq 5, 3) := by decide +kernel
theorem dX12_wish_102 : decode cX12_wish 102 = .ok (.iconst 0, 1) := by decide +kernel
theorem dX12_wish_103 : decode cX12_wish 103 = .ok (.ireturn, 1) := by decide +kernel
theorem dX12_wish_104 : decode cX12_wish 104 = .ok (.aload_n 0, 1) := by decide +kernel
theorem dX12_wish_105 : decode cX12_wish 105 = .ok (.iload_n 1, 1) := by decide +kernel
theorem dX12_wish_106 : decode cX12_wish 106 = .ok (.invokevirtual 115, 3) := by decide +kernel
theorem dX12_wish_109 : decode cX12_wish 109 = .ok (.ifCond .eq 23, 3) := by decide +kernel
theorem dX12_wish_112 : decode cX12_wish 112 = .ok (.aload_n 0, 1) := by decide +kernel
theorem dX12_wish_113 : decode cX12_wish 113 = .ok (.iload_n 2, 1) := by decide +kernel
theorem dX12_wish_114 : decode cX12_wish 114 = .ok (.iload_n 3, 1) := by decide +kernel
theorem dX12_wish_115 : decode cX12_wish 115 = .ok (.if_icmp .eq 7, 3) := by decide +kernel
theorem dX12_wish_118 : decode cX12_wish 118 = .ok (.iconst 1, 1) := by decide +kernel
theorem dX12_wish_119 : decode cX12_wish 119 = .ok (.goto 4, 3) := by decide +kernel
theorem dX12_wish_122 : decode cX12_wish 122 = .ok (.iconst 0, 1) := by decide +kernel
theorem dX12_wish_123 : decode cX12_wish 123 = .ok (.iconst 1, 1) := by decide +kernel
theorem dX12_wish_124 : decode cX12_wish 124 = .ok (.invokevirtual 96, 3) := by decide +kernel
theorem dX12_wish_127 : decode cX12_wish 127 = .ok (.ifCond .eq 5, 3) := by decide +kernel
theorem dX12_wish_130 : decode cX12_wish 130 = .ok (.iconst 0, 1) := by decide +kernel
theorem dX12_wish_131 : decode cX12_wish 131 = .ok (.ireturn, 1) := by decide +kernel
theorem dX12_wish_132 : decode cX12_wish 132 = .ok (.aload_n 0, 1) := by decide +kernel
theorem dX12_wish_133 : decode cX12_wish 133 = .ok (.iload_n 1, 1) := by decide +kernel
theorem dX12_wish_134 : decode cX12_wish 134 = .ok (.invokevirtual 111, 3) := by decide +kernel
theorem dX12_wish_137 : decode cX12_wish 137 = .ok (.ifCond .eq 12, 3) := by decide +kernel
theorem dX12_wish_140 : decode cX12_wish 140 = .ok (.aload_n 0, 1) := by decide +kernel
theorem dX12_wish_141 : decode cX12_wish 141 = .ok (.iload_n 2, 1) := by decide +kernel
theorem dX12_wish_142 : decode cX12_wish 142 = .ok (.iconst 2, 1) := by decide +kernel
theorem dX12_wish_143 : decode cX12_wish 143 = .ok (.invokevirtual 107, 3) := by decide +kernel
theorem dX12_wish_146 : decode cX12_wish 146 = .ok (.ifCond .ne 45, 3) := by decide +kernel
theorem dX12_wish_149 : decode cX12_wish 149 = .ok (.aload_n 0, 1) := by decide +kernel
theorem dX12_wish_150 : decode cX12_wish 150 = .ok (.iload_n 1, 1) := by decide +kernel
theorem dX12_wish_151 : decode cX12_wish 151 = .ok (.invokevirtual 115, 3) := by decide +kernel
theorem dX12_wish_154 : decode cX12_wish 154 = .ok (.ifCond .eq 12, 3) := by decide +kernel
theorem dX12_wish_157 : decode cX12_wish 157 = .ok (.aload_n 0, 1) := by decide +kernel
theorem dX12_wish_158 : decode cX12_wish 158 = .ok (.iload_n 3, 1) := by decide +kernel
theorem dX12_wish_159 : decode cX12_wish 159 = .ok (.iconst 2, 1) := by decide +kernel
theorem dX12_wish_160 : decode cX12_wish 160 = .ok (.invokevirtual 107, 3) := by decide +kernel
theorem dX12_wish_163 : decode cX12_wish 163 = .ok (.ifCond .ne 28, 3) := by decide +kernel
theorem dX12_wish_166 : decode cX12_wish 166 = .ok (.aload_n 0, 1) := by decide +kernel
theorem dX12_wish_167 : decode cX12_wish 167 = .ok (.aload_n 0, 1) := by decide +kernel
theorem dX12_wish_168 : decode cX12_wish 168 = .ok (.getfield 13, 3) := by decide +kernel
theorem dX12_wish_171 : decode cX12_wish 171 = .ok (.bipush 126, 2) := by decide +kernel
theorem dX12_wish_173 : decode cX12_wish 173 = .ok (.iaload, 1) := by decide +kernel
theorem dX12_wish_174 : decode cX12_wish 174 = .ok (.bipush 12, 2) := by decide +kernel
theorem dX12_wish_176 : decode cX12_wish 176 = .ok (.if_icmp .ge 7, 3) := by decide +kernel
theorem dX12_wish_179 : decode cX12_wish 179 = .ok (.iconst 1, 1) := by decide +kernel
theorem dX12_wish_180 : decode cX12_wish 180 = .ok (.goto 4, 3) := by decide +kernel
theorem dX12_wish_183 : decode cX12_wish 183 = .ok (.iconst 0, 1) := by decide +kernel
theorem dX12_wish_184 : decode cX12_wish 184 = .ok (.iconst 3, 1) := by decide +kernel
theorem dX12_wish_185 : decode cX12_wish 185 = .ok (.invokevirtual 96, 3) := by decide +kernel
theorem dX12_wish_188 : decode cX12_wish 188 = .ok (.ifCond .eq 5, 3) := by decide +kernel
theorem dX12_wish_191 : decode cX12_wish 191 = .ok (.iconst 0, 1) := by decide +kernel
theorem dX12_wish_192 : decode cX12_wish 192 = .ok (.ireturn, 1) := by decide +kernel
theorem dX12_wish_193 : decode cX12_wish 193 = .ok (.aload_n 0, 1) := by decide +kernel
theorem dX12_wish_194 : decode cX12_wish 194 = .ok (.invokevirtual 100, 3) := by decide +kernel
theorem dX12_wish_197 : decode cX12_wish 197 = .ok (.aload_n 0, 1) := by decide +kernel
theorem dX12_wish_198 : decode cX12_wish 198 = .ok (.getfield 13, 3) := by decide +kernel
theorem dX12_wish_201 : decode cX12_wish 201 = .ok (.bipush 126, 2) := by decide +kernel
theorem dX12_wish_203 : decode cX12_wish 203 = .ok (.iaload, 1) := by decide +kernel
theorem dX12_wish_204 : decode cX12_wish 204 = .ok (.istore 5, 2) := by decide +kernel
theorem dX12_wish_206 : decode cX12_wish 206 = .ok (.aload_n 0, 1) := by decide +kernel
theorem dX12_wish_207 : decode cX12_wish 207 = .ok (.getfield 13, 3) := by decide +kernel
theorem dX12_wish_210 : decode cX12_wish 210 = .ok (.bipush 45, 2) := by decide +kernel
theorem dX12_wish_212 : decode cX12_wish 212 = .ok (.iload 5, 2) := by decide +kernel
theorem dX12_wish_214 : decode cX12_wish 214 = .ok (.iadd, 1) := by decide +kernel
theorem dX12_wish_215 : decode cX12_wish 215 = .ok (.iload_n 1, 1) := by decide +kernel
theorem dX12_wish_216 : decode cX12_wish 216 = .ok (.iastore, 1) := by decide +kernel
theorem dX12_wish_217 : decode cX12_wish 217 = .ok (.aload_n 0, 1) := by decide +kernel
theorem dX12_wish_218 : decode cX12_wish 218 = .ok (.getfield 13, 3) := by decide +kernel
theorem dX12_wish_221 : decode cX12_wish 221 = .ok (.bipush 57, 2) := by decide +kernel
theorem dX12_wish_223 : decode cX12_wish 223 = .ok (.iload 5, 2) := by decide +kernel
theorem dX12_wish_225 : decode cX12_wish 225 = .ok (.iadd, 1) := by decide +kernel
theorem dX12_wish_226 : decode cX12_wish 226 = .ok (.iload_n 2, 1) := by decide +kernel
theorem dX12_wish_227 : decode cX12_wish 227 = .ok (.iastore, 1) := by decide +kernel
theorem dX12_wish_228 : decode cX12_wish 228 = .ok (.aload_n 0, 1) := by decide +kernel
theorem dX12_wish_229 : decode cX12_wish 229 = .ok (.getfield 13, 3) := by decide +kernel
theorem dX12_wish_232 : decode cX12_wish 232 = .ok (.bipush 69, 2) := by decide +kernel
theorem dX12_wish_234 : decode cX12_wish 234 = .ok (.iload 5, 2) := by decide +kernel
theorem dX12_wish_236 : decode cX12_wish 236 = .ok (.iadd, 1) := by decide +kernel
theorem dX12_wish_237 : decode cX12_wish 237 = .ok (.iload_n 3, 1) := by decide +kernel
theorem dX12_wish_238 : decode cX12_wish 238 = .ok (.iastore, 1) := by decide +kernel
theorem dX12_wish_239 : decode cX12_wish 239 = .ok (.aload_n 0, 1) := by decide +kernel
theorem dX12_wish_240 : decode cX12_wish 240 = .ok (.getfield 13, 3) := by decide +kernel
theorem dX12_wish_243 : decode cX12_wish 243 = .ok (.bipush 81, 2) := by decide +kernel
theorem dX12_wish_245 : decode cX12_wish 245 = .ok (.iload 5, 2) := by decide +kernel
theorem dX12_wish_247 : decode cX12_wish 247 = .ok (.iadd, 1) := by decide +kernel
theorem dX12_wish_248 : decode cX12_wish 248 = .ok (.iload 4, 2) := by decide +kernel
theorem dX12_wish_250 : decode cX12_wish 250 = .ok (.iastore, 1) := by decide +kernel
theorem dX12_wish_251 : decode cX12_wish 251 = .ok (.aload_n 0, 1) := by decide +kernel
theorem dX12_wish_252 : decode cX12_wish 252 = .ok (.getfield 13, 3) := by decide +kernel
theorem dX12_wish_255 : decode cX12_wish 255 = .ok (.bipush 126, 2) := by decide +kernel
theorem dX12_wish_257 : decode cX12_wish 257 = .ok (.dup2, 1) := by decide +kernel
theorem dX12_wish_258 : decode cX12_wish 258 = .ok (.iaload, 1) := by decide +kernel
theorem dX12_wish_259 : decode cX12_wish 259 = .ok (.iconst 1, 1) := by decide +kernel
theorem dX12_wish_260 : decode cX12_wish 260 = .ok (.iadd, 1) := by decide +kernel
theorem dX12_wish_261 : decode cX12_wish 261 = .ok (.iastore, 1) := by decide +kernel
theorem dX12_wish_262 : decode cX12_wish 262 = .ok (.aload_n 0, 1) := by decide +kernel
theorem dX12_wish_263 : decode cX12_wish 263 = .ok (.getfield 13, 3) := by decide +kernel
theorem dX12_wish_266 : decode cX12_wish 266 = .ok (.bipush 127, 2) := by decide +kernel
theorem dX12_wish_268 : decode cX12_wish 268 = .ok (.iconst 0, 1) := by decide +kernel
theorem dX12_wish_269 : decode cX12_wish 269 = .ok (.iastore, 1) := by decide +kernel
theorem dX12_wish_270 : decode cX12_wish 270 = .ok (.iload 5, 2) := by decide +kernel
theorem dX12_wish_272 : decode cX12_wish 272 = .ok (.ireturn, 1) := by decide +kernel
set_option maxRecDepth 20000 in
theorem ggX12_noWish_X12_in : GoodIn wsX12_noWish wsX12_in := goodIn_r _ [5] (by decide +kernel) (by decide +kernel)
set_option maxRecDepth 20000 in
theorem gX12_noWish_X12_in : GoodIn wsX12_noWish (va_wsS RX12 92 yX12_in wsX12_in) := goodIn_app (goodIn_of _ (by decide +kernel)) ggX12_noWish_X12_in
set_option maxRecDepth 20000 in
theorem ggX12_noWish_X12_fails : GoodIn wsX12_noWish wsX12_fails := goodIn_r _ [9, 10, 11, 12, 13, 14, 15, 16, 17, 18, 19, 20, 21, 22, 23, 24, 25, 26, 27, 28, 29, 30, 31, 32, 33, 34, 35, 36, 37, 38, 39, 40] (by decide +kernel) (by decide +kernel)
set_option maxRecDepth 20000 in
theorem gX12_noWish_X12_fails : GoodIn wsX12_noWish (wsV RX12 96 RX12 yX12_fails wsX12_fails) := goodIn_app (goodIn_of _ (by decide +kernel)) ggX12_noWish_X12_fails
theorem dX12_noWish_0 : decode cX12_noWish 0 = .ok (.aload_n 0, 1) := by decide +kernel
theorem dX12_noWish_1 : decode cX12_noWish 1 = .ok (.iload_n 1, 1) := by decide +kernel
theorem dX12_noWish_2 : decode cX12_noWish 2 = .ok (.iconst 0, 1) := by decide +kernel
theorem dX12_noWish_3 : decode cX12_noWish 3 = .ok (.aload_n 0, 1) := by decide +kernel
theorem dX12_noWish_4 : decode cX12_noWish 4 = .ok (.getfield 13, 3) := by decide +kernel
theorem dX12_noWish_7 : decode cX12_noWish 7 = .ok (.bipush 126, 2) := by decide +kernel
theorem dX12_noWish_9 : decode cX12_noWish 9 = .ok (.iaload, 1) := by decide +kernel
theorem dX12_noWish_10 : decode cX12_noWish 10 = .ok (.iconst 1, 1) := by decide +kernel
theorem dX12_noWish_11 : decode cX12_noWish 11 = .ok (.isub, 1) := by decide +kernel
theorem dX12_noWish_12 : decode cX12_noWish 12 = .ok (.invokestatic 92, 3) := by decide +kernel
theorem dX12_noWish_15 : decode cX12_noWish 15 = .ok (.iconst 1, 1) := by decide +kernel
theorem dX12_noWish_16 : decode cX12_noWish 16 = .ok (.invokevirtual 96, 3) := by decide +kernel
theorem dX12_noWish_19 : decode cX12_noWish 19 = .ok (.ireturn, 1) := by decide +kernel
set_option maxRecDepth 20000 in
theorem ggX12_dropWish_X12_noWish : GoodIn wsX12_dropWish wsX12_noWish := goodIn_r _ [7, 2, 8, 9, 6, 10, 11, 12, 13, 14, 1, 30, 31, 32, 33, 34, 35, 36, 37, 38, 39, 40, 41, 42, 43, 44, 45, 46, 47, 48, 49, 50, 51, 52, 53, 54, 55, 56, 57, 58, 59] (by decide +kernel) (by decide +kernel)
set_option maxRecDepth 20000 in
theorem gX12_dropWish_X12_noWish : GoodIn wsX12_dropWish (wsV RX12 125 RX12 yX12_noWish wsX12_noWish) := goodIn_app (goodIn_of _ (by decide +kernel)) ggX12_dropWish_X12_noWish
set_option maxRecDepth 20000 in
theorem ggX12_dropWish_X12_keeps : GoodIn wsX12_dropWish wsX12_keeps := goodIn_r _ [18, 19, 20, 2, 21, 30, 31, 32, 33, 34, 35, 36, 37, 38, 39, 40, 41, 42, 43, 44, 45, 46, 47, 48, 49, 50, 51, 52, 53, 54, 55, 56, 57, 58, 59] (by decide +kernel) (by decide +kernel)
set_option maxRecDepth 20000 in
theorem gX12_dropWish_X12_keeps : GoodIn wsX12_dropWish (wsV RX12 100 RX12 yX12_keeps wsX12_keeps) := goodIn_app (goodIn_of _ (by decide +kernel)) ggX12_dropWish_X12_keeps
set_option maxRecDepth 20000 in
theorem ggX12_dropWish_X12_dropsWish : GoodIn wsX12_dropWish wsX12_dropsWish := goodIn_r _ [25, 2, 26, 27, 28, 6, 29, 30, 31, 32, 33, 34, 35, 36, 37, 38, 39, 40, 41, 42, 43, 44, 45, 46, 47, 48, 49, 50, 51, 52, 53, 54, 55, 56, 57, 58, 59] (by decide +kernel) (by decide +kernel)
set_option maxRecDepth 20000 in
theorem gX12_dropWish_X12_dropsWish : GoodIn wsX12_dropWish (wsV RX12 118 RX12 yX12_dropsWish wsX12_dropsWish) := goodIn_app (goodIn_of _ (by decide +kernel)) ggX12_dropWish_X12_dropsWish
theorem dX12_dropWish_0 : decode cX12_dropWish 0 = .ok (.aload_n 0, 1) := by decide +kernel
theorem dX12_dropWish_1 : decode cX12_dropWish 1 = .ok (.iconst 0, 1) := by decide +kernel
theorem dX12_dropWish_2 : decode cX12_dropWish 2 = .ok (.putfield 1, 3) := by decide +kernel
theorem dX12_dropWish_5 : decode cX12_dropWish 5 = .ok (.aload_n 0, 1) := by decide +kernel
theorem dX12_dropWish_6 : decode cX12_dropWish 6 = .ok (.iload_n 1, 1) := by decide +kernel
theorem dX12_dropWish_7 : decode cX12_dropWish 7 = .ok (.invokevirtual 125, 3) := by decide +kernel
theorem dX12_dropWish_10 : decode cX12_dropWish 10 = .ok (.ifCond .eq 5, 3) := by decide +kernel
theorem dX12_dropWish_13 : decode cX12_dropWish 13 = .ok (.iconst 0, 1) := by decide +kernel
theorem dX12_dropWish_14 : decode cX12_dropWish 14 = .ok (.ireturn, 1) := by decide +kernel
theorem dX12_dropWish_15 : decode cX12_dropWish 15 = .ok (.aload_n 0, 1) := by decide +kernel
theorem dX12_dropWish_16 : decode cX12_dropWish 16 = .ok (.invokevirtual 100, 3) := by decide +kernel
theorem dX12_dropWish_19 : decode cX12_dropWish 19 = .ok (.aload_n 0, 1) := by decide +kernel
theorem dX12_dropWish_20 : decode cX12_dropWish 20 = .ok (.iload_n 1, 1) := by decide +kernel
theorem dX12_dropWish_21 : decode cX12_dropWish 21 = .ok (.invokevirtual 118, 3) := by decide +kernel
theorem dX12_dropWish_24 : decode cX12_dropWish 24 = .ok (.aload_n 0, 1) := by decide +kernel
theorem dX12_dropWish_25 : decode cX12_dropWish 25 = .ok (.getfield 13, 3) := by decide +kernel
theorem dX12_dropWish_28 : decode cX12_dropWish 28 = .ok (.bipush 127, 2) := by decide +kernel
theorem dX12_dropWish_30 : decode cX12_dropWish 30 = .ok (.iconst 0, 1) := by decide +kernel
theorem dX12_dropWish_31 : decode cX12_dropWish 31 = .ok (.iastore, 1) := by decide +kernel
theorem dX12_dropWish_32 : decode cX12_dropWish 32 = .ok (.aload_n 0, 1) := by decide +kernel
theorem dX12_dropWish_33 : decode cX12_dropWish 33 = .ok (.getfield 13, 3) := by decide +kernel
theorem dX12_dropWish_36 : decode cX12_dropWish 36 = .ok (.bipush 126, 2) := by decide +kernel
theorem dX12_dropWish_38 : decode cX12_dropWish 38 = .ok (.iaload, 1) := by decide +kernel
theorem dX12_dropWish_39 : decode cX12_dropWish 39 = .ok (.ireturn, 1) := by decide +kernel
set_option maxRecDepth 20000 in
theorem ggX12_wishOf_X12_noWish : GoodIn wsX12_wishOf wsX12_noWish := goodIn_r _ [7, 2, 8, 9, 6, 10, 11, 12, 13, 14, 1, 15, 16, 17, 18, 19, 20, 21, 22, 23, 24, 25, 26, 27, 28, 29, 30, 31, 32, 33, 34, 35, 36, 37, 38, 39, 40, 41, 42, 43, 44] (by decide +kernel) (by decide +kernel)
set_option maxRecDepth 20000 in
theorem gX12_wishOf_X12_noWish : GoodIn wsX12_wishOf (wsV RX12 125 RX12 yX12_noWish wsX12_noWish) := goodIn_app (goodIn_of _ (by decide +kernel)) ggX12_wishOf_X12_noWish
set_option maxRecDepth 20000 in
theorem ggX12_wishOf_X12_in : GoodIn wsX12_wishOf wsX12_in := goodIn_r _ [10] (by decide +kernel) (by decide +kernel)
set_option maxRecDepth 20000 in
theorem gX12_wishOf_X12_in : GoodIn wsX12_wishOf (va_wsS RX12 92 yX12_in wsX12_in) := goodIn_app (goodIn_of _ (by decide +kernel)) ggX12_wishOf_X12_in
set_option maxRecDepth 20000 in
theorem ggX12_wishOf_X12_fails : GoodIn wsX12_wishOf wsX12_fails := goodIn_r _ [14, 1, 15, 16, 17, 18, 19, 20, 21, 22, 23, 24, 25, 26, 27, 28, 29, 30, 31, 32, 33, 34, 35, 36, 37, 38, 39, 40, 41, 42, 43, 44] (by decide +kernel) (by decide +kernel)
set_option maxRecDepth 20000 in
theorem gX12_wishOf_X12_fails : GoodIn wsX12_wishOf (wsV RX12 96 RX12 yX12_fails wsX12_fails) := goodIn_app (goodIn_of _ (by decide +kernel)) ggX12_wishOf_X12_fails
theorem dX12_wishOf_0 : decode cX12_wishOf 0 = .ok (.aload_n 0, 1) := by decide +kernel
theorem dX12_wishOf_1 : decode cX12_wishOf 1 = .ok (.iconst 0, 1) := by decide +kernel
theorem dX12_wishOf_2 : decode cX12_wishOf 2 = .ok (.putfield 1, 3) := by decide +kernel
theorem dX12_wishOf_5 : decode cX12_wishOf 5 = .ok (.aload_n 0, 1) := by decide +kernel
theorem dX12_wishOf_6 : decode cX12_wishOf 6 = .ok (.iload_n 1, 1) := by decide +kernel
theorem dX12_wishOf_7 : decode cX12_wishOf 7 = .ok (.invokevirtual 125, 3) := by decide +kernel
theorem dX12_wishOf_10 : decode cX12_wishOf 10 = .ok (.ifCond .ne 17, 3) := by decide +kernel
theorem dX12_wishOf_13 : decode cX12_wishOf 13 = .ok (.aload_n 0, 1) := by decide +kernel
theorem dX12_wishOf_14 : decode cX12_wishOf 14 = .ok (.iload_n 2, 1) := by decide +kernel
theorem dX12_wishOf_15 : decode cX12_wishOf 15 = .ok (.iconst 0, 1) := by decide +kernel
theorem dX12_wishOf_16 : decode cX12_wishOf 16 = .ok (.iconst 3, 1) := by decide +kernel
theorem dX12_wishOf_17 : decode cX12_wishOf 17 = .ok (.invokestatic 92, 3) := by decide +kernel
theorem dX12_wishOf_20 : decode cX12_wishOf 20 = .ok (.iconst 2, 1) := by decide +kernel
theorem dX12_wishOf_21 : decode cX12_wishOf 21 = .ok (.invokevirtual 96, 3) := by decide +kernel
theorem dX12_wishOf_24 : decode cX12_wishOf 24 = .ok (.ifCond .eq 5, 3) := by decide +kernel
theorem dX12_wishOf_27 : decode cX12_wishOf 27 = .ok (.iconst 0, 1) := by decide +kernel
theorem dX12_wishOf_28 : decode cX12_wishOf 28 = .ok (.ireturn, 1) := by decide +kernel
theorem dX12_wishOf_29 : decode cX12_wishOf 29 = .ok (.aload_n 0, 1) := by decide +kernel
theorem dX12_wishOf_30 : decode cX12_wishOf 30 = .ok (.getfield 13, 3) := by decide +kernel
theorem dX12_wishOf_33 : decode cX12_wishOf 33 = .ok (.bipush 45, 2) := by decide +kernel
theorem dX12_wishOf_35 : decode cX12_wishOf 35 = .ok (.bipush 12, 2) := by decide +kernel
theorem dX12_wishOf_37 : decode cX12_wishOf 37 = .ok (.iload_n 2, 1) := by decide +kernel
theorem dX12_wishOf_38 : decode cX12_wishOf 38 = .ok (.imul, 1) := by decide +kernel
theorem dX12_wishOf_39 : decode cX12_wishOf 39 = .ok (.iadd, 1) := by decide +kernel
theorem dX12_wishOf_40 : decode cX12_wishOf 40 = .ok (.iload_n 1, 1) := by decide +kernel
theorem dX12_wishOf_41 : decode cX12_wishOf 41 = .ok (.iadd, 1) := by decide +kernel
theorem dX12_wishOf_42 : decode cX12_wishOf 42 = .ok (.iaload, 1) := by decide +kernel
theorem dX12_wishOf_43 : decode cX12_wishOf 43 = .ok (.ireturn, 1) := by decide +kernel
theorem dX12_wishes_0 : decode cX12_wishes 0 = .ok (.aload_n 0, 1) := by decide +kernel
theorem dX12_wishes_1 : decode cX12_wishes 1 = .ok (.iconst 0, 1) := by decide +kernel
theorem dX12_wishes_2 : decode cX12_wishes 2 = .ok (.putfield 1, 3) := by decide +kernel
theorem dX12_wishes_5 : decode cX12_wishes 5 = .ok (.aload_n 0, 1) := by decide +kernel
theorem dX12_wishes_6 : decode cX12_wishes 6 = .ok (.getfield 13, 3) := by decide +kernel
theorem dX12_wishes_9 : decode cX12_wishes 9 = .ok (.bipush 126, 2) := by decide +kernel
theorem dX12_wishes_11 : decode cX12_wishes 11 = .ok (.iaload, 1) := by decide +kernel
theorem dX12_wishes_12 : decode cX12_wishes 12 = .ok (.ireturn, 1) := by decide +kernel
theorem dX12_isDouble_0 : decode cX12_isDouble 0 = .ok (.aload_n 0, 1) := by decide +kernel
theorem dX12_isDouble_1 : decode cX12_isDouble 1 = .ok (.getfield 13, 3) := by decide +kernel
theorem dX12_isDouble_4 : decode cX12_isDouble 4 = .ok (.bipush 36, 2) := by decide +kernel
theorem dX12_isDouble_6 : decode cX12_isDouble 6 = .ok (.iload_n 1, 1) := by decide +kernel
theorem dX12_isDouble_7 : decode cX12_isDouble 7 = .ok (.iadd, 1) := by decide +kernel
theorem dX12_isDouble_8 : decode cX12_isDouble 8 = .ok (.iaload, 1) := by decide +kernel
theorem dX12_isDouble_9 : decode cX12_isDouble 9 = .ok (.iconst 1, 1) := by decide +kernel

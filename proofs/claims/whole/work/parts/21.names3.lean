theorem dX1_valueOf_36 : decode cX1_valueOf 36 = .ok (.ireturn, 1) := by decide +kernel
theorem dX1_tell_0 : decode cX1_tell 0 = .ok (.iload_n 1, 1) := by decide +kernel
theorem dX1_tell_1 : decode cX1_tell 1 = .ok (.tableswitch 69 0 5 #[39, 44, 49, 54, 59, 64], 39) := by decide +kernel
theorem dX1_tell_40 : decode cX1_tell 40 = .ok (.aload_n 0, 1) := by decide +kernel
theorem dX1_tell_41 : decode cX1_tell 41 = .ok (.getfield 27, 3) := by decide +kernel
theorem dX1_tell_44 : decode cX1_tell 44 = .ok (.ireturn, 1) := by decide +kernel
theorem dX1_tell_45 : decode cX1_tell 45 = .ok (.aload_n 0, 1) := by decide +kernel
theorem dX1_tell_46 : decode cX1_tell 46 = .ok (.getfield 37, 3) := by decide +kernel
theorem dX1_tell_49 : decode cX1_tell 49 = .ok (.ireturn, 1) := by decide +kernel
theorem dX1_tell_50 : decode cX1_tell 50 = .ok (.aload_n 0, 1) := by decide +kernel
theorem dX1_tell_51 : decode cX1_tell 51 = .ok (.getfield 49, 3) := by decide +kernel
theorem dX1_tell_54 : decode cX1_tell 54 = .ok (.ireturn, 1) := by decide +kernel
theorem dX1_tell_55 : decode cX1_tell 55 = .ok (.aload_n 0, 1) := by decide +kernel
theorem dX1_tell_56 : decode cX1_tell 56 = .ok (.getfield 52, 3) := by decide +kernel
theorem dX1_tell_59 : decode cX1_tell 59 = .ok (.ireturn, 1) := by decide +kernel
theorem dX1_tell_60 : decode cX1_tell 60 = .ok (.aload_n 0, 1) := by decide +kernel
theorem dX1_tell_61 : decode cX1_tell 61 = .ok (.getfield 55, 3) := by decide +kernel
theorem dX1_tell_64 : decode cX1_tell 64 = .ok (.ireturn, 1) := by decide +kernel
theorem dX1_tell_65 : decode cX1_tell 65 = .ok (.aload_n 0, 1) := by decide +kernel
theorem dX1_tell_66 : decode cX1_tell 66 = .ok (.getfield 34, 3) := by decide +kernel
theorem dX1_tell_69 : decode cX1_tell 69 = .ok (.ireturn, 1) := by decide +kernel
theorem dX1_tell_70 : decode cX1_tell 70 = .ok (.iconst (-1), 1) := by decide +kernel
theorem dX1_tell_71 : decode cX1_tell 71 = .ok (.ireturn, 1) := by decide +kernel
theorem dX2_init_0 : decode cX2_init 0 = .ok (.aload_n 0, 1) := by decide +kernel
theorem dX2_init_1 : decode cX2_init 1 = .ok (.invokespecial 3, 3) := by decide +kernel
theorem dX2_init_4 : decode cX2_init 4 = .ok (.aload_n 0, 1) := by decide +kernel
theorem dX2_init_5 : decode cX2_init 5 = .ok (.bipush 6, 2) := by decide +kernel
theorem dX2_init_7 : decode cX2_init 7 = .ok (.newarray .int, 2) := by decide +kernel
theorem dX2_init_9 : decode cX2_init 9 = .ok (.putfield 9, 3) := by decide +kernel
theorem dX2_init_12 : decode cX2_init 12 = .ok (.aload_n 0, 1) := by decide +kernel
theorem dX2_init_13 : decode cX2_init 13 = .ok (.bipush 6, 2) := by decide +kernel
theorem dX2_init_15 : decode cX2_init 15 = .ok (.newarray .int, 2) := by decide +kernel
theorem dX2_init_17 : decode cX2_init 17 = .ok (.putfield 15, 3) := by decide +kernel
theorem dX2_init_20 : decode cX2_init 20 = .ok (.aload_n 0, 1) := by decide +kernel
theorem dX2_init_21 : decode cX2_init 21 = .ok (.bipush 72, 2) := by decide +kernel
theorem dX2_init_23 : decode cX2_init 23 = .ok (.newarray .int, 2) := by decide +kernel
theorem dX2_init_25 : decode cX2_init 25 = .ok (.putfield 18, 3) := by decide +kernel
theorem dX2_init_28 : decode cX2_init 28 = .ok (.aload_n 0, 1) := by decide +kernel
theorem dX2_init_29 : decode cX2_init 29 = .ok (.bipush 72, 2) := by decide +kernel
theorem dX2_init_31 : decode cX2_init 31 = .ok (.newarray .int, 2) := by decide +kernel
theorem dX2_init_33 : decode cX2_init 33 = .ok (.putfield 21, 3) := by decide +kernel
theorem dX2_init_36 : decode cX2_init 36 = .ok (.aload_n 0, 1) := by decide +kernel
theorem dX2_init_37 : decode cX2_init 37 = .ok (.bipush 72, 2) := by decide +kernel
theorem dX2_init_39 : decode cX2_init 39 = .ok (.newarray .int, 2) := by decide +kernel
theorem dX2_init_41 : decode cX2_init 41 = .ok (.putfield 24, 3) := by decide +kernel
theorem dX2_init_44 : decode cX2_init 44 = .ok (.aload_n 0, 1) := by decide +kernel
theorem dX2_init_45 : decode cX2_init 45 = .ok (.bipush 72, 2) := by decide +kernel
theorem dX2_init_47 : decode cX2_init 47 = .ok (.newarray .int, 2) := by decide +kernel
theorem dX2_init_49 : decode cX2_init 49 = .ok (.putfield 27, 3) := by decide +kernel
theorem dX2_init_52 : decode cX2_init 52 = .ok (.aload_n 0, 1) := by decide +kernel
theorem dX2_init_53 : decode cX2_init 53 = .ok (.bipush 72, 2) := by decide +kernel
theorem dX2_init_55 : decode cX2_init 55 = .ok (.newarray .int, 2) := by decide +kernel
theorem dX2_init_57 : decode cX2_init 57 = .ok (.putfield 30, 3) := by decide +kernel
theorem dX2_init_60 : decode cX2_init 60 = .ok (.aload_n 0, 1) := by decide +kernel
theorem dX2_init_61 : decode cX2_init 61 = .ok (.bipush 72, 2) := by decide +kernel
theorem dX2_init_63 : decode cX2_init 63 = .ok (.newarray .int, 2) := by decide +kernel
theorem dX2_init_65 : decode cX2_init 65 = .ok (.putfield 33, 3) := by decide +kernel
theorem dX2_init_68 : decode cX2_init 68 = .ok (.aload_n 0, 1) := by decide +kernel
theorem dX2_init_69 : decode cX2_init 69 = .ok (.iconst 3, 1) := by decide +kernel
theorem dX2_init_70 : decode cX2_init 70 = .ok (.newarray .int, 2) := by decide +kernel
theorem dX2_init_72 : decode cX2_init 72 = .ok (.putfield 36, 3) := by decide +kernel
theorem dX2_init_75 : decode cX2_init 75 = .ok (.aload_n 0, 1) := by decide +kernel
theorem dX2_init_76 : decode cX2_init 76 = .ok (.aload_n 1, 1) := by decide +kernel
theorem dX2_init_77 : decode cX2_init 77 = .ok (.putfield 39, 3) := by decide +kernel
theorem dX2_init_80 : decode cX2_init 80 = .ok (.iconst 0, 1) := by decide +kernel
theorem dX2_init_81 : decode cX2_init 81 = .ok (.istore_n 2, 1) := by decide +kernel
theorem dX2_init_82 : decode cX2_init 82 = .ok (.iload_n 2, 1) := by decide +kernel
theorem dX2_init_83 : decode cX2_init 83 = .ok (.bipush 6, 2) := by decide +kernel
theorem dX2_init_85 : decode cX2_init 85 = .ok (.if_icmp .ge 16, 3) := by decide +kernel
theorem dX2_init_88 : decode cX2_init 88 = .ok (.aload_n 0, 1) := by decide +kernel
theorem dX2_init_89 : decode cX2_init 89 = .ok (.getfield 15, 3) := by decide +kernel
theorem dX2_init_92 : decode cX2_init 92 = .ok (.iload_n 2, 1) := by decide +kernel
theorem dX2_init_93 : decode cX2_init 93 = .ok (.iconst (-1), 1) := by decide +kernel
theorem dX2_init_94 : decode cX2_init 94 = .ok (.iastore, 1) := by decide +kernel
theorem dX2_init_95 : decode cX2_init 95 = .ok (.iinc 2 1, 3) := by decide +kernel
theorem dX2_init_98 : decode cX2_init 98 = .ok (.goto (-16), 3) := by decide +kernel
theorem dX2_init_101 : decode cX2_init 101 = .ok (.iconst 0, 1) := by decide +kernel
theorem dX2_init_102 : decode cX2_init 102 = .ok (.istore_n 2, 1) := by decide +kernel
theorem dX2_init_103 : decode cX2_init 103 = .ok (.iload_n 2, 1) := by decide +kernel
theorem dX2_init_104 : decode cX2_init 104 = .ok (.bipush 72, 2) := by decide +kernel
theorem dX2_init_106 : decode cX2_init 106 = .ok (.if_icmp .ge 37, 3) := by decide +kernel
theorem dX2_init_109 : decode cX2_init 109 = .ok (.aload_n 0, 1) := by decide +kernel
theorem dX2_init_110 : decode cX2_init 110 = .ok (.getfield 21, 3) := by decide +kernel
theorem dX2_init_113 : decode cX2_init 113 = .ok (.iload_n 2, 1) := by decide +kernel
theorem dX2_init_114 : decode cX2_init 114 = .ok (.iconst (-1), 1) := by decide +kernel
theorem dX2_init_115 : decode cX2_init 115 = .ok (.iastore, 1) := by decide +kernel
theorem dX2_init_116 : decode cX2_init 116 = .ok (.aload_n 0, 1) := by decide +kernel
theorem dX2_init_117 : decode cX2_init 117 = .ok (.getfield 27, 3) := by decide +kernel
theorem dX2_init_120 : decode cX2_init 120 = .ok (.iload_n 2, 1) := by decide +kernel
theorem dX2_init_121 : decode cX2_init 121 = .ok (.iconst (-1), 1) := by decide +kernel
theorem dX2_init_122 : decode cX2_init 122 = .ok (.iastore, 1) := by decide +kernel
theorem dX2_init_123 : decode cX2_init 123 = .ok (.aload_n 0, 1) := by decide +kernel
theorem dX2_init_124 : decode cX2_init 124 = .ok (.getfield 30, 3) := by decide +kernel
theorem dX2_init_127 : decode cX2_init 127 = .ok (.iload_n 2, 1) := by decide +kernel
theorem dX2_init_128 : decode cX2_init 128 = .ok (.iconst (-1), 1) := by decide +kernel
theorem dX2_init_129 : decode cX2_init 129 = .ok (.iastore, 1) := by decide +kernel
theorem dX2_init_130 : decode cX2_init 130 = .ok (.aload_n 0, 1) := by decide +kernel
theorem dX2_init_131 : decode cX2_init 131 = .ok (.getfield 33, 3) := by decide +kernel
theorem dX2_init_134 : decode cX2_init 134 = .ok (.iload_n 2, 1) := by decide +kernel
theorem dX2_init_135 : decode cX2_init 135 = .ok (.iconst (-1), 1) := by decide +kernel
theorem dX2_init_136 : decode cX2_init 136 = .ok (.iastore, 1) := by decide +kernel
theorem dX2_init_137 : decode cX2_init 137 = .ok (.iinc 2 1, 3) := by decide +kernel
theorem dX2_init_140 : decode cX2_init 140 = .ok (.goto (-37), 3) := by decide +kernel
theorem dX2_init_143 : decode cX2_init 143 = .ok (.return_, 1) := by decide +kernel
theorem dX2_today_0 : decode cX2_today 0 = .ok (.aload_n 0, 1) := by decide +kernel
theorem dX2_today_1 : decode cX2_today 1 = .ok (.getfield 43, 3) := by decide +kernel
theorem dX2_today_4 : decode cX2_today 4 = .ok (.ireturn, 1) := by decide +kernel
theorem dX2_gangs_0 : decode cX2_gangs 0 = .ok (.aload_n 0, 1) := by decide +kernel
theorem dX2_gangs_1 : decode cX2_gangs 1 = .ok (.getfield 47, 3) := by decide +kernel
theorem dX2_gangs_4 : decode cX2_gangs 4 = .ok (.ireturn, 1) := by decide +kernel
theorem dX2_finishedSquares_0 : decode cX2_finishedSquares 0 = .ok (.iconst 0, 1) := by decide +kernel
theorem dX2_finishedSquares_1 : decode cX2_finishedSquares 1 = .ok (.istore_n 1, 1) := by decide +kernel
theorem dX2_finishedSquares_2 : decode cX2_finishedSquares 2 = .ok (.iconst 0, 1) := by decide +kernel
theorem dX2_finishedSquares_3 : decode cX2_finishedSquares 3 = .ok (.istore_n 2, 1) := by decide +kernel
theorem dX2_finishedSquares_4 : decode cX2_finishedSquares 4 = .ok (.iload_n 2, 1) := by decide +kernel
theorem dX2_finishedSquares_5 : decode cX2_finishedSquares 5 = .ok (.bipush 72, 2) := by decide +kernel
theorem dX2_finishedSquares_7 : decode cX2_finishedSquares 7 = .ok (.if_icmp .ge 27, 3) := by decide +kernel
theorem dX2_finishedSquares_10 : decode cX2_finishedSquares 10 = .ok (.iload_n 1, 1) := by decide +kernel
theorem dX2_finishedSquares_11 : decode cX2_finishedSquares 11 = .ok (.aload_n 0, 1) := by decide +kernel
theorem dX2_finishedSquares_12 : decode cX2_finishedSquares 12 = .ok (.getfield 18, 3) := by decide +kernel
theorem dX2_finishedSquares_15 : decode cX2_finishedSquares 15 = .ok (.iload_n 2, 1) := by decide +kernel
theorem dX2_finishedSquares_16 : decode cX2_finishedSquares 16 = .ok (.iaload, 1) := by decide +kernel
theorem dX2_finishedSquares_17 : decode cX2_finishedSquares 17 = .ok (.iconst 2, 1) := by decide +kernel
theorem dX2_finishedSquares_18 : decode cX2_finishedSquares 18 = .ok (.if_icmp .ne 7, 3) := by decide +kernel
theorem dX2_finishedSquares_21 : decode cX2_finishedSquares 21 = .ok (.iconst 1, 1) := by decide +kernel
theorem dX2_finishedSquares_22 : decode cX2_finishedSquares 22 = .ok (.goto 4, 3) := by decide +kernel
theorem dX2_finishedSquares_25 : decode cX2_finishedSquares 25 = .ok (.iconst 0, 1) := by decide +kernel
theorem dX2_finishedSquares_26 : decode cX2_finishedSquares 26 = .ok (.iadd, 1) := by decide +kernel
theorem dX2_finishedSquares_27 : decode cX2_finishedSquares 27 = .ok (.istore_n 1, 1) := by decide +kernel
theorem dX2_finishedSquares_28 : decode cX2_finishedSquares 28 = .ok (.iinc 2 1, 3) := by decide +kernel
theorem dX2_finishedSquares_31 : decode cX2_finishedSquares 31 = .ok (.goto (-27), 3) := by decide +kernel
theorem dX2_finishedSquares_34 : decode cX2_finishedSquares 34 = .ok (.iload_n 1, 1) := by decide +kernel
theorem dX2_finishedSquares_35 : decode cX2_finishedSquares 35 = .ok (.ireturn, 1) := by decide +kernel
theorem dX2_hire_0 : decode cX2_hire 0 = .ok (.iload_n 1, 1) := by decide +kernel
theorem dX2_hire_1 : decode cX2_hire 1 = .ok (.iconst 1, 1) := by decide +kernel
theorem dX2_hire_2 : decode cX2_hire 2 = .ok (.if_icmp .lt 25, 3) := by decide +kernel
theorem dX2_hire_5 : decode cX2_hire 5 = .ok (.iload_n 1, 1) := by decide +kernel
theorem dX2_hire_6 : decode cX2_hire 6 = .ok (.bipush 20, 2) := by decide +kernel
theorem dX2_hire_8 : decode cX2_hire 8 = .ok (.if_icmp .gt 19, 3) := by decide +kernel
theorem dX2_hire_11 : decode cX2_hire 11 = .ok (.aload_n 0, 1) := by decide +kernel
theorem dX2_hire_12 : decode cX2_hire 12 = .ok (.getfield 47, 3) := by decide +kernel
theorem dX2_hire_15 : decode cX2_hire 15 = .ok (.ifCond .lt 12, 3) := by decide +kernel
theorem dX2_hire_18 : decode cX2_hire 18 = .ok (.aload_n 0, 1) := by decide +kernel
theorem dX2_hire_19 : decode cX2_hire 19 = .ok (.getfield 47, 3) := by decide +kernel
theorem dX2_hire_22 : decode cX2_hire 22 = .ok (.bipush 6, 2) := by decide +kernel
theorem dX2_hire_24 : decode cX2_hire 24 = .ok (.if_icmp .lt 5, 3) := by decide +kernel
theorem dX2_hire_27 : decode cX2_hire 27 = .ok (.iconst (-1), 1) := by decide +kernel
theorem dX2_hire_28 : decode cX2_hire 28 = .ok (.ireturn, 1) := by decide +kernel
theorem dX2_hire_29 : decode cX2_hire 29 = .ok (.aload_n 0, 1) := by decide +kernel
theorem dX2_hire_30 : decode cX2_hire 30 = .ok (.getfield 9, 3) := by decide +kernel
theorem dX2_hire_33 : decode cX2_hire 33 = .ok (.aload_n 0, 1) := by decide +kernel
theorem dX2_hire_34 : decode cX2_hire 34 = .ok (.getfield 47, 3) := by decide +kernel
theorem dX2_hire_37 : decode cX2_hire 37 = .ok (.iload_n 1, 1) := by decide +kernel
theorem dX2_hire_38 : decode cX2_hire 38 = .ok (.iastore, 1) := by decide +kernel
theorem dX2_hire_39 : decode cX2_hire 39 = .ok (.aload_n 0, 1) := by decide +kernel
theorem dX2_hire_40 : decode cX2_hire 40 = .ok (.dup, 1) := by decide +kernel
theorem dX2_hire_41 : decode cX2_hire 41 = .ok (.getfield 47, 3) := by decide +kernel
theorem dX2_hire_44 : decode cX2_hire 44 = .ok (.dup_x1, 1) := by decide +kernel
theorem dX2_hire_45 : decode cX2_hire 45 = .ok (.iconst 1, 1) := by decide +kernel
theorem dX2_hire_46 : decode cX2_hire 46 = .ok (.iadd, 1) := by decide +kernel
theorem dX2_hire_47 : decode cX2_hire 47 = .ok (.putfield 47, 3) := by decide +kernel
theorem dX2_hire_50 : decode cX2_hire 50 = .ok (.ireturn, 1) := by decide +kernel
theorem dX2_isGang_0 : decode cX2_isGang 0 = .ok (.iload_n 1, 1) := by decide +kernel
theorem dX2_isGang_1 : decode cX2_isGang 1 = .ok (.ifCond .lt 21, 3) := by decide +kernel
theorem dX2_isGang_4 : decode cX2_isGang 4 = .ok (.iload_n 1, 1) := by decide +kernel
theorem dX2_isGang_5 : decode cX2_isGang 5 = .ok (.aload_n 0, 1) := by decide +kernel
theorem dX2_isGang_6 : decode cX2_isGang 6 = .ok (.getfield 47, 3) := by decide +kernel
theorem dX2_isGang_9 : decode cX2_isGang 9 = .ok (.if_icmp .ge 13, 3) := by decide +kernel
theorem dX2_isGang_12 : decode cX2_isGang 12 = .ok (.iload_n 1, 1) := by decide +kernel
theorem dX2_isGang_13 : decode cX2_isGang 13 = .ok (.bipush 6, 2) := by decide +kernel
theorem dX2_isGang_15 : decode cX2_isGang 15 = .ok (.if_icmp .ge 7, 3) := by decide +kernel
theorem dX2_isGang_18 : decode cX2_isGang 18 = .ok (.iconst 1, 1) := by decide +kernel
theorem dX2_isGang_19 : decode cX2_isGang 19 = .ok (.goto 4, 3) := by decide +kernel
theorem dX2_isGang_22 : decode cX2_isGang 22 = .ok (.iconst 0, 1) := by decide +kernel
theorem dX2_isGang_23 : decode cX2_isGang 23 = .ok (.ireturn, 1) := by decide +kernel
set_option maxRecDepth 20000 in
theorem ggX2_firstCoatWork_X4_colouredIn : GoodIn wsX2_firstCoatWork wsX4_colouredIn := goodIn_r _ [6, 7, 8, 9, 10, 23, 24] (by decide +kernel) (by decide +kernel)
set_option maxRecDepth 20000 in
theorem gX2_firstCoatWork_X4_colouredIn : GoodIn wsX2_firstCoatWork (wsV RX2 50 RX4 yX4_colouredIn wsX4_colouredIn) := goodIn_app (goodIn_of _ (by decide +kernel)) ggX2_firstCoatWork_X4_colouredIn
theorem dX2_firstCoatWork_0 : decode cX2_firstCoatWork 0 = .ok (.iconst 3, 1) := by decide +kernel
theorem dX2_firstCoatWork_1 : decode cX2_firstCoatWork 1 = .ok (.aload_n 0, 1) := by decide +kernel
theorem dX2_firstCoatWork_2 : decode cX2_firstCoatWork 2 = .ok (.getfield 39, 3) := by decide +kernel
theorem dX2_firstCoatWork_5 : decode cX2_firstCoatWork 5 = .ok (.iload_n 1, 1) := by decide +kernel
theorem dX2_firstCoatWork_6 : decode cX2_firstCoatWork 6 = .ok (.invokevirtual 50, 3) := by decide +kernel
theorem dX2_firstCoatWork_9 : decode cX2_firstCoatWork 9 = .ok (.iadd, 1) := by decide +kernel
theorem dX2_firstCoatWork_10 : decode cX2_firstCoatWork 10 = .ok (.ireturn, 1) := by decide +kernel
set_option maxRecDepth 20000 in
theorem ggX2_beginCoat_X2_isGang : GoodIn wsX2_beginCoat wsX2_isGang := goodIn_r _ [15, 16, 31, 32, 33, 34, 35, 36, 37, 38, 39, 40, 41, 42] (by decide +kernel) (by decide +kernel)
set_option maxRecDepth 20000 in
theorem gX2_beginCoat_X2_isGang : GoodIn wsX2_beginCoat (wsV RX2 56 RX2 yX2_isGang wsX2_isGang) := goodIn_app (goodIn_of _ (by decide +kernel)) ggX2_beginCoat_X2_isGang
set_option maxRecDepth 20000 in
theorem ggX2_beginCoat_X5_isSquare : GoodIn wsX2_beginCoat wsX5_isSquare := goodIn_r _ [19] (by decide +kernel) (by decide +kernel)
set_option maxRecDepth 20000 in
theorem gX2_beginCoat_X5_isSquare_n60 : GoodIn wsX2_beginCoat (wsX5_isSquare) := ggX2_beginCoat_X5_isSquare
set_option maxRecDepth 20000 in
theorem ggX2_beginCoat_X2_firstCoatWork : GoodIn wsX2_beginCoat wsX2_firstCoatWork := goodIn_r _ [23, 24, 25, 26, 27, 28, 29, 30, 17, 18, 19, 31, 32, 33, 34, 35, 36, 37, 38, 39, 40, 41, 42, 43, 44] (by decide +kernel) (by decide +kernel)
set_option maxRecDepth 20000 in
theorem gX2_beginCoat_X2_firstCoatWork : GoodIn wsX2_beginCoat (wsV RX2 63 RX2 yX2_firstCoatWork wsX2_firstCoatWork) := goodIn_app (goodIn_of _ (by decide +kernel)) ggX2_beginCoat_X2_firstCoatWork
theorem dX2_beginCoat_0 : decode cX2_beginCoat 0 = .ok (.aload_n 0, 1) := by decide +kernel
theorem dX2_beginCoat_1 : decode cX2_beginCoat 1 = .ok (.iload_n 1, 1) := by decide +kernel
theorem dX2_beginCoat_2 : decode cX2_beginCoat 2 = .ok (.invokevirtual 56, 3) := by decide +kernel
theorem dX2_beginCoat_5 : decode cX2_beginCoat 5 = .ok (.ifCond .eq 10, 3) := by decide +kernel
theorem dX2_beginCoat_8 : decode cX2_beginCoat 8 = .ok (.iload_n 2, 1) := by decide +kernel
theorem dX2_beginCoat_9 : decode cX2_beginCoat 9 = .ok (.invokestatic 60, 3) := by decide +kernel
theorem dX2_beginCoat_12 : decode cX2_beginCoat 12 = .ok (.ifCond .ne 6, 3) := by decide +kernel
theorem dX2_beginCoat_15 : decode cX2_beginCoat 15 = .ok (.bipush (-2), 2) := by decide +kernel
theorem dX2_beginCoat_17 : decode cX2_beginCoat 17 = .ok (.ireturn, 1) := by decide +kernel
theorem dX2_beginCoat_18 : decode cX2_beginCoat 18 = .ok (.aload_n 0, 1) := by decide +kernel
theorem dX2_beginCoat_19 : decode cX2_beginCoat 19 = .ok (.getfield 15, 3) := by decide +kernel
theorem dX2_beginCoat_22 : decode cX2_beginCoat 22 = .ok (.iload_n 1, 1) := by decide +kernel
theorem dX2_beginCoat_23 : decode cX2_beginCoat 23 = .ok (.iaload, 1) := by decide +kernel
theorem dX2_beginCoat_24 : decode cX2_beginCoat 24 = .ok (.iconst (-1), 1) := by decide +kernel
theorem dX2_beginCoat_25 : decode cX2_beginCoat 25 = .ok (.if_icmp .eq 6, 3) := by decide +kernel
theorem dX2_beginCoat_28 : decode cX2_beginCoat 28 = .ok (.bipush (-3), 2) := by decide +kernel
theorem dX2_beginCoat_30 : decode cX2_beginCoat 30 = .ok (.ireturn, 1) := by decide +kernel
theorem dX2_beginCoat_31 : decode cX2_beginCoat 31 = .ok (.aload_n 0, 1) := by decide +kernel
theorem dX2_beginCoat_32 : decode cX2_beginCoat 32 = .ok (.getfield 18, 3) := by decide +kernel
theorem dX2_beginCoat_35 : decode cX2_beginCoat 35 = .ok (.iload_n 2, 1) := by decide +kernel
theorem dX2_beginCoat_36 : decode cX2_beginCoat 36 = .ok (.iaload, 1) := by decide +kernel
theorem dX2_beginCoat_37 : decode cX2_beginCoat 37 = .ok (.iconst 1, 1) := by decide +kernel
theorem dX2_beginCoat_38 : decode cX2_beginCoat 38 = .ok (.iadd, 1) := by decide +kernel
theorem dX2_beginCoat_39 : decode cX2_beginCoat 39 = .ok (.istore_n 3, 1) := by decide +kernel
theorem dX2_beginCoat_40 : decode cX2_beginCoat 40 = .ok (.iload_n 3, 1) := by decide +kernel
theorem dX2_beginCoat_41 : decode cX2_beginCoat 41 = .ok (.iconst 2, 1) := by decide +kernel
theorem dX2_beginCoat_42 : decode cX2_beginCoat 42 = .ok (.if_icmp .le 6, 3) := by decide +kernel
theorem dX2_beginCoat_45 : decode cX2_beginCoat 45 = .ok (.bipush (-4), 2) := by decide +kernel
theorem dX2_beginCoat_47 : decode cX2_beginCoat 47 = .ok (.ireturn, 1) := by decide +kernel
theorem dX2_beginCoat_48 : decode cX2_beginCoat 48 = .ok (.aload_n 0, 1) := by decide +kernel
theorem dX2_beginCoat_49 : decode cX2_beginCoat 49 = .ok (.getfield 21, 3) := by decide +kernel
theorem dX2_beginCoat_52 : decode cX2_beginCoat 52 = .ok (.iload_n 2, 1) := by decide +kernel
theorem dX2_beginCoat_53 : decode cX2_beginCoat 53 = .ok (.iaload, 1) := by decide +kernel
theorem dX2_beginCoat_54 : decode cX2_beginCoat 54 = .ok (.iconst (-1), 1) := by decide +kernel
theorem dX2_beginCoat_55 : decode cX2_beginCoat 55 = .ok (.if_icmp .eq 6, 3) := by decide +kernel
theorem dX2_beginCoat_58 : decode cX2_beginCoat 58 = .ok (.bipush (-5), 2) := by decide +kernel
theorem dX2_beginCoat_60 : decode cX2_beginCoat 60 = .ok (.ireturn, 1) := by decide +kernel
theorem dX2_beginCoat_61 : decode cX2_beginCoat 61 = .ok (.iload_n 3, 1) := by decide +kernel
theorem dX2_beginCoat_62 : decode cX2_beginCoat 62 = .ok (.iconst 2, 1) := by decide +kernel
theorem dX2_beginCoat_63 : decode cX2_beginCoat 63 = .ok (.if_icmp .ne 21, 3) := by decide +kernel
theorem dX2_beginCoat_66 : decode cX2_beginCoat 66 = .ok (.aload_n 0, 1) := by decide +kernel
theorem dX2_beginCoat_67 : decode cX2_beginCoat 67 = .ok (.getfield 43, 3) := by decide +kernel
theorem dX2_beginCoat_70 : decode cX2_beginCoat 70 = .ok (.aload_n 0, 1) := by decide +kernel
theorem dX2_beginCoat_71 : decode cX2_beginCoat 71 = .ok (.getfield 27, 3) := by decide +kernel
theorem dX2_beginCoat_74 : decode cX2_beginCoat 74 = .ok (.iload_n 2, 1) := by decide +kernel
theorem dX2_beginCoat_75 : decode cX2_beginCoat 75 = .ok (.iaload, 1) := by decide +kernel
theorem dX2_beginCoat_76 : decode cX2_beginCoat 76 = .ok (.isub, 1) := by decide +kernel
theorem dX2_beginCoat_77 : decode cX2_beginCoat 77 = .ok (.iconst 3, 1) := by decide +kernel
theorem dX2_beginCoat_78 : decode cX2_beginCoat 78 = .ok (.if_icmp .ge 6, 3) := by decide +kernel
theorem dX2_beginCoat_81 : decode cX2_beginCoat 81 = .ok (.bipush (-6), 2) := by decide +kernel
theorem dX2_beginCoat_83 : decode cX2_beginCoat 83 = .ok (.ireturn, 1) := by decide +kernel
theorem dX2_beginCoat_84 : decode cX2_beginCoat 84 = .ok (.iload_n 2, 1) := by decide +kernel
theorem dX2_beginCoat_85 : decode cX2_beginCoat 85 = .ok (.bipush 36, 2) := by decide +kernel
theorem dX2_beginCoat_87 : decode cX2_beginCoat 87 = .ok (.if_icmp .ge 19, 3) := by decide +kernel
theorem dX2_beginCoat_90 : decode cX2_beginCoat 90 = .ok (.aload_n 0, 1) := by decide +kernel
theorem dX2_beginCoat_91 : decode cX2_beginCoat 91 = .ok (.getfield 18, 3) := by decide +kernel
theorem dX2_beginCoat_94 : decode cX2_beginCoat 94 = .ok (.iload_n 2, 1) := by decide +kernel
theorem dX2_beginCoat_95 : decode cX2_beginCoat 95 = .ok (.bipush 36, 2) := by decide +kernel
theorem dX2_beginCoat_97 : decode cX2_beginCoat 97 = .ok (.iadd, 1) := by decide +kernel
theorem dX2_beginCoat_98 : decode cX2_beginCoat 98 = .ok (.iaload, 1) := by decide +kernel
theorem dX2_beginCoat_99 : decode cX2_beginCoat 99 = .ok (.iload_n 3, 1) := by decide +kernel
theorem dX2_beginCoat_100 : decode cX2_beginCoat 100 = .ok (.if_icmp .ge 6, 3) := by decide +kernel
theorem dX2_beginCoat_103 : decode cX2_beginCoat 103 = .ok (.bipush (-7), 2) := by decide +kernel
theorem dX2_beginCoat_105 : decode cX2_beginCoat 105 = .ok (.ireturn, 1) := by decide +kernel
theorem dX2_beginCoat_106 : decode cX2_beginCoat 106 = .ok (.aload_n 0, 1) := by decide +kernel
theorem dX2_beginCoat_107 : decode cX2_beginCoat 107 = .ok (.iload_n 2, 1) := by decide +kernel
theorem dX2_beginCoat_108 : decode cX2_beginCoat 108 = .ok (.invokevirtual 63, 3) := by decide +kernel
theorem dX2_beginCoat_111 : decode cX2_beginCoat 111 = .ok (.istore 4, 2) := by decide +kernel
theorem dX2_beginCoat_113 : decode cX2_beginCoat 113 = .ok (.aload_n 0, 1) := by decide +kernel
theorem dX2_beginCoat_114 : decode cX2_beginCoat 114 = .ok (.getfield 24, 3) := by decide +kernel
theorem dX2_beginCoat_117 : decode cX2_beginCoat 117 = .ok (.iload_n 2, 1) := by decide +kernel
theorem dX2_beginCoat_118 : decode cX2_beginCoat 118 = .ok (.iload_n 3, 1) := by decide +kernel
theorem dX2_beginCoat_119 : decode cX2_beginCoat 119 = .ok (.iconst 1, 1) := by decide +kernel
theorem dX2_beginCoat_120 : decode cX2_beginCoat 120 = .ok (.if_icmp .ne 8, 3) := by decide +kernel
theorem dX2_beginCoat_123 : decode cX2_beginCoat 123 = .ok (.iload 4, 2) := by decide +kernel
theorem dX2_beginCoat_125 : decode cX2_beginCoat 125 = .ok (.goto 11, 3) := by decide +kernel
theorem dX2_beginCoat_128 : decode cX2_beginCoat 128 = .ok (.iload 4, 2) := by decide +kernel
theorem dX2_beginCoat_130 : decode cX2_beginCoat 130 = .ok (.iconst 2, 1) := by decide +kernel
theorem dX2_beginCoat_131 : decode cX2_beginCoat 131 = .ok (.idiv, 1) := by decide +kernel
theorem dX2_beginCoat_132 : decode cX2_beginCoat 132 = .ok (.iconst 1, 1) := by decide +kernel
theorem dX2_beginCoat_133 : decode cX2_beginCoat 133 = .ok (.invokestatic 66, 3) := by decide +kernel
theorem dX2_beginCoat_136 : decode cX2_beginCoat 136 = .ok (.iastore, 1) := by decide +kernel
theorem dX2_beginCoat_137 : decode cX2_beginCoat 137 = .ok (.aload_n 0, 1) := by decide +kernel
theorem dX2_beginCoat_138 : decode cX2_beginCoat 138 = .ok (.getfield 21, 3) := by decide +kernel
theorem dX2_beginCoat_141 : decode cX2_beginCoat 141 = .ok (.iload_n 2, 1) := by decide +kernel
theorem dX2_beginCoat_142 : decode cX2_beginCoat 142 = .ok (.iload_n 1, 1) := by decide +kernel
theorem dX2_beginCoat_143 : decode cX2_beginCoat 143 = .ok (.iastore, 1) := by decide +kernel
theorem dX2_beginCoat_144 : decode cX2_beginCoat 144 = .ok (.aload_n 0, 1) := by decide +kernel
theorem dX2_beginCoat_145 : decode cX2_beginCoat 145 = .ok (.getfield 15, 3) := by decide +kernel
theorem dX2_beginCoat_148 : decode cX2_beginCoat 148 = .ok (.iload_n 1, 1) := by decide +kernel
theorem dX2_beginCoat_149 : decode cX2_beginCoat 149 = .ok (.iload_n 2, 1) := by decide +kernel
theorem dX2_beginCoat_150 : decode cX2_beginCoat 150 = .ok (.iastore, 1) := by decide +kernel
theorem dX2_beginCoat_151 : decode cX2_beginCoat 151 = .ok (.iload_n 3, 1) := by decide +kernel
theorem dX2_beginCoat_152 : decode cX2_beginCoat 152 = .ok (.ireturn, 1) := by decide +kernel
set_option maxRecDepth 20000 in
theorem ggX2_passDay_X2_workADay : GoodIn wsX2_passDay wsX2_workADay := goodIn_r _ [7, 8, 9, 10, 11, 12, 13, 14, 15, 16, 6, 17, 18, 19, 20, 21, 22, 23, 24, 25, 26, 27, 1, 28, 29, 30, 2, 31, 32, 33, 34, 35, 36, 37, 38, 39, 40, 41, 42] (by decide +kernel) (by decide +kernel)
set_option maxRecDepth 20000 in
theorem gX2_passDay_X2_workADay : GoodIn wsX2_passDay (wsV RX2 72 RX2 yX2_workADay wsX2_workADay) := goodIn_app (goodIn_of _ (by decide +kernel)) ggX2_passDay_X2_workADay
theorem dX2_passDay_0 : decode cX2_passDay 0 = .ok (.aload_n 0, 1) := by decide +kernel
theorem dX2_passDay_1 : decode cX2_passDay 1 = .ok (.getfield 43, 3) := by decide +kernel
theorem dX2_passDay_4 : decode cX2_passDay 4 = .ok (.sipush 1000, 3) := by decide +kernel
theorem dX2_passDay_7 : decode cX2_passDay 7 = .ok (.if_icmp .lt 5, 3) := by decide +kernel
theorem dX2_passDay_10 : decode cX2_passDay 10 = .ok (.iconst (-1), 1) := by decide +kernel
theorem dX2_passDay_11 : decode cX2_passDay 11 = .ok (.ireturn, 1) := by decide +kernel
theorem dX2_passDay_12 : decode cX2_passDay 12 = .ok (.iconst 0, 1) := by decide +kernel
theorem dX2_passDay_13 : decode cX2_passDay 13 = .ok (.istore_n 1, 1) := by decide +kernel
theorem dX2_passDay_14 : decode cX2_passDay 14 = .ok (.iload_n 1, 1) := by decide +kernel
theorem dX2_passDay_15 : decode cX2_passDay 15 = .ok (.bipush 6, 2) := by decide +kernel
theorem dX2_passDay_17 : decode cX2_passDay 17 = .ok (.if_icmp .ge 20, 3) := by decide +kernel
theorem dX2_passDay_20 : decode cX2_passDay 20 = .ok (.aload_n 0, 1) := by decide +kernel
theorem dX2_passDay_21 : decode cX2_passDay 21 = .ok (.iload_n 1, 1) := by decide +kernel
theorem dX2_passDay_22 : decode cX2_passDay 22 = .ok (.aload_n 0, 1) := by decide +kernel
theorem dX2_passDay_23 : decode cX2_passDay 23 = .ok (.getfield 15, 3) := by decide +kernel
theorem dX2_passDay_26 : decode cX2_passDay 26 = .ok (.iload_n 1, 1) := by decide +kernel
theorem dX2_passDay_27 : decode cX2_passDay 27 = .ok (.iaload, 1) := by decide +kernel
theorem dX2_passDay_28 : decode cX2_passDay 28 = .ok (.invokevirtual 72, 3) := by decide +kernel
theorem dX2_passDay_31 : decode cX2_passDay 31 = .ok (.iinc 1 1, 3) := by decide +kernel
theorem dX2_passDay_34 : decode cX2_passDay 34 = .ok (.goto (-20), 3) := by decide +kernel
theorem dX2_passDay_37 : decode cX2_passDay 37 = .ok (.aload_n 0, 1) := by decide +kernel
theorem dX2_passDay_38 : decode cX2_passDay 38 = .ok (.dup, 1) := by decide +kernel
theorem dX2_passDay_39 : decode cX2_passDay 39 = .ok (.getfield 43, 3) := by decide +kernel
theorem dX2_passDay_42 : decode cX2_passDay 42 = .ok (.iconst 1, 1) := by decide +kernel
theorem dX2_passDay_43 : decode cX2_passDay 43 = .ok (.iadd, 1) := by decide +kernel
theorem dX2_passDay_44 : decode cX2_passDay 44 = .ok (.putfield 43, 3) := by decide +kernel
theorem dX2_passDay_47 : decode cX2_passDay 47 = .ok (.aload_n 0, 1) := by decide +kernel
theorem dX2_passDay_48 : decode cX2_passDay 48 = .ok (.getfield 43, 3) := by decide +kernel
theorem dX2_passDay_51 : decode cX2_passDay 51 = .ok (.ireturn, 1) := by decide +kernel
set_option maxRecDepth 20000 in
theorem ggX2_workADay_X2_isGang : GoodIn wsX2_workADay wsX2_isGang := goodIn_r _ [11, 12, 27, 28, 29, 30, 31, 32, 33, 34, 35, 36, 37, 38] (by decide +kernel) (by decide +kernel)
set_option maxRecDepth 20000 in
theorem gX2_workADay_X2_isGang : GoodIn wsX2_workADay (wsV RX2 56 RX2 yX2_isGang wsX2_isGang) := goodIn_app (goodIn_of _ (by decide +kernel)) ggX2_workADay_X2_isGang
set_option maxRecDepth 20000 in
theorem ggX2_workADay_X5_isSquare : GoodIn wsX2_workADay wsX5_isSquare := goodIn_r _ [15] (by decide +kernel) (by decide +kernel)
set_option maxRecDepth 20000 in
theorem gX2_workADay_X5_isSquare_n60 : GoodIn wsX2_workADay (wsX5_isSquare) := ggX2_workADay_X5_isSquare
set_option maxRecDepth 20000 in
theorem ggX2_workADay_X2_endCoat : GoodIn wsX2_workADay wsX2_endCoat := goodIn_r _ [19, 20, 21, 22, 23, 24, 25, 26, 7, 8, 9, 10, 11, 12, 13, 14, 15, 27, 28, 29, 30, 31, 32, 33, 34, 35, 36, 37, 38] (by decide +kernel) (by decide +kernel)
set_option maxRecDepth 20000 in
theorem gX2_workADay_X2_endCoat : GoodIn wsX2_workADay (wsV RX2 76 RX2 yX2_endCoat wsX2_endCoat) := goodIn_app (goodIn_of _ (by decide +kernel)) ggX2_workADay_X2_endCoat
theorem dX2_workADay_0 : decode cX2_workADay 0 = .ok (.aload_n 0, 1) := by decide +kernel
theorem dX2_workADay_1 : decode cX2_workADay 1 = .ok (.iload_n 1, 1) := by decide +kernel
theorem dX2_workADay_2 : decode cX2_workADay 2 = .ok (.invokevirtual 56, 3) := by decide +kernel
theorem dX2_workADay_5 : decode cX2_workADay 5 = .ok (.ifCond .eq 10, 3) := by decide +kernel
theorem dX2_workADay_8 : decode cX2_workADay 8 = .ok (.iload_n 2, 1) := by decide +kernel
theorem dX2_workADay_9 : decode cX2_workADay 9 = .ok (.invokestatic 60, 3) := by decide +kernel
theorem dX2_workADay_12 : decode cX2_workADay 12 = .ok (.ifCond .ne 4, 3) := by decide +kernel
theorem dX2_workADay_15 : decode cX2_workADay 15 = .ok (.return_, 1) := by decide +kernel
theorem dX2_workADay_16 : decode cX2_workADay 16 = .ok (.aload_n 0, 1) := by decide +kernel
theorem dX2_workADay_17 : decode cX2_workADay 17 = .ok (.getfield 24, 3) := by decide +kernel
theorem dX2_workADay_20 : decode cX2_workADay 20 = .ok (.iload_n 2, 1) := by decide +kernel
theorem dX2_workADay_21 : decode cX2_workADay 21 = .ok (.aload_n 0, 1) := by decide +kernel
theorem dX2_workADay_22 : decode cX2_workADay 22 = .ok (.getfield 24, 3) := by decide +kernel
theorem dX2_workADay_25 : decode cX2_workADay 25 = .ok (.iload_n 2, 1) := by decide +kernel
theorem dX2_workADay_26 : decode cX2_workADay 26 = .ok (.iaload, 1) := by decide +kernel
theorem dX2_workADay_27 : decode cX2_workADay 27 = .ok (.aload_n 0, 1) := by decide +kernel
theorem dX2_workADay_28 : decode cX2_workADay 28 = .ok (.getfield 9, 3) := by decide +kernel
theorem dX2_workADay_31 : decode cX2_workADay 31 = .ok (.iload_n 1, 1) := by decide +kernel
theorem dX2_workADay_32 : decode cX2_workADay 32 = .ok (.iaload, 1) := by decide +kernel
theorem dX2_workADay_33 : decode cX2_workADay 33 = .ok (.isub, 1) := by decide +kernel
theorem dX2_workADay_34 : decode cX2_workADay 34 = .ok (.iconst 0, 1) := by decide +kernel
theorem dX2_workADay_35 : decode cX2_workADay 35 = .ok (.invokestatic 66, 3) := by decide +kernel
theorem dX2_workADay_38 : decode cX2_workADay 38 = .ok (.iastore, 1) := by decide +kernel
theorem dX2_workADay_39 : decode cX2_workADay 39 = .ok (.aload_n 0, 1) := by decide +kernel
theorem dX2_workADay_40 : decode cX2_workADay 40 = .ok (.getfield 24, 3) := by decide +kernel
theorem dX2_workADay_43 : decode cX2_workADay 43 = .ok (.iload_n 2, 1) := by decide +kernel
theorem dX2_workADay_44 : decode cX2_workADay 44 = .ok (.iaload, 1) := by decide +kernel
theorem dX2_workADay_45 : decode cX2_workADay 45 = .ok (.ifCond .ne 9, 3) := by decide +kernel
theorem dX2_workADay_48 : decode cX2_workADay 48 = .ok (.aload_n 0, 1) := by decide +kernel
theorem dX2_workADay_49 : decode cX2_workADay 49 = .ok (.iload_n 1, 1) := by decide +kernel
theorem dX2_workADay_50 : decode cX2_workADay 50 = .ok (.iload_n 2, 1) := by decide +kernel
theorem dX2_workADay_51 : decode cX2_workADay 51 = .ok (.invokevirtual 76, 3) := by decide +kernel
theorem dX2_workADay_54 : decode cX2_workADay 54 = .ok (.return_, 1) := by decide +kernel
set_option maxRecDepth 20000 in
theorem ggX2_endCoat_X2_isGang : GoodIn wsX2_endCoat wsX2_isGang := goodIn_r _ [12, 13, 17, 18, 19, 20, 21, 22, 23, 24, 25, 26, 27, 28] (by decide +kernel) (by decide +kernel)
set_option maxRecDepth 20000 in
theorem gX2_endCoat_X2_isGang : GoodIn wsX2_endCoat (wsV RX2 56 RX2 yX2_isGang wsX2_isGang) := goodIn_app (goodIn_of _ (by decide +kernel)) ggX2_endCoat_X2_isGang
set_option maxRecDepth 20000 in
theorem ggX2_endCoat_X5_isSquare : GoodIn wsX2_endCoat wsX5_isSquare := goodIn_r _ [16] (by decide +kernel) (by decide +kernel)
set_option maxRecDepth 20000 in
theorem gX2_endCoat_X5_isSquare_n60 : GoodIn wsX2_endCoat (wsX5_isSquare) := ggX2_endCoat_X5_isSquare
theorem dX2_endCoat_0 : decode cX2_endCoat 0 = .ok (.aload_n 0, 1) := by decide +kernel
theorem dX2_endCoat_1 : decode cX2_endCoat 1 = .ok (.iload_n 1, 1) := by decide +kernel
theorem dX2_endCoat_2 : decode cX2_endCoat 2 = .ok (.invokevirtual 56, 3) := by decide +kernel
theorem dX2_endCoat_5 : decode cX2_endCoat 5 = .ok (.ifCond .eq 10, 3) := by decide +kernel
theorem dX2_endCoat_8 : decode cX2_endCoat 8 = .ok (.iload_n 2, 1) := by decide +kernel
theorem dX2_endCoat_9 : decode cX2_endCoat 9 = .ok (.invokestatic 60, 3) := by decide +kernel
theorem dX2_endCoat_12 : decode cX2_endCoat 12 = .ok (.ifCond .ne 4, 3) := by decide +kernel
theorem dX2_endCoat_15 : decode cX2_endCoat 15 = .ok (.return_, 1) := by decide +kernel
theorem dX2_endCoat_16 : decode cX2_endCoat 16 = .ok (.aload_n 0, 1) := by decide +kernel
theorem dX2_endCoat_17 : decode cX2_endCoat 17 = .ok (.getfield 18, 3) := by decide +kernel
theorem dX2_endCoat_20 : decode cX2_endCoat 20 = .ok (.iload_n 2, 1) := by decide +kernel
theorem dX2_endCoat_21 : decode cX2_endCoat 21 = .ok (.dup2, 1) := by decide +kernel
theorem dX2_endCoat_22 : decode cX2_endCoat 22 = .ok (.iaload, 1) := by decide +kernel
theorem dX2_endCoat_23 : decode cX2_endCoat 23 = .ok (.iconst 1, 1) := by decide +kernel
theorem dX2_endCoat_24 : decode cX2_endCoat 24 = .ok (.iadd, 1) := by decide +kernel
theorem dX2_endCoat_25 : decode cX2_endCoat 25 = .ok (.iastore, 1) := by decide +kernel
theorem dX2_endCoat_26 : decode cX2_endCoat 26 = .ok (.aload_n 0, 1) := by decide +kernel
theorem dX2_endCoat_27 : decode cX2_endCoat 27 = .ok (.getfield 18, 3) := by decide +kernel
theorem dX2_endCoat_30 : decode cX2_endCoat 30 = .ok (.iload_n 2, 1) := by decide +kernel
theorem dX2_endCoat_31 : decode cX2_endCoat 31 = .ok (.iaload, 1) := by decide +kernel
theorem dX2_endCoat_32 : decode cX2_endCoat 32 = .ok (.iconst 1, 1) := by decide +kernel
theorem dX2_endCoat_33 : decode cX2_endCoat 33 = .ok (.if_icmp .ne 16, 3) := by decide +kernel
theorem dX2_endCoat_36 : decode cX2_endCoat 36 = .ok (.aload_n 0, 1) := by decide +kernel
theorem dX2_endCoat_37 : decode cX2_endCoat 37 = .ok (.getfield 27, 3) := by decide +kernel
theorem dX2_endCoat_40 : decode cX2_endCoat 40 = .ok (.iload_n 2, 1) := by decide +kernel
theorem dX2_endCoat_41 : decode cX2_endCoat 41 = .ok (.aload_n 0, 1) := by decide +kernel
theorem dX2_endCoat_42 : decode cX2_endCoat 42 = .ok (.getfield 43, 3) := by decide +kernel
theorem dX2_endCoat_45 : decode cX2_endCoat 45 = .ok (.iastore, 1) := by decide +kernel
theorem dX2_endCoat_46 : decode cX2_endCoat 46 = .ok (.goto 13, 3) := by decide +kernel
theorem dX2_endCoat_49 : decode cX2_endCoat 49 = .ok (.aload_n 0, 1) := by decide +kernel
theorem dX2_endCoat_50 : decode cX2_endCoat 50 = .ok (.getfield 30, 3) := by decide +kernel
theorem dX2_endCoat_53 : decode cX2_endCoat 53 = .ok (.iload_n 2, 1) := by decide +kernel
theorem dX2_endCoat_54 : decode cX2_endCoat 54 = .ok (.aload_n 0, 1) := by decide +kernel
theorem dX2_endCoat_55 : decode cX2_endCoat 55 = .ok (.getfield 43, 3) := by decide +kernel
theorem dX2_endCoat_58 : decode cX2_endCoat 58 = .ok (.iastore, 1) := by decide +kernel
theorem dX2_endCoat_59 : decode cX2_endCoat 59 = .ok (.aload_n 0, 1) := by decide +kernel
theorem dX2_endCoat_60 : decode cX2_endCoat 60 = .ok (.getfield 33, 3) := by decide +kernel
theorem dX2_endCoat_63 : decode cX2_endCoat 63 = .ok (.iload_n 2, 1) := by decide +kernel
theorem dX2_endCoat_64 : decode cX2_endCoat 64 = .ok (.iload_n 1, 1) := by decide +kernel
theorem dX2_endCoat_65 : decode cX2_endCoat 65 = .ok (.iastore, 1) := by decide +kernel
theorem dX2_endCoat_66 : decode cX2_endCoat 66 = .ok (.aload_n 0, 1) := by decide +kernel
theorem dX2_endCoat_67 : decode cX2_endCoat 67 = .ok (.getfield 21, 3) := by decide +kernel
theorem dX2_endCoat_70 : decode cX2_endCoat 70 = .ok (.iload_n 2, 1) := by decide +kernel
theorem dX2_endCoat_71 : decode cX2_endCoat 71 = .ok (.iconst (-1), 1) := by decide +kernel
theorem dX2_endCoat_72 : decode cX2_endCoat 72 = .ok (.iastore, 1) := by decide +kernel
theorem dX2_endCoat_73 : decode cX2_endCoat 73 = .ok (.aload_n 0, 1) := by decide +kernel
theorem dX2_endCoat_74 : decode cX2_endCoat 74 = .ok (.getfield 15, 3) := by decide +kernel
theorem dX2_endCoat_77 : decode cX2_endCoat 77 = .ok (.iload_n 1, 1) := by decide +kernel
theorem dX2_endCoat_78 : decode cX2_endCoat 78 = .ok (.iconst (-1), 1) := by decide +kernel
theorem dX2_endCoat_79 : decode cX2_endCoat 79 = .ok (.iastore, 1) := by decide +kernel
theorem dX2_endCoat_80 : decode cX2_endCoat 80 = .ok (.return_, 1) := by decide +kernel
set_option maxRecDepth 20000 in
theorem ggX2_tellSquare_X5_isSquare : GoodIn wsX2_tellSquare wsX5_isSquare := goodIn_r _ [9] (by decide +kernel) (by decide +kernel)
set_option maxRecDepth 20000 in
theorem gX2_tellSquare_X5_isSquare_n60 : GoodIn wsX2_tellSquare (wsX5_isSquare) := ggX2_tellSquare_X5_isSquare
set_option maxRecDepth 20000 in
theorem ggX2_tellSquare_X2_firstCoatWork : GoodIn wsX2_tellSquare wsX2_firstCoatWork := goodIn_r _ [14, 15, 16, 17, 18, 19, 20, 21, 7, 8, 9, 22, 23, 24, 25, 26, 27, 28, 29, 30, 31, 32, 33, 34, 35] (by decide +kernel) (by decide +kernel)
set_option maxRecDepth 20000 in
theorem gX2_tellSquare_X2_firstCoatWork : GoodIn wsX2_tellSquare (wsV RX2 63 RX2 yX2_firstCoatWork wsX2_firstCoatWork) := goodIn_app (goodIn_of _ (by decide +kernel)) ggX2_tellSquare_X2_firstCoatWork
theorem dX2_tellSquare_0 : decode cX2_tellSquare 0 = .ok (.iload_n 1, 1) := by decide +kernel
theorem dX2_tellSquare_1 : decode cX2_tellSquare 1 = .ok (.invokestatic 60, 3) := by decide +kernel
theorem dX2_tellSquare_4 : decode cX2_tellSquare 4 = .ok (.ifCond .ne 5, 3) := by decide +kernel
theorem dX2_tellSquare_7 : decode cX2_tellSquare 7 = .ok (.iconst (-1), 1) := by decide +kernel
theorem dX2_tellSquare_8 : decode cX2_tellSquare 8 = .ok (.ireturn, 1) := by decide +kernel
theorem dX2_tellSquare_9 : decode cX2_tellSquare 9 = .ok (.iload_n 2, 1) := by decide +kernel
theorem dX2_tellSquare_10 : decode cX2_tellSquare 10 = .ok (.tableswitch 90 0 6 #[42, 48, 55, 62, 69, 76, 83], 42) := by decide +kernel
theorem dX2_tellSquare_52 : decode cX2_tellSquare 52 = .ok (.aload_n 0, 1) := by decide +kernel
theorem dX2_tellSquare_53 : decode cX2_tellSquare 53 = .ok (.iload_n 1, 1) := by decide +kernel
theorem dX2_tellSquare_54 : decode cX2_tellSquare 54 = .ok (.invokevirtual 63, 3) := by decide +kernel
theorem dX2_tellSquare_57 : decode cX2_tellSquare 57 = .ok (.ireturn, 1) := by decide +kernel
theorem dX2_tellSquare_58 : decode cX2_tellSquare 58 = .ok (.aload_n 0, 1) := by decide +kernel
theorem dX2_tellSquare_59 : decode cX2_tellSquare 59 = .ok (.getfield 18, 3) := by decide +kernel
theorem dX2_tellSquare_62 : decode cX2_tellSquare 62 = .ok (.iload_n 1, 1) := by decide +kernel
theorem dX2_tellSquare_63 : decode cX2_tellSquare 63 = .ok (.iaload, 1) := by decide +kernel
theorem dX2_tellSquare_64 : decode cX2_tellSquare 64 = .ok (.ireturn, 1) := by decide +kernel
theorem dX2_tellSquare_65 : decode cX2_tellSquare 65 = .ok (.aload_n 0, 1) := by decide +kernel
theorem dX2_tellSquare_66 : decode cX2_tellSquare 66 = .ok (.getfield 21, 3) := by decide +kernel
theorem dX2_tellSquare_69 : decode cX2_tellSquare 69 = .ok (.iload_n 1, 1) := by decide +kernel
theorem dX2_tellSquare_70 : decode cX2_tellSquare 70 = .ok (.iaload, 1) := by decide +kernel
theorem dX2_tellSquare_71 : decode cX2_tellSquare 71 = .ok (.ireturn, 1) := by decide +kernel
theorem dX2_tellSquare_72 : decode cX2_tellSquare 72 = .ok (.aload_n 0, 1) := by decide +kernel
theorem dX2_tellSquare_73 : decode cX2_tellSquare 73 = .ok (.getfield 24, 3) := by decide +kernel
theorem dX2_tellSquare_76 : decode cX2_tellSquare 76 = .ok (.iload_n 1, 1) := by decide +kernel
theorem dX2_tellSquare_77 : decode cX2_tellSquare 77 = .ok (.iaload, 1) := by decide +kernel
theorem dX2_tellSquare_78 : decode cX2_tellSquare 78 = .ok (.ireturn, 1) := by decide +kernel
theorem dX2_tellSquare_79 : decode cX2_tellSquare 79 = .ok (.aload_n 0, 1) := by decide +kernel
theorem dX2_tellSquare_80 : decode cX2_tellSquare 80 = .ok (.getfield 27, 3) := by decide +kernel
theorem dX2_tellSquare_83 : decode cX2_tellSquare 83 = .ok (.iload_n 1, 1) := by decide +kernel
theorem dX2_tellSquare_84 : decode cX2_tellSquare 84 = .ok (.iaload, 1) := by decide +kernel
theorem dX2_tellSquare_85 : decode cX2_tellSquare 85 = .ok (.ireturn, 1) := by decide +kernel
theorem dX2_tellSquare_86 : decode cX2_tellSquare 86 = .ok (.aload_n 0, 1) := by decide +kernel
theorem dX2_tellSquare_87 : decode cX2_tellSquare 87 = .ok (.getfield 30, 3) := by decide +kernel
theorem dX2_tellSquare_90 : decode cX2_tellSquare 90 = .ok (.iload_n 1, 1) := by decide +kernel
theorem dX2_tellSquare_91 : decode cX2_tellSquare 91 = .ok (.iaload, 1) := by decide +kernel
theorem dX2_tellSquare_92 : decode cX2_tellSquare 92 = .ok (.ireturn, 1) := by decide +kernel
theorem dX2_tellSquare_93 : decode cX2_tellSquare 93 = .ok (.aload_n 0, 1) := by decide +kernel
theorem dX2_tellSquare_94 : decode cX2_tellSquare 94 = .ok (.getfield 33, 3) := by decide +kernel
theorem dX2_tellSquare_97 : decode cX2_tellSquare 97 = .ok (.iload_n 1, 1) := by decide +kernel
theorem dX2_tellSquare_98 : decode cX2_tellSquare 98 = .ok (.iaload, 1) := by decide +kernel
theorem dX2_tellSquare_99 : decode cX2_tellSquare 99 = .ok (.ireturn, 1) := by decide +kernel
theorem dX2_tellSquare_100 : decode cX2_tellSquare 100 = .ok (.iconst (-1), 1) := by decide +kernel
theorem dX2_tellSquare_101 : decode cX2_tellSquare 101 = .ok (.ireturn, 1) := by decide +kernel
set_option maxRecDepth 20000 in
theorem ggX2_leastDays_X2_leastBelow : GoodIn wsX2_leastDays wsX2_leastBelow := goodIn_r _ [8, 9, 10, 11, 12, 2, 13, 14, 15, 7, 16, 17, 18, 19, 20, 21, 22, 23, 24, 25, 26, 27, 28, 29, 30, 31, 32, 33, 34, 35, 36, 37, 38, 4, 5, 6, 39, 40, 41, 42, 43, 44, 45, 46, 47, 48, 49, 50, 51, 52] (by decide +kernel) (by decide +kernel)
set_option maxRecDepth 20000 in
theorem gX2_leastDays_X2_leastBelow : GoodIn wsX2_leastDays (wsV RX2 82 RX2 yX2_leastBelow wsX2_leastBelow) := goodIn_app (goodIn_of _ (by decide +kernel)) ggX2_leastDays_X2_leastBelow
theorem dX2_leastDays_0 : decode cX2_leastDays 0 = .ok (.iload_n 2, 1) := by decide +kernel
theorem dX2_leastDays_1 : decode cX2_leastDays 1 = .ok (.iconst 1, 1) := by decide +kernel
theorem dX2_leastDays_2 : decode cX2_leastDays 2 = .ok (.if_icmp .lt 21, 3) := by decide +kernel
theorem dX2_leastDays_5 : decode cX2_leastDays 5 = .ok (.iload_n 2, 1) := by decide +kernel
theorem dX2_leastDays_6 : decode cX2_leastDays 6 = .ok (.bipush 6, 2) := by decide +kernel
theorem dX2_leastDays_8 : decode cX2_leastDays 8 = .ok (.if_icmp .gt 15, 3) := by decide +kernel
theorem dX2_leastDays_11 : decode cX2_leastDays 11 = .ok (.iload_n 1, 1) := by decide +kernel
theorem dX2_leastDays_12 : decode cX2_leastDays 12 = .ok (.ifCond .lt 11, 3) := by decide +kernel
theorem dX2_leastDays_15 : decode cX2_leastDays 15 = .ok (.iload_n 1, 1) := by decide +kernel
theorem dX2_leastDays_16 : decode cX2_leastDays 16 = .ok (.bipush 72, 2) := by decide +kernel
theorem dX2_leastDays_18 : decode cX2_leastDays 18 = .ok (.iload_n 2, 1) := by decide +kernel
theorem dX2_leastDays_19 : decode cX2_leastDays 19 = .ok (.isub, 1) := by decide +kernel
theorem dX2_leastDays_20 : decode cX2_leastDays 20 = .ok (.if_icmp .le 5, 3) := by decide +kernel
theorem dX2_leastDays_23 : decode cX2_leastDays 23 = .ok (.iconst (-1), 1) := by decide +kernel
theorem dX2_leastDays_24 : decode cX2_leastDays 24 = .ok (.ireturn, 1) := by decide +kernel
theorem dX2_leastDays_25 : decode cX2_leastDays 25 = .ok (.iload_n 3, 1) := by decide +kernel
theorem dX2_leastDays_26 : decode cX2_leastDays 26 = .ok (.iconst 1, 1) := by decide +kernel
theorem dX2_leastDays_27 : decode cX2_leastDays 27 = .ok (.if_icmp .lt 16, 3) := by decide +kernel
theorem dX2_leastDays_30 : decode cX2_leastDays 30 = .ok (.iload_n 3, 1) := by decide +kernel
theorem dX2_leastDays_31 : decode cX2_leastDays 31 = .ok (.iconst 3, 1) := by decide +kernel
theorem dX2_leastDays_32 : decode cX2_leastDays 32 = .ok (.if_icmp .gt 11, 3) := by decide +kernel
theorem dX2_leastDays_35 : decode cX2_leastDays 35 = .ok (.iload_n 3, 1) := by decide +kernel
theorem dX2_leastDays_36 : decode cX2_leastDays 36 = .ok (.aload_n 0, 1) := by decide +kernel
theorem dX2_leastDays_37 : decode cX2_leastDays 37 = .ok (.getfield 47, 3) := by decide +kernel
theorem dX2_leastDays_40 : decode cX2_leastDays 40 = .ok (.if_icmp .le 5, 3) := by decide +kernel
theorem dX2_leastDays_43 : decode cX2_leastDays 43 = .ok (.iconst (-1), 1) := by decide +kernel
theorem dX2_leastDays_44 : decode cX2_leastDays 44 = .ok (.ireturn, 1) := by decide +kernel
theorem dX2_leastDays_45 : decode cX2_leastDays 45 = .ok (.iconst 0, 1) := by decide +kernel
theorem dX2_leastDays_46 : decode cX2_leastDays 46 = .ok (.istore 4, 2) := by decide +kernel
theorem dX2_leastDays_48 : decode cX2_leastDays 48 = .ok (.iload 4, 2) := by decide +kernel
theorem dX2_leastDays_50 : decode cX2_leastDays 50 = .ok (.iconst 3, 1) := by decide +kernel
theorem dX2_leastDays_51 : decode cX2_leastDays 51 = .ok (.if_icmp .ge 17, 3) := by decide +kernel
theorem dX2_leastDays_54 : decode cX2_leastDays 54 = .ok (.aload_n 0, 1) := by decide +kernel
theorem dX2_leastDays_55 : decode cX2_leastDays 55 = .ok (.getfield 36, 3) := by decide +kernel
theorem dX2_leastDays_58 : decode cX2_leastDays 58 = .ok (.iload 4, 2) := by decide +kernel
theorem dX2_leastDays_60 : decode cX2_leastDays 60 = .ok (.iconst 0, 1) := by decide +kernel
theorem dX2_leastDays_61 : decode cX2_leastDays 61 = .ok (.iastore, 1) := by decide +kernel
theorem dX2_leastDays_62 : decode cX2_leastDays 62 = .ok (.iinc 4 1, 3) := by decide +kernel
theorem dX2_leastDays_65 : decode cX2_leastDays 65 = .ok (.goto (-17), 3) := by decide +kernel
theorem dX2_leastDays_68 : decode cX2_leastDays 68 = .ok (.aload_n 0, 1) := by decide +kernel
theorem dX2_leastDays_69 : decode cX2_leastDays 69 = .ok (.ldc 81, 2) := by decide +kernel
theorem dX2_leastDays_71 : decode cX2_leastDays 71 = .ok (.iload_n 1, 1) := by decide +kernel
theorem dX2_leastDays_72 : decode cX2_leastDays 72 = .ok (.iload_n 1, 1) := by decide +kernel
theorem dX2_leastDays_73 : decode cX2_leastDays 73 = .ok (.iload_n 2, 1) := by decide +kernel
theorem dX2_leastDays_74 : decode cX2_leastDays 74 = .ok (.iadd, 1) := by decide +kernel
theorem dX2_leastDays_75 : decode cX2_leastDays 75 = .ok (.iload_n 3, 1) := by decide +kernel
theorem dX2_leastDays_76 : decode cX2_leastDays 76 = .ok (.invokevirtual 82, 3) := by decide +kernel
theorem dX2_leastDays_79 : decode cX2_leastDays 79 = .ok (.ireturn, 1) := by decide +kernel
set_option maxRecDepth 20000 in
theorem ggX2_leastBelow_X2_mostDays : GoodIn wsX2_leastBelow wsX2_mostDays := goodIn_r _ [10, 11, 12, 3, 13, 14, 15, 16, 9, 17, 18, 5, 36, 37, 38, 39, 40, 41, 42, 43, 44, 45, 46, 47] (by decide +kernel) (by decide +kernel)
set_option maxRecDepth 20000 in
theorem gX2_leastBelow_X2_mostDays : GoodIn wsX2_leastBelow (wsV RX2 86 RX2 yX2_mostDays wsX2_mostDays) := goodIn_app (goodIn_of _ (by decide +kernel)) ggX2_leastBelow_X2_mostDays
set_option maxRecDepth 20000 in
theorem ggX2_leastBelow_X2_firstCoatWork : GoodIn wsX2_leastBelow wsX2_firstCoatWork := goodIn_r _ [22, 23, 24, 25, 26, 27, 28, 29, 30, 31, 32, 36, 37, 38, 39, 40, 41, 42, 43, 44, 45, 46, 47, 48, 49] (by decide +kernel) (by decide +kernel)
set_option maxRecDepth 20000 in
theorem gX2_leastBelow_X2_firstCoatWork : GoodIn wsX2_leastBelow (wsV RX2 63 RX2 yX2_firstCoatWork wsX2_firstCoatWork) := goodIn_app (goodIn_of _ (by decide +kernel)) ggX2_leastBelow_X2_firstCoatWork
set_option maxRecDepth 20000 in
theorem ggX2_leastBelow_X2_daysOf : GoodIn wsX2_leastBelow wsX2_daysOf := goodIn_r _ [17, 18, 5, 36, 37, 38, 39, 40, 41, 42, 43, 44, 45, 46, 47] (by decide +kernel) (by decide +kernel)
set_option maxRecDepth 20000 in
theorem gX2_leastBelow_X2_daysOf : GoodIn wsX2_leastBelow (wsV RX2 92 RX2 yX2_daysOf wsX2_daysOf) := goodIn_app (goodIn_of _ (by decide +kernel)) ggX2_leastBelow_X2_daysOf
set_option maxRecDepth 20000 in
theorem ggX2_leastBelow_X2_leastBelow : GoodIn wsX2_leastBelow wsX2_leastBelow := goodIn_r _ [0, 1, 2, 3, 4, 5, 6, 7, 8, 9, 10, 11, 12, 13, 14, 15, 16, 17, 18, 19, 20, 21, 22, 23, 24, 25, 26, 27, 28, 29, 30, 31, 32, 33, 34, 35, 36, 37, 38, 39, 40, 41, 42, 43, 44, 45, 46, 47, 48, 49] (by decide +kernel) (by decide +kernel)
set_option maxRecDepth 20000 in
theorem gX2_leastBelow_X2_leastBelow : GoodIn wsX2_leastBelow (wsV RX2 82 RX2 yX2_leastBelow wsX2_leastBelow) := goodIn_app (goodIn_of _ (by decide +kernel)) ggX2_leastBelow_X2_leastBelow
theorem dX2_leastBelow_0 : decode cX2_leastBelow 0 = .ok (.iload_n 2, 1) := by decide +kernel
theorem dX2_leastBelow_1 : decode cX2_leastBelow 1 = .ok (.iload_n 3, 1) := by decide +kernel
theorem dX2_leastBelow_2 : decode cX2_leastBelow 2 = .ok (.if_icmp .lt 14, 3) := by decide +kernel
theorem dX2_leastBelow_5 : decode cX2_leastBelow 5 = .ok (.iload_n 1, 1) := by decide +kernel
theorem dX2_leastBelow_6 : decode cX2_leastBelow 6 = .ok (.aload_n 0, 1) := by decide +kernel
theorem dX2_leastBelow_7 : decode cX2_leastBelow 7 = .ok (.iload 4, 2) := by decide +kernel
theorem dX2_leastBelow_9 : decode cX2_leastBelow 9 = .ok (.invokevirtual 86, 3) := by decide +kernel
theorem dX2_leastBelow_12 : decode cX2_leastBelow 12 = .ok (.invokestatic 89, 3) := by decide +kernel
theorem dX2_leastBelow_15 : decode cX2_leastBelow 15 = .ok (.ireturn, 1) := by decide +kernel
theorem dX2_leastBelow_16 : decode cX2_leastBelow 16 = .ok (.aload_n 0, 1) := by decide +kernel
theorem dX2_leastBelow_17 : decode cX2_leastBelow 17 = .ok (.iload_n 2, 1) := by decide +kernel
theorem dX2_leastBelow_18 : decode cX2_leastBelow 18 = .ok (.invokevirtual 63, 3) := by decide +kernel
theorem dX2_leastBelow_21 : decode cX2_leastBelow 21 = .ok (.istore 5, 2) := by decide +kernel
theorem dX2_leastBelow_23 : decode cX2_leastBelow 23 = .ok (.iload_n 1, 1) := by decide +kernel
theorem dX2_leastBelow_24 : decode cX2_leastBelow 24 = .ok (.istore 6, 2) := by decide +kernel
theorem dX2_leastBelow_26 : decode cX2_leastBelow 26 = .ok (.iconst 0, 1) := by decide +kernel
theorem dX2_leastBelow_27 : decode cX2_leastBelow 27 = .ok (.istore 7, 2) := by decide +kernel
theorem dX2_leastBelow_29 : decode cX2_leastBelow 29 = .ok (.iload 7, 2) := by decide +kernel
theorem dX2_leastBelow_31 : decode cX2_leastBelow 31 = .ok (.iload 4, 2) := by decide +kernel
theorem dX2_leastBelow_33 : decode cX2_leastBelow 33 = .ok (.if_icmp .ge 64, 3) := by decide +kernel
theorem dX2_leastBelow_36 : decode cX2_leastBelow 36 = .ok (.iload 7, 2) := by decide +kernel
theorem dX2_leastBelow_38 : decode cX2_leastBelow 38 = .ok (.iconst 3, 1) := by decide +kernel
theorem dX2_leastBelow_39 : decode cX2_leastBelow 39 = .ok (.if_icmp .ge 58, 3) := by decide +kernel
theorem dX2_leastBelow_42 : decode cX2_leastBelow 42 = .ok (.aload_n 0, 1) := by decide +kernel
theorem dX2_leastBelow_43 : decode cX2_leastBelow 43 = .ok (.getfield 36, 3) := by decide +kernel
theorem dX2_leastBelow_46 : decode cX2_leastBelow 46 = .ok (.iload 7, 2) := by decide +kernel
theorem dX2_leastBelow_48 : decode cX2_leastBelow 48 = .ok (.dup2, 1) := by decide +kernel
theorem dX2_leastBelow_49 : decode cX2_leastBelow 49 = .ok (.iaload, 1) := by decide +kernel
theorem dX2_leastBelow_50 : decode cX2_leastBelow 50 = .ok (.iload 5, 2) := by decide +kernel
theorem dX2_leastBelow_52 : decode cX2_leastBelow 52 = .ok (.iadd, 1) := by decide +kernel
theorem dX2_leastBelow_53 : decode cX2_leastBelow 53 = .ok (.iastore, 1) := by decide +kernel
theorem dX2_leastBelow_54 : decode cX2_leastBelow 54 = .ok (.aload_n 0, 1) := by decide +kernel
theorem dX2_leastBelow_55 : decode cX2_leastBelow 55 = .ok (.iload 7, 2) := by decide +kernel
theorem dX2_leastBelow_57 : decode cX2_leastBelow 57 = .ok (.invokevirtual 92, 3) := by decide +kernel
theorem dX2_leastBelow_60 : decode cX2_leastBelow 60 = .ok (.iload 6, 2) := by decide +kernel
theorem dX2_leastBelow_62 : decode cX2_leastBelow 62 = .ok (.if_icmp .ge 17, 3) := by decide +kernel
theorem dX2_leastBelow_65 : decode cX2_leastBelow 65 = .ok (.aload_n 0, 1) := by decide +kernel
theorem dX2_leastBelow_66 : decode cX2_leastBelow 66 = .ok (.iload 6, 2) := by decide +kernel
theorem dX2_leastBelow_68 : decode cX2_leastBelow 68 = .ok (.iload_n 2, 1) := by decide +kernel
theorem dX2_leastBelow_69 : decode cX2_leastBelow 69 = .ok (.iconst 1, 1) := by decide +kernel
theorem dX2_leastBelow_70 : decode cX2_leastBelow 70 = .ok (.iadd, 1) := by decide +kernel
theorem dX2_leastBelow_71 : decode cX2_leastBelow 71 = .ok (.iload_n 3, 1) := by decide +kernel
theorem dX2_leastBelow_72 : decode cX2_leastBelow 72 = .ok (.iload 4, 2) := by decide +kernel
theorem dX2_leastBelow_74 : decode cX2_leastBelow 74 = .ok (.invokevirtual 82, 3) := by decide +kernel
theorem dX2_leastBelow_77 : decode cX2_leastBelow 77 = .ok (.istore 6, 2) := by decide +kernel
theorem dX2_leastBelow_79 : decode cX2_leastBelow 79 = .ok (.aload_n 0, 1) := by decide +kernel
theorem dX2_leastBelow_80 : decode cX2_leastBelow 80 = .ok (.getfield 36, 3) := by decide +kernel
theorem dX2_leastBelow_83 : decode cX2_leastBelow 83 = .ok (.iload 7, 2) := by decide +kernel
theorem dX2_leastBelow_85 : decode cX2_leastBelow 85 = .ok (.dup2, 1) := by decide +kernel
theorem dX2_leastBelow_86 : decode cX2_leastBelow 86 = .ok (.iaload, 1) := by decide +kernel
theorem dX2_leastBelow_87 : decode cX2_leastBelow 87 = .ok (.iload 5, 2) := by decide +kernel
theorem dX2_leastBelow_89 : decode cX2_leastBelow 89 = .ok (.isub, 1) := by decide +kernel
theorem dX2_leastBelow_90 : decode cX2_leastBelow 90 = .ok (.iastore, 1) := by decide +kernel
theorem dX2_leastBelow_91 : decode cX2_leastBelow 91 = .ok (.iinc 7 1, 3) := by decide +kernel
theorem dX2_leastBelow_94 : decode cX2_leastBelow 94 = .ok (.goto (-65), 3) := by decide +kernel
theorem dX2_leastBelow_97 : decode cX2_leastBelow 97 = .ok (.iload 6, 2) := by decide +kernel
theorem dX2_leastBelow_99 : decode cX2_leastBelow 99 = .ok (.ireturn, 1) := by decide +kernel
set_option maxRecDepth 20000 in
theorem ggX2_mostDays_X2_daysOf : GoodIn wsX2_mostDays wsX2_daysOf := goodIn_r _ [9, 10, 11, 12, 13, 14, 15, 16, 17, 18, 19, 20, 21, 22, 23] (by decide +kernel) (by decide +kernel)
set_option maxRecDepth 20000 in
theorem gX2_mostDays_X2_daysOf : GoodIn wsX2_mostDays (wsV RX2 92 RX2 yX2_daysOf wsX2_daysOf) := goodIn_app (goodIn_of _ (by decide +kernel)) ggX2_mostDays_X2_daysOf
theorem dX2_mostDays_0 : decode cX2_mostDays 0 = .ok (.iconst 0, 1) := by decide +kernel
theorem dX2_mostDays_1 : decode cX2_mostDays 1 = .ok (.istore_n 2, 1) := by decide +kernel
theorem dX2_mostDays_2 : decode cX2_mostDays 2 = .ok (.iconst 0, 1) := by decide +kernel
theorem dX2_mostDays_3 : decode cX2_mostDays 3 = .ok (.istore_n 3, 1) := by decide +kernel
theorem dX2_mostDays_4 : decode cX2_mostDays 4 = .ok (.iload_n 3, 1) := by decide +kernel
theorem dX2_mostDays_5 : decode cX2_mostDays 5 = .ok (.iload_n 1, 1) := by decide +kernel
theorem dX2_mostDays_6 : decode cX2_mostDays 6 = .ok (.if_icmp .ge 19, 3) := by decide +kernel
theorem dX2_mostDays_9 : decode cX2_mostDays 9 = .ok (.iload_n 2, 1) := by decide +kernel
theorem dX2_mostDays_10 : decode cX2_mostDays 10 = .ok (.aload_n 0, 1) := by decide +kernel
theorem dX2_mostDays_11 : decode cX2_mostDays 11 = .ok (.iload_n 3, 1) := by decide +kernel
theorem dX2_mostDays_12 : decode cX2_mostDays 12 = .ok (.invokevirtual 92, 3) := by decide +kernel
theorem dX2_mostDays_15 : decode cX2_mostDays 15 = .ok (.invokestatic 66, 3) := by decide +kernel
theorem dX2_mostDays_18 : decode cX2_mostDays 18 = .ok (.istore_n 2, 1) := by decide +kernel
theorem dX2_mostDays_19 : decode cX2_mostDays 19 = .ok (.iinc 3 1, 3) := by decide +kernel
theorem dX2_mostDays_22 : decode cX2_mostDays 22 = .ok (.goto (-18), 3) := by decide +kernel
theorem dX2_mostDays_25 : decode cX2_mostDays 25 = .ok (.iload_n 2, 1) := by decide +kernel
theorem dX2_mostDays_26 : decode cX2_mostDays 26 = .ok (.ireturn, 1) := by decide +kernel
theorem dX2_daysOf_0 : decode cX2_daysOf 0 = .ok (.iload_n 1, 1) := by decide +kernel
theorem dX2_daysOf_1 : decode cX2_daysOf 1 = .ok (.ifCond .lt 18, 3) := by decide +kernel
theorem dX2_daysOf_4 : decode cX2_daysOf 4 = .ok (.iload_n 1, 1) := by decide +kernel
theorem dX2_daysOf_5 : decode cX2_daysOf 5 = .ok (.iconst 3, 1) := by decide +kernel
theorem dX2_daysOf_6 : decode cX2_daysOf 6 = .ok (.if_icmp .ge 13, 3) := by decide +kernel
theorem dX2_daysOf_9 : decode cX2_daysOf 9 = .ok (.aload_n 0, 1) := by decide +kernel
theorem dX2_daysOf_10 : decode cX2_daysOf 10 = .ok (.getfield 9, 3) := by decide +kernel
theorem dX2_daysOf_13 : decode cX2_daysOf 13 = .ok (.iload_n 1, 1) := by decide +kernel
theorem dX2_daysOf_14 : decode cX2_daysOf 14 = .ok (.iaload, 1) := by decide +kernel
theorem dX2_daysOf_15 : decode cX2_daysOf 15 = .ok (.iconst 1, 1) := by decide +kernel
theorem dX2_daysOf_16 : decode cX2_daysOf 16 = .ok (.if_icmp .ge 5, 3) := by decide +kernel
theorem dX2_daysOf_19 : decode cX2_daysOf 19 = .ok (.iconst 0, 1) := by decide +kernel
theorem dX2_daysOf_20 : decode cX2_daysOf 20 = .ok (.ireturn, 1) := by decide +kernel
theorem dX2_daysOf_21 : decode cX2_daysOf 21 = .ok (.aload_n 0, 1) := by decide +kernel
theorem dX2_daysOf_22 : decode cX2_daysOf 22 = .ok (.getfield 36, 3) := by decide +kernel
theorem dX2_daysOf_25 : decode cX2_daysOf 25 = .ok (.iload_n 1, 1) := by decide +kernel
theorem dX2_daysOf_26 : decode cX2_daysOf 26 = .ok (.iaload, 1) := by decide +kernel
theorem dX2_daysOf_27 : decode cX2_daysOf 27 = .ok (.aload_n 0, 1) := by decide +kernel
theorem dX2_daysOf_28 : decode cX2_daysOf 28 = .ok (.getfield 9, 3) := by decide +kernel
theorem dX2_daysOf_31 : decode cX2_daysOf 31 = .ok (.iload_n 1, 1) := by decide +kernel
theorem dX2_daysOf_32 : decode cX2_daysOf 32 = .ok (.iaload, 1) := by decide +kernel
theorem dX2_daysOf_33 : decode cX2_daysOf 33 = .ok (.iadd, 1) := by decide +kernel
theorem dX2_daysOf_34 : decode cX2_daysOf 34 = .ok (.iconst 1, 1) := by decide +kernel
theorem dX2_daysOf_35 : decode cX2_daysOf 35 = .ok (.isub, 1) := by decide +kernel
theorem dX2_daysOf_36 : decode cX2_daysOf 36 = .ok (.aload_n 0, 1) := by decide +kernel
theorem dX2_daysOf_37 : decode cX2_daysOf 37 = .ok (.getfield 9, 3) := by decide +kernel
theorem dX2_daysOf_40 : decode cX2_daysOf 40 = .ok (.iload_n 1, 1) := by decide +kernel
theorem dX2_daysOf_41 : decode cX2_daysOf 41 = .ok (.iaload, 1) := by decide +kernel
theorem dX2_daysOf_42 : decode cX2_daysOf 42 = .ok (.idiv, 1) := by decide +kernel
theorem dX2_daysOf_43 : decode cX2_daysOf 43 = .ok (.ireturn, 1) := by decide +kernel
theorem dX3_init_0 : decode cX3_init 0 = .ok (.aload_n 0, 1) := by decide +kernel
theorem dX3_init_1 : decode cX3_init 1 = .ok (.invokespecial 3, 3) := by decide +kernel
theorem dX3_init_4 : decode cX3_init 4 = .ok (.aload_n 0, 1) := by decide +kernel
theorem dX3_init_5 : decode cX3_init 5 = .ok (.bipush 12, 2) := by decide +kernel
theorem dX3_init_7 : decode cX3_init 7 = .ok (.newarray .int, 2) := by decide +kernel
theorem dX3_init_9 : decode cX3_init 9 = .ok (.putfield 9, 3) := by decide +kernel
theorem dX3_init_12 : decode cX3_init 12 = .ok (.aload_n 0, 1) := by decide +kernel
theorem dX3_init_13 : decode cX3_init 13 = .ok (.bipush 40, 2) := by decide +kernel
theorem dX3_init_15 : decode cX3_init 15 = .ok (.putfield 15, 3) := by decide +kernel
theorem dX3_init_18 : decode cX3_init 18 = .ok (.return_, 1) := by decide +kernel
theorem dX3_setRoom_0 : decode cX3_setRoom 0 = .ok (.iload_n 1, 1) := by decide +kernel
theorem dX3_setRoom_1 : decode cX3_setRoom 1 = .ok (.iconst 1, 1) := by decide +kernel
theorem dX3_setRoom_2 : decode cX3_setRoom 2 = .ok (.if_icmp .lt 10, 3) := by decide +kernel
theorem dX3_setRoom_5 : decode cX3_setRoom 5 = .ok (.iload_n 1, 1) := by decide +kernel
theorem dX3_setRoom_6 : decode cX3_setRoom 6 = .ok (.sipush 200, 3) := by decide +kernel
theorem dX3_setRoom_9 : decode cX3_setRoom 9 = .ok (.if_icmp .le 5, 3) := by decide +kernel
theorem dX3_setRoom_12 : decode cX3_setRoom 12 = .ok (.iconst 0, 1) := by decide +kernel
theorem dX3_setRoom_13 : decode cX3_setRoom 13 = .ok (.ireturn, 1) := by decide +kernel
theorem dX3_setRoom_14 : decode cX3_setRoom 14 = .ok (.aload_n 0, 1) := by decide +kernel
theorem dX3_setRoom_15 : decode cX3_setRoom 15 = .ok (.iload_n 1, 1) := by decide +kernel
theorem dX3_setRoom_16 : decode cX3_setRoom 16 = .ok (.putfield 15, 3) := by decide +kernel
theorem dX3_setRoom_19 : decode cX3_setRoom 19 = .ok (.iconst 1, 1) := by decide +kernel
theorem dX3_setRoom_20 : decode cX3_setRoom 20 = .ok (.ireturn, 1) := by decide +kernel
set_option maxRecDepth 20000 in
theorem ggX3_passMinute_J9_floorMod_7cf53 : GoodIn wsX3_passMinute wsJ9_floorMod_7cf53 := goodIn_r _ [18] (by decide +kernel) (by decide +kernel)
set_option maxRecDepth 20000 in
theorem gX3_passMinute_J9_floorMod_7cf53 : GoodIn wsX3_passMinute (va_wsS RX3 25 yJ9_floorMod_7cf53 wsJ9_floorMod_7cf53) := goodIn_app (goodIn_of _ (by decide +kernel)) ggX3_passMinute_J9_floorMod_7cf53
theorem dX3_passMinute_0 : decode cX3_passMinute 0 = .ok (.iload_n 1, 1) := by decide +kernel
theorem dX3_passMinute_1 : decode cX3_passMinute 1 = .ok (.ifCond .lt 22, 3) := by decide +kernel
theorem dX3_passMinute_4 : decode cX3_passMinute 4 = .ok (.iload_n 1, 1) := by decide +kernel
theorem dX3_passMinute_5 : decode cX3_passMinute 5 = .ok (.sipush 500, 3) := by decide +kernel
theorem dX3_passMinute_8 : decode cX3_passMinute 8 = .ok (.if_icmp .gt 15, 3) := by decide +kernel
theorem dX3_passMinute_11 : decode cX3_passMinute 11 = .ok (.aload_n 0, 1) := by decide +kernel
theorem dX3_passMinute_12 : decode cX3_passMinute 12 = .ok (.getfield 19, 3) := by decide +kernel
theorem dX3_passMinute_15 : decode cX3_passMinute 15 = .ok (.iload_n 1, 1) := by decide +kernel
theorem dX3_passMinute_16 : decode cX3_passMinute 16 = .ok (.iadd, 1) := by decide +kernel
theorem dX3_passMinute_17 : decode cX3_passMinute 17 = .ok (.sipush 2000, 3) := by decide +kernel
theorem dX3_passMinute_20 : decode cX3_passMinute 20 = .ok (.if_icmp .le 5, 3) := by decide +kernel
theorem dX3_passMinute_23 : decode cX3_passMinute 23 = .ok (.iconst (-1), 1) := by decide +kernel
theorem dX3_passMinute_24 : decode cX3_passMinute 24 = .ok (.ireturn, 1) := by decide +kernel
theorem dX3_passMinute_25 : decode cX3_passMinute 25 = .ok (.aload_n 0, 1) := by decide +kernel
theorem dX3_passMinute_26 : decode cX3_passMinute 26 = .ok (.getfield 22, 3) := by decide +kernel
theorem dX3_passMinute_29 : decode cX3_passMinute 29 = .ok (.bipush 12, 2) := by decide +kernel
theorem dX3_passMinute_31 : decode cX3_passMinute 31 = .ok (.invokestatic 25, 3) := by decide +kernel
theorem dX3_passMinute_34 : decode cX3_passMinute 34 = .ok (.istore_n 2, 1) := by decide +kernel
theorem dX3_passMinute_35 : decode cX3_passMinute 35 = .ok (.aload_n 0, 1) := by decide +kernel
theorem dX3_passMinute_36 : decode cX3_passMinute 36 = .ok (.dup, 1) := by decide +kernel
theorem dX3_passMinute_37 : decode cX3_passMinute 37 = .ok (.getfield 31, 3) := by decide +kernel
theorem dX3_passMinute_40 : decode cX3_passMinute 40 = .ok (.aload_n 0, 1) := by decide +kernel
theorem dX3_passMinute_41 : decode cX3_passMinute 41 = .ok (.getfield 9, 3) := by decide +kernel
theorem dX3_passMinute_44 : decode cX3_passMinute 44 = .ok (.iload_n 2, 1) := by decide +kernel
theorem dX3_passMinute_45 : decode cX3_passMinute 45 = .ok (.iaload, 1) := by decide +kernel
theorem dX3_passMinute_46 : decode cX3_passMinute 46 = .ok (.isub, 1) := by decide +kernel
theorem dX3_passMinute_47 : decode cX3_passMinute 47 = .ok (.putfield 31, 3) := by decide +kernel
theorem dX3_passMinute_50 : decode cX3_passMinute 50 = .ok (.aload_n 0, 1) := by decide +kernel
theorem dX3_passMinute_51 : decode cX3_passMinute 51 = .ok (.dup, 1) := by decide +kernel
theorem dX3_passMinute_52 : decode cX3_passMinute 52 = .ok (.getfield 34, 3) := by decide +kernel
theorem dX3_passMinute_55 : decode cX3_passMinute 55 = .ok (.aload_n 0, 1) := by decide +kernel
theorem dX3_passMinute_56 : decode cX3_passMinute 56 = .ok (.getfield 9, 3) := by decide +kernel
theorem dX3_passMinute_59 : decode cX3_passMinute 59 = .ok (.iload_n 2, 1) := by decide +kernel
theorem dX3_passMinute_60 : decode cX3_passMinute 60 = .ok (.iaload, 1) := by decide +kernel
theorem dX3_passMinute_61 : decode cX3_passMinute 61 = .ok (.iadd, 1) := by decide +kernel
theorem dX3_passMinute_62 : decode cX3_passMinute 62 = .ok (.putfield 34, 3) := by decide +kernel
theorem dX3_passMinute_65 : decode cX3_passMinute 65 = .ok (.aload_n 0, 1) := by decide +kernel
theorem dX3_passMinute_66 : decode cX3_passMinute 66 = .ok (.dup, 1) := by decide +kernel
theorem dX3_passMinute_67 : decode cX3_passMinute 67 = .ok (.getfield 19, 3) := by decide +kernel
theorem dX3_passMinute_70 : decode cX3_passMinute 70 = .ok (.iload_n 1, 1) := by decide +kernel
theorem dX3_passMinute_71 : decode cX3_passMinute 71 = .ok (.iadd, 1) := by decide +kernel
theorem dX3_passMinute_72 : decode cX3_passMinute 72 = .ok (.putfield 19, 3) := by decide +kernel
theorem dX3_passMinute_75 : decode cX3_passMinute 75 = .ok (.aload_n 0, 1) := by decide +kernel
theorem dX3_passMinute_76 : decode cX3_passMinute 76 = .ok (.getfield 15, 3) := by decide +kernel
theorem dX3_passMinute_79 : decode cX3_passMinute 79 = .ok (.aload_n 0, 1) := by decide +kernel
theorem dX3_passMinute_80 : decode cX3_passMinute 80 = .ok (.getfield 31, 3) := by decide +kernel
theorem dX3_passMinute_83 : decode cX3_passMinute 83 = .ok (.isub, 1) := by decide +kernel
theorem dX3_passMinute_84 : decode cX3_passMinute 84 = .ok (.iconst 0, 1) := by decide +kernel
theorem dX3_passMinute_85 : decode cX3_passMinute 85 = .ok (.invokestatic 37, 3) := by decide +kernel
theorem dX3_passMinute_88 : decode cX3_passMinute 88 = .ok (.istore_n 3, 1) := by decide +kernel
theorem dX3_passMinute_89 : decode cX3_passMinute 89 = .ok (.iload_n 3, 1) := by decide +kernel
theorem dX3_passMinute_90 : decode cX3_passMinute 90 = .ok (.aload_n 0, 1) := by decide +kernel
theorem dX3_passMinute_91 : decode cX3_passMinute 91 = .ok (.getfield 19, 3) := by decide +kernel
theorem dX3_passMinute_94 : decode cX3_passMinute 94 = .ok (.invokestatic 40, 3) := by decide +kernel
theorem dX3_passMinute_97 : decode cX3_passMinute 97 = .ok (.bipush 8, 2) := by decide +kernel
theorem dX3_passMinute_99 : decode cX3_passMinute 99 = .ok (.invokestatic 40, 3) := by decide +kernel
theorem dX3_passMinute_102 : decode cX3_passMinute 102 = .ok (.istore 4, 2) := by decide +kernel
theorem dX3_passMinute_104 : decode cX3_passMinute 104 = .ok (.aload_n 0, 1) := by decide +kernel
theorem dX3_passMinute_105 : decode cX3_passMinute 105 = .ok (.getfield 9, 3) := by decide +kernel
theorem dX3_passMinute_108 : decode cX3_passMinute 108 = .ok (.iload_n 2, 1) := by decide +kernel
theorem dX3_passMinute_109 : decode cX3_passMinute 109 = .ok (.iload 4, 2) := by decide +kernel
theorem dX3_passMinute_111 : decode cX3_passMinute 111 = .ok (.iastore, 1) := by decide +kernel
theorem dX3_passMinute_112 : decode cX3_passMinute 112 = .ok (.aload_n 0, 1) := by decide +kernel
theorem dX3_passMinute_113 : decode cX3_passMinute 113 = .ok (.dup, 1) := by decide +kernel
theorem dX3_passMinute_114 : decode cX3_passMinute 114 = .ok (.getfield 19, 3) := by decide +kernel
theorem dX3_passMinute_117 : decode cX3_passMinute 117 = .ok (.iload 4, 2) := by decide +kernel
theorem dX3_passMinute_119 : decode cX3_passMinute 119 = .ok (.isub, 1) := by decide +kernel
theorem dX3_passMinute_120 : decode cX3_passMinute 120 = .ok (.putfield 19, 3) := by decide +kernel
theorem dX3_passMinute_123 : decode cX3_passMinute 123 = .ok (.aload_n 0, 1) := by decide +kernel
theorem dX3_passMinute_124 : decode cX3_passMinute 124 = .ok (.dup, 1) := by decide +kernel
theorem dX3_passMinute_125 : decode cX3_passMinute 125 = .ok (.getfield 31, 3) := by decide +kernel
theorem dX3_passMinute_128 : decode cX3_passMinute 128 = .ok (.iload 4, 2) := by decide +kernel
theorem dX3_passMinute_130 : decode cX3_passMinute 130 = .ok (.iadd, 1) := by decide +kernel
theorem dX3_passMinute_131 : decode cX3_passMinute 131 = .ok (.putfield 31, 3) := by decide +kernel
theorem dX3_passMinute_134 : decode cX3_passMinute 134 = .ok (.aload_n 0, 1) := by decide +kernel
theorem dX3_passMinute_135 : decode cX3_passMinute 135 = .ok (.dup, 1) := by decide +kernel
theorem dX3_passMinute_136 : decode cX3_passMinute 136 = .ok (.getfield 22, 3) := by decide +kernel
theorem dX3_passMinute_139 : decode cX3_passMinute 139 = .ok (.iconst 1, 1) := by decide +kernel
theorem dX3_passMinute_140 : decode cX3_passMinute 140 = .ok (.iadd, 1) := by decide +kernel
theorem dX3_passMinute_141 : decode cX3_passMinute 141 = .ok (.putfield 22, 3) := by decide +kernel
theorem dX3_passMinute_144 : decode cX3_passMinute 144 = .ok (.aload_n 0, 1) := by decide +kernel
theorem dX3_passMinute_145 : decode cX3_passMinute 145 = .ok (.aload_n 0, 1) := by decide +kernel
theorem dX3_passMinute_146 : decode cX3_passMinute 146 = .ok (.getfield 43, 3) := by decide +kernel
theorem dX3_passMinute_149 : decode cX3_passMinute 149 = .ok (.aload_n 0, 1) := by decide +kernel
theorem dX3_passMinute_150 : decode cX3_passMinute 150 = .ok (.getfield 31, 3) := by decide +kernel
theorem dX3_passMinute_153 : decode cX3_passMinute 153 = .ok (.invokestatic 37, 3) := by decide +kernel
theorem dX3_passMinute_156 : decode cX3_passMinute 156 = .ok (.putfield 43, 3) := by decide +kernel
theorem dX3_passMinute_159 : decode cX3_passMinute 159 = .ok (.iload 4, 2) := by decide +kernel
theorem dX3_passMinute_161 : decode cX3_passMinute 161 = .ok (.ireturn, 1) := by decide +kernel
theorem dX3_tell_0 : decode cX3_tell 0 = .ok (.iload_n 1, 1) := by decide +kernel
theorem dX3_tell_1 : decode cX3_tell 1 = .ok (.tableswitch 69 0 5 #[39, 44, 49, 54, 59, 64], 39) := by decide +kernel
theorem dX3_tell_40 : decode cX3_tell 40 = .ok (.aload_n 0, 1) := by decide +kernel
theorem dX3_tell_41 : decode cX3_tell 41 = .ok (.getfield 31, 3) := by decide +kernel
theorem dX3_tell_44 : decode cX3_tell 44 = .ok (.ireturn, 1) := by decide +kernel
theorem dX3_tell_45 : decode cX3_tell 45 = .ok (.aload_n 0, 1) := by decide +kernel
theorem dX3_tell_46 : decode cX3_tell 46 = .ok (.getfield 19, 3) := by decide +kernel
theorem dX3_tell_49 : decode cX3_tell 49 = .ok (.ireturn, 1) := by decide +kernel
theorem dX3_tell_50 : decode cX3_tell 50 = .ok (.aload_n 0, 1) := by decide +kernel
theorem dX3_tell_51 : decode cX3_tell 51 = .ok (.getfield 34, 3) := by decide +kernel
theorem dX3_tell_54 : decode cX3_tell 54 = .ok (.ireturn, 1) := by decide +kernel
theorem dX3_tell_55 : decode cX3_tell 55 = .ok (.aload_n 0, 1) := by decide +kernel
theorem dX3_tell_56 : decode cX3_tell 56 = .ok (.getfield 22, 3) := by decide +kernel
theorem dX3_tell_59 : decode cX3_tell 59 = .ok (.ireturn, 1) := by decide +kernel
theorem dX3_tell_60 : decode cX3_tell 60 = .ok (.aload_n 0, 1) := by decide +kernel
theorem dX3_tell_61 : decode cX3_tell 61 = .ok (.getfield 43, 3) := by decide +kernel
theorem dX3_tell_64 : decode cX3_tell 64 = .ok (.ireturn, 1) := by decide +kernel
theorem dX3_tell_65 : decode cX3_tell 65 = .ok (.aload_n 0, 1) := by decide +kernel
theorem dX3_tell_66 : decode cX3_tell 66 = .ok (.getfield 15, 3) := by decide +kernel
theorem dX3_tell_69 : decode cX3_tell 69 = .ok (.ireturn, 1) := by decide +kernel
theorem dX3_tell_70 : decode cX3_tell 70 = .ok (.iconst (-1), 1) := by decide +kernel
theorem dX3_tell_71 : decode cX3_tell 71 = .ok (.ireturn, 1) := by decide +kernel
theorem dX4_init_0 : decode cX4_init 0 = .ok (.aload_n 0, 1) := by decide +kernel
theorem dX4_init_1 : decode cX4_init 1 = .ok (.invokespecial 3, 3) := by decide +kernel
theorem dX4_init_4 : decode cX4_init 4 = .ok (.aload_n 0, 1) := by decide +kernel
theorem dX4_init_5 : decode cX4_init 5 = .ok (.sipush 9600, 3) := by decide +kernel
theorem dX4_init_8 : decode cX4_init 8 = .ok (.newarray .byte, 2) := by decide +kernel
theorem dX4_init_10 : decode cX4_init 10 = .ok (.putfield 9, 3) := by decide +kernel
theorem dX4_init_13 : decode cX4_init 13 = .ok (.aload_n 0, 1) := by decide +kernel
theorem dX4_init_14 : decode cX4_init 14 = .ok (.bipush 72, 2) := by decide +kernel
theorem dX4_init_16 : decode cX4_init 16 = .ok (.newarray .int, 2) := by decide +kernel
theorem dX4_init_18 : decode cX4_init 18 = .ok (.putfield 15, 3) := by decide +kernel
theorem dX4_init_21 : decode cX4_init 21 = .ok (.return_, 1) := by decide +kernel
theorem dX4_isMark_0 : decode cX4_isMark 0 = .ok (.iload_n 0, 1) := by decide +kernel
theorem dX4_isMark_1 : decode cX4_isMark 1 = .ok (.ifCond .lt 33, 3) := by decide +kernel
theorem dX4_isMark_4 : decode cX4_isMark 4 = .ok (.iload_n 0, 1) := by decide +kernel
theorem dX4_isMark_5 : decode cX4_isMark 5 = .ok (.bipush 12, 2) := by decide +kernel
theorem dX4_isMark_7 : decode cX4_isMark 7 = .ok (.if_icmp .ge 27, 3) := by decide +kernel
theorem dX4_isMark_10 : decode cX4_isMark 10 = .ok (.iload_n 1, 1) := by decide +kernel
theorem dX4_isMark_11 : decode cX4_isMark 11 = .ok (.ifCond .lt 23, 3) := by decide +kernel
theorem dX4_isMark_14 : decode cX4_isMark 14 = .ok (.iload_n 1, 1) := by decide +kernel
theorem dX4_isMark_15 : decode cX4_isMark 15 = .ok (.bipush 40, 2) := by decide +kernel
theorem dX4_isMark_17 : decode cX4_isMark 17 = .ok (.if_icmp .ge 17, 3) := by decide +kernel
theorem dX4_isMark_20 : decode cX4_isMark 20 = .ok (.iload_n 2, 1) := by decide +kernel
theorem dX4_isMark_21 : decode cX4_isMark 21 = .ok (.ifCond .lt 13, 3) := by decide +kernel
theorem dX4_isMark_24 : decode cX4_isMark 24 = .ok (.iload_n 2, 1) := by decide +kernel
theorem dX4_isMark_25 : decode cX4_isMark 25 = .ok (.bipush 20, 2) := by decide +kernel
theorem dX4_isMark_27 : decode cX4_isMark 27 = .ok (.if_icmp .ge 7, 3) := by decide +kernel
theorem dX4_isMark_30 : decode cX4_isMark 30 = .ok (.iconst 1, 1) := by decide +kernel
theorem dX4_isMark_31 : decode cX4_isMark 31 = .ok (.goto 4, 3) := by decide +kernel
theorem dX4_isMark_34 : decode cX4_isMark 34 = .ok (.iconst 0, 1) := by decide +kernel
theorem dX4_isMark_35 : decode cX4_isMark 35 = .ok (.ireturn, 1) := by decide +kernel
theorem dX4_isPlace_0 : decode cX4_isPlace 0 = .ok (.iload_n 0, 1) := by decide +kernel
theorem dX4_isPlace_1 : decode cX4_isPlace 1 = .ok (.ifCond .lt 24, 3) := by decide +kernel
theorem dX4_isPlace_4 : decode cX4_isPlace 4 = .ok (.iload_n 0, 1) := by decide +kernel
theorem dX4_isPlace_5 : decode cX4_isPlace 5 = .ok (.sipush 360, 3) := by decide +kernel
theorem dX4_isPlace_8 : decode cX4_isPlace 8 = .ok (.if_icmp .ge 17, 3) := by decide +kernel
theorem dX4_isPlace_11 : decode cX4_isPlace 11 = .ok (.iload_n 1, 1) := by decide +kernel
theorem dX4_isPlace_12 : decode cX4_isPlace 12 = .ok (.ifCond .lt 13, 3) := by decide +kernel
theorem dX4_isPlace_15 : decode cX4_isPlace 15 = .ok (.iload_n 1, 1) := by decide +kernel
theorem dX4_isPlace_16 : decode cX4_isPlace 16 = .ok (.bipush 20, 2) := by decide +kernel
theorem dX4_isPlace_18 : decode cX4_isPlace 18 = .ok (.if_icmp .ge 7, 3) := by decide +kernel
theorem dX4_isPlace_21 : decode cX4_isPlace 21 = .ok (.iconst 1, 1) := by decide +kernel
theorem dX4_isPlace_22 : decode cX4_isPlace 22 = .ok (.goto 4, 3) := by decide +kernel
theorem dX4_isPlace_25 : decode cX4_isPlace 25 = .ok (.iconst 0, 1) := by decide +kernel
theorem dX4_isPlace_26 : decode cX4_isPlace 26 = .ok (.ireturn, 1) := by decide +kernel
theorem dX4_isColour_0 : decode cX4_isColour 0 = .ok (.iload_n 0, 1) := by decide +kernel
theorem dX4_isColour_1 : decode cX4_isColour 1 = .ok (.ifCond .lt 13, 3) := by decide +kernel
theorem dX4_isColour_4 : decode cX4_isColour 4 = .ok (.iload_n 0, 1) := by decide +kernel
theorem dX4_isColour_5 : decode cX4_isColour 5 = .ok (.bipush 7, 2) := by decide +kernel
theorem dX4_isColour_7 : decode cX4_isColour 7 = .ok (.if_icmp .gt 7, 3) := by decide +kernel
theorem dX4_isColour_10 : decode cX4_isColour 10 = .ok (.iconst 1, 1) := by decide +kernel
theorem dX4_isColour_11 : decode cX4_isColour 11 = .ok (.goto 4, 3) := by decide +kernel
theorem dX4_isColour_14 : decode cX4_isColour 14 = .ok (.iconst 0, 1) := by decide +kernel
theorem dX4_isColour_15 : decode cX4_isColour 15 = .ok (.ireturn, 1) := by decide +kernel
set_option maxRecDepth 20000 in
theorem ggX4_columnOf_X4_offsetOf : GoodIn wsX4_columnOf wsX4_offsetOf := goodIn_r _ [4] (by decide +kernel) (by decide +kernel)
set_option maxRecDepth 20000 in
theorem gX4_columnOf_X4_offsetOf : GoodIn wsX4_columnOf (va_wsS RX4 19 yX4_offsetOf wsX4_offsetOf) := goodIn_app (goodIn_of _ (by decide +kernel)) ggX4_columnOf_X4_offsetOf
set_option maxRecDepth 20000 in
theorem ggX4_columnOf_J9_floorMod_7cf53 : GoodIn wsX4_columnOf wsJ9_floorMod_7cf53 := goodIn_r _ [8] (by decide +kernel) (by decide +kernel)
set_option maxRecDepth 20000 in
theorem gX4_columnOf_J9_floorMod_7cf53 : GoodIn wsX4_columnOf (va_wsS RX4 23 yJ9_floorMod_7cf53 wsJ9_floorMod_7cf53) := goodIn_app (goodIn_of _ (by decide +kernel)) ggX4_columnOf_J9_floorMod_7cf53
theorem dX4_columnOf_0 : decode cX4_columnOf 0 = .ok (.bipush 30, 2) := by decide +kernel
theorem dX4_columnOf_2 : decode cX4_columnOf 2 = .ok (.iload_n 0, 1) := by decide +kernel
theorem dX4_columnOf_3 : decode cX4_columnOf 3 = .ok (.imul, 1) := by decide +kernel
theorem dX4_columnOf_4 : decode cX4_columnOf 4 = .ok (.iload_n 1, 1) := by decide +kernel
theorem dX4_columnOf_5 : decode cX4_columnOf 5 = .ok (.invokestatic 19, 3) := by decide +kernel
theorem dX4_columnOf_8 : decode cX4_columnOf 8 = .ok (.iadd, 1) := by decide +kernel
theorem dX4_columnOf_9 : decode cX4_columnOf 9 = .ok (.sipush 360, 3) := by decide +kernel
theorem dX4_columnOf_12 : decode cX4_columnOf 12 = .ok (.invokestatic 23, 3) := by decide +kernel
theorem dX4_columnOf_15 : decode cX4_columnOf 15 = .ok (.ireturn, 1) := by decide +kernel
set_option maxRecDepth 20000 in
theorem ggX4_rowOf_X4_stretchOf : GoodIn wsX4_rowOf wsX4_stretchOf := goodIn_r _ [4] (by decide +kernel) (by decide +kernel)
set_option maxRecDepth 20000 in
theorem gX4_rowOf_X4_stretchOf : GoodIn wsX4_rowOf (va_wsS RX4 29 yX4_stretchOf wsX4_stretchOf) := goodIn_app (goodIn_of _ (by decide +kernel)) ggX4_rowOf_X4_stretchOf
theorem dX4_rowOf_0 : decode cX4_rowOf 0 = .ok (.iload_n 1, 1) := by decide +kernel
theorem dX4_rowOf_1 : decode cX4_rowOf 1 = .ok (.sipush 1000, 3) := by decide +kernel
theorem dX4_rowOf_4 : decode cX4_rowOf 4 = .ok (.imul, 1) := by decide +kernel
theorem dX4_rowOf_5 : decode cX4_rowOf 5 = .ok (.iload_n 0, 1) := by decide +kernel
theorem dX4_rowOf_6 : decode cX4_rowOf 6 = .ok (.invokestatic 29, 3) := by decide +kernel
theorem dX4_rowOf_9 : decode cX4_rowOf 9 = .ok (.idiv, 1) := by decide +kernel
theorem dX4_rowOf_10 : decode cX4_rowOf 10 = .ok (.ireturn, 1) := by decide +kernel
theorem dX4_offsetOf_0 : decode cX4_offsetOf 0 = .ok (.iload_n 0, 1) := by decide +kernel
theorem dX4_offsetOf_1 : decode cX4_offsetOf 1 = .ok (.bipush 20, 2) := by decide +kernel
theorem dX4_offsetOf_3 : decode cX4_offsetOf 3 = .ok (.isub, 1) := by decide +kernel
theorem dX4_offsetOf_4 : decode cX4_offsetOf 4 = .ok (.istore_n 1, 1) := by decide +kernel
theorem dX4_offsetOf_5 : decode cX4_offsetOf 5 = .ok (.iload_n 1, 1) := by decide +kernel
theorem dX4_offsetOf_6 : decode cX4_offsetOf 6 = .ok (.iload_n 1, 1) := by decide +kernel
theorem dX4_offsetOf_7 : decode cX4_offsetOf 7 = .ok (.iload_n 1, 1) := by decide +kernel
theorem dX4_offsetOf_8 : decode cX4_offsetOf 8 = .ok (.imul, 1) := by decide +kernel
theorem dX4_offsetOf_9 : decode cX4_offsetOf 9 = .ok (.iload_n 1, 1) := by decide +kernel
theorem dX4_offsetOf_10 : decode cX4_offsetOf 10 = .ok (.imul, 1) := by decide +kernel
theorem dX4_offsetOf_11 : decode cX4_offsetOf 11 = .ok (.sipush 6000, 3) := by decide +kernel
theorem dX4_offsetOf_14 : decode cX4_offsetOf 14 = .ok (.idiv, 1) := by decide +kernel
theorem dX4_offsetOf_15 : decode cX4_offsetOf 15 = .ok (.isub, 1) := by decide +kernel
theorem dX4_offsetOf_16 : decode cX4_offsetOf 16 = .ok (.ireturn, 1) := by decide +kernel
theorem dX4_stretchOf_0 : decode cX4_stretchOf 0 = .ok (.iload_n 0, 1) := by decide +kernel
theorem dX4_stretchOf_1 : decode cX4_stretchOf 1 = .ok (.bipush 20, 2) := by decide +kernel
theorem dX4_stretchOf_3 : decode cX4_stretchOf 3 = .ok (.isub, 1) := by decide +kernel
theorem dX4_stretchOf_4 : decode cX4_stretchOf 4 = .ok (.istore_n 1, 1) := by decide +kernel
theorem dX4_stretchOf_5 : decode cX4_stretchOf 5 = .ok (.sipush 1000, 3) := by decide +kernel
theorem dX4_stretchOf_8 : decode cX4_stretchOf 8 = .ok (.iload_n 1, 1) := by decide +kernel
theorem dX4_stretchOf_9 : decode cX4_stretchOf 9 = .ok (.iload_n 1, 1) := by decide +kernel
theorem dX4_stretchOf_10 : decode cX4_stretchOf 10 = .ok (.imul, 1) := by decide +kernel
theorem dX4_stretchOf_11 : decode cX4_stretchOf 11 = .ok (.iadd, 1) := by decide +kernel
theorem dX4_stretchOf_12 : decode cX4_stretchOf 12 = .ok (.ireturn, 1) := by decide +kernel
theorem dX4_squareOf_0 : decode cX4_squareOf 0 = .ok (.iload_n 0, 1) := by decide +kernel

theorem dX4_squareOf_1 : decode cX4_squareOf 1 = .ok (.bipush 10, 2) := by decide +kernel
theorem dX4_squareOf_3 : decode cX4_squareOf 3 = .ok (.idiv, 1) := by decide +kernel
theorem dX4_squareOf_4 : decode cX4_squareOf 4 = .ok (.iload_n 1, 1) := by decide +kernel
theorem dX4_squareOf_5 : decode cX4_squareOf 5 = .ok (.bipush 10, 2) := by decide +kernel
theorem dX4_squareOf_7 : decode cX4_squareOf 7 = .ok (.if_icmp .ge 8, 3) := by decide +kernel
theorem dX4_squareOf_10 : decode cX4_squareOf 10 = .ok (.bipush 36, 2) := by decide +kernel
theorem dX4_squareOf_12 : decode cX4_squareOf 12 = .ok (.goto 4, 3) := by decide +kernel
theorem dX4_squareOf_15 : decode cX4_squareOf 15 = .ok (.iconst 0, 1) := by decide +kernel
theorem dX4_squareOf_16 : decode cX4_squareOf 16 = .ok (.iadd, 1) := by decide +kernel
theorem dX4_squareOf_17 : decode cX4_squareOf 17 = .ok (.ireturn, 1) := by decide +kernel
theorem dX4_placeInMarks_0 : decode cX4_placeInMarks 0 = .ok (.iload_n 0, 1) := by decide +kernel
theorem dX4_placeInMarks_1 : decode cX4_placeInMarks 1 = .ok (.bipush 40, 2) := by decide +kernel
theorem dX4_placeInMarks_3 : decode cX4_placeInMarks 3 = .ok (.imul, 1) := by decide +kernel
theorem dX4_placeInMarks_4 : decode cX4_placeInMarks 4 = .ok (.iload_n 1, 1) := by decide +kernel
theorem dX4_placeInMarks_5 : decode cX4_placeInMarks 5 = .ok (.iadd, 1) := by decide +kernel
theorem dX4_placeInMarks_6 : decode cX4_placeInMarks 6 = .ok (.bipush 20, 2) := by decide +kernel
theorem dX4_placeInMarks_8 : decode cX4_placeInMarks 8 = .ok (.imul, 1) := by decide +kernel
theorem dX4_placeInMarks_9 : decode cX4_placeInMarks 9 = .ok (.iload_n 2, 1) := by decide +kernel
theorem dX4_placeInMarks_10 : decode cX4_placeInMarks 10 = .ok (.iadd, 1) := by decide +kernel
theorem dX4_placeInMarks_11 : decode cX4_placeInMarks 11 = .ok (.ireturn, 1) := by decide +kernel
set_option maxRecDepth 20000 in
theorem ggX4_setMark_X4_isMark : GoodIn wsX4_setMark wsX4_isMark := goodIn_r _ [6] (by decide +kernel) (by decide +kernel)
set_option maxRecDepth 20000 in
theorem gX4_setMark_X4_isMark : GoodIn wsX4_setMark (va_wsS RX4 32 yX4_isMark wsX4_isMark) := goodIn_app (goodIn_of _ (by decide +kernel)) ggX4_setMark_X4_isMark
set_option maxRecDepth 20000 in
theorem ggX4_setMark_X4_isColour : GoodIn wsX4_setMark wsX4_isColour := goodIn_r _ [9] (by decide +kernel) (by decide +kernel)
set_option maxRecDepth 20000 in
theorem gX4_setMark_X4_isColour : GoodIn wsX4_setMark (va_wsS RX4 36 yX4_isColour wsX4_isColour) := goodIn_app (goodIn_of _ (by decide +kernel)) ggX4_setMark_X4_isColour
set_option maxRecDepth 20000 in
theorem ggX4_setMark_X4_columnOf : GoodIn wsX4_setMark wsX4_columnOf := goodIn_r _ [12, 13, 14, 5, 15, 16, 17, 18, 19] (by decide +kernel) (by decide +kernel)
set_option maxRecDepth 20000 in
theorem gX4_setMark_X4_columnOf : GoodIn wsX4_setMark (va_wsS RX4 40 yX4_columnOf wsX4_columnOf) := goodIn_app (goodIn_of _ (by decide +kernel)) ggX4_setMark_X4_columnOf
set_option maxRecDepth 20000 in
theorem ggX4_setMark_X4_rowOf : GoodIn wsX4_setMark wsX4_rowOf := goodIn_r _ [22, 23, 24, 5, 25] (by decide +kernel) (by decide +kernel)
set_option maxRecDepth 20000 in
theorem gX4_setMark_X4_rowOf : GoodIn wsX4_setMark (va_wsS RX4 43 yX4_rowOf wsX4_rowOf) := goodIn_app (goodIn_of _ (by decide +kernel)) ggX4_setMark_X4_rowOf
set_option maxRecDepth 20000 in
theorem ggX4_setMark_X4_viewAt : GoodIn wsX4_setMark wsX4_viewAt := goodIn_r _ [29, 30, 31, 32, 5, 33, 16, 17, 18, 19, 13, 14, 15, 34, 35, 36, 37, 38, 39, 40, 41, 1, 23, 24, 25, 3, 4, 6, 42, 43, 44, 51, 52] (by decide +kernel) (by decide +kernel)
set_option maxRecDepth 20000 in
theorem gX4_setMark_X4_viewAt : GoodIn wsX4_setMark (wsV RX4 46 RX4 yX4_viewAt wsX4_viewAt) := goodIn_app (goodIn_of _ (by decide +kernel)) ggX4_setMark_X4_viewAt
set_option maxRecDepth 20000 in
theorem ggX4_setMark_X4_placeInMarks : GoodIn wsX4_setMark wsX4_placeInMarks := goodIn_r _ [44] (by decide +kernel) (by decide +kernel)
set_option maxRecDepth 20000 in
theorem gX4_setMark_X4_placeInMarks : GoodIn wsX4_setMark (va_wsS RX4 49 yX4_placeInMarks wsX4_placeInMarks) := goodIn_app (goodIn_of _ (by decide +kernel)) ggX4_setMark_X4_placeInMarks
set_option maxRecDepth 20000 in
theorem ggX4_setMark_X4_squareOf : GoodIn wsX4_setMark wsX4_squareOf := goodIn_r _ [47] (by decide +kernel) (by decide +kernel)
set_option maxRecDepth 20000 in
theorem gX4_setMark_X4_squareOf : GoodIn wsX4_setMark (va_wsS RX4 53 yX4_squareOf wsX4_squareOf) := goodIn_app (goodIn_of _ (by decide +kernel)) ggX4_setMark_X4_squareOf
set_option maxRecDepth 20000 in
theorem ggX4_setMark_X5_isSquare : GoodIn wsX4_setMark wsX5_isSquare := goodIn_r _ [50] (by decide +kernel) (by decide +kernel)
set_option maxRecDepth 20000 in
theorem gX4_setMark_X5_isSquare_n56 : GoodIn wsX4_setMark (wsX5_isSquare) := ggX4_setMark_X5_isSquare
theorem dX4_setMark_0 : decode cX4_setMark 0 = .ok (.iload_n 1, 1) := by decide +kernel
theorem dX4_setMark_1 : decode cX4_setMark 1 = .ok (.iload_n 2, 1) := by decide +kernel
theorem dX4_setMark_2 : decode cX4_setMark 2 = .ok (.iload_n 3, 1) := by decide +kernel
theorem dX4_setMark_3 : decode cX4_setMark 3 = .ok (.invokestatic 32, 3) := by decide +kernel
theorem dX4_setMark_6 : decode cX4_setMark 6 = .ok (.ifCond .eq 11, 3) := by decide +kernel
theorem dX4_setMark_9 : decode cX4_setMark 9 = .ok (.iload 4, 2) := by decide +kernel
theorem dX4_setMark_11 : decode cX4_setMark 11 = .ok (.invokestatic 36, 3) := by decide +kernel
theorem dX4_setMark_14 : decode cX4_setMark 14 = .ok (.ifCond .ne 5, 3) := by decide +kernel
theorem dX4_setMark_17 : decode cX4_setMark 17 = .ok (.iconst 0, 1) := by decide +kernel
theorem dX4_setMark_18 : decode cX4_setMark 18 = .ok (.ireturn, 1) := by decide +kernel
theorem dX4_setMark_19 : decode cX4_setMark 19 = .ok (.iload_n 1, 1) := by decide +kernel
theorem dX4_setMark_20 : decode cX4_setMark 20 = .ok (.iload_n 2, 1) := by decide +kernel
theorem dX4_setMark_21 : decode cX4_setMark 21 = .ok (.invokestatic 40, 3) := by decide +kernel
theorem dX4_setMark_24 : decode cX4_setMark 24 = .ok (.istore 5, 2) := by decide +kernel
theorem dX4_setMark_26 : decode cX4_setMark 26 = .ok (.iload_n 2, 1) := by decide +kernel
theorem dX4_setMark_27 : decode cX4_setMark 27 = .ok (.iload_n 3, 1) := by decide +kernel
theorem dX4_setMark_28 : decode cX4_setMark 28 = .ok (.invokestatic 43, 3) := by decide +kernel
theorem dX4_setMark_31 : decode cX4_setMark 31 = .ok (.istore 6, 2) := by decide +kernel
theorem dX4_setMark_33 : decode cX4_setMark 33 = .ok (.aload_n 0, 1) := by decide +kernel
theorem dX4_setMark_34 : decode cX4_setMark 34 = .ok (.iload 5, 2) := by decide +kernel
theorem dX4_setMark_36 : decode cX4_setMark 36 = .ok (.iload 6, 2) := by decide +kernel
theorem dX4_setMark_38 : decode cX4_setMark 38 = .ok (.invokevirtual 46, 3) := by decide +kernel
theorem dX4_setMark_41 : decode cX4_setMark 41 = .ok (.iconst (-1), 1) := by decide +kernel
theorem dX4_setMark_42 : decode cX4_setMark 42 = .ok (.if_icmp .ne 7, 3) := by decide +kernel
theorem dX4_setMark_45 : decode cX4_setMark 45 = .ok (.iconst 0, 1) := by decide +kernel
theorem dX4_setMark_46 : decode cX4_setMark 46 = .ok (.goto 4, 3) := by decide +kernel
theorem dX4_setMark_49 : decode cX4_setMark 49 = .ok (.iconst 1, 1) := by decide +kernel
theorem dX4_setMark_50 : decode cX4_setMark 50 = .ok (.istore 7, 2) := by decide +kernel
theorem dX4_setMark_52 : decode cX4_setMark 52 = .ok (.aload_n 0, 1) := by decide +kernel
theorem dX4_setMark_53 : decode cX4_setMark 53 = .ok (.getfield 9, 3) := by decide +kernel
theorem dX4_setMark_56 : decode cX4_setMark 56 = .ok (.iload_n 1, 1) := by decide +kernel
theorem dX4_setMark_57 : decode cX4_setMark 57 = .ok (.iload_n 2, 1) := by decide +kernel
theorem dX4_setMark_58 : decode cX4_setMark 58 = .ok (.iload_n 3, 1) := by decide +kernel
theorem dX4_setMark_59 : decode cX4_setMark 59 = .ok (.invokestatic 49, 3) := by decide +kernel
theorem dX4_setMark_62 : decode cX4_setMark 62 = .ok (.iload 4, 2) := by decide +kernel
theorem dX4_setMark_64 : decode cX4_setMark 64 = .ok (.i2b, 1) := by decide +kernel
theorem dX4_setMark_65 : decode cX4_setMark 65 = .ok (.bastore, 1) := by decide +kernel
theorem dX4_setMark_66 : decode cX4_setMark 66 = .ok (.aload_n 0, 1) := by decide +kernel
theorem dX4_setMark_67 : decode cX4_setMark 67 = .ok (.iload 5, 2) := by decide +kernel
theorem dX4_setMark_69 : decode cX4_setMark 69 = .ok (.iload 6, 2) := by decide +kernel
theorem dX4_setMark_71 : decode cX4_setMark 71 = .ok (.invokevirtual 46, 3) := by decide +kernel
theorem dX4_setMark_74 : decode cX4_setMark 74 = .ok (.iconst (-1), 1) := by decide +kernel
theorem dX4_setMark_75 : decode cX4_setMark 75 = .ok (.if_icmp .ne 7, 3) := by decide +kernel
theorem dX4_setMark_78 : decode cX4_setMark 78 = .ok (.iconst 0, 1) := by decide +kernel
theorem dX4_setMark_79 : decode cX4_setMark 79 = .ok (.goto 4, 3) := by decide +kernel
theorem dX4_setMark_82 : decode cX4_setMark 82 = .ok (.iconst 1, 1) := by decide +kernel
theorem dX4_setMark_83 : decode cX4_setMark 83 = .ok (.istore 8, 2) := by decide +kernel
theorem dX4_setMark_85 : decode cX4_setMark 85 = .ok (.iload 5, 2) := by decide +kernel
theorem dX4_setMark_87 : decode cX4_setMark 87 = .ok (.iload 6, 2) := by decide +kernel
theorem dX4_setMark_89 : decode cX4_setMark 89 = .ok (.invokestatic 53, 3) := by decide +kernel
theorem dX4_setMark_92 : decode cX4_setMark 92 = .ok (.istore 9, 2) := by decide +kernel
theorem dX4_setMark_94 : decode cX4_setMark 94 = .ok (.iload 9, 2) := by decide +kernel
theorem dX4_setMark_96 : decode cX4_setMark 96 = .ok (.invokestatic 56, 3) := by decide +kernel
theorem dX4_setMark_99 : decode cX4_setMark 99 = .ok (.ifCond .eq 18, 3) := by decide +kernel
theorem dX4_setMark_102 : decode cX4_setMark 102 = .ok (.aload_n 0, 1) := by decide +kernel
theorem dX4_setMark_103 : decode cX4_setMark 103 = .ok (.getfield 15, 3) := by decide +kernel
theorem dX4_setMark_106 : decode cX4_setMark 106 = .ok (.iload 9, 2) := by decide +kernel
theorem dX4_setMark_108 : decode cX4_setMark 108 = .ok (.dup2, 1) := by decide +kernel
theorem dX4_setMark_109 : decode cX4_setMark 109 = .ok (.iaload, 1) := by decide +kernel
theorem dX4_setMark_110 : decode cX4_setMark 110 = .ok (.iload 8, 2) := by decide +kernel
theorem dX4_setMark_112 : decode cX4_setMark 112 = .ok (.iload 7, 2) := by decide +kernel
theorem dX4_setMark_114 : decode cX4_setMark 114 = .ok (.isub, 1) := by decide +kernel
theorem dX4_setMark_115 : decode cX4_setMark 115 = .ok (.iadd, 1) := by decide +kernel
theorem dX4_setMark_116 : decode cX4_setMark 116 = .ok (.iastore, 1) := by decide +kernel
theorem dX4_setMark_117 : decode cX4_setMark 117 = .ok (.iconst 1, 1) := by decide +kernel
theorem dX4_setMark_118 : decode cX4_setMark 118 = .ok (.ireturn, 1) := by decide +kernel
set_option maxRecDepth 20000 in
theorem ggX4_drawLine_X4_isMark : GoodIn wsX4_drawLine wsX4_isMark := goodIn_r _ [11] (by decide +kernel) (by decide +kernel)
set_option maxRecDepth 20000 in
theorem gX4_drawLine_X4_isMark : GoodIn wsX4_drawLine (va_wsS RX4 32 yX4_isMark wsX4_isMark) := goodIn_app (goodIn_of _ (by decide +kernel)) ggX4_drawLine_X4_isMark
set_option maxRecDepth 20000 in
theorem ggX4_drawLine_X4_isColour : GoodIn wsX4_drawLine wsX4_isColour := goodIn_r _ [14] (by decide +kernel) (by decide +kernel)
set_option maxRecDepth 20000 in
theorem gX4_drawLine_X4_isColour : GoodIn wsX4_drawLine (va_wsS RX4 36 yX4_isColour wsX4_isColour) := goodIn_app (goodIn_of _ (by decide +kernel)) ggX4_drawLine_X4_isColour
set_option maxRecDepth 20000 in
theorem ggX4_drawLine_X4_partOfWay : GoodIn wsX4_drawLine wsX4_partOfWay := goodIn_r _ [17, 18, 19, 20, 21] (by decide +kernel) (by decide +kernel)
set_option maxRecDepth 20000 in
theorem gX4_drawLine_X4_partOfWay : GoodIn wsX4_drawLine (va_wsS RX4 65 yX4_partOfWay wsX4_partOfWay) := goodIn_app (goodIn_of _ (by decide +kernel)) ggX4_drawLine_X4_partOfWay
set_option maxRecDepth 20000 in
theorem ggX4_drawLine_X4_setMark : GoodIn wsX4_drawLine wsX4_setMark := goodIn_r _ [25, 26, 27, 8, 9, 10, 11, 12, 13, 14, 28, 29, 30, 31, 32, 33, 34, 35, 20, 36, 37, 38, 39, 40, 41, 42, 43, 44, 45, 46, 47, 48, 49, 50, 51, 52, 53, 54, 55, 56, 3, 57, 58, 59, 60, 61, 62, 63, 64, 65, 66, 67, 68] (by decide +kernel) (by decide +kernel)
set_option maxRecDepth 20000 in
theorem gX4_drawLine_X4_setMark : GoodIn wsX4_drawLine (wsV RX4 68 RX4 yX4_setMark wsX4_setMark) := goodIn_app (goodIn_of _ (by decide +kernel)) ggX4_drawLine_X4_setMark
theorem dX4_drawLine_0 : decode cX4_drawLine 0 = .ok (.iload_n 1, 1) := by decide +kernel
theorem dX4_drawLine_1 : decode cX4_drawLine 1 = .ok (.iload_n 2, 1) := by decide +kernel
theorem dX4_drawLine_2 : decode cX4_drawLine 2 = .ok (.iload_n 3, 1) := by decide +kernel
theorem dX4_drawLine_3 : decode cX4_drawLine 3 = .ok (.invokestatic 32, 3) := by decide +kernel
theorem dX4_drawLine_6 : decode cX4_drawLine 6 = .ok (.ifCond .eq 22, 3) := by decide +kernel
theorem dX4_drawLine_9 : decode cX4_drawLine 9 = .ok (.iload_n 1, 1) := by decide +kernel
theorem dX4_drawLine_10 : decode cX4_drawLine 10 = .ok (.iload 4, 2) := by decide +kernel
theorem dX4_drawLine_12 : decode cX4_drawLine 12 = .ok (.iload 5, 2) := by decide +kernel
theorem dX4_drawLine_14 : decode cX4_drawLine 14 = .ok (.invokestatic 32, 3) := by decide +kernel
theorem dX4_drawLine_17 : decode cX4_drawLine 17 = .ok (.ifCond .eq 11, 3) := by decide +kernel
theorem dX4_drawLine_20 : decode cX4_drawLine 20 = .ok (.iload 6, 2) := by decide +kernel
theorem dX4_drawLine_22 : decode cX4_drawLine 22 = .ok (.invokestatic 36, 3) := by decide +kernel
theorem dX4_drawLine_25 : decode cX4_drawLine 25 = .ok (.ifCond .ne 5, 3) := by decide +kernel
theorem dX4_drawLine_28 : decode cX4_drawLine 28 = .ok (.iconst (-1), 1) := by decide +kernel
theorem dX4_drawLine_29 : decode cX4_drawLine 29 = .ok (.ireturn, 1) := by decide +kernel
theorem dX4_drawLine_30 : decode cX4_drawLine 30 = .ok (.iload 4, 2) := by decide +kernel
theorem dX4_drawLine_32 : decode cX4_drawLine 32 = .ok (.iload_n 2, 1) := by decide +kernel
theorem dX4_drawLine_33 : decode cX4_drawLine 33 = .ok (.isub, 1) := by decide +kernel
theorem dX4_drawLine_34 : decode cX4_drawLine 34 = .ok (.invokestatic 59, 3) := by decide +kernel
theorem dX4_drawLine_37 : decode cX4_drawLine 37 = .ok (.iload 5, 2) := by decide +kernel
theorem dX4_drawLine_39 : decode cX4_drawLine 39 = .ok (.iload_n 3, 1) := by decide +kernel
theorem dX4_drawLine_40 : decode cX4_drawLine 40 = .ok (.isub, 1) := by decide +kernel
theorem dX4_drawLine_41 : decode cX4_drawLine 41 = .ok (.invokestatic 59, 3) := by decide +kernel
theorem dX4_drawLine_44 : decode cX4_drawLine 44 = .ok (.invokestatic 62, 3) := by decide +kernel
theorem dX4_drawLine_47 : decode cX4_drawLine 47 = .ok (.istore 7, 2) := by decide +kernel
theorem dX4_drawLine_49 : decode cX4_drawLine 49 = .ok (.iconst 0, 1) := by decide +kernel
theorem dX4_drawLine_50 : decode cX4_drawLine 50 = .ok (.istore 8, 2) := by decide +kernel
theorem dX4_drawLine_52 : decode cX4_drawLine 52 = .ok (.iload 8, 2) := by decide +kernel
theorem dX4_drawLine_54 : decode cX4_drawLine 54 = .ok (.iload 7, 2) := by decide +kernel
theorem dX4_drawLine_56 : decode cX4_drawLine 56 = .ok (.if_icmp .gt 43, 3) := by decide +kernel
theorem dX4_drawLine_59 : decode cX4_drawLine 59 = .ok (.aload_n 0, 1) := by decide +kernel
theorem dX4_drawLine_60 : decode cX4_drawLine 60 = .ok (.iload_n 1, 1) := by decide +kernel
theorem dX4_drawLine_61 : decode cX4_drawLine 61 = .ok (.iload_n 2, 1) := by decide +kernel
theorem dX4_drawLine_62 : decode cX4_drawLine 62 = .ok (.iload 8, 2) := by decide +kernel
theorem dX4_drawLine_64 : decode cX4_drawLine 64 = .ok (.iload 4, 2) := by decide +kernel
theorem dX4_drawLine_66 : decode cX4_drawLine 66 = .ok (.iload_n 2, 1) := by decide +kernel
theorem dX4_drawLine_67 : decode cX4_drawLine 67 = .ok (.isub, 1) := by decide +kernel
theorem dX4_drawLine_68 : decode cX4_drawLine 68 = .ok (.iload 7, 2) := by decide +kernel
theorem dX4_drawLine_70 : decode cX4_drawLine 70 = .ok (.invokestatic 65, 3) := by decide +kernel
theorem dX4_drawLine_73 : decode cX4_drawLine 73 = .ok (.iadd, 1) := by decide +kernel
theorem dX4_drawLine_74 : decode cX4_drawLine 74 = .ok (.iload_n 3, 1) := by decide +kernel
theorem dX4_drawLine_75 : decode cX4_drawLine 75 = .ok (.iload 8, 2) := by decide +kernel
theorem dX4_drawLine_77 : decode cX4_drawLine 77 = .ok (.iload 5, 2) := by decide +kernel
theorem dX4_drawLine_79 : decode cX4_drawLine 79 = .ok (.iload_n 3, 1) := by decide +kernel
theorem dX4_drawLine_80 : decode cX4_drawLine 80 = .ok (.isub, 1) := by decide +kernel
theorem dX4_drawLine_81 : decode cX4_drawLine 81 = .ok (.iload 7, 2) := by decide +kernel
theorem dX4_drawLine_83 : decode cX4_drawLine 83 = .ok (.invokestatic 65, 3) := by decide +kernel
theorem dX4_drawLine_86 : decode cX4_drawLine 86 = .ok (.iadd, 1) := by decide +kernel
theorem dX4_drawLine_87 : decode cX4_drawLine 87 = .ok (.iload 6, 2) := by decide +kernel
theorem dX4_drawLine_89 : decode cX4_drawLine 89 = .ok (.invokevirtual 68, 3) := by decide +kernel
theorem dX4_drawLine_92 : decode cX4_drawLine 92 = .ok (.pop, 1) := by decide +kernel
theorem dX4_drawLine_93 : decode cX4_drawLine 93 = .ok (.iinc 8 1, 3) := by decide +kernel
theorem dX4_drawLine_96 : decode cX4_drawLine 96 = .ok (.goto (-44), 3) := by decide +kernel
theorem dX4_drawLine_99 : decode cX4_drawLine 99 = .ok (.iload 7, 2) := by decide +kernel
theorem dX4_drawLine_101 : decode cX4_drawLine 101 = .ok (.iconst 1, 1) := by decide +kernel
theorem dX4_drawLine_102 : decode cX4_drawLine 102 = .ok (.iadd, 1) := by decide +kernel
theorem dX4_drawLine_103 : decode cX4_drawLine 103 = .ok (.ireturn, 1) := by decide +kernel
set_option maxRecDepth 20000 in
theorem ggX4_partOfWay_J9_floorDiv_7cf53 : GoodIn wsX4_partOfWay wsJ9_floorDiv_7cf53 := goodIn_r _ [4] (by decide +kernel) (by decide +kernel)
set_option maxRecDepth 20000 in
theorem gX4_partOfWay_J9_floorDiv_7cf53 : GoodIn wsX4_partOfWay (va_wsS RX4 72 yJ9_floorDiv_7cf53 wsJ9_floorDiv_7cf53) := goodIn_app (goodIn_of _ (by decide +kernel)) ggX4_partOfWay_J9_floorDiv_7cf53
theorem dX4_partOfWay_0 : decode cX4_partOfWay 0 = .ok (.iload_n 2, 1) := by decide +kernel
theorem dX4_partOfWay_1 : decode cX4_partOfWay 1 = .ok (.iconst 1, 1) := by decide +kernel
theorem dX4_partOfWay_2 : decode cX4_partOfWay 2 = .ok (.if_icmp .ge 7, 3) := by decide +kernel
theorem dX4_partOfWay_5 : decode cX4_partOfWay 5 = .ok (.iconst 0, 1) := by decide +kernel
theorem dX4_partOfWay_6 : decode cX4_partOfWay 6 = .ok (.goto 10, 3) := by decide +kernel
theorem dX4_partOfWay_9 : decode cX4_partOfWay 9 = .ok (.iload_n 0, 1) := by decide +kernel
theorem dX4_partOfWay_10 : decode cX4_partOfWay 10 = .ok (.iload_n 1, 1) := by decide +kernel
theorem dX4_partOfWay_11 : decode cX4_partOfWay 11 = .ok (.imul, 1) := by decide +kernel
theorem dX4_partOfWay_12 : decode cX4_partOfWay 12 = .ok (.iload_n 2, 1) := by decide +kernel
theorem dX4_partOfWay_13 : decode cX4_partOfWay 13 = .ok (.invokestatic 72, 3) := by decide +kernel
theorem dX4_partOfWay_16 : decode cX4_partOfWay 16 = .ok (.ireturn, 1) := by decide +kernel
set_option maxRecDepth 20000 in
theorem ggX4_colourAt_X4_viewAt : GoodIn wsX4_colourAt wsX4_viewAt := goodIn_r _ [5, 6, 7, 8, 4, 9, 10, 11, 12, 13, 14, 15, 16, 17, 18, 19, 20, 21, 22, 23, 24, 25, 26, 27, 28, 29, 30, 31, 32, 33, 34, 35, 36] (by decide +kernel) (by decide +kernel)
set_option maxRecDepth 20000 in
theorem gX4_colourAt_X4_viewAt : GoodIn wsX4_colourAt (wsV RX4 46 RX4 yX4_viewAt wsX4_viewAt) := goodIn_app (goodIn_of _ (by decide +kernel)) ggX4_colourAt_X4_viewAt
set_option maxRecDepth 20000 in
theorem ggX4_colourAt_X4_colourShown : GoodIn wsX4_colourAt wsX4_colourShown := goodIn_r _ [9, 10, 11, 12, 13, 14, 15, 4, 16, 17, 18, 19, 20, 21, 22, 23, 24, 25, 26, 27, 28, 29, 30, 31, 32, 33, 34, 35, 36] (by decide +kernel) (by decide +kernel)
set_option maxRecDepth 20000 in
theorem gX4_colourAt_X4_colourShown : GoodIn wsX4_colourAt (wsV RX4 75 RX4 yX4_colourShown wsX4_colourShown) := goodIn_app (goodIn_of _ (by decide +kernel)) ggX4_colourAt_X4_colourShown
theorem dX4_colourAt_0 : decode cX4_colourAt 0 = .ok (.aload_n 0, 1) := by decide +kernel
theorem dX4_colourAt_1 : decode cX4_colourAt 1 = .ok (.iload_n 1, 1) := by decide +kernel
theorem dX4_colourAt_2 : decode cX4_colourAt 2 = .ok (.iload_n 2, 1) := by decide +kernel
theorem dX4_colourAt_3 : decode cX4_colourAt 3 = .ok (.invokevirtual 46, 3) := by decide +kernel
theorem dX4_colourAt_6 : decode cX4_colourAt 6 = .ok (.istore_n 3, 1) := by decide +kernel
theorem dX4_colourAt_7 : decode cX4_colourAt 7 = .ok (.iload_n 3, 1) := by decide +kernel
theorem dX4_colourAt_8 : decode cX4_colourAt 8 = .ok (.iconst (-1), 1) := by decide +kernel
theorem dX4_colourAt_9 : decode cX4_colourAt 9 = .ok (.if_icmp .ne 7, 3) := by decide +kernel
theorem dX4_colourAt_12 : decode cX4_colourAt 12 = .ok (.iconst 0, 1) := by decide +kernel
theorem dX4_colourAt_13 : decode cX4_colourAt 13 = .ok (.goto 10, 3) := by decide +kernel
theorem dX4_colourAt_16 : decode cX4_colourAt 16 = .ok (.aload_n 0, 1) := by decide +kernel
theorem dX4_colourAt_17 : decode cX4_colourAt 17 = .ok (.iload_n 3, 1) := by decide +kernel
theorem dX4_colourAt_18 : decode cX4_colourAt 18 = .ok (.iload_n 1, 1) := by decide +kernel
theorem dX4_colourAt_19 : decode cX4_colourAt 19 = .ok (.iload_n 2, 1) := by decide +kernel
theorem dX4_colourAt_20 : decode cX4_colourAt 20 = .ok (.invokevirtual 75, 3) := by decide +kernel
theorem dX4_colourAt_23 : decode cX4_colourAt 23 = .ok (.ireturn, 1) := by decide +kernel
set_option maxRecDepth 20000 in
theorem ggX4_viewAt_X4_colourShown : GoodIn wsX4_viewAt wsX4_colourShown := goodIn_r _ [5, 6, 7, 8, 9, 10, 11, 4, 12, 13, 14, 15, 16, 17, 18, 19, 20, 21, 22, 23, 24, 25, 26, 27, 28, 29, 30, 31, 32] (by decide +kernel) (by decide +kernel)
set_option maxRecDepth 20000 in
theorem gX4_viewAt_X4_colourShown : GoodIn wsX4_viewAt (wsV RX4 75 RX4 yX4_colourShown wsX4_colourShown) := goodIn_app (goodIn_of _ (by decide +kernel)) ggX4_viewAt_X4_colourShown
theorem dX4_viewAt_0 : decode cX4_viewAt 0 = .ok (.iload_n 1, 1) := by decide +kernel
theorem dX4_viewAt_1 : decode cX4_viewAt 1 = .ok (.bipush 30, 2) := by decide +kernel
theorem dX4_viewAt_3 : decode cX4_viewAt 3 = .ok (.idiv, 1) := by decide +kernel
theorem dX4_viewAt_4 : decode cX4_viewAt 4 = .ok (.istore_n 3, 1) := by decide +kernel
theorem dX4_viewAt_5 : decode cX4_viewAt 5 = .ok (.iload_n 3, 1) := by decide +kernel
theorem dX4_viewAt_6 : decode cX4_viewAt 6 = .ok (.iconst 1, 1) := by decide +kernel
theorem dX4_viewAt_7 : decode cX4_viewAt 7 = .ok (.iadd, 1) := by decide +kernel
theorem dX4_viewAt_8 : decode cX4_viewAt 8 = .ok (.bipush 12, 2) := by decide +kernel
theorem dX4_viewAt_10 : decode cX4_viewAt 10 = .ok (.irem, 1) := by decide +kernel
theorem dX4_viewAt_11 : decode cX4_viewAt 11 = .ok (.istore 4, 2) := by decide +kernel
theorem dX4_viewAt_13 : decode cX4_viewAt 13 = .ok (.iload_n 1, 1) := by decide +kernel
theorem dX4_viewAt_14 : decode cX4_viewAt 14 = .ok (.bipush 30, 2) := by decide +kernel
theorem dX4_viewAt_16 : decode cX4_viewAt 16 = .ok (.irem, 1) := by decide +kernel
theorem dX4_viewAt_17 : decode cX4_viewAt 17 = .ok (.istore 5, 2) := by decide +kernel
theorem dX4_viewAt_19 : decode cX4_viewAt 19 = .ok (.bipush 30, 2) := by decide +kernel
theorem dX4_viewAt_21 : decode cX4_viewAt 21 = .ok (.iload 5, 2) := by decide +kernel
theorem dX4_viewAt_23 : decode cX4_viewAt 23 = .ok (.isub, 1) := by decide +kernel
theorem dX4_viewAt_24 : decode cX4_viewAt 24 = .ok (.istore 6, 2) := by decide +kernel
theorem dX4_viewAt_26 : decode cX4_viewAt 26 = .ok (.iload 5, 2) := by decide +kernel
theorem dX4_viewAt_28 : decode cX4_viewAt 28 = .ok (.iload 6, 2) := by decide +kernel
theorem dX4_viewAt_30 : decode cX4_viewAt 30 = .ok (.if_icmp .lt 16, 3) := by decide +kernel
theorem dX4_viewAt_33 : decode cX4_viewAt 33 = .ok (.iload 5, 2) := by decide +kernel
theorem dX4_viewAt_35 : decode cX4_viewAt 35 = .ok (.iload 6, 2) := by decide +kernel
theorem dX4_viewAt_37 : decode cX4_viewAt 37 = .ok (.if_icmp .ne 13, 3) := by decide +kernel
theorem dX4_viewAt_40 : decode cX4_viewAt 40 = .ok (.iload_n 3, 1) := by decide +kernel
theorem dX4_viewAt_41 : decode cX4_viewAt 41 = .ok (.iload 4, 2) := by decide +kernel
theorem dX4_viewAt_43 : decode cX4_viewAt 43 = .ok (.if_icmp .ge 7, 3) := by decide +kernel
theorem dX4_viewAt_46 : decode cX4_viewAt 46 = .ok (.iconst 1, 1) := by decide +kernel
theorem dX4_viewAt_47 : decode cX4_viewAt 47 = .ok (.goto 4, 3) := by decide +kernel
theorem dX4_viewAt_50 : decode cX4_viewAt 50 = .ok (.iconst 0, 1) := by decide +kernel
theorem dX4_viewAt_51 : decode cX4_viewAt 51 = .ok (.istore 7, 2) := by decide +kernel
theorem dX4_viewAt_53 : decode cX4_viewAt 53 = .ok (.iload 7, 2) := by decide +kernel
theorem dX4_viewAt_55 : decode cX4_viewAt 55 = .ok (.ifCond .eq 7, 3) := by decide +kernel
theorem dX4_viewAt_58 : decode cX4_viewAt 58 = .ok (.iload_n 3, 1) := by decide +kernel
theorem dX4_viewAt_59 : decode cX4_viewAt 59 = .ok (.goto 5, 3) := by decide +kernel
theorem dX4_viewAt_62 : decode cX4_viewAt 62 = .ok (.iload 4, 2) := by decide +kernel
theorem dX4_viewAt_64 : decode cX4_viewAt 64 = .ok (.istore 8, 2) := by decide +kernel
theorem dX4_viewAt_66 : decode cX4_viewAt 66 = .ok (.iload 7, 2) := by decide +kernel
theorem dX4_viewAt_68 : decode cX4_viewAt 68 = .ok (.ifCond .eq 8, 3) := by decide +kernel
theorem dX4_viewAt_71 : decode cX4_viewAt 71 = .ok (.iload 4, 2) := by decide +kernel
theorem dX4_viewAt_73 : decode cX4_viewAt 73 = .ok (.goto 4, 3) := by decide +kernel
theorem dX4_viewAt_76 : decode cX4_viewAt 76 = .ok (.iload_n 3, 1) := by decide +kernel
theorem dX4_viewAt_77 : decode cX4_viewAt 77 = .ok (.istore 9, 2) := by decide +kernel
theorem dX4_viewAt_79 : decode cX4_viewAt 79 = .ok (.aload_n 0, 1) := by decide +kernel
theorem dX4_viewAt_80 : decode cX4_viewAt 80 = .ok (.iload 8, 2) := by decide +kernel
theorem dX4_viewAt_82 : decode cX4_viewAt 82 = .ok (.iload_n 1, 1) := by decide +kernel
theorem dX4_viewAt_83 : decode cX4_viewAt 83 = .ok (.iload_n 2, 1) := by decide +kernel
theorem dX4_viewAt_84 : decode cX4_viewAt 84 = .ok (.invokevirtual 75, 3) := by decide +kernel
theorem dX4_viewAt_87 : decode cX4_viewAt 87 = .ok (.ifCond .eq 6, 3) := by decide +kernel
theorem dX4_viewAt_90 : decode cX4_viewAt 90 = .ok (.iload 8, 2) := by decide +kernel
theorem dX4_viewAt_92 : decode cX4_viewAt 92 = .ok (.ireturn, 1) := by decide +kernel
theorem dX4_viewAt_93 : decode cX4_viewAt 93 = .ok (.aload_n 0, 1) := by decide +kernel
theorem dX4_viewAt_94 : decode cX4_viewAt 94 = .ok (.iload 9, 2) := by decide +kernel
theorem dX4_viewAt_96 : decode cX4_viewAt 96 = .ok (.iload_n 1, 1) := by decide +kernel
theorem dX4_viewAt_97 : decode cX4_viewAt 97 = .ok (.iload_n 2, 1) := by decide +kernel
theorem dX4_viewAt_98 : decode cX4_viewAt 98 = .ok (.invokevirtual 75, 3) := by decide +kernel
theorem dX4_viewAt_101 : decode cX4_viewAt 101 = .ok (.ifCond .eq 8, 3) := by decide +kernel
theorem dX4_viewAt_104 : decode cX4_viewAt 104 = .ok (.iload 9, 2) := by decide +kernel
theorem dX4_viewAt_106 : decode cX4_viewAt 106 = .ok (.goto 4, 3) := by decide +kernel
theorem dX4_viewAt_109 : decode cX4_viewAt 109 = .ok (.iconst (-1), 1) := by decide +kernel
theorem dX4_viewAt_110 : decode cX4_viewAt 110 = .ok (.ireturn, 1) := by decide +kernel
set_option maxRecDepth 20000 in
theorem ggX4_quarrelsBehind_X4_colourShown : GoodIn wsX4_quarrelsBehind wsX4_colourShown := goodIn_r _ [5, 6, 7, 8, 9, 10, 11, 4, 12, 13, 14, 15, 16, 17, 18, 19, 20, 21, 22, 23, 24, 25, 26, 27, 28, 29, 30, 31, 32] (by decide +kernel) (by decide +kernel)
set_option maxRecDepth 20000 in
theorem gX4_quarrelsBehind_X4_colourShown : GoodIn wsX4_quarrelsBehind (wsV RX4 75 RX4 yX4_colourShown wsX4_colourShown) := goodIn_app (goodIn_of _ (by decide +kernel)) ggX4_quarrelsBehind_X4_colourShown
theorem dX4_quarrelsBehind_0 : decode cX4_quarrelsBehind 0 = .ok (.iload_n 1, 1) := by decide +kernel
theorem dX4_quarrelsBehind_1 : decode cX4_quarrelsBehind 1 = .ok (.ifCond .lt 9, 3) := by decide +kernel
theorem dX4_quarrelsBehind_4 : decode cX4_quarrelsBehind 4 = .ok (.iload_n 1, 1) := by decide +kernel
theorem dX4_quarrelsBehind_5 : decode cX4_quarrelsBehind 5 = .ok (.bipush 12, 2) := by decide +kernel
theorem dX4_quarrelsBehind_7 : decode cX4_quarrelsBehind 7 = .ok (.if_icmp .lt 5, 3) := by decide +kernel
theorem dX4_quarrelsBehind_10 : decode cX4_quarrelsBehind 10 = .ok (.iconst (-1), 1) := by decide +kernel
theorem dX4_quarrelsBehind_11 : decode cX4_quarrelsBehind 11 = .ok (.ireturn, 1) := by decide +kernel
theorem dX4_quarrelsBehind_12 : decode cX4_quarrelsBehind 12 = .ok (.iload_n 1, 1) := by decide +kernel
theorem dX4_quarrelsBehind_13 : decode cX4_quarrelsBehind 13 = .ok (.iconst 1, 1) := by decide +kernel
theorem dX4_quarrelsBehind_14 : decode cX4_quarrelsBehind 14 = .ok (.iadd, 1) := by decide +kernel
theorem dX4_quarrelsBehind_15 : decode cX4_quarrelsBehind 15 = .ok (.bipush 12, 2) := by decide +kernel
theorem dX4_quarrelsBehind_17 : decode cX4_quarrelsBehind 17 = .ok (.irem, 1) := by decide +kernel
theorem dX4_quarrelsBehind_18 : decode cX4_quarrelsBehind 18 = .ok (.istore_n 2, 1) := by decide +kernel
theorem dX4_quarrelsBehind_19 : decode cX4_quarrelsBehind 19 = .ok (.iconst 0, 1) := by decide +kernel
theorem dX4_quarrelsBehind_20 : decode cX4_quarrelsBehind 20 = .ok (.istore_n 3, 1) := by decide +kernel
theorem dX4_quarrelsBehind_21 : decode cX4_quarrelsBehind 21 = .ok (.bipush 11, 2) := by decide +kernel
theorem dX4_quarrelsBehind_23 : decode cX4_quarrelsBehind 23 = .ok (.istore 4, 2) := by decide +kernel
theorem dX4_quarrelsBehind_25 : decode cX4_quarrelsBehind 25 = .ok (.iload 4, 2) := by decide +kernel
theorem dX4_quarrelsBehind_27 : decode cX4_quarrelsBehind 27 = .ok (.bipush 18, 2) := by decide +kernel
theorem dX4_quarrelsBehind_29 : decode cX4_quarrelsBehind 29 = .ok (.if_icmp .gt 84, 3) := by decide +kernel
theorem dX4_quarrelsBehind_32 : decode cX4_quarrelsBehind 32 = .ok (.bipush 30, 2) := by decide +kernel
theorem dX4_quarrelsBehind_34 : decode cX4_quarrelsBehind 34 = .ok (.iload_n 1, 1) := by decide +kernel
theorem dX4_quarrelsBehind_35 : decode cX4_quarrelsBehind 35 = .ok (.imul, 1) := by decide +kernel
theorem dX4_quarrelsBehind_36 : decode cX4_quarrelsBehind 36 = .ok (.iload 4, 2) := by decide +kernel
theorem dX4_quarrelsBehind_38 : decode cX4_quarrelsBehind 38 = .ok (.iadd, 1) := by decide +kernel
theorem dX4_quarrelsBehind_39 : decode cX4_quarrelsBehind 39 = .ok (.sipush 360, 3) := by decide +kernel
theorem dX4_quarrelsBehind_42 : decode cX4_quarrelsBehind 42 = .ok (.irem, 1) := by decide +kernel
theorem dX4_quarrelsBehind_43 : decode cX4_quarrelsBehind 43 = .ok (.istore 5, 2) := by decide +kernel
theorem dX4_quarrelsBehind_45 : decode cX4_quarrelsBehind 45 = .ok (.iconst 0, 1) := by decide +kernel
theorem dX4_quarrelsBehind_46 : decode cX4_quarrelsBehind 46 = .ok (.istore 6, 2) := by decide +kernel
theorem dX4_quarrelsBehind_48 : decode cX4_quarrelsBehind 48 = .ok (.iload 6, 2) := by decide +kernel
theorem dX4_quarrelsBehind_50 : decode cX4_quarrelsBehind 50 = .ok (.bipush 20, 2) := by decide +kernel
theorem dX4_quarrelsBehind_52 : decode cX4_quarrelsBehind 52 = .ok (.if_icmp .ge 55, 3) := by decide +kernel
theorem dX4_quarrelsBehind_55 : decode cX4_quarrelsBehind 55 = .ok (.aload_n 0, 1) := by decide +kernel
theorem dX4_quarrelsBehind_56 : decode cX4_quarrelsBehind 56 = .ok (.iload_n 1, 1) := by decide +kernel
theorem dX4_quarrelsBehind_57 : decode cX4_quarrelsBehind 57 = .ok (.iload 5, 2) := by decide +kernel
theorem dX4_quarrelsBehind_59 : decode cX4_quarrelsBehind 59 = .ok (.iload 6, 2) := by decide +kernel
theorem dX4_quarrelsBehind_61 : decode cX4_quarrelsBehind 61 = .ok (.invokevirtual 75, 3) := by decide +kernel
theorem dX4_quarrelsBehind_64 : decode cX4_quarrelsBehind 64 = .ok (.istore 7, 2) := by decide +kernel
theorem dX4_quarrelsBehind_66 : decode cX4_quarrelsBehind 66 = .ok (.iload 7, 2) := by decide +kernel
theorem dX4_quarrelsBehind_68 : decode cX4_quarrelsBehind 68 = .ok (.ifCond .ne 7, 3) := by decide +kernel
theorem dX4_quarrelsBehind_71 : decode cX4_quarrelsBehind 71 = .ok (.iconst 0, 1) := by decide +kernel
theorem dX4_quarrelsBehind_72 : decode cX4_quarrelsBehind 72 = .ok (.goto 12, 3) := by decide +kernel
theorem dX4_quarrelsBehind_75 : decode cX4_quarrelsBehind 75 = .ok (.aload_n 0, 1) := by decide +kernel
theorem dX4_quarrelsBehind_76 : decode cX4_quarrelsBehind 76 = .ok (.iload_n 2, 1) := by decide +kernel
theorem dX4_quarrelsBehind_77 : decode cX4_quarrelsBehind 77 = .ok (.iload 5, 2) := by decide +kernel
theorem dX4_quarrelsBehind_79 : decode cX4_quarrelsBehind 79 = .ok (.iload 6, 2) := by decide +kernel
theorem dX4_quarrelsBehind_81 : decode cX4_quarrelsBehind 81 = .ok (.invokevirtual 75, 3) := by decide +kernel
theorem dX4_quarrelsBehind_84 : decode cX4_quarrelsBehind 84 = .ok (.istore 8, 2) := by decide +kernel
theorem dX4_quarrelsBehind_86 : decode cX4_quarrelsBehind 86 = .ok (.iload 8, 2) := by decide +kernel
theorem dX4_quarrelsBehind_88 : decode cX4_quarrelsBehind 88 = .ok (.ifCond .eq 13, 3) := by decide +kernel
theorem dX4_quarrelsBehind_91 : decode cX4_quarrelsBehind 91 = .ok (.iload 8, 2) := by decide +kernel
theorem dX4_quarrelsBehind_93 : decode cX4_quarrelsBehind 93 = .ok (.iload 7, 2) := by decide +kernel
theorem dX4_quarrelsBehind_95 : decode cX4_quarrelsBehind 95 = .ok (.if_icmp .eq 6, 3) := by decide +kernel
theorem dX4_quarrelsBehind_98 : decode cX4_quarrelsBehind 98 = .ok (.iinc 3 1, 3) := by decide +kernel
theorem dX4_quarrelsBehind_101 : decode cX4_quarrelsBehind 101 = .ok (.iinc 6 1, 3) := by decide +kernel
theorem dX4_quarrelsBehind_104 : decode cX4_quarrelsBehind 104 = .ok (.goto (-56), 3) := by decide +kernel
theorem dX4_quarrelsBehind_107 : decode cX4_quarrelsBehind 107 = .ok (.iinc 4 1, 3) := by decide +kernel
theorem dX4_quarrelsBehind_110 : decode cX4_quarrelsBehind 110 = .ok (.goto (-85), 3) := by decide +kernel
theorem dX4_quarrelsBehind_113 : decode cX4_quarrelsBehind 113 = .ok (.iload_n 3, 1) := by decide +kernel
theorem dX4_quarrelsBehind_114 : decode cX4_quarrelsBehind 114 = .ok (.ireturn, 1) := by decide +kernel
set_option maxRecDepth 20000 in
theorem ggX4_colourShown_J9_floorMod_7cf53 : GoodIn wsX4_colourShown wsJ9_floorMod_7cf53 := goodIn_r _ [4] (by decide +kernel) (by decide +kernel)
set_option maxRecDepth 20000 in
theorem gX4_colourShown_J9_floorMod_7cf53 : GoodIn wsX4_colourShown (va_wsS RX4 23 yJ9_floorMod_7cf53 wsJ9_floorMod_7cf53) := goodIn_app (goodIn_of _ (by decide +kernel)) ggX4_colourShown_J9_floorMod_7cf53
set_option maxRecDepth 20000 in
theorem ggX4_colourShown_X4_offsetOf : GoodIn wsX4_colourShown wsX4_offsetOf := goodIn_r _ [8] (by decide +kernel) (by decide +kernel)
set_option maxRecDepth 20000 in
theorem gX4_colourShown_X4_offsetOf : GoodIn wsX4_colourShown (va_wsS RX4 19 yX4_offsetOf wsX4_offsetOf) := goodIn_app (goodIn_of _ (by decide +kernel)) ggX4_colourShown_X4_offsetOf
set_option maxRecDepth 20000 in
theorem ggX4_colourShown_X4_colourInStrip : GoodIn wsX4_colourShown wsX4_colourInStrip := goodIn_r _ [12, 13, 14, 15, 16, 17, 18, 19, 7, 20, 21, 22, 23, 24, 25, 26, 27, 28] (by decide +kernel) (by decide +kernel)
set_option maxRecDepth 20000 in
theorem gX4_colourShown_X4_colourInStrip : GoodIn wsX4_colourShown (wsV RX4 78 RX4 yX4_colourInStrip wsX4_colourInStrip) := goodIn_app (goodIn_of _ (by decide +kernel)) ggX4_colourShown_X4_colourInStrip
theorem dX4_colourShown_0 : decode cX4_colourShown 0 = .ok (.iload_n 2, 1) := by decide +kernel
theorem dX4_colourShown_1 : decode cX4_colourShown 1 = .ok (.bipush 30, 2) := by decide +kernel
theorem dX4_colourShown_3 : decode cX4_colourShown 3 = .ok (.iload_n 1, 1) := by decide +kernel
theorem dX4_colourShown_4 : decode cX4_colourShown 4 = .ok (.imul, 1) := by decide +kernel
theorem dX4_colourShown_5 : decode cX4_colourShown 5 = .ok (.isub, 1) := by decide +kernel
theorem dX4_colourShown_6 : decode cX4_colourShown 6 = .ok (.sipush 180, 3) := by decide +kernel
theorem dX4_colourShown_9 : decode cX4_colourShown 9 = .ok (.iadd, 1) := by decide +kernel
theorem dX4_colourShown_10 : decode cX4_colourShown 10 = .ok (.istore 4, 2) := by decide +kernel
theorem dX4_colourShown_12 : decode cX4_colourShown 12 = .ok (.iload 4, 2) := by decide +kernel
theorem dX4_colourShown_14 : decode cX4_colourShown 14 = .ok (.sipush 360, 3) := by decide +kernel
theorem dX4_colourShown_17 : decode cX4_colourShown 17 = .ok (.invokestatic 23, 3) := by decide +kernel
theorem dX4_colourShown_20 : decode cX4_colourShown 20 = .ok (.sipush 180, 3) := by decide +kernel
theorem dX4_colourShown_23 : decode cX4_colourShown 23 = .ok (.isub, 1) := by decide +kernel
theorem dX4_colourShown_24 : decode cX4_colourShown 24 = .ok (.istore 5, 2) := by decide +kernel
theorem dX4_colourShown_26 : decode cX4_colourShown 26 = .ok (.iload 5, 2) := by decide +kernel
theorem dX4_colourShown_28 : decode cX4_colourShown 28 = .ok (.bipush (-19), 2) := by decide +kernel
theorem dX4_colourShown_30 : decode cX4_colourShown 30 = .ok (.if_icmp .lt 10, 3) := by decide +kernel
theorem dX4_colourShown_33 : decode cX4_colourShown 33 = .ok (.iload 5, 2) := by decide +kernel
theorem dX4_colourShown_35 : decode cX4_colourShown 35 = .ok (.bipush 18, 2) := by decide +kernel
theorem dX4_colourShown_37 : decode cX4_colourShown 37 = .ok (.if_icmp .le 5, 3) := by decide +kernel
theorem dX4_colourShown_40 : decode cX4_colourShown 40 = .ok (.iconst 0, 1) := by decide +kernel
theorem dX4_colourShown_41 : decode cX4_colourShown 41 = .ok (.ireturn, 1) := by decide +kernel
theorem dX4_colourShown_42 : decode cX4_colourShown 42 = .ok (.iload 5, 2) := by decide +kernel
theorem dX4_colourShown_44 : decode cX4_colourShown 44 = .ok (.bipush 20, 2) := by decide +kernel
theorem dX4_colourShown_46 : decode cX4_colourShown 46 = .ok (.iadd, 1) := by decide +kernel
theorem dX4_colourShown_47 : decode cX4_colourShown 47 = .ok (.istore 6, 2) := by decide +kernel
theorem dX4_colourShown_49 : decode cX4_colourShown 49 = .ok (.iload 6, 2) := by decide +kernel
theorem dX4_colourShown_51 : decode cX4_colourShown 51 = .ok (.iconst 1, 1) := by decide +kernel
theorem dX4_colourShown_52 : decode cX4_colourShown 52 = .ok (.iadd, 1) := by decide +kernel
theorem dX4_colourShown_53 : decode cX4_colourShown 53 = .ok (.istore 7, 2) := by decide +kernel
theorem dX4_colourShown_55 : decode cX4_colourShown 55 = .ok (.iload 7, 2) := by decide +kernel
theorem dX4_colourShown_57 : decode cX4_colourShown 57 = .ok (.iload 6, 2) := by decide +kernel
theorem dX4_colourShown_59 : decode cX4_colourShown 59 = .ok (.iconst 1, 1) := by decide +kernel
theorem dX4_colourShown_60 : decode cX4_colourShown 60 = .ok (.isub, 1) := by decide +kernel
theorem dX4_colourShown_61 : decode cX4_colourShown 61 = .ok (.if_icmp .lt 41, 3) := by decide +kernel
theorem dX4_colourShown_64 : decode cX4_colourShown 64 = .ok (.iload 7, 2) := by decide +kernel
theorem dX4_colourShown_66 : decode cX4_colourShown 66 = .ok (.invokestatic 19, 3) := by decide +kernel
theorem dX4_colourShown_69 : decode cX4_colourShown 69 = .ok (.iload 5, 2) := by decide +kernel
theorem dX4_colourShown_71 : decode cX4_colourShown 71 = .ok (.if_icmp .ne 14, 3) := by decide +kernel
theorem dX4_colourShown_74 : decode cX4_colourShown 74 = .ok (.aload_n 0, 1) := by decide +kernel
theorem dX4_colourShown_75 : decode cX4_colourShown 75 = .ok (.iload_n 1, 1) := by decide +kernel
theorem dX4_colourShown_76 : decode cX4_colourShown 76 = .ok (.iload 7, 2) := by decide +kernel
theorem dX4_colourShown_78 : decode cX4_colourShown 78 = .ok (.iload_n 3, 1) := by decide +kernel
theorem dX4_colourShown_79 : decode cX4_colourShown 79 = .ok (.invokevirtual 78, 3) := by decide +kernel
theorem dX4_colourShown_82 : decode cX4_colourShown 82 = .ok (.goto 4, 3) := by decide +kernel
theorem dX4_colourShown_85 : decode cX4_colourShown 85 = .ok (.iconst 0, 1) := by decide +kernel
theorem dX4_colourShown_86 : decode cX4_colourShown 86 = .ok (.istore 8, 2) := by decide +kernel
theorem dX4_colourShown_88 : decode cX4_colourShown 88 = .ok (.iload 8, 2) := by decide +kernel
theorem dX4_colourShown_90 : decode cX4_colourShown 90 = .ok (.ifCond .eq 6, 3) := by decide +kernel
theorem dX4_colourShown_93 : decode cX4_colourShown 93 = .ok (.iload 8, 2) := by decide +kernel
theorem dX4_colourShown_95 : decode cX4_colourShown 95 = .ok (.ireturn, 1) := by decide +kernel
theorem dX4_colourShown_96 : decode cX4_colourShown 96 = .ok (.iinc 7 (-1), 3) := by decide +kernel
theorem dX4_colourShown_99 : decode cX4_colourShown 99 = .ok (.goto (-44), 3) := by decide +kernel
theorem dX4_colourShown_102 : decode cX4_colourShown 102 = .ok (.iconst 0, 1) := by decide +kernel
theorem dX4_colourShown_103 : decode cX4_colourShown 103 = .ok (.ireturn, 1) := by decide +kernel
set_option maxRecDepth 20000 in
theorem ggX4_colourInStrip_X4_stretchOf : GoodIn wsX4_colourInStrip wsX4_stretchOf := goodIn_r _ [9] (by decide +kernel) (by decide +kernel)
set_option maxRecDepth 20000 in
theorem gX4_colourInStrip_X4_stretchOf : GoodIn wsX4_colourInStrip (va_wsS RX4 29 yX4_stretchOf wsX4_stretchOf) := goodIn_app (goodIn_of _ (by decide +kernel)) ggX4_colourInStrip_X4_stretchOf
set_option maxRecDepth 20000 in
theorem ggX4_colourInStrip_X4_isMark : GoodIn wsX4_colourInStrip wsX4_isMark := goodIn_r _ [12] (by decide +kernel) (by decide +kernel)
set_option maxRecDepth 20000 in
theorem gX4_colourInStrip_X4_isMark : GoodIn wsX4_colourInStrip (va_wsS RX4 32 yX4_isMark wsX4_isMark) := goodIn_app (goodIn_of _ (by decide +kernel)) ggX4_colourInStrip_X4_isMark
set_option maxRecDepth 20000 in
theorem ggX4_colourInStrip_X4_placeInMarks : GoodIn wsX4_colourInStrip wsX4_placeInMarks := goodIn_r _ [15] (by decide +kernel) (by decide +kernel)
set_option maxRecDepth 20000 in
theorem gX4_colourInStrip_X4_placeInMarks : GoodIn wsX4_colourInStrip (va_wsS RX4 49 yX4_placeInMarks wsX4_placeInMarks) := goodIn_app (goodIn_of _ (by decide +kernel)) ggX4_colourInStrip_X4_placeInMarks
theorem dX4_colourInStrip_0 : decode cX4_colourInStrip 0 = .ok (.iload_n 2, 1) := by decide +kernel
theorem dX4_colourInStrip_1 : decode cX4_colourInStrip 1 = .ok (.invokestatic 29, 3) := by decide +kernel
theorem dX4_colourInStrip_4 : decode cX4_colourInStrip 4 = .ok (.istore 4, 2) := by decide +kernel
theorem dX4_colourInStrip_6 : decode cX4_colourInStrip 6 = .ok (.iload_n 3, 1) := by decide +kernel
theorem dX4_colourInStrip_7 : decode cX4_colourInStrip 7 = .ok (.iconst 1, 1) := by decide +kernel
theorem dX4_colourInStrip_8 : decode cX4_colourInStrip 8 = .ok (.iadd, 1) := by decide +kernel
theorem dX4_colourInStrip_9 : decode cX4_colourInStrip 9 = .ok (.iload 4, 2) := by decide +kernel
theorem dX4_colourInStrip_11 : decode cX4_colourInStrip 11 = .ok (.imul, 1) := by decide +kernel
theorem dX4_colourInStrip_12 : decode cX4_colourInStrip 12 = .ok (.iconst 1, 1) := by decide +kernel
theorem dX4_colourInStrip_13 : decode cX4_colourInStrip 13 = .ok (.isub, 1) := by decide +kernel
theorem dX4_colourInStrip_14 : decode cX4_colourInStrip 14 = .ok (.sipush 1000, 3) := by decide +kernel
theorem dX4_colourInStrip_17 : decode cX4_colourInStrip 17 = .ok (.idiv, 1) := by decide +kernel
theorem dX4_colourInStrip_18 : decode cX4_colourInStrip 18 = .ok (.bipush 19, 2) := by decide +kernel
theorem dX4_colourInStrip_20 : decode cX4_colourInStrip 20 = .ok (.invokestatic 81, 3) := by decide +kernel
theorem dX4_colourInStrip_23 : decode cX4_colourInStrip 23 = .ok (.istore 5, 2) := by decide +kernel
theorem dX4_colourInStrip_25 : decode cX4_colourInStrip 25 = .ok (.iload 5, 2) := by decide +kernel
theorem dX4_colourInStrip_27 : decode cX4_colourInStrip 27 = .ok (.istore 6, 2) := by decide +kernel
theorem dX4_colourInStrip_29 : decode cX4_colourInStrip 29 = .ok (.iload 6, 2) := by decide +kernel
theorem dX4_colourInStrip_31 : decode cX4_colourInStrip 31 = .ok (.ifCond .lt 60, 3) := by decide +kernel
theorem dX4_colourInStrip_34 : decode cX4_colourInStrip 34 = .ok (.iload 6, 2) := by decide +kernel
theorem dX4_colourInStrip_36 : decode cX4_colourInStrip 36 = .ok (.sipush 1000, 3) := by decide +kernel
theorem dX4_colourInStrip_39 : decode cX4_colourInStrip 39 = .ok (.imul, 1) := by decide +kernel
theorem dX4_colourInStrip_40 : decode cX4_colourInStrip 40 = .ok (.iload_n 3, 1) := by decide +kernel
theorem dX4_colourInStrip_41 : decode cX4_colourInStrip 41 = .ok (.iload 4, 2) := by decide +kernel
theorem dX4_colourInStrip_43 : decode cX4_colourInStrip 43 = .ok (.imul, 1) := by decide +kernel
theorem dX4_colourInStrip_44 : decode cX4_colourInStrip 44 = .ok (.if_icmp .lt 47, 3) := by decide +kernel
theorem dX4_colourInStrip_47 : decode cX4_colourInStrip 47 = .ok (.iload_n 1, 1) := by decide +kernel
theorem dX4_colourInStrip_48 : decode cX4_colourInStrip 48 = .ok (.iload_n 2, 1) := by decide +kernel
theorem dX4_colourInStrip_49 : decode cX4_colourInStrip 49 = .ok (.iload 6, 2) := by decide +kernel
theorem dX4_colourInStrip_51 : decode cX4_colourInStrip 51 = .ok (.invokestatic 32, 3) := by decide +kernel
theorem dX4_colourInStrip_54 : decode cX4_colourInStrip 54 = .ok (.ifCond .eq 31, 3) := by decide +kernel
theorem dX4_colourInStrip_57 : decode cX4_colourInStrip 57 = .ok (.aload_n 0, 1) := by decide +kernel
theorem dX4_colourInStrip_58 : decode cX4_colourInStrip 58 = .ok (.getfield 9, 3) := by decide +kernel
theorem dX4_colourInStrip_61 : decode cX4_colourInStrip 61 = .ok (.iload_n 1, 1) := by decide +kernel
theorem dX4_colourInStrip_62 : decode cX4_colourInStrip 62 = .ok (.iload_n 2, 1) := by decide +kernel
theorem dX4_colourInStrip_63 : decode cX4_colourInStrip 63 = .ok (.iload 6, 2) := by decide +kernel
theorem dX4_colourInStrip_65 : decode cX4_colourInStrip 65 = .ok (.invokestatic 49, 3) := by decide +kernel
theorem dX4_colourInStrip_68 : decode cX4_colourInStrip 68 = .ok (.baload, 1) := by decide +kernel
theorem dX4_colourInStrip_69 : decode cX4_colourInStrip 69 = .ok (.ifCond .eq 16, 3) := by decide +kernel
theorem dX4_colourInStrip_72 : decode cX4_colourInStrip 72 = .ok (.aload_n 0, 1) := by decide +kernel
theorem dX4_colourInStrip_73 : decode cX4_colourInStrip 73 = .ok (.getfield 9, 3) := by decide +kernel
theorem dX4_colourInStrip_76 : decode cX4_colourInStrip 76 = .ok (.iload_n 1, 1) := by decide +kernel
theorem dX4_colourInStrip_77 : decode cX4_colourInStrip 77 = .ok (.iload_n 2, 1) := by decide +kernel
theorem dX4_colourInStrip_78 : decode cX4_colourInStrip 78 = .ok (.iload 6, 2) := by decide +kernel
theorem dX4_colourInStrip_80 : decode cX4_colourInStrip 80 = .ok (.invokestatic 49, 3) := by decide +kernel
theorem dX4_colourInStrip_83 : decode cX4_colourInStrip 83 = .ok (.baload, 1) := by decide +kernel
theorem dX4_colourInStrip_84 : decode cX4_colourInStrip 84 = .ok (.ireturn, 1) := by decide +kernel
theorem dX4_colourInStrip_85 : decode cX4_colourInStrip 85 = .ok (.iinc 6 (-1), 3) := by decide +kernel
theorem dX4_colourInStrip_88 : decode cX4_colourInStrip 88 = .ok (.goto (-59), 3) := by decide +kernel
theorem dX4_colourInStrip_91 : decode cX4_colourInStrip 91 = .ok (.iconst 0, 1) := by decide +kernel
theorem dX4_colourInStrip_92 : decode cX4_colourInStrip 92 = .ok (.ireturn, 1) := by decide +kernel
set_option maxRecDepth 20000 in
theorem ggX4_colouredIn_X5_isSquare : GoodIn wsX4_colouredIn wsX5_isSquare := goodIn_r _ [4] (by decide +kernel) (by decide +kernel)
set_option maxRecDepth 20000 in
theorem gX4_colouredIn_X5_isSquare_n56 : GoodIn wsX4_colouredIn (wsX5_isSquare) := ggX4_colouredIn_X5_isSquare
theorem dX4_colouredIn_0 : decode cX4_colouredIn 0 = .ok (.iload_n 1, 1) := by decide +kernel
theorem dX4_colouredIn_1 : decode cX4_colouredIn 1 = .ok (.invokestatic 56, 3) := by decide +kernel
theorem dX4_colouredIn_4 : decode cX4_colouredIn 4 = .ok (.ifCond .eq 12, 3) := by decide +kernel
theorem dX4_colouredIn_7 : decode cX4_colouredIn 7 = .ok (.aload_n 0, 1) := by decide +kernel
theorem dX4_colouredIn_8 : decode cX4_colouredIn 8 = .ok (.getfield 15, 3) := by decide +kernel
theorem dX4_colouredIn_11 : decode cX4_colouredIn 11 = .ok (.iload_n 1, 1) := by decide +kernel
theorem dX4_colouredIn_12 : decode cX4_colouredIn 12 = .ok (.iaload, 1) := by decide +kernel
theorem dX4_colouredIn_13 : decode cX4_colouredIn 13 = .ok (.goto 4, 3) := by decide +kernel
theorem dX4_colouredIn_16 : decode cX4_colouredIn 16 = .ok (.iconst 0, 1) := by decide +kernel
theorem dX4_colouredIn_17 : decode cX4_colouredIn 17 = .ok (.ireturn, 1) := by decide +kernel
theorem dX4_colouredPlaces_0 : decode cX4_colouredPlaces 0 = .ok (.iconst 0, 1) := by decide +kernel
theorem dX4_colouredPlaces_1 : decode cX4_colouredPlaces 1 = .ok (.istore_n 1, 1) := by decide +kernel
theorem dX4_colouredPlaces_2 : decode cX4_colouredPlaces 2 = .ok (.iconst 0, 1) := by decide +kernel
theorem dX4_colouredPlaces_3 : decode cX4_colouredPlaces 3 = .ok (.istore_n 2, 1) := by decide +kernel
theorem dX4_colouredPlaces_4 : decode cX4_colouredPlaces 4 = .ok (.iload_n 2, 1) := by decide +kernel
theorem dX4_colouredPlaces_5 : decode cX4_colouredPlaces 5 = .ok (.bipush 72, 2) := by decide +kernel
theorem dX4_colouredPlaces_7 : decode cX4_colouredPlaces 7 = .ok (.if_icmp .ge 18, 3) := by decide +kernel
theorem dX4_colouredPlaces_10 : decode cX4_colouredPlaces 10 = .ok (.iload_n 1, 1) := by decide +kernel
theorem dX4_colouredPlaces_11 : decode cX4_colouredPlaces 11 = .ok (.aload_n 0, 1) := by decide +kernel
theorem dX4_colouredPlaces_12 : decode cX4_colouredPlaces 12 = .ok (.getfield 15, 3) := by decide +kernel
theorem dX4_colouredPlaces_15 : decode cX4_colouredPlaces 15 = .ok (.iload_n 2, 1) := by decide +kernel
theorem dX4_colouredPlaces_16 : decode cX4_colouredPlaces 16 = .ok (.iaload, 1) := by decide +kernel
theorem dX4_colouredPlaces_17 : decode cX4_colouredPlaces 17 = .ok (.iadd, 1) := by decide +kernel
theorem dX4_colouredPlaces_18 : decode cX4_colouredPlaces 18 = .ok (.istore_n 1, 1) := by decide +kernel
theorem dX4_colouredPlaces_19 : decode cX4_colouredPlaces 19 = .ok (.iinc 2 1, 3) := by decide +kernel
theorem dX4_colouredPlaces_22 : decode cX4_colouredPlaces 22 = .ok (.goto (-18), 3) := by decide +kernel
theorem dX4_colouredPlaces_25 : decode cX4_colouredPlaces 25 = .ok (.iload_n 1, 1) := by decide +kernel
theorem dX4_colouredPlaces_26 : decode cX4_colouredPlaces 26 = .ok (.ireturn, 1) := by decide +kernel
set_option maxRecDepth 20000 in
theorem ggX5_init_X4_init : GoodIn wsX5_init wsX4_init := goodIn_r _ [28, 29, 2, 3, 30, 31, 32, 33, 68, 69] (by decide +kernel) (by decide +kernel)
set_option maxRecDepth 20000 in
theorem gX5_init_X4_init_n9 : GoodIn wsX5_init (wsX4_init) := ggX5_init_X4_init
set_option maxRecDepth 20000 in
theorem ggX5_init_X2_init : GoodIn wsX5_init wsX2_init := goodIn_r _ [36, 37, 2, 3, 32, 38, 39, 40, 41, 42, 43, 44, 45, 46, 47, 78, 79, 80, 81, 82, 83, 84, 85, 86, 87, 88, 89] (by decide +kernel) (by decide +kernel)
set_option maxRecDepth 20000 in
theorem gX5_init_X2_init : GoodIn wsX5_init (wsX2_init) := ggX5_init_X2_init
set_option maxRecDepth 20000 in
theorem ggX5_init_X0_init : GoodIn wsX5_init wsX0_init := goodIn_r _ [49, 50, 2, 3, 32, 51, 90, 91, 92, 93, 94, 95] (by decide +kernel) (by decide +kernel)
set_option maxRecDepth 20000 in
theorem gX5_init_X0_init_n27 : GoodIn wsX5_init (wsX0_init) := ggX5_init_X0_init
set_option maxRecDepth 20000 in
theorem ggX5_init_X3_init : GoodIn wsX5_init wsX3_init := goodIn_r _ [54, 55, 2, 3, 32, 56, 57, 96, 97, 98, 99, 100, 101, 102] (by decide +kernel) (by decide +kernel)
set_option maxRecDepth 20000 in
theorem gX5_init_X3_init : GoodIn wsX5_init (wsX3_init) := ggX5_init_X3_init
set_option maxRecDepth 20000 in
theorem ggX5_init_X1_init : GoodIn wsX5_init wsX1_init := goodIn_r _ [60, 61, 2, 3, 32, 62, 63, 64, 65, 66, 67, 103, 104, 105, 106, 107, 108, 109, 110, 111, 112, 113, 114] (by decide +kernel) (by decide +kernel)
set_option maxRecDepth 20000 in
theorem gX5_init_X1_init : GoodIn wsX5_init (wsX1_init) := ggX5_init_X1_init
theorem dX5_init_0 : decode cX5_init 0 = .ok (.aload_n 0, 1) := by decide +kernel
theorem dX5_init_1 : decode cX5_init 1 = .ok (.invokespecial 1, 3) := by decide +kernel
theorem dX5_init_4 : decode cX5_init 4 = .ok (.aload_n 0, 1) := by decide +kernel
theorem dX5_init_5 : decode cX5_init 5 = .ok (.new 7, 3) := by decide +kernel
theorem dX5_init_8 : decode cX5_init 8 = .ok (.dup, 1) := by decide +kernel
theorem dX5_init_9 : decode cX5_init 9 = .ok (.invokespecial 9, 3) := by decide +kernel
theorem dX5_init_12 : decode cX5_init 12 = .ok (.putfield 10, 3) := by decide +kernel
theorem dX5_init_15 : decode cX5_init 15 = .ok (.aload_n 0, 1) := by decide +kernel
theorem dX5_init_16 : decode cX5_init 16 = .ok (.new 16, 3) := by decide +kernel
theorem dX5_init_19 : decode cX5_init 19 = .ok (.dup, 1) := by decide +kernel
theorem dX5_init_20 : decode cX5_init 20 = .ok (.aload_n 0, 1) := by decide +kernel
theorem dX5_init_21 : decode cX5_init 21 = .ok (.getfield 10, 3) := by decide +kernel
theorem dX5_init_24 : decode cX5_init 24 = .ok (.invokespecial 18, 3) := by decide +kernel
theorem dX5_init_27 : decode cX5_init 27 = .ok (.putfield 21, 3) := by decide +kernel
theorem dX5_init_30 : decode cX5_init 30 = .ok (.aload_n 0, 1) := by decide +kernel
theorem dX5_init_31 : decode cX5_init 31 = .ok (.new 25, 3) := by decide +kernel
theorem dX5_init_34 : decode cX5_init 34 = .ok (.dup, 1) := by decide +kernel
theorem dX5_init_35 : decode cX5_init 35 = .ok (.invokespecial 27, 3) := by decide +kernel
theorem dX5_init_38 : decode cX5_init 38 = .ok (.putfield 28, 3) := by decide +kernel
theorem dX5_init_41 : decode cX5_init 41 = .ok (.aload_n 0, 1) := by decide +kernel
theorem dX5_init_42 : decode cX5_init 42 = .ok (.bipush 12, 2) := by decide +kernel
theorem dX5_init_44 : decode cX5_init 44 = .ok (.anewarray 32, 3) := by decide +kernel
theorem dX5_init_47 : decode cX5_init 47 = .ok (.putfield 34, 3) := by decide +kernel
theorem dX5_init_50 : decode cX5_init 50 = .ok (.aload_n 0, 1) := by decide +kernel
theorem dX5_init_51 : decode cX5_init 51 = .ok (.new 38, 3) := by decide +kernel
theorem dX5_init_54 : decode cX5_init 54 = .ok (.dup, 1) := by decide +kernel
theorem dX5_init_55 : decode cX5_init 55 = .ok (.invokespecial 40, 3) := by decide +kernel
theorem dX5_init_58 : decode cX5_init 58 = .ok (.putfield 41, 3) := by decide +kernel
theorem dX5_init_61 : decode cX5_init 61 = .ok (.aload_n 0, 1) := by decide +kernel
theorem dX5_init_62 : decode cX5_init 62 = .ok (.new 32, 3) := by decide +kernel
theorem dX5_init_65 : decode cX5_init 65 = .ok (.dup, 1) := by decide +kernel
theorem dX5_init_66 : decode cX5_init 66 = .ok (.invokespecial 45, 3) := by decide +kernel
theorem dX5_init_69 : decode cX5_init 69 = .ok (.putfield 46, 3) := by decide +kernel
theorem dX5_init_72 : decode cX5_init 72 = .ok (.aload_n 0, 1) := by decide +kernel
theorem dX5_init_73 : decode cX5_init 73 = .ok (.iconst 0, 1) := by decide +kernel
theorem dX5_init_74 : decode cX5_init 74 = .ok (.putfield 50, 3) := by decide +kernel
theorem dX5_init_77 : decode cX5_init 77 = .ok (.aload_n 0, 1) := by decide +kernel
theorem dX5_init_78 : decode cX5_init 78 = .ok (.iconst (-1), 1) := by decide +kernel
theorem dX5_init_79 : decode cX5_init 79 = .ok (.putfield 54, 3) := by decide +kernel
theorem dX5_init_82 : decode cX5_init 82 = .ok (.return_, 1) := by decide +kernel
set_option maxRecDepth 20000 in
theorem ggX5_mark_X4_setMark : GoodIn wsX5_mark wsX4_setMark := goodIn_r _ [6, 7, 8, 9, 10, 5, 11, 12, 13, 14, 15, 16, 17, 18, 19, 20, 21, 22, 23, 24, 25, 26, 27, 28, 29, 30, 31, 32, 33, 34, 35, 36, 37, 38, 39, 40, 41, 42, 43, 44, 45, 46, 47, 48, 49, 50, 51, 52, 53, 54, 55, 64, 65] (by decide +kernel) (by decide +kernel)
set_option maxRecDepth 20000 in
theorem gX5_mark_X4_setMark : GoodIn wsX5_mark (wsV RX5 57 RX4 yX4_setMark wsX4_setMark) := goodIn_app (goodIn_of _ (by decide +kernel)) ggX5_mark_X4_setMark
theorem dX5_mark_0 : decode cX5_mark 0 = .ok (.aload_n 0, 1) := by decide +kernel
theorem dX5_mark_1 : decode cX5_mark 1 = .ok (.getfield 10, 3) := by decide +kernel
theorem dX5_mark_4 : decode cX5_mark 4 = .ok (.iload_n 1, 1) := by decide +kernel
theorem dX5_mark_5 : decode cX5_mark 5 = .ok (.iload_n 2, 1) := by decide +kernel
theorem dX5_mark_6 : decode cX5_mark 6 = .ok (.iload_n 3, 1) := by decide +kernel
theorem dX5_mark_7 : decode cX5_mark 7 = .ok (.iload 4, 2) := by decide +kernel
theorem dX5_mark_9 : decode cX5_mark 9 = .ok (.invokevirtual 57, 3) := by decide +kernel
theorem dX5_mark_12 : decode cX5_mark 12 = .ok (.ireturn, 1) := by decide +kernel
set_option maxRecDepth 20000 in
theorem ggX5_line_X4_drawLine : GoodIn wsX5_line wsX4_drawLine := goodIn_r _ [6, 7, 8, 9, 10, 11, 12, 13, 14, 15, 5, 16, 17, 18, 19, 20, 21, 22, 23, 24, 25, 26, 27, 28, 29, 30, 31, 32, 33, 34, 35, 36, 37, 38, 39, 40, 41, 42, 43, 44, 45, 46, 47, 48, 49, 50, 51, 52, 53, 54, 55, 56, 57, 58, 59, 60, 61, 62, 63, 64, 65, 66, 67, 68, 69, 70, 71, 80, 81] (by decide +kernel) (by decide +kernel)
set_option maxRecDepth 20000 in
theorem gX5_line_X4_drawLine : GoodIn wsX5_line (wsV RX5 61 RX4 yX4_drawLine wsX4_drawLine) := goodIn_app (goodIn_of _ (by decide +kernel)) ggX5_line_X4_drawLine
theorem dX5_line_0 : decode cX5_line 0 = .ok (.aload_n 0, 1) := by decide +kernel
theorem dX5_line_1 : decode cX5_line 1 = .ok (.getfield 10, 3) := by decide +kernel
theorem dX5_line_4 : decode cX5_line 4 = .ok (.iload_n 1, 1) := by decide +kernel
theorem dX5_line_5 : decode cX5_line 5 = .ok (.iload_n 2, 1) := by decide +kernel
theorem dX5_line_6 : decode cX5_line 6 = .ok (.iload_n 3, 1) := by decide +kernel
theorem dX5_line_7 : decode cX5_line 7 = .ok (.iload 4, 2) := by decide +kernel
theorem dX5_line_9 : decode cX5_line 9 = .ok (.iload 5, 2) := by decide +kernel
theorem dX5_line_11 : decode cX5_line 11 = .ok (.iload 6, 2) := by decide +kernel
theorem dX5_line_13 : decode cX5_line 13 = .ok (.invokevirtual 61, 3) := by decide +kernel
theorem dX5_line_16 : decode cX5_line 16 = .ok (.ireturn, 1) := by decide +kernel
set_option maxRecDepth 20000 in
theorem ggX5_stands_X4_isMark : GoodIn wsX5_stands wsX4_isMark := goodIn_r _ [4] (by decide +kernel) (by decide +kernel)
set_option maxRecDepth 20000 in
theorem gX5_stands_X4_isMark : GoodIn wsX5_stands (va_wsS RX5 65 yX4_isMark wsX4_isMark) := goodIn_app (goodIn_of _ (by decide +kernel)) ggX5_stands_X4_isMark
set_option maxRecDepth 20000 in
theorem ggX5_stands_X4_columnOf : GoodIn wsX5_stands wsX4_columnOf := goodIn_r _ [7, 8, 9, 3, 10, 11, 12, 13, 14] (by decide +kernel) (by decide +kernel)
set_option maxRecDepth 20000 in
theorem gX5_stands_X4_columnOf : GoodIn wsX5_stands (va_wsS RX5 69 yX4_columnOf wsX4_columnOf) := goodIn_app (goodIn_of _ (by decide +kernel)) ggX5_stands_X4_columnOf
set_option maxRecDepth 20000 in
theorem ggX5_stands_X4_rowOf : GoodIn wsX5_stands wsX4_rowOf := goodIn_r _ [17, 18, 19, 3, 20] (by decide +kernel) (by decide +kernel)
set_option maxRecDepth 20000 in
theorem gX5_stands_X4_rowOf : GoodIn wsX5_stands (va_wsS RX5 73 yX4_rowOf wsX4_rowOf) := goodIn_app (goodIn_of _ (by decide +kernel)) ggX5_stands_X4_rowOf
theorem dX5_stands_0 : decode cX5_stands 0 = .ok (.iload_n 1, 1) := by decide +kernel
theorem dX5_stands_1 : decode cX5_stands 1 = .ok (.iload_n 2, 1) := by decide +kernel
theorem dX5_stands_2 : decode cX5_stands 2 = .ok (.iload_n 3, 1) := by decide +kernel
theorem dX5_stands_3 : decode cX5_stands 3 = .ok (.invokestatic 65, 3) := by decide +kernel
theorem dX5_stands_6 : decode cX5_stands 6 = .ok (.ifCond .ne 5, 3) := by decide +kernel
theorem dX5_stands_9 : decode cX5_stands 9 = .ok (.iconst (-1), 1) := by decide +kernel
theorem dX5_stands_10 : decode cX5_stands 10 = .ok (.ireturn, 1) := by decide +kernel
theorem dX5_stands_11 : decode cX5_stands 11 = .ok (.iload 4, 2) := by decide +kernel
theorem dX5_stands_13 : decode cX5_stands 13 = .ok (.lookupswitch 39 #[(0, 27), (1, 33)], 27) := by decide +kernel
theorem dX5_stands_40 : decode cX5_stands 40 = .ok (.iload_n 1, 1) := by decide +kernel
theorem dX5_stands_41 : decode cX5_stands 41 = .ok (.iload_n 2, 1) := by decide +kernel
theorem dX5_stands_42 : decode cX5_stands 42 = .ok (.invokestatic 69, 3) := by decide +kernel
theorem dX5_stands_45 : decode cX5_stands 45 = .ok (.ireturn, 1) := by decide +kernel
theorem dX5_stands_46 : decode cX5_stands 46 = .ok (.iload_n 2, 1) := by decide +kernel
theorem dX5_stands_47 : decode cX5_stands 47 = .ok (.iload_n 3, 1) := by decide +kernel
theorem dX5_stands_48 : decode cX5_stands 48 = .ok (.invokestatic 73, 3) := by decide +kernel
theorem dX5_stands_51 : decode cX5_stands 51 = .ok (.ireturn, 1) := by decide +kernel
theorem dX5_stands_52 : decode cX5_stands 52 = .ok (.iconst (-1), 1) := by decide +kernel
theorem dX5_stands_53 : decode cX5_stands 53 = .ok (.ireturn, 1) := by decide +kernel
set_option maxRecDepth 20000 in
theorem ggX5_colour_X4_isPlace : GoodIn wsX5_colour wsX4_isPlace := goodIn_r _ [5] (by decide +kernel) (by decide +kernel)
set_option maxRecDepth 20000 in
theorem gX5_colour_X4_isPlace : GoodIn wsX5_colour (va_wsS RX5 76 yX4_isPlace wsX4_isPlace) := goodIn_app (goodIn_of _ (by decide +kernel)) ggX5_colour_X4_isPlace
set_option maxRecDepth 20000 in
theorem ggX5_colour_X4_colourAt : GoodIn wsX5_colour wsX4_colourAt := goodIn_r _ [9, 10, 11, 12, 4, 13, 14, 15, 16, 17, 18, 19, 20, 21, 22, 23, 24, 25, 26, 27, 28, 29, 30, 31, 32, 33, 34, 35, 36, 37, 38, 39, 40, 41, 42, 51, 52] (by decide +kernel) (by decide +kernel)
set_option maxRecDepth 20000 in
theorem gX5_colour_X4_colourAt : GoodIn wsX5_colour (wsV RX5 80 RX4 yX4_colourAt wsX4_colourAt) := goodIn_app (goodIn_of _ (by decide +kernel)) ggX5_colour_X4_colourAt
theorem dX5_colour_0 : decode cX5_colour 0 = .ok (.iload_n 1, 1) := by decide +kernel
theorem dX5_colour_1 : decode cX5_colour 1 = .ok (.iload_n 2, 1) := by decide +kernel
theorem dX5_colour_2 : decode cX5_colour 2 = .ok (.invokestatic 76, 3) := by decide +kernel
theorem dX5_colour_5 : decode cX5_colour 5 = .ok (.ifCond .ne 5, 3) := by decide +kernel
theorem dX5_colour_8 : decode cX5_colour 8 = .ok (.iconst (-1), 1) := by decide +kernel
theorem dX5_colour_9 : decode cX5_colour 9 = .ok (.ireturn, 1) := by decide +kernel
theorem dX5_colour_10 : decode cX5_colour 10 = .ok (.aload_n 0, 1) := by decide +kernel
theorem dX5_colour_11 : decode cX5_colour 11 = .ok (.getfield 10, 3) := by decide +kernel
theorem dX5_colour_14 : decode cX5_colour 14 = .ok (.iload_n 1, 1) := by decide +kernel
theorem dX5_colour_15 : decode cX5_colour 15 = .ok (.iload_n 2, 1) := by decide +kernel
theorem dX5_colour_16 : decode cX5_colour 16 = .ok (.invokevirtual 80, 3) := by decide +kernel
theorem dX5_colour_19 : decode cX5_colour 19 = .ok (.ireturn, 1) := by decide +kernel
set_option maxRecDepth 20000 in
theorem ggX5_from_X4_isPlace : GoodIn wsX5_from wsX4_isPlace := goodIn_r _ [5] (by decide +kernel) (by decide +kernel)
set_option maxRecDepth 20000 in
theorem gX5_from_X4_isPlace : GoodIn wsX5_from (va_wsS RX5 76 yX4_isPlace wsX4_isPlace) := goodIn_app (goodIn_of _ (by decide +kernel)) ggX5_from_X4_isPlace
set_option maxRecDepth 20000 in
theorem ggX5_from_X4_viewAt : GoodIn wsX5_from wsX4_viewAt := goodIn_r _ [9, 10, 11, 12, 4, 13, 14, 15, 16, 17, 18, 19, 20, 21, 22, 23, 24, 25, 26, 27, 28, 29, 30, 31, 32, 33, 34, 35, 36, 37, 38, 47, 48] (by decide +kernel) (by decide +kernel)
set_option maxRecDepth 20000 in
theorem gX5_from_X4_viewAt : GoodIn wsX5_from (wsV RX5 83 RX4 yX4_viewAt wsX4_viewAt) := goodIn_app (goodIn_of _ (by decide +kernel)) ggX5_from_X4_viewAt
theorem dX5_from_0 : decode cX5_from 0 = .ok (.iload_n 1, 1) := by decide +kernel
theorem dX5_from_1 : decode cX5_from 1 = .ok (.iload_n 2, 1) := by decide +kernel
theorem dX5_from_2 : decode cX5_from 2 = .ok (.invokestatic 76, 3) := by decide +kernel
theorem dX5_from_5 : decode cX5_from 5 = .ok (.ifCond .ne 5, 3) := by decide +kernel
theorem dX5_from_8 : decode cX5_from 8 = .ok (.iconst (-1), 1) := by decide +kernel
theorem dX5_from_9 : decode cX5_from 9 = .ok (.ireturn, 1) := by decide +kernel
theorem dX5_from_10 : decode cX5_from 10 = .ok (.aload_n 0, 1) := by decide +kernel
theorem dX5_from_11 : decode cX5_from 11 = .ok (.getfield 10, 3) := by decide +kernel
theorem dX5_from_14 : decode cX5_from 14 = .ok (.iload_n 1, 1) := by decide +kernel
theorem dX5_from_15 : decode cX5_from 15 = .ok (.iload_n 2, 1) := by decide +kernel
theorem dX5_from_16 : decode cX5_from 16 = .ok (.invokevirtual 83, 3) := by decide +kernel
theorem dX5_from_19 : decode cX5_from 19 = .ok (.ireturn, 1) := by decide +kernel
set_option maxRecDepth 20000 in
theorem ggX5_seam_X4_quarrelsBehind : GoodIn wsX5_seam wsX4_quarrelsBehind := goodIn_r _ [6, 7, 8, 9, 5, 10, 11, 12, 13, 14, 15, 16, 17, 18, 19, 20, 21, 22, 23, 24, 25, 26, 27, 28, 29, 30, 31, 32, 33, 34, 35, 44, 45] (by decide +kernel) (by decide +kernel)
set_option maxRecDepth 20000 in
theorem gX5_seam_X4_quarrelsBehind : GoodIn wsX5_seam (wsV RX5 86 RX4 yX4_quarrelsBehind wsX4_quarrelsBehind) := goodIn_app (goodIn_of _ (by decide +kernel)) ggX5_seam_X4_quarrelsBehind
theorem dX5_seam_0 : decode cX5_seam 0 = .ok (.aload_n 0, 1) := by decide +kernel
theorem dX5_seam_1 : decode cX5_seam 1 = .ok (.getfield 10, 3) := by decide +kernel
theorem dX5_seam_4 : decode cX5_seam 4 = .ok (.iload_n 1, 1) := by decide +kernel
theorem dX5_seam_5 : decode cX5_seam 5 = .ok (.invokevirtual 86, 3) := by decide +kernel
theorem dX5_seam_8 : decode cX5_seam 8 = .ok (.ireturn, 1) := by decide +kernel
set_option maxRecDepth 20000 in
theorem ggX5_gang_X2_hire : GoodIn wsX5_gang wsX2_hire := goodIn_r _ [6, 7, 8, 17, 18, 19, 20, 21, 22, 23, 24, 25, 26, 27, 28] (by decide +kernel) (by decide +kernel)
set_option maxRecDepth 20000 in
theorem gX5_gang_X2_hire : GoodIn wsX5_gang (wsV RX5 90 RX2 yX2_hire wsX2_hire) := goodIn_app (goodIn_of _ (by decide +kernel)) ggX5_gang_X2_hire
theorem dX5_gang_0 : decode cX5_gang 0 = .ok (.aload_n 0, 1) := by decide +kernel
theorem dX5_gang_1 : decode cX5_gang 1 = .ok (.getfield 21, 3) := by decide +kernel
theorem dX5_gang_4 : decode cX5_gang 4 = .ok (.iload_n 1, 1) := by decide +kernel
theorem dX5_gang_5 : decode cX5_gang 5 = .ok (.invokevirtual 90, 3) := by decide +kernel
theorem dX5_gang_8 : decode cX5_gang 8 = .ok (.ireturn, 1) := by decide +kernel
set_option maxRecDepth 20000 in
theorem ggX5_put_X2_beginCoat : GoodIn wsX5_put wsX2_beginCoat := goodIn_r _ [6, 7, 8, 9, 10, 11, 12, 13, 14, 15, 16, 17, 18, 19, 5, 20, 21, 22, 23, 24, 25, 26, 27, 28, 29, 30, 31, 32, 33, 34, 35, 44, 45, 46, 47, 48, 49, 50, 51, 52, 53, 54, 55, 56, 57] (by decide +kernel) (by decide +kernel)
set_option maxRecDepth 20000 in
theorem gX5_put_X2_beginCoat : GoodIn wsX5_put (wsV RX5 93 RX2 yX2_beginCoat wsX2_beginCoat) := goodIn_app (goodIn_of _ (by decide +kernel)) ggX5_put_X2_beginCoat
theorem dX5_put_0 : decode cX5_put 0 = .ok (.aload_n 0, 1) := by decide +kernel
theorem dX5_put_1 : decode cX5_put 1 = .ok (.getfield 21, 3) := by decide +kernel
theorem dX5_put_4 : decode cX5_put 4 = .ok (.iload_n 1, 1) := by decide +kernel
theorem dX5_put_5 : decode cX5_put 5 = .ok (.iload_n 2, 1) := by decide +kernel
theorem dX5_put_6 : decode cX5_put 6 = .ok (.invokevirtual 93, 3) := by decide +kernel
theorem dX5_put_9 : decode cX5_put 9 = .ok (.ireturn, 1) := by decide +kernel
set_option maxRecDepth 20000 in
theorem ggX5_day_X2_passDay : GoodIn wsX5_day wsX2_passDay := goodIn_r _ [6, 7, 8, 9, 10, 11, 5, 12, 13, 14, 15, 16, 17, 18, 19, 20, 21, 22, 23, 24, 25, 26, 27, 28, 29, 30, 31, 32, 33, 34, 35, 44, 45, 46, 47, 48, 49, 50, 51, 52, 53, 54, 55] (by decide +kernel) (by decide +kernel)
set_option maxRecDepth 20000 in
theorem gX5_day_X2_passDay : GoodIn wsX5_day (wsV RX5 96 RX2 yX2_passDay wsX2_passDay) := goodIn_app (goodIn_of _ (by decide +kernel)) ggX5_day_X2_passDay
theorem dX5_day_0 : decode cX5_day 0 = .ok (.aload_n 0, 1) := by decide +kernel
theorem dX5_day_1 : decode cX5_day 1 = .ok (.getfield 21, 3) := by decide +kernel
theorem dX5_day_4 : decode cX5_day 4 = .ok (.invokevirtual 96, 3) := by decide +kernel
theorem dX5_day_7 : decode cX5_day 7 = .ok (.ireturn, 1) := by decide +kernel
set_option maxRecDepth 20000 in
theorem ggX5_square_X2_tellSquare : GoodIn wsX5_square wsX2_tellSquare := goodIn_r _ [6, 7, 8, 9, 10, 11, 12, 13, 14, 15, 16, 17, 18, 5, 19, 20, 21, 22, 23, 24, 25, 26, 35, 36, 37, 38, 39, 40, 41, 42, 43, 44, 45, 46, 47, 48] (by decide +kernel) (by decide +kernel)
set_option maxRecDepth 20000 in
theorem gX5_square_X2_tellSquare : GoodIn wsX5_square (wsV RX5 100 RX2 yX2_tellSquare wsX2_tellSquare) := goodIn_app (goodIn_of _ (by decide +kernel)) ggX5_square_X2_tellSquare
theorem dX5_square_0 : decode cX5_square 0 = .ok (.aload_n 0, 1) := by decide +kernel
theorem dX5_square_1 : decode cX5_square 1 = .ok (.getfield 21, 3) := by decide +kernel
theorem dX5_square_4 : decode cX5_square 4 = .ok (.iload_n 1, 1) := by decide +kernel
theorem dX5_square_5 : decode cX5_square 5 = .ok (.iload_n 2, 1) := by decide +kernel
theorem dX5_square_6 : decode cX5_square 6 = .ok (.invokevirtual 100, 3) := by decide +kernel
theorem dX5_square_9 : decode cX5_square 9 = .ok (.ireturn, 1) := by decide +kernel
set_option maxRecDepth 20000 in
theorem ggX5_least_X2_leastDays : GoodIn wsX5_least wsX2_leastDays := goodIn_r _ [6, 7, 8, 9, 10, 11, 12, 5, 13, 14, 15, 16, 17, 18, 19, 20, 21, 22, 23, 24, 25, 26, 27, 28, 29, 30, 31, 32, 33, 34, 35, 36, 37, 38, 39, 40, 41, 42, 43, 52, 53, 54, 55, 56, 57, 58, 59, 60, 61, 62, 63, 64, 65] (by decide +kernel) (by decide +kernel)
set_option maxRecDepth 20000 in
theorem gX5_least_X2_leastDays : GoodIn wsX5_least (wsV RX5 103 RX2 yX2_leastDays wsX2_leastDays) := goodIn_app (goodIn_of _ (by decide +kernel)) ggX5_least_X2_leastDays
theorem dX5_least_0 : decode cX5_least 0 = .ok (.aload_n 0, 1) := by decide +kernel
theorem dX5_least_1 : decode cX5_least 1 = .ok (.getfield 21, 3) := by decide +kernel
theorem dX5_least_4 : decode cX5_least 4 = .ok (.iload_n 1, 1) := by decide +kernel
theorem dX5_least_5 : decode cX5_least 5 = .ok (.iload_n 2, 1) := by decide +kernel
theorem dX5_least_6 : decode cX5_least 6 = .ok (.iload_n 3, 1) := by decide +kernel
theorem dX5_least_7 : decode cX5_least 7 = .ok (.invokevirtual 103, 3) := by decide +kernel
theorem dX5_least_10 : decode cX5_least 10 = .ok (.ireturn, 1) := by decide +kernel
set_option maxRecDepth 20000 in
theorem ggX5_feed_X0_takeBytes : GoodIn wsX5_feed wsX0_takeBytes := goodIn_r _ [6, 7, 8, 9, 10, 5, 11, 12, 21, 22, 23, 24, 25, 26] (by decide +kernel) (by decide +kernel)
set_option maxRecDepth 20000 in
theorem gX5_feed_X0_takeBytes : GoodIn wsX5_feed (wsV RX5 107 RX0 yX0_takeBytes wsX0_takeBytes) := goodIn_app (goodIn_of _ (by decide +kernel)) ggX5_feed_X0_takeBytes
theorem dX5_feed_0 : decode cX5_feed 0 = .ok (.aload_n 0, 1) := by decide +kernel
theorem dX5_feed_1 : decode cX5_feed 1 = .ok (.getfield 28, 3) := by decide +kernel
theorem dX5_feed_4 : decode cX5_feed 4 = .ok (.iload_n 1, 1) := by decide +kernel
theorem dX5_feed_5 : decode cX5_feed 5 = .ok (.iload_n 2, 1) := by decide +kernel
theorem dX5_feed_6 : decode cX5_feed 6 = .ok (.iload_n 3, 1) := by decide +kernel
theorem dX5_feed_7 : decode cX5_feed 7 = .ok (.iload 4, 2) := by decide +kernel
theorem dX5_feed_9 : decode cX5_feed 9 = .ok (.iload 5, 2) := by decide +kernel
theorem dX5_feed_11 : decode cX5_feed 11 = .ok (.invokevirtual 107, 3) := by decide +kernel
theorem dX5_feed_14 : decode cX5_feed 14 = .ok (.ireturn, 1) := by decide +kernel
set_option maxRecDepth 20000 in
theorem ggX5_hall_X0_bytes : GoodIn wsX5_hall wsX0_bytes := goodIn_r _ [13, 14, 172, 173, 174, 175, 176, 177] (by decide +kernel) (by decide +kernel)
set_option maxRecDepth 20000 in
theorem gX5_hall_X0_bytes : GoodIn wsX5_hall (wsV RX5 111 RX0 yX0_bytes wsX0_bytes) := goodIn_app (goodIn_of _ (by decide +kernel)) ggX5_hall_X0_bytes
set_option maxRecDepth 20000 in
theorem ggX5_hall_X0_readContract : GoodIn wsX5_hall wsX0_readContract := goodIn_r _ [18, 14, 19, 20, 21, 22, 23, 24, 25, 26, 27, 28, 29, 8, 30, 31, 32, 33, 34, 35, 36, 12, 37, 38, 39, 40, 41, 42, 43, 44, 45, 46, 47, 48, 49, 50, 51, 52, 53, 54, 55, 56, 57, 58, 59, 60, 61, 62, 63, 64, 65, 66, 67, 68, 69, 70, 71, 72, 73, 74, 75, 76, 77, 78, 79, 80, 81, 82, 83, 84, 85, 86, 87, 88, 89, 90, 91, 92, 93, 94, 95, 96, 97, 98, 99, 100, 101, 102, 103, 104, 105, 106, 107, 108, 109, 110, 111, 112, 113, 114, 115, 116, 117, 118, 119, 120, 121, 122, 123, 124, 125, 126, 127, 128, 129, 130, 131, 132, 133, 134, 135, 136, 137, 138, 139, 140, 141, 142, 143, 144, 172, 173, 174, 175, 176, 177, 160, 161, 162, 163, 164, 165, 166, 167, 168, 169, 170, 171] (by decide +kernel) (by decide +kernel)
set_option maxRecDepth 20000 in
theorem gX5_hall_X0_readContract : GoodIn wsX5_hall (wsV RX5 114 RX0 yX0_readContract wsX0_readContract) := goodIn_app (goodIn_of _ (by decide +kernel)) ggX5_hall_X0_readContract
set_option maxRecDepth 20000 in
theorem ggX5_hall_X1_init : GoodIn wsX5_hall wsX1_init := goodIn_r _ [147, 148, 149, 150, 151, 120, 121, 142, 143, 144, 32, 160, 161, 162, 163, 164, 165, 166, 167, 168, 169, 170, 171] (by decide +kernel) (by decide +kernel)
set_option maxRecDepth 20000 in
theorem gX5_hall_X1_init : GoodIn wsX5_hall (wsX1_init) := ggX5_hall_X1_init
theorem dX5_hall_0 : decode cX5_hall 0 = .ok (.iload_n 1, 1) := by decide +kernel
theorem dX5_hall_1 : decode cX5_hall 1 = .ok (.ifCond .lt 14, 3) := by decide +kernel
theorem dX5_hall_4 : decode cX5_hall 4 = .ok (.iload_n 1, 1) := by decide +kernel
theorem dX5_hall_5 : decode cX5_hall 5 = .ok (.aload_n 0, 1) := by decide +kernel
theorem dX5_hall_6 : decode cX5_hall 6 = .ok (.getfield 28, 3) := by decide +kernel
theorem dX5_hall_9 : decode cX5_hall 9 = .ok (.invokevirtual 111, 3) := by decide +kernel
theorem dX5_hall_12 : decode cX5_hall 12 = .ok (.if_icmp .le 6, 3) := by decide +kernel
theorem dX5_hall_15 : decode cX5_hall 15 = .ok (.bipush (-2), 2) := by decide +kernel
theorem dX5_hall_17 : decode cX5_hall 17 = .ok (.ireturn, 1) := by decide +kernel
theorem dX5_hall_18 : decode cX5_hall 18 = .ok (.aload_n 0, 1) := by decide +kernel
theorem dX5_hall_19 : decode cX5_hall 19 = .ok (.getfield 50, 3) := by decide +kernel
theorem dX5_hall_22 : decode cX5_hall 22 = .ok (.ifCond .lt 12, 3) := by decide +kernel
theorem dX5_hall_25 : decode cX5_hall 25 = .ok (.aload_n 0, 1) := by decide +kernel
theorem dX5_hall_26 : decode cX5_hall 26 = .ok (.getfield 50, 3) := by decide +kernel
theorem dX5_hall_29 : decode cX5_hall 29 = .ok (.bipush 12, 2) := by decide +kernel
theorem dX5_hall_31 : decode cX5_hall 31 = .ok (.if_icmp .lt 6, 3) := by decide +kernel
theorem dX5_hall_34 : decode cX5_hall 34 = .ok (.bipush (-3), 2) := by decide +kernel
theorem dX5_hall_36 : decode cX5_hall 36 = .ok (.ireturn, 1) := by decide +kernel
theorem dX5_hall_37 : decode cX5_hall 37 = .ok (.aload_n 0, 1) := by decide +kernel
theorem dX5_hall_38 : decode cX5_hall 38 = .ok (.aload_n 0, 1) := by decide +kernel
theorem dX5_hall_39 : decode cX5_hall 39 = .ok (.getfield 28, 3) := by decide +kernel
theorem dX5_hall_42 : decode cX5_hall 42 = .ok (.iload_n 1, 1) := by decide +kernel
theorem dX5_hall_43 : decode cX5_hall 43 = .ok (.aload_n 0, 1) := by decide +kernel
theorem dX5_hall_44 : decode cX5_hall 44 = .ok (.getfield 46, 3) := by decide +kernel
theorem dX5_hall_47 : decode cX5_hall 47 = .ok (.invokevirtual 114, 3) := by decide +kernel
theorem dX5_hall_50 : decode cX5_hall 50 = .ok (.putfield 54, 3) := by decide +kernel
theorem dX5_hall_53 : decode cX5_hall 53 = .ok (.aload_n 0, 1) := by decide +kernel
theorem dX5_hall_54 : decode cX5_hall 54 = .ok (.getfield 54, 3) := by decide +kernel
theorem dX5_hall_57 : decode cX5_hall 57 = .ok (.iconst (-1), 1) := by decide +kernel
theorem dX5_hall_58 : decode cX5_hall 58 = .ok (.if_icmp .eq 5, 3) := by decide +kernel
theorem dX5_hall_61 : decode cX5_hall 61 = .ok (.iconst (-1), 1) := by decide +kernel
theorem dX5_hall_62 : decode cX5_hall 62 = .ok (.ireturn, 1) := by decide +kernel
theorem dX5_hall_63 : decode cX5_hall 63 = .ok (.aload_n 0, 1) := by decide +kernel
theorem dX5_hall_64 : decode cX5_hall 64 = .ok (.getfield 34, 3) := by decide +kernel
theorem dX5_hall_67 : decode cX5_hall 67 = .ok (.aload_n 0, 1) := by decide +kernel
theorem dX5_hall_68 : decode cX5_hall 68 = .ok (.getfield 50, 3) := by decide +kernel
theorem dX5_hall_71 : decode cX5_hall 71 = .ok (.aload_n 0, 1) := by decide +kernel
theorem dX5_hall_72 : decode cX5_hall 72 = .ok (.getfield 46, 3) := by decide +kernel
theorem dX5_hall_75 : decode cX5_hall 75 = .ok (.aastore, 1) := by decide +kernel
theorem dX5_hall_76 : decode cX5_hall 76 = .ok (.aload_n 0, 1) := by decide +kernel
theorem dX5_hall_77 : decode cX5_hall 77 = .ok (.new 32, 3) := by decide +kernel
theorem dX5_hall_80 : decode cX5_hall 80 = .ok (.dup, 1) := by decide +kernel
theorem dX5_hall_81 : decode cX5_hall 81 = .ok (.invokespecial 45, 3) := by decide +kernel
theorem dX5_hall_84 : decode cX5_hall 84 = .ok (.putfield 46, 3) := by decide +kernel
theorem dX5_hall_87 : decode cX5_hall 87 = .ok (.aload_n 0, 1) := by decide +kernel
theorem dX5_hall_88 : decode cX5_hall 88 = .ok (.dup, 1) := by decide +kernel
theorem dX5_hall_89 : decode cX5_hall 89 = .ok (.getfield 50, 3) := by decide +kernel
theorem dX5_hall_92 : decode cX5_hall 92 = .ok (.dup_x1, 1) := by decide +kernel
theorem dX5_hall_93 : decode cX5_hall 93 = .ok (.iconst 1, 1) := by decide +kernel
theorem dX5_hall_94 : decode cX5_hall 94 = .ok (.iadd, 1) := by decide +kernel
theorem dX5_hall_95 : decode cX5_hall 95 = .ok (.putfield 50, 3) := by decide +kernel
theorem dX5_hall_98 : decode cX5_hall 98 = .ok (.ireturn, 1) := by decide +kernel
theorem dX5_fault_0 : decode cX5_fault 0 = .ok (.aload_n 0, 1) := by decide +kernel
theorem dX5_fault_1 : decode cX5_fault 1 = .ok (.getfield 54, 3) := by decide +kernel
theorem dX5_fault_4 : decode cX5_fault 4 = .ok (.ireturn, 1) := by decide +kernel
set_option maxRecDepth 20000 in
theorem ggX5_week_X5_hallNumbered : GoodIn wsX5_week wsX5_hallNumbered := goodIn_r _ [5, 6, 48, 49, 50, 51, 52, 53, 54, 55] (by decide +kernel) (by decide +kernel)
set_option maxRecDepth 20000 in
theorem gX5_week_X5_hallNumbered : GoodIn wsX5_week (wsV RX5 118 RX5 yX5_hallNumbered wsX5_hallNumbered) := goodIn_app (goodIn_of _ (by decide +kernel)) ggX5_week_X5_hallNumbered
set_option maxRecDepth 20000 in
theorem ggX5_week_X5_isTold : GoodIn wsX5_week wsX5_isTold := goodIn_r _ [9, 10] (by decide +kernel) (by decide +kernel)
set_option maxRecDepth 20000 in
theorem gX5_week_X5_isTold : GoodIn wsX5_week (va_wsS RX5 122 yX5_isTold wsX5_isTold) := goodIn_app (goodIn_of _ (by decide +kernel)) ggX5_week_X5_isTold
set_option maxRecDepth 20000 in
theorem ggX5_week_X1_passWeek : GoodIn wsX5_week wsX1_passWeek := goodIn_r _ [15, 16, 17, 18, 19, 20, 21, 22, 23, 24, 25, 26, 27, 28, 14, 29, 30, 31, 32, 33, 34, 35, 36, 37, 38, 39, 40, 41, 42, 43, 44, 45, 46, 47, 56, 57, 58, 59, 60, 61, 62, 63, 64, 65, 66, 67] (by decide +kernel) (by decide +kernel)
set_option maxRecDepth 20000 in
theorem gX5_week_X1_passWeek : GoodIn wsX5_week (wsV RX5 126 RX1 yX1_passWeek wsX1_passWeek) := goodIn_app (goodIn_of _ (by decide +kernel)) ggX5_week_X1_passWeek
theorem dX5_week_0 : decode cX5_week 0 = .ok (.aload_n 0, 1) := by decide +kernel
theorem dX5_week_1 : decode cX5_week 1 = .ok (.iload_n 1, 1) := by decide +kernel
theorem dX5_week_2 : decode cX5_week 2 = .ok (.invokevirtual 118, 3) := by decide +kernel
theorem dX5_week_5 : decode cX5_week 5 = .ok (.astore 4, 2) := by decide +kernel
theorem dX5_week_7 : decode cX5_week 7 = .ok (.aload 4, 2) := by decide +kernel
theorem dX5_week_9 : decode cX5_week 9 = .ok (.ifnull 17, 3) := by decide +kernel
theorem dX5_week_12 : decode cX5_week 12 = .ok (.iload_n 2, 1) := by decide +kernel
theorem dX5_week_13 : decode cX5_week 13 = .ok (.invokestatic 122, 3) := by decide +kernel
theorem dX5_week_16 : decode cX5_week 16 = .ok (.ifCond .eq 10, 3) := by decide +kernel
theorem dX5_week_19 : decode cX5_week 19 = .ok (.iload_n 3, 1) := by decide +kernel
theorem dX5_week_20 : decode cX5_week 20 = .ok (.invokestatic 122, 3) := by decide +kernel
theorem dX5_week_23 : decode cX5_week 23 = .ok (.ifCond .ne 5, 3) := by decide +kernel
theorem dX5_week_26 : decode cX5_week 26 = .ok (.iconst (-1), 1) := by decide +kernel
theorem dX5_week_27 : decode cX5_week 27 = .ok (.ireturn, 1) := by decide +kernel
theorem dX5_week_28 : decode cX5_week 28 = .ok (.aload 4, 2) := by decide +kernel
theorem dX5_week_30 : decode cX5_week 30 = .ok (.iload_n 2, 1) := by decide +kernel
theorem dX5_week_31 : decode cX5_week 31 = .ok (.iload_n 3, 1) := by decide +kernel
theorem dX5_week_32 : decode cX5_week 32 = .ok (.invokevirtual 126, 3) := by decide +kernel
theorem dX5_week_35 : decode cX5_week 35 = .ok (.ireturn, 1) := by decide +kernel
set_option maxRecDepth 20000 in
theorem ggX5_hallOf_X5_hallNumbered : GoodIn wsX5_hallOf wsX5_hallNumbered := goodIn_r _ [5, 6, 18, 19, 20, 21, 22, 23, 24, 25] (by decide +kernel) (by decide +kernel)
set_option maxRecDepth 20000 in
theorem gX5_hallOf_X5_hallNumbered : GoodIn wsX5_hallOf (wsV RX5 118 RX5 yX5_hallNumbered wsX5_hallNumbered) := goodIn_app (goodIn_of _ (by decide +kernel)) ggX5_hallOf_X5_hallNumbered
set_option maxRecDepth 20000 in
theorem ggX5_hallOf_X1_tell : GoodIn wsX5_hallOf wsX1_tell := goodIn_r _ [11, 12, 13, 14, 15, 16, 17, 26, 27, 28, 29, 30, 31, 32, 33, 34, 35, 36, 37] (by decide +kernel) (by decide +kernel)
set_option maxRecDepth 20000 in
theorem gX5_hallOf_X1_tell : GoodIn wsX5_hallOf (wsV RX5 129 RX1 yX1_tell wsX1_tell) := goodIn_app (goodIn_of _ (by decide +kernel)) ggX5_hallOf_X1_tell
theorem dX5_hallOf_0 : decode cX5_hallOf 0 = .ok (.aload_n 0, 1) := by decide +kernel
theorem dX5_hallOf_1 : decode cX5_hallOf 1 = .ok (.iload_n 1, 1) := by decide +kernel
theorem dX5_hallOf_2 : decode cX5_hallOf 2 = .ok (.invokevirtual 118, 3) := by decide +kernel
theorem dX5_hallOf_5 : decode cX5_hallOf 5 = .ok (.astore_n 3, 1) := by decide +kernel
theorem dX5_hallOf_6 : decode cX5_hallOf 6 = .ok (.aload_n 3, 1) := by decide +kernel
theorem dX5_hallOf_7 : decode cX5_hallOf 7 = .ok (.ifnonnull 7, 3) := by decide +kernel
theorem dX5_hallOf_10 : decode cX5_hallOf 10 = .ok (.iconst (-1), 1) := by decide +kernel
theorem dX5_hallOf_11 : decode cX5_hallOf 11 = .ok (.goto 8, 3) := by decide +kernel
theorem dX5_hallOf_14 : decode cX5_hallOf 14 = .ok (.aload_n 3, 1) := by decide +kernel
theorem dX5_hallOf_15 : decode cX5_hallOf 15 = .ok (.iload_n 2, 1) := by decide +kernel
theorem dX5_hallOf_16 : decode cX5_hallOf 16 = .ok (.invokevirtual 129, 3) := by decide +kernel
theorem dX5_hallOf_19 : decode cX5_hallOf 19 = .ok (.ireturn, 1) := by decide +kernel
set_option maxRecDepth 20000 in
theorem ggX5_room_X3_setRoom : GoodIn wsX5_room wsX3_setRoom := goodIn_r _ [6, 7, 16, 17, 18, 19, 20, 21, 22] (by decide +kernel) (by decide +kernel)
set_option maxRecDepth 20000 in
theorem gX5_room_X3_setRoom : GoodIn wsX5_room (wsV RX5 132 RX3 yX3_setRoom wsX3_setRoom) := goodIn_app (goodIn_of _ (by decide +kernel)) ggX5_room_X3_setRoom
theorem dX5_room_0 : decode cX5_room 0 = .ok (.aload_n 0, 1) := by decide +kernel
theorem dX5_room_1 : decode cX5_room 1 = .ok (.getfield 41, 3) := by decide +kernel
theorem dX5_room_4 : decode cX5_room 4 = .ok (.iload_n 1, 1) := by decide +kernel
theorem dX5_room_5 : decode cX5_room 5 = .ok (.invokevirtual 132, 3) := by decide +kernel
theorem dX5_room_8 : decode cX5_room 8 = .ok (.ireturn, 1) := by decide +kernel
set_option maxRecDepth 20000 in
theorem ggX5_minute_X3_passMinute : GoodIn wsX5_minute wsX3_passMinute := goodIn_r _ [6, 7, 8, 9, 10, 11, 12, 13, 14, 15, 16, 17, 18, 19, 20, 21, 22, 23, 24, 33, 34, 35, 36, 37, 38, 39] (by decide +kernel) (by decide +kernel)
set_option maxRecDepth 20000 in
theorem gX5_minute_X3_passMinute : GoodIn wsX5_minute (wsV RX5 135 RX3 yX3_passMinute wsX3_passMinute) := goodIn_app (goodIn_of _ (by decide +kernel)) ggX5_minute_X3_passMinute
theorem dX5_minute_0 : decode cX5_minute 0 = .ok (.aload_n 0, 1) := by decide +kernel
theorem dX5_minute_1 : decode cX5_minute 1 = .ok (.getfield 41, 3) := by decide +kernel
theorem dX5_minute_4 : decode cX5_minute 4 = .ok (.iload_n 1, 1) := by decide +kernel
theorem dX5_minute_5 : decode cX5_minute 5 = .ok (.invokevirtual 135, 3) := by decide +kernel
theorem dX5_minute_8 : decode cX5_minute 8 = .ok (.ireturn, 1) := by decide +kernel
set_option maxRecDepth 20000 in
theorem ggX5_crowd_X3_tell : GoodIn wsX5_crowd wsX3_tell := goodIn_r _ [6, 7, 8, 9, 10, 11, 12, 21, 22, 23, 24, 25, 26, 27] (by decide +kernel) (by decide +kernel)
set_option maxRecDepth 20000 in
theorem gX5_crowd_X3_tell : GoodIn wsX5_crowd (wsV RX5 138 RX3 yX3_tell wsX3_tell) := goodIn_app (goodIn_of _ (by decide +kernel)) ggX5_crowd_X3_tell
theorem dX5_crowd_0 : decode cX5_crowd 0 = .ok (.aload_n 0, 1) := by decide +kernel
theorem dX5_crowd_1 : decode cX5_crowd 1 = .ok (.getfield 41, 3) := by decide +kernel
theorem dX5_crowd_4 : decode cX5_crowd 4 = .ok (.iload_n 1, 1) := by decide +kernel
theorem dX5_crowd_5 : decode cX5_crowd 5 = .ok (.invokevirtual 138, 3) := by decide +kernel
theorem dX5_crowd_8 : decode cX5_crowd 8 = .ok (.ireturn, 1) := by decide +kernel
set_option maxRecDepth 20000 in
theorem ggX5_count_X2_today : GoodIn wsX5_count wsX2_today := goodIn_r _ [9, 10, 41, 42, 43, 44, 45, 46, 47, 48, 49, 50, 51, 52] (by decide +kernel) (by decide +kernel)
set_option maxRecDepth 20000 in
theorem gX5_count_X2_today : GoodIn wsX5_count (wsV RX5 139 RX2 yX2_today wsX2_today) := goodIn_app (goodIn_of _ (by decide +kernel)) ggX5_count_X2_today
set_option maxRecDepth 20000 in
theorem ggX5_count_X2_gangs : GoodIn wsX5_count wsX2_gangs := goodIn_r _ [14, 15, 41, 42, 43, 44, 45, 46, 47, 48, 49, 50, 51, 52] (by decide +kernel) (by decide +kernel)

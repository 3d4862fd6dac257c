theorem dX6_put_86 : decode cX6_put 86 = .ok (.iaload, 1) := by decide +kernel
theorem dX6_put_87 : decode cX6_put 87 = .ok (.iconst 3, 1) := by decide +kernel
theorem dX6_put_88 : decode cX6_put 88 = .ok (.iadd, 1) := by decide +kernel
theorem dX6_put_89 : decode cX6_put 89 = .ok (.if_icmp .ge 6, 3) := by decide +kernel
theorem dX6_put_92 : decode cX6_put 92 = .ok (.bipush (-6), 2) := by decide +kernel
theorem dX6_put_94 : decode cX6_put 94 = .ok (.ireturn, 1) := by decide +kernel
theorem dX6_put_95 : decode cX6_put 95 = .ok (.iload_n 2, 1) := by decide +kernel
theorem dX6_put_96 : decode cX6_put 96 = .ok (.bipush 36, 2) := by decide +kernel
theorem dX6_put_98 : decode cX6_put 98 = .ok (.if_icmp .ge 19, 3) := by decide +kernel
theorem dX6_put_101 : decode cX6_put 101 = .ok (.aload_n 0, 1) := by decide +kernel
theorem dX6_put_102 : decode cX6_put 102 = .ok (.getfield 28, 3) := by decide +kernel
theorem dX6_put_105 : decode cX6_put 105 = .ok (.bipush 36, 2) := by decide +kernel
theorem dX6_put_107 : decode cX6_put 107 = .ok (.iload_n 2, 1) := by decide +kernel
theorem dX6_put_108 : decode cX6_put 108 = .ok (.iadd, 1) := by decide +kernel
theorem dX6_put_109 : decode cX6_put 109 = .ok (.iaload, 1) := by decide +kernel
theorem dX6_put_110 : decode cX6_put 110 = .ok (.iload_n 3, 1) := by decide +kernel
theorem dX6_put_111 : decode cX6_put 111 = .ok (.if_icmp .ge 6, 3) := by decide +kernel
theorem dX6_put_114 : decode cX6_put 114 = .ok (.bipush (-7), 2) := by decide +kernel
theorem dX6_put_116 : decode cX6_put 116 = .ok (.ireturn, 1) := by decide +kernel
theorem dX6_put_117 : decode cX6_put 117 = .ok (.aload_n 0, 1) := by decide +kernel
theorem dX6_put_118 : decode cX6_put 118 = .ok (.iload_n 2, 1) := by decide +kernel
theorem dX6_put_119 : decode cX6_put 119 = .ok (.invokevirtual 158, 3) := by decide +kernel
theorem dX6_put_122 : decode cX6_put 122 = .ok (.istore 4, 2) := by decide +kernel
theorem dX6_put_124 : decode cX6_put 124 = .ok (.aload_n 0, 1) := by decide +kernel
theorem dX6_put_125 : decode cX6_put 125 = .ok (.getfield 34, 3) := by decide +kernel
theorem dX6_put_128 : decode cX6_put 128 = .ok (.iload_n 2, 1) := by decide +kernel
theorem dX6_put_129 : decode cX6_put 129 = .ok (.iload_n 3, 1) := by decide +kernel
theorem dX6_put_130 : decode cX6_put 130 = .ok (.iconst 1, 1) := by decide +kernel
theorem dX6_put_131 : decode cX6_put 131 = .ok (.if_icmp .ne 8, 3) := by decide +kernel
theorem dX6_put_134 : decode cX6_put 134 = .ok (.iload 4, 2) := by decide +kernel
theorem dX6_put_136 : decode cX6_put 136 = .ok (.goto 11, 3) := by decide +kernel
theorem dX6_put_139 : decode cX6_put 139 = .ok (.iconst 1, 1) := by decide +kernel
theorem dX6_put_140 : decode cX6_put 140 = .ok (.iload 4, 2) := by decide +kernel
theorem dX6_put_142 : decode cX6_put 142 = .ok (.iconst 2, 1) := by decide +kernel
theorem dX6_put_143 : decode cX6_put 143 = .ok (.idiv, 1) := by decide +kernel
theorem dX6_put_144 : decode cX6_put 144 = .ok (.invokestatic 119, 3) := by decide +kernel
theorem dX6_put_147 : decode cX6_put 147 = .ok (.iastore, 1) := by decide +kernel
theorem dX6_put_148 : decode cX6_put 148 = .ok (.aload_n 0, 1) := by decide +kernel
theorem dX6_put_149 : decode cX6_put 149 = .ok (.getfield 31, 3) := by decide +kernel
theorem dX6_put_152 : decode cX6_put 152 = .ok (.iload_n 2, 1) := by decide +kernel
theorem dX6_put_153 : decode cX6_put 153 = .ok (.iload_n 1, 1) := by decide +kernel
theorem dX6_put_154 : decode cX6_put 154 = .ok (.iastore, 1) := by decide +kernel
theorem dX6_put_155 : decode cX6_put 155 = .ok (.aload_n 0, 1) := by decide +kernel
theorem dX6_put_156 : decode cX6_put 156 = .ok (.getfield 25, 3) := by decide +kernel
theorem dX6_put_159 : decode cX6_put 159 = .ok (.iload_n 1, 1) := by decide +kernel
theorem dX6_put_160 : decode cX6_put 160 = .ok (.iload_n 2, 1) := by decide +kernel
theorem dX6_put_161 : decode cX6_put 161 = .ok (.iastore, 1) := by decide +kernel
theorem dX6_put_162 : decode cX6_put 162 = .ok (.iload_n 3, 1) := by decide +kernel
theorem dX6_put_163 : decode cX6_put 163 = .ok (.ireturn, 1) := by decide +kernel
theorem dX6_day_0 : decode cX6_day 0 = .ok (.aload_n 0, 1) := by decide +kernel
theorem dX6_day_1 : decode cX6_day 1 = .ok (.getfield 155, 3) := by decide +kernel
theorem dX6_day_4 : decode cX6_day 4 = .ok (.sipush 1000, 3) := by decide +kernel
theorem dX6_day_7 : decode cX6_day 7 = .ok (.if_icmp .ne 5, 3) := by decide +kernel
theorem dX6_day_10 : decode cX6_day 10 = .ok (.iconst (-1), 1) := by decide +kernel
theorem dX6_day_11 : decode cX6_day 11 = .ok (.ireturn, 1) := by decide +kernel
theorem dX6_day_12 : decode cX6_day 12 = .ok (.iconst 0, 1) := by decide +kernel
theorem dX6_day_13 : decode cX6_day 13 = .ok (.istore_n 1, 1) := by decide +kernel
theorem dX6_day_14 : decode cX6_day 14 = .ok (.iload_n 1, 1) := by decide +kernel
theorem dX6_day_15 : decode cX6_day 15 = .ok (.aload_n 0, 1) := by decide +kernel
theorem dX6_day_16 : decode cX6_day 16 = .ok (.getfield 148, 3) := by decide +kernel
theorem dX6_day_19 : decode cX6_day 19 = .ok (.if_icmp .ge 123, 3) := by decide +kernel
theorem dX6_day_22 : decode cX6_day 22 = .ok (.aload_n 0, 1) := by decide +kernel
theorem dX6_day_23 : decode cX6_day 23 = .ok (.getfield 25, 3) := by decide +kernel
theorem dX6_day_26 : decode cX6_day 26 = .ok (.iload_n 1, 1) := by decide +kernel
theorem dX6_day_27 : decode cX6_day 27 = .ok (.iaload, 1) := by decide +kernel
theorem dX6_day_28 : decode cX6_day 28 = .ok (.istore_n 2, 1) := by decide +kernel
theorem dX6_day_29 : decode cX6_day 29 = .ok (.iload_n 2, 1) := by decide +kernel
theorem dX6_day_30 : decode cX6_day 30 = .ok (.iconst (-1), 1) := by decide +kernel
theorem dX6_day_31 : decode cX6_day 31 = .ok (.if_icmp .ne 6, 3) := by decide +kernel
theorem dX6_day_34 : decode cX6_day 34 = .ok (.goto 102, 3) := by decide +kernel
theorem dX6_day_37 : decode cX6_day 37 = .ok (.aload_n 0, 1) := by decide +kernel
theorem dX6_day_38 : decode cX6_day 38 = .ok (.getfield 34, 3) := by decide +kernel
theorem dX6_day_41 : decode cX6_day 41 = .ok (.iload_n 2, 1) := by decide +kernel
theorem dX6_day_42 : decode cX6_day 42 = .ok (.iconst 0, 1) := by decide +kernel
theorem dX6_day_43 : decode cX6_day 43 = .ok (.aload_n 0, 1) := by decide +kernel
theorem dX6_day_44 : decode cX6_day 44 = .ok (.getfield 34, 3) := by decide +kernel
theorem dX6_day_47 : decode cX6_day 47 = .ok (.iload_n 2, 1) := by decide +kernel
theorem dX6_day_48 : decode cX6_day 48 = .ok (.iaload, 1) := by decide +kernel
theorem dX6_day_49 : decode cX6_day 49 = .ok (.aload_n 0, 1) := by decide +kernel
theorem dX6_day_50 : decode cX6_day 50 = .ok (.getfield 21, 3) := by decide +kernel
theorem dX6_day_53 : decode cX6_day 53 = .ok (.iload_n 1, 1) := by decide +kernel
theorem dX6_day_54 : decode cX6_day 54 = .ok (.iaload, 1) := by decide +kernel
theorem dX6_day_55 : decode cX6_day 55 = .ok (.isub, 1) := by decide +kernel
theorem dX6_day_56 : decode cX6_day 56 = .ok (.invokestatic 119, 3) := by decide +kernel
theorem dX6_day_59 : decode cX6_day 59 = .ok (.iastore, 1) := by decide +kernel
theorem dX6_day_60 : decode cX6_day 60 = .ok (.aload_n 0, 1) := by decide +kernel
theorem dX6_day_61 : decode cX6_day 61 = .ok (.getfield 34, 3) := by decide +kernel
theorem dX6_day_64 : decode cX6_day 64 = .ok (.iload_n 2, 1) := by decide +kernel
theorem dX6_day_65 : decode cX6_day 65 = .ok (.iaload, 1) := by decide +kernel
theorem dX6_day_66 : decode cX6_day 66 = .ok (.ifCond .le 6, 3) := by decide +kernel
theorem dX6_day_69 : decode cX6_day 69 = .ok (.goto 67, 3) := by decide +kernel
theorem dX6_day_72 : decode cX6_day 72 = .ok (.aload_n 0, 1) := by decide +kernel
theorem dX6_day_73 : decode cX6_day 73 = .ok (.getfield 28, 3) := by decide +kernel
theorem dX6_day_76 : decode cX6_day 76 = .ok (.iload_n 2, 1) := by decide +kernel
theorem dX6_day_77 : decode cX6_day 77 = .ok (.dup2, 1) := by decide +kernel
theorem dX6_day_78 : decode cX6_day 78 = .ok (.iaload, 1) := by decide +kernel
theorem dX6_day_79 : decode cX6_day 79 = .ok (.iconst 1, 1) := by decide +kernel
theorem dX6_day_80 : decode cX6_day 80 = .ok (.iadd, 1) := by decide +kernel
theorem dX6_day_81 : decode cX6_day 81 = .ok (.iastore, 1) := by decide +kernel
theorem dX6_day_82 : decode cX6_day 82 = .ok (.aload_n 0, 1) := by decide +kernel
theorem dX6_day_83 : decode cX6_day 83 = .ok (.getfield 28, 3) := by decide +kernel
theorem dX6_day_86 : decode cX6_day 86 = .ok (.iload_n 2, 1) := by decide +kernel
theorem dX6_day_87 : decode cX6_day 87 = .ok (.iaload, 1) := by decide +kernel
theorem dX6_day_88 : decode cX6_day 88 = .ok (.iconst 1, 1) := by decide +kernel
theorem dX6_day_89 : decode cX6_day 89 = .ok (.if_icmp .ne 16, 3) := by decide +kernel
theorem dX6_day_92 : decode cX6_day 92 = .ok (.aload_n 0, 1) := by decide +kernel
theorem dX6_day_93 : decode cX6_day 93 = .ok (.getfield 37, 3) := by decide +kernel
theorem dX6_day_96 : decode cX6_day 96 = .ok (.iload_n 2, 1) := by decide +kernel
theorem dX6_day_97 : decode cX6_day 97 = .ok (.aload_n 0, 1) := by decide +kernel
theorem dX6_day_98 : decode cX6_day 98 = .ok (.getfield 155, 3) := by decide +kernel
theorem dX6_day_101 : decode cX6_day 101 = .ok (.iastore, 1) := by decide +kernel
theorem dX6_day_102 : decode cX6_day 102 = .ok (.goto 13, 3) := by decide +kernel
theorem dX6_day_105 : decode cX6_day 105 = .ok (.aload_n 0, 1) := by decide +kernel
theorem dX6_day_106 : decode cX6_day 106 = .ok (.getfield 40, 3) := by decide +kernel
theorem dX6_day_109 : decode cX6_day 109 = .ok (.iload_n 2, 1) := by decide +kernel
theorem dX6_day_110 : decode cX6_day 110 = .ok (.aload_n 0, 1) := by decide +kernel
theorem dX6_day_111 : decode cX6_day 111 = .ok (.getfield 155, 3) := by decide +kernel
theorem dX6_day_114 : decode cX6_day 114 = .ok (.iastore, 1) := by decide +kernel
theorem dX6_day_115 : decode cX6_day 115 = .ok (.aload_n 0, 1) := by decide +kernel
theorem dX6_day_116 : decode cX6_day 116 = .ok (.getfield 43, 3) := by decide +kernel
theorem dX6_day_119 : decode cX6_day 119 = .ok (.iload_n 2, 1) := by decide +kernel
theorem dX6_day_120 : decode cX6_day 120 = .ok (.iload_n 1, 1) := by decide +kernel
theorem dX6_day_121 : decode cX6_day 121 = .ok (.iastore, 1) := by decide +kernel
theorem dX6_day_122 : decode cX6_day 122 = .ok (.aload_n 0, 1) := by decide +kernel
theorem dX6_day_123 : decode cX6_day 123 = .ok (.getfield 31, 3) := by decide +kernel
theorem dX6_day_126 : decode cX6_day 126 = .ok (.iload_n 2, 1) := by decide +kernel
theorem dX6_day_127 : decode cX6_day 127 = .ok (.iconst (-1), 1) := by decide +kernel
theorem dX6_day_128 : decode cX6_day 128 = .ok (.iastore, 1) := by decide +kernel
theorem dX6_day_129 : decode cX6_day 129 = .ok (.aload_n 0, 1) := by decide +kernel
theorem dX6_day_130 : decode cX6_day 130 = .ok (.getfield 25, 3) := by decide +kernel
theorem dX6_day_133 : decode cX6_day 133 = .ok (.iload_n 1, 1) := by decide +kernel
theorem dX6_day_134 : decode cX6_day 134 = .ok (.iconst (-1), 1) := by decide +kernel
theorem dX6_day_135 : decode cX6_day 135 = .ok (.iastore, 1) := by decide +kernel
theorem dX6_day_136 : decode cX6_day 136 = .ok (.iinc 1 1, 3) := by decide +kernel
theorem dX6_day_139 : decode cX6_day 139 = .ok (.goto (-125), 3) := by decide +kernel
theorem dX6_day_142 : decode cX6_day 142 = .ok (.aload_n 0, 1) := by decide +kernel
theorem dX6_day_143 : decode cX6_day 143 = .ok (.dup, 1) := by decide +kernel
theorem dX6_day_144 : decode cX6_day 144 = .ok (.getfield 155, 3) := by decide +kernel
theorem dX6_day_147 : decode cX6_day 147 = .ok (.iconst 1, 1) := by decide +kernel
theorem dX6_day_148 : decode cX6_day 148 = .ok (.iadd, 1) := by decide +kernel
theorem dX6_day_149 : decode cX6_day 149 = .ok (.putfield 155, 3) := by decide +kernel
theorem dX6_day_152 : decode cX6_day 152 = .ok (.aload_n 0, 1) := by decide +kernel
theorem dX6_day_153 : decode cX6_day 153 = .ok (.getfield 155, 3) := by decide +kernel
theorem dX6_day_156 : decode cX6_day 156 = .ok (.ireturn, 1) := by decide +kernel
set_option maxRecDepth 20000 in
theorem ggX6_square_X6_isSquare : GoodIn wsX6_square wsX6_isSquare := goodIn_r _ [10, 11, 12, 9, 13] (by decide +kernel) (by decide +kernel)
set_option maxRecDepth 20000 in
theorem gX6_square_X6_isSquare : GoodIn wsX6_square (va_wsS RX6 151 yX6_isSquare wsX6_isSquare) := goodIn_app (goodIn_of _ (by decide +kernel)) ggX6_square_X6_isSquare
set_option maxRecDepth 20000 in
theorem ggX6_square_X6_work : GoodIn wsX6_square wsX6_work := goodIn_r _ [17, 18, 19, 20, 9, 21, 22, 23, 24, 25, 26, 27, 28, 29, 30, 31, 32, 33, 34, 35, 36, 37, 38, 39, 40, 41, 42, 43, 44, 45, 46, 47, 48, 49, 50, 51, 52, 53, 54, 55, 56, 57, 58, 59, 60, 61, 62, 63, 64, 65, 66, 67, 68, 69, 70, 71, 72, 73, 74, 75, 76, 77, 78, 79, 80, 81, 82, 83, 84, 85, 86, 87] (by decide +kernel) (by decide +kernel)
set_option maxRecDepth 20000 in
theorem gX6_square_X6_work : GoodIn wsX6_square (wsV RX6 158 RX6 yX6_work wsX6_work) := goodIn_app (goodIn_of _ (by decide +kernel)) ggX6_square_X6_work
theorem dX6_square_0 : decode cX6_square 0 = .ok (.iload_n 1, 1) := by decide +kernel
theorem dX6_square_1 : decode cX6_square 1 = .ok (.invokestatic 151, 3) := by decide +kernel
theorem dX6_square_4 : decode cX6_square 4 = .ok (.ifCond .ne 5, 3) := by decide +kernel
theorem dX6_square_7 : decode cX6_square 7 = .ok (.iconst (-1), 1) := by decide +kernel
theorem dX6_square_8 : decode cX6_square 8 = .ok (.ireturn, 1) := by decide +kernel
theorem dX6_square_9 : decode cX6_square 9 = .ok (.iload_n 2, 1) := by decide +kernel
theorem dX6_square_10 : decode cX6_square 10 = .ok (.tableswitch 90 0 6 #[42, 48, 55, 62, 69, 76, 83], 42) := by decide +kernel
theorem dX6_square_52 : decode cX6_square 52 = .ok (.aload_n 0, 1) := by decide +kernel
theorem dX6_square_53 : decode cX6_square 53 = .ok (.iload_n 1, 1) := by decide +kernel
theorem dX6_square_54 : decode cX6_square 54 = .ok (.invokevirtual 158, 3) := by decide +kernel
theorem dX6_square_57 : decode cX6_square 57 = .ok (.ireturn, 1) := by decide +kernel
theorem dX6_square_58 : decode cX6_square 58 = .ok (.aload_n 0, 1) := by decide +kernel
theorem dX6_square_59 : decode cX6_square 59 = .ok (.getfield 28, 3) := by decide +kernel
theorem dX6_square_62 : decode cX6_square 62 = .ok (.iload_n 1, 1) := by decide +kernel
theorem dX6_square_63 : decode cX6_square 63 = .ok (.iaload, 1) := by decide +kernel
theorem dX6_square_64 : decode cX6_square 64 = .ok (.ireturn, 1) := by decide +kernel
theorem dX6_square_65 : decode cX6_square 65 = .ok (.aload_n 0, 1) := by decide +kernel
theorem dX6_square_66 : decode cX6_square 66 = .ok (.getfield 31, 3) := by decide +kernel
theorem dX6_square_69 : decode cX6_square 69 = .ok (.iload_n 1, 1) := by decide +kernel
theorem dX6_square_70 : decode cX6_square 70 = .ok (.iaload, 1) := by decide +kernel
theorem dX6_square_71 : decode cX6_square 71 = .ok (.ireturn, 1) := by decide +kernel
theorem dX6_square_72 : decode cX6_square 72 = .ok (.aload_n 0, 1) := by decide +kernel
theorem dX6_square_73 : decode cX6_square 73 = .ok (.getfield 34, 3) := by decide +kernel
theorem dX6_square_76 : decode cX6_square 76 = .ok (.iload_n 1, 1) := by decide +kernel
theorem dX6_square_77 : decode cX6_square 77 = .ok (.iaload, 1) := by decide +kernel
theorem dX6_square_78 : decode cX6_square 78 = .ok (.ireturn, 1) := by decide +kernel
theorem dX6_square_79 : decode cX6_square 79 = .ok (.aload_n 0, 1) := by decide +kernel
theorem dX6_square_80 : decode cX6_square 80 = .ok (.getfield 37, 3) := by decide +kernel
theorem dX6_square_83 : decode cX6_square 83 = .ok (.iload_n 1, 1) := by decide +kernel
theorem dX6_square_84 : decode cX6_square 84 = .ok (.iaload, 1) := by decide +kernel
theorem dX6_square_85 : decode cX6_square 85 = .ok (.ireturn, 1) := by decide +kernel
theorem dX6_square_86 : decode cX6_square 86 = .ok (.aload_n 0, 1) := by decide +kernel
theorem dX6_square_87 : decode cX6_square 87 = .ok (.getfield 40, 3) := by decide +kernel
theorem dX6_square_90 : decode cX6_square 90 = .ok (.iload_n 1, 1) := by decide +kernel
theorem dX6_square_91 : decode cX6_square 91 = .ok (.iaload, 1) := by decide +kernel
theorem dX6_square_92 : decode cX6_square 92 = .ok (.ireturn, 1) := by decide +kernel
theorem dX6_square_93 : decode cX6_square 93 = .ok (.aload_n 0, 1) := by decide +kernel
theorem dX6_square_94 : decode cX6_square 94 = .ok (.getfield 43, 3) := by decide +kernel
theorem dX6_square_97 : decode cX6_square 97 = .ok (.iload_n 1, 1) := by decide +kernel
theorem dX6_square_98 : decode cX6_square 98 = .ok (.iaload, 1) := by decide +kernel
theorem dX6_square_99 : decode cX6_square 99 = .ok (.ireturn, 1) := by decide +kernel
theorem dX6_square_100 : decode cX6_square 100 = .ok (.iconst (-1), 1) := by decide +kernel
theorem dX6_square_101 : decode cX6_square 101 = .ok (.ireturn, 1) := by decide +kernel
set_option maxRecDepth 20000 in
theorem ggX6_least_X6_isIn : GoodIn wsX6_least wsX6_isIn := goodIn_r _ [15] (by decide +kernel) (by decide +kernel)
set_option maxRecDepth 20000 in
theorem gX6_least_X6_isIn : GoodIn wsX6_least (va_wsS RX6 102 yX6_isIn wsX6_isIn) := goodIn_app (goodIn_of _ (by decide +kernel)) ggX6_least_X6_isIn
set_option maxRecDepth 20000 in
theorem ggX6_least_X6_work : GoodIn wsX6_least wsX6_work := goodIn_r _ [19, 20, 21, 22, 14, 23, 24, 25, 4, 26, 2, 3, 5, 27, 28, 29, 30, 31, 32, 33, 34, 35, 36, 37, 38, 39, 40, 41, 42, 43, 44, 45, 46, 47, 48, 49, 50, 51, 52, 53, 54, 55, 56, 57, 58, 59, 60, 61, 62, 63, 64, 65, 66, 67, 68, 69, 70, 71, 72, 73, 74, 75, 76, 77, 78, 79, 80, 81, 82, 83, 84, 85] (by decide +kernel) (by decide +kernel)
set_option maxRecDepth 20000 in
theorem gX6_least_X6_work : GoodIn wsX6_least (wsV RX6 158 RX6 yX6_work wsX6_work) := goodIn_app (goodIn_of _ (by decide +kernel)) ggX6_least_X6_work
theorem dX6_least_0 : decode cX6_least 0 = .ok (.iload_n 2, 1) := by decide +kernel
theorem dX6_least_1 : decode cX6_least 1 = .ok (.iconst 1, 1) := by decide +kernel
theorem dX6_least_2 : decode cX6_least 2 = .ok (.bipush 6, 2) := by decide +kernel
theorem dX6_least_4 : decode cX6_least 4 = .ok (.invokestatic 102, 3) := by decide +kernel
theorem dX6_least_7 : decode cX6_least 7 = .ok (.ifCond .eq 31, 3) := by decide +kernel
theorem dX6_least_10 : decode cX6_least 10 = .ok (.iload_n 1, 1) := by decide +kernel
theorem dX6_least_11 : decode cX6_least 11 = .ok (.iconst 0, 1) := by decide +kernel
theorem dX6_least_12 : decode cX6_least 12 = .ok (.bipush 72, 2) := by decide +kernel
theorem dX6_least_14 : decode cX6_least 14 = .ok (.iload_n 2, 1) := by decide +kernel
theorem dX6_least_15 : decode cX6_least 15 = .ok (.isub, 1) := by decide +kernel
theorem dX6_least_16 : decode cX6_least 16 = .ok (.invokestatic 102, 3) := by decide +kernel
theorem dX6_least_19 : decode cX6_least 19 = .ok (.ifCond .eq 19, 3) := by decide +kernel
theorem dX6_least_22 : decode cX6_least 22 = .ok (.iload_n 3, 1) := by decide +kernel
theorem dX6_least_23 : decode cX6_least 23 = .ok (.iconst 1, 1) := by decide +kernel
theorem dX6_least_24 : decode cX6_least 24 = .ok (.iconst 3, 1) := by decide +kernel
theorem dX6_least_25 : decode cX6_least 25 = .ok (.aload_n 0, 1) := by decide +kernel
theorem dX6_least_26 : decode cX6_least 26 = .ok (.getfield 148, 3) := by decide +kernel
theorem dX6_least_29 : decode cX6_least 29 = .ok (.invokestatic 138, 3) := by decide +kernel
theorem dX6_least_32 : decode cX6_least 32 = .ok (.invokestatic 102, 3) := by decide +kernel
theorem dX6_least_35 : decode cX6_least 35 = .ok (.ifCond .ne 5, 3) := by decide +kernel
theorem dX6_least_38 : decode cX6_least 38 = .ok (.iconst (-1), 1) := by decide +kernel
theorem dX6_least_39 : decode cX6_least 39 = .ok (.ireturn, 1) := by decide +kernel
theorem dX6_least_40 : decode cX6_least 40 = .ok (.iconst 1, 1) := by decide +kernel
theorem dX6_least_41 : decode cX6_least 41 = .ok (.istore 4, 2) := by decide +kernel
theorem dX6_least_43 : decode cX6_least 43 = .ok (.iconst 0, 1) := by decide +kernel
theorem dX6_least_44 : decode cX6_least 44 = .ok (.istore 5, 2) := by decide +kernel
theorem dX6_least_46 : decode cX6_least 46 = .ok (.iload 5, 2) := by decide +kernel
theorem dX6_least_48 : decode cX6_least 48 = .ok (.iload_n 2, 1) := by decide +kernel
theorem dX6_least_49 : decode cX6_least 49 = .ok (.if_icmp .ge 30, 3) := by decide +kernel
theorem dX6_least_52 : decode cX6_least 52 = .ok (.aload_n 0, 1) := by decide +kernel
theorem dX6_least_53 : decode cX6_least 53 = .ok (.getfield 46, 3) := by decide +kernel
theorem dX6_least_56 : decode cX6_least 56 = .ok (.iload 5, 2) := by decide +kernel
theorem dX6_least_58 : decode cX6_least 58 = .ok (.aload_n 0, 1) := by decide +kernel
theorem dX6_least_59 : decode cX6_least 59 = .ok (.iload_n 1, 1) := by decide +kernel
theorem dX6_least_60 : decode cX6_least 60 = .ok (.iload 5, 2) := by decide +kernel
theorem dX6_least_62 : decode cX6_least 62 = .ok (.iadd, 1) := by decide +kernel
theorem dX6_least_63 : decode cX6_least 63 = .ok (.invokevirtual 158, 3) := by decide +kernel
theorem dX6_least_66 : decode cX6_least 66 = .ok (.iastore, 1) := by decide +kernel
theorem dX6_least_67 : decode cX6_least 67 = .ok (.iload 4, 2) := by decide +kernel
theorem dX6_least_69 : decode cX6_least 69 = .ok (.iload_n 3, 1) := by decide +kernel
theorem dX6_least_70 : decode cX6_least 70 = .ok (.imul, 1) := by decide +kernel
theorem dX6_least_71 : decode cX6_least 71 = .ok (.istore 4, 2) := by decide +kernel
theorem dX6_least_73 : decode cX6_least 73 = .ok (.iinc 5 1, 3) := by decide +kernel
theorem dX6_least_76 : decode cX6_least 76 = .ok (.goto (-30), 3) := by decide +kernel
theorem dX6_least_79 : decode cX6_least 79 = .ok (.iconst (-1), 1) := by decide +kernel
theorem dX6_least_80 : decode cX6_least 80 = .ok (.istore 5, 2) := by decide +kernel
theorem dX6_least_82 : decode cX6_least 82 = .ok (.iconst 0, 1) := by decide +kernel
theorem dX6_least_83 : decode cX6_least 83 = .ok (.istore 6, 2) := by decide +kernel
theorem dX6_least_85 : decode cX6_least 85 = .ok (.iload 6, 2) := by decide +kernel
theorem dX6_least_87 : decode cX6_least 87 = .ok (.iload 4, 2) := by decide +kernel
theorem dX6_least_89 : decode cX6_least 89 = .ok (.if_icmp .ge 143, 3) := by decide +kernel
theorem dX6_least_92 : decode cX6_least 92 = .ok (.iconst 0, 1) := by decide +kernel
theorem dX6_least_93 : decode cX6_least 93 = .ok (.istore 7, 2) := by decide +kernel
theorem dX6_least_95 : decode cX6_least 95 = .ok (.iload 7, 2) := by decide +kernel
theorem dX6_least_97 : decode cX6_least 97 = .ok (.iload_n 3, 1) := by decide +kernel
theorem dX6_least_98 : decode cX6_least 98 = .ok (.if_icmp .ge 17, 3) := by decide +kernel
theorem dX6_least_101 : decode cX6_least 101 = .ok (.aload_n 0, 1) := by decide +kernel
theorem dX6_least_102 : decode cX6_least 102 = .ok (.getfield 49, 3) := by decide +kernel
theorem dX6_least_105 : decode cX6_least 105 = .ok (.iload 7, 2) := by decide +kernel
theorem dX6_least_107 : decode cX6_least 107 = .ok (.iconst 0, 1) := by decide +kernel
theorem dX6_least_108 : decode cX6_least 108 = .ok (.iastore, 1) := by decide +kernel
theorem dX6_least_109 : decode cX6_least 109 = .ok (.iinc 7 1, 3) := by decide +kernel
theorem dX6_least_112 : decode cX6_least 112 = .ok (.goto (-17), 3) := by decide +kernel
theorem dX6_least_115 : decode cX6_least 115 = .ok (.iload 6, 2) := by decide +kernel
theorem dX6_least_117 : decode cX6_least 117 = .ok (.istore 7, 2) := by decide +kernel
theorem dX6_least_119 : decode cX6_least 119 = .ok (.iconst 0, 1) := by decide +kernel
theorem dX6_least_120 : decode cX6_least 120 = .ok (.istore 8, 2) := by decide +kernel
theorem dX6_least_122 : decode cX6_least 122 = .ok (.iload 8, 2) := by decide +kernel
theorem dX6_least_124 : decode cX6_least 124 = .ok (.iload_n 2, 1) := by decide +kernel
theorem dX6_least_125 : decode cX6_least 125 = .ok (.if_icmp .ge 34, 3) := by decide +kernel
theorem dX6_least_128 : decode cX6_least 128 = .ok (.aload_n 0, 1) := by decide +kernel
theorem dX6_least_129 : decode cX6_least 129 = .ok (.getfield 49, 3) := by decide +kernel
theorem dX6_least_132 : decode cX6_least 132 = .ok (.iload 7, 2) := by decide +kernel
theorem dX6_least_134 : decode cX6_least 134 = .ok (.iload_n 3, 1) := by decide +kernel
theorem dX6_least_135 : decode cX6_least 135 = .ok (.irem, 1) := by decide +kernel
theorem dX6_least_136 : decode cX6_least 136 = .ok (.dup2, 1) := by decide +kernel
theorem dX6_least_137 : decode cX6_least 137 = .ok (.iaload, 1) := by decide +kernel
theorem dX6_least_138 : decode cX6_least 138 = .ok (.aload_n 0, 1) := by decide +kernel
theorem dX6_least_139 : decode cX6_least 139 = .ok (.getfield 46, 3) := by decide +kernel
theorem dX6_least_142 : decode cX6_least 142 = .ok (.iload 8, 2) := by decide +kernel
theorem dX6_least_144 : decode cX6_least 144 = .ok (.iaload, 1) := by decide +kernel
theorem dX6_least_145 : decode cX6_least 145 = .ok (.iadd, 1) := by decide +kernel
theorem dX6_least_146 : decode cX6_least 146 = .ok (.iastore, 1) := by decide +kernel
theorem dX6_least_147 : decode cX6_least 147 = .ok (.iload 7, 2) := by decide +kernel
theorem dX6_least_149 : decode cX6_least 149 = .ok (.iload_n 3, 1) := by decide +kernel
theorem dX6_least_150 : decode cX6_least 150 = .ok (.idiv, 1) := by decide +kernel
theorem dX6_least_151 : decode cX6_least 151 = .ok (.istore 7, 2) := by decide +kernel
theorem dX6_least_153 : decode cX6_least 153 = .ok (.iinc 8 1, 3) := by decide +kernel
theorem dX6_least_156 : decode cX6_least 156 = .ok (.goto (-34), 3) := by decide +kernel
theorem dX6_least_159 : decode cX6_least 159 = .ok (.iconst 0, 1) := by decide +kernel
theorem dX6_least_160 : decode cX6_least 160 = .ok (.istore 8, 2) := by decide +kernel
theorem dX6_least_162 : decode cX6_least 162 = .ok (.iconst 0, 1) := by decide +kernel
theorem dX6_least_163 : decode cX6_least 163 = .ok (.istore 9, 2) := by decide +kernel
theorem dX6_least_165 : decode cX6_least 165 = .ok (.iload 9, 2) := by decide +kernel
theorem dX6_least_167 : decode cX6_least 167 = .ok (.iload_n 3, 1) := by decide +kernel
theorem dX6_least_168 : decode cX6_least 168 = .ok (.if_icmp .ge 41, 3) := by decide +kernel
theorem dX6_least_171 : decode cX6_least 171 = .ok (.iload 8, 2) := by decide +kernel
theorem dX6_least_173 : decode cX6_least 173 = .ok (.aload_n 0, 1) := by decide +kernel
theorem dX6_least_174 : decode cX6_least 174 = .ok (.getfield 49, 3) := by decide +kernel
theorem dX6_least_177 : decode cX6_least 177 = .ok (.iload 9, 2) := by decide +kernel
theorem dX6_least_179 : decode cX6_least 179 = .ok (.iaload, 1) := by decide +kernel
theorem dX6_least_180 : decode cX6_least 180 = .ok (.aload_n 0, 1) := by decide +kernel
theorem dX6_least_181 : decode cX6_least 181 = .ok (.getfield 21, 3) := by decide +kernel
theorem dX6_least_184 : decode cX6_least 184 = .ok (.iload 9, 2) := by decide +kernel
theorem dX6_least_186 : decode cX6_least 186 = .ok (.iaload, 1) := by decide +kernel
theorem dX6_least_187 : decode cX6_least 187 = .ok (.iadd, 1) := by decide +kernel
theorem dX6_least_188 : decode cX6_least 188 = .ok (.iconst 1, 1) := by decide +kernel
theorem dX6_least_189 : decode cX6_least 189 = .ok (.isub, 1) := by decide +kernel
theorem dX6_least_190 : decode cX6_least 190 = .ok (.aload_n 0, 1) := by decide +kernel
theorem dX6_least_191 : decode cX6_least 191 = .ok (.getfield 21, 3) := by decide +kernel
theorem dX6_least_194 : decode cX6_least 194 = .ok (.iload 9, 2) := by decide +kernel
theorem dX6_least_196 : decode cX6_least 196 = .ok (.iaload, 1) := by decide +kernel
theorem dX6_least_197 : decode cX6_least 197 = .ok (.idiv, 1) := by decide +kernel
theorem dX6_least_198 : decode cX6_least 198 = .ok (.invokestatic 119, 3) := by decide +kernel
theorem dX6_least_201 : decode cX6_least 201 = .ok (.istore 8, 2) := by decide +kernel
theorem dX6_least_203 : decode cX6_least 203 = .ok (.iinc 9 1, 3) := by decide +kernel
theorem dX6_least_206 : decode cX6_least 206 = .ok (.goto (-41), 3) := by decide +kernel
theorem dX6_least_209 : decode cX6_least 209 = .ok (.iload 5, 2) := by decide +kernel
theorem dX6_least_211 : decode cX6_least 211 = .ok (.iconst (-1), 1) := by decide +kernel
theorem dX6_least_212 : decode cX6_least 212 = .ok (.if_icmp .eq 10, 3) := by decide +kernel
theorem dX6_least_215 : decode cX6_least 215 = .ok (.iload 8, 2) := by decide +kernel
theorem dX6_least_217 : decode cX6_least 217 = .ok (.iload 5, 2) := by decide +kernel
theorem dX6_least_219 : decode cX6_least 219 = .ok (.if_icmp .ge 7, 3) := by decide +kernel
theorem dX6_least_222 : decode cX6_least 222 = .ok (.iload 8, 2) := by decide +kernel
theorem dX6_least_224 : decode cX6_least 224 = .ok (.istore 5, 2) := by decide +kernel
theorem dX6_least_226 : decode cX6_least 226 = .ok (.iinc 6 1, 3) := by decide +kernel
theorem dX6_least_229 : decode cX6_least 229 = .ok (.goto (-144), 3) := by decide +kernel
theorem dX6_least_232 : decode cX6_least 232 = .ok (.iload 5, 2) := by decide +kernel
theorem dX6_least_234 : decode cX6_least 234 = .ok (.ireturn, 1) := by decide +kernel
set_option maxRecDepth 20000 in
theorem ggX6_feed_X6_four : GoodIn wsX6_feed wsX6_four := goodIn_r _ [6, 7, 1, 8, 9, 10, 11, 12, 13, 14, 15, 16, 17, 18, 19, 20, 21, 22, 23, 24, 25, 26, 27, 28, 29, 30, 31, 32, 33, 34, 35, 36, 37, 38, 39, 40, 41, 42, 43, 44, 45, 46, 47, 48, 49] (by decide +kernel) (by decide +kernel)
set_option maxRecDepth 20000 in
theorem gX6_feed_X6_four : GoodIn wsX6_feed (wsV RX6 164 RX6 yX6_four wsX6_four) := goodIn_app (goodIn_of _ (by decide +kernel)) ggX6_feed_X6_four
theorem dX6_feed_0 : decode cX6_feed 0 = .ok (.aload_n 0, 1) := by decide +kernel
theorem dX6_feed_1 : decode cX6_feed 1 = .ok (.getfield 161, 3) := by decide +kernel
theorem dX6_feed_4 : decode cX6_feed 4 = .ok (.bipush 20, 2) := by decide +kernel
theorem dX6_feed_6 : decode cX6_feed 6 = .ok (.iadd, 1) := by decide +kernel
theorem dX6_feed_7 : decode cX6_feed 7 = .ok (.sipush 600, 3) := by decide +kernel
theorem dX6_feed_10 : decode cX6_feed 10 = .ok (.if_icmp .le 5, 3) := by decide +kernel
theorem dX6_feed_13 : decode cX6_feed 13 = .ok (.iconst (-1), 1) := by decide +kernel
theorem dX6_feed_14 : decode cX6_feed 14 = .ok (.ireturn, 1) := by decide +kernel
theorem dX6_feed_15 : decode cX6_feed 15 = .ok (.aload_n 0, 1) := by decide +kernel
theorem dX6_feed_16 : decode cX6_feed 16 = .ok (.iload_n 1, 1) := by decide +kernel
theorem dX6_feed_17 : decode cX6_feed 17 = .ok (.invokevirtual 164, 3) := by decide +kernel
theorem dX6_feed_20 : decode cX6_feed 20 = .ok (.aload_n 0, 1) := by decide +kernel
theorem dX6_feed_21 : decode cX6_feed 21 = .ok (.iload_n 2, 1) := by decide +kernel
theorem dX6_feed_22 : decode cX6_feed 22 = .ok (.invokevirtual 164, 3) := by decide +kernel
theorem dX6_feed_25 : decode cX6_feed 25 = .ok (.aload_n 0, 1) := by decide +kernel
theorem dX6_feed_26 : decode cX6_feed 26 = .ok (.iload_n 3, 1) := by decide +kernel
theorem dX6_feed_27 : decode cX6_feed 27 = .ok (.invokevirtual 164, 3) := by decide +kernel
theorem dX6_feed_30 : decode cX6_feed 30 = .ok (.aload_n 0, 1) := by decide +kernel
theorem dX6_feed_31 : decode cX6_feed 31 = .ok (.iload 4, 2) := by decide +kernel
theorem dX6_feed_33 : decode cX6_feed 33 = .ok (.invokevirtual 164, 3) := by decide +kernel
theorem dX6_feed_36 : decode cX6_feed 36 = .ok (.aload_n 0, 1) := by decide +kernel
theorem dX6_feed_37 : decode cX6_feed 37 = .ok (.iload 5, 2) := by decide +kernel
theorem dX6_feed_39 : decode cX6_feed 39 = .ok (.invokevirtual 164, 3) := by decide +kernel
theorem dX6_feed_42 : decode cX6_feed 42 = .ok (.aload_n 0, 1) := by decide +kernel
theorem dX6_feed_43 : decode cX6_feed 43 = .ok (.getfield 161, 3) := by decide +kernel
theorem dX6_feed_46 : decode cX6_feed 46 = .ok (.ireturn, 1) := by decide +kernel
theorem dX6_four_0 : decode cX6_four 0 = .ok (.bipush 24, 2) := by decide +kernel
theorem dX6_four_2 : decode cX6_four 2 = .ok (.istore_n 2, 1) := by decide +kernel
theorem dX6_four_3 : decode cX6_four 3 = .ok (.iload_n 2, 1) := by decide +kernel
theorem dX6_four_4 : decode cX6_four 4 = .ok (.ifCond .lt 32, 3) := by decide +kernel
theorem dX6_four_7 : decode cX6_four 7 = .ok (.aload_n 0, 1) := by decide +kernel
theorem dX6_four_8 : decode cX6_four 8 = .ok (.getfield 52, 3) := by decide +kernel
theorem dX6_four_11 : decode cX6_four 11 = .ok (.aload_n 0, 1) := by decide +kernel
theorem dX6_four_12 : decode cX6_four 12 = .ok (.getfield 161, 3) := by decide +kernel
theorem dX6_four_15 : decode cX6_four 15 = .ok (.iload_n 1, 1) := by decide +kernel
theorem dX6_four_16 : decode cX6_four 16 = .ok (.iload_n 2, 1) := by decide +kernel
theorem dX6_four_17 : decode cX6_four 17 = .ok (.ishr, 1) := by decide +kernel
theorem dX6_four_18 : decode cX6_four 18 = .ok (.i2b, 1) := by decide +kernel
theorem dX6_four_19 : decode cX6_four 19 = .ok (.bastore, 1) := by decide +kernel
theorem dX6_four_20 : decode cX6_four 20 = .ok (.aload_n 0, 1) := by decide +kernel
theorem dX6_four_21 : decode cX6_four 21 = .ok (.dup, 1) := by decide +kernel
theorem dX6_four_22 : decode cX6_four 22 = .ok (.getfield 161, 3) := by decide +kernel
theorem dX6_four_25 : decode cX6_four 25 = .ok (.iconst 1, 1) := by decide +kernel
theorem dX6_four_26 : decode cX6_four 26 = .ok (.iadd, 1) := by decide +kernel
theorem dX6_four_27 : decode cX6_four 27 = .ok (.putfield 161, 3) := by decide +kernel
theorem dX6_four_30 : decode cX6_four 30 = .ok (.iinc 2 (-8), 3) := by decide +kernel
theorem dX6_four_33 : decode cX6_four 33 = .ok (.goto (-30), 3) := by decide +kernel
theorem dX6_four_36 : decode cX6_four 36 = .ok (.return_, 1) := by decide +kernel
theorem dX6_blanks_0 : decode cX6_blanks 0 = .ok (.aload_n 0, 1) := by decide +kernel
theorem dX6_blanks_1 : decode cX6_blanks 1 = .ok (.getfield 168, 3) := by decide +kernel
theorem dX6_blanks_4 : decode cX6_blanks 4 = .ok (.aload_n 0, 1) := by decide +kernel
theorem dX6_blanks_5 : decode cX6_blanks 5 = .ok (.getfield 171, 3) := by decide +kernel
theorem dX6_blanks_8 : decode cX6_blanks 8 = .ok (.if_icmp .ge 44, 3) := by decide +kernel
theorem dX6_blanks_11 : decode cX6_blanks 11 = .ok (.aload_n 0, 1) := by decide +kernel
theorem dX6_blanks_12 : decode cX6_blanks 12 = .ok (.getfield 55, 3) := by decide +kernel
theorem dX6_blanks_15 : decode cX6_blanks 15 = .ok (.aload_n 0, 1) := by decide +kernel
theorem dX6_blanks_16 : decode cX6_blanks 16 = .ok (.getfield 168, 3) := by decide +kernel
theorem dX6_blanks_19 : decode cX6_blanks 19 = .ok (.baload, 1) := by decide +kernel
theorem dX6_blanks_20 : decode cX6_blanks 20 = .ok (.bipush 32, 2) := by decide +kernel
theorem dX6_blanks_22 : decode cX6_blanks 22 = .ok (.if_icmp .eq 17, 3) := by decide +kernel
theorem dX6_blanks_25 : decode cX6_blanks 25 = .ok (.aload_n 0, 1) := by decide +kernel
theorem dX6_blanks_26 : decode cX6_blanks 26 = .ok (.getfield 55, 3) := by decide +kernel
theorem dX6_blanks_29 : decode cX6_blanks 29 = .ok (.aload_n 0, 1) := by decide +kernel
theorem dX6_blanks_30 : decode cX6_blanks 30 = .ok (.getfield 168, 3) := by decide +kernel
theorem dX6_blanks_33 : decode cX6_blanks 33 = .ok (.baload, 1) := by decide +kernel
theorem dX6_blanks_34 : decode cX6_blanks 34 = .ok (.bipush 10, 2) := by decide +kernel
theorem dX6_blanks_36 : decode cX6_blanks 36 = .ok (.if_icmp .ne 16, 3) := by decide +kernel
theorem dX6_blanks_39 : decode cX6_blanks 39 = .ok (.aload_n 0, 1) := by decide +kernel
theorem dX6_blanks_40 : decode cX6_blanks 40 = .ok (.dup, 1) := by decide +kernel
theorem dX6_blanks_41 : decode cX6_blanks 41 = .ok (.getfield 168, 3) := by decide +kernel
theorem dX6_blanks_44 : decode cX6_blanks 44 = .ok (.iconst 1, 1) := by decide +kernel
theorem dX6_blanks_45 : decode cX6_blanks 45 = .ok (.iadd, 1) := by decide +kernel
theorem dX6_blanks_46 : decode cX6_blanks 46 = .ok (.putfield 168, 3) := by decide +kernel
theorem dX6_blanks_49 : decode cX6_blanks 49 = .ok (.goto (-49), 3) := by decide +kernel
theorem dX6_blanks_52 : decode cX6_blanks 52 = .ok (.return_, 1) := by decide +kernel
set_option maxRecDepth 20000 in
theorem ggX6_word_X6_blanks : GoodIn wsX6_word wsX6_blanks := goodIn_r _ [9, 1, 3, 4, 10, 11, 12, 13, 14, 15, 16, 17, 18, 19, 20, 21, 22, 23, 24, 25, 26, 27, 28, 29, 30, 31, 32, 33, 34, 35, 36, 37, 38, 39, 40, 41, 42, 43, 44, 45, 46, 47, 48, 49, 50, 51] (by decide +kernel) (by decide +kernel)
set_option maxRecDepth 20000 in
theorem gX6_word_X6_blanks : GoodIn wsX6_word (wsV RX6 174 RX6 yX6_blanks wsX6_blanks) := goodIn_app (goodIn_of _ (by decide +kernel)) ggX6_word_X6_blanks
theorem dX6_word_0 : decode cX6_word 0 = .ok (.aload_n 0, 1) := by decide +kernel
theorem dX6_word_1 : decode cX6_word 1 = .ok (.invokevirtual 174, 3) := by decide +kernel
theorem dX6_word_4 : decode cX6_word 4 = .ok (.aload_n 0, 1) := by decide +kernel
theorem dX6_word_5 : decode cX6_word 5 = .ok (.aload_n 0, 1) := by decide +kernel
theorem dX6_word_6 : decode cX6_word 6 = .ok (.getfield 168, 3) := by decide +kernel
theorem dX6_word_9 : decode cX6_word 9 = .ok (.putfield 177, 3) := by decide +kernel
theorem dX6_word_12 : decode cX6_word 12 = .ok (.lconst 0, 1) := by decide +kernel
theorem dX6_word_13 : decode cX6_word 13 = .ok (.lstore_n 1, 1) := by decide +kernel
theorem dX6_word_14 : decode cX6_word 14 = .ok (.aload_n 0, 1) := by decide +kernel
theorem dX6_word_15 : decode cX6_word 15 = .ok (.getfield 177, 3) := by decide +kernel
theorem dX6_word_18 : decode cX6_word 18 = .ok (.aload_n 0, 1) := by decide +kernel
theorem dX6_word_19 : decode cX6_word 19 = .ok (.getfield 171, 3) := by decide +kernel
theorem dX6_word_22 : decode cX6_word 22 = .ok (.if_icmp .ge 78, 3) := by decide +kernel
theorem dX6_word_25 : decode cX6_word 25 = .ok (.aload_n 0, 1) := by decide +kernel
theorem dX6_word_26 : decode cX6_word 26 = .ok (.getfield 55, 3) := by decide +kernel
theorem dX6_word_29 : decode cX6_word 29 = .ok (.aload_n 0, 1) := by decide +kernel
theorem dX6_word_30 : decode cX6_word 30 = .ok (.getfield 177, 3) := by decide +kernel
theorem dX6_word_33 : decode cX6_word 33 = .ok (.baload, 1) := by decide +kernel
theorem dX6_word_34 : decode cX6_word 34 = .ok (.bipush 97, 2) := by decide +kernel
theorem dX6_word_36 : decode cX6_word 36 = .ok (.if_icmp .lt 64, 3) := by decide +kernel
theorem dX6_word_39 : decode cX6_word 39 = .ok (.aload_n 0, 1) := by decide +kernel
theorem dX6_word_40 : decode cX6_word 40 = .ok (.getfield 55, 3) := by decide +kernel
theorem dX6_word_43 : decode cX6_word 43 = .ok (.aload_n 0, 1) := by decide +kernel
theorem dX6_word_44 : decode cX6_word 44 = .ok (.getfield 177, 3) := by decide +kernel
theorem dX6_word_47 : decode cX6_word 47 = .ok (.baload, 1) := by decide +kernel
theorem dX6_word_48 : decode cX6_word 48 = .ok (.bipush 122, 2) := by decide +kernel
theorem dX6_word_50 : decode cX6_word 50 = .ok (.if_icmp .gt 50, 3) := by decide +kernel
theorem dX6_word_53 : decode cX6_word 53 = .ok (.aload_n 0, 1) := by decide +kernel
theorem dX6_word_54 : decode cX6_word 54 = .ok (.getfield 177, 3) := by decide +kernel
theorem dX6_word_57 : decode cX6_word 57 = .ok (.aload_n 0, 1) := by decide +kernel
theorem dX6_word_58 : decode cX6_word 58 = .ok (.getfield 168, 3) := by decide +kernel
theorem dX6_word_61 : decode cX6_word 61 = .ok (.isub, 1) := by decide +kernel
theorem dX6_word_62 : decode cX6_word 62 = .ok (.bipush 7, 2) := by decide +kernel
theorem dX6_word_64 : decode cX6_word 64 = .ok (.if_icmp .ge 21, 3) := by decide +kernel
theorem dX6_word_67 : decode cX6_word 67 = .ok (.lload_n 1, 1) := by decide +kernel
theorem dX6_word_68 : decode cX6_word 68 = .ok (.bipush 8, 2) := by decide +kernel
theorem dX6_word_70 : decode cX6_word 70 = .ok (.lshl, 1) := by decide +kernel
theorem dX6_word_71 : decode cX6_word 71 = .ok (.aload_n 0, 1) := by decide +kernel
theorem dX6_word_72 : decode cX6_word 72 = .ok (.getfield 55, 3) := by decide +kernel
theorem dX6_word_75 : decode cX6_word 75 = .ok (.aload_n 0, 1) := by decide +kernel
theorem dX6_word_76 : decode cX6_word 76 = .ok (.getfield 177, 3) := by decide +kernel
theorem dX6_word_79 : decode cX6_word 79 = .ok (.baload, 1) := by decide +kernel
theorem dX6_word_80 : decode cX6_word 80 = .ok (.i2l, 1) := by decide +kernel
theorem dX6_word_81 : decode cX6_word 81 = .ok (.lor, 1) := by decide +kernel
theorem dX6_word_82 : decode cX6_word 82 = .ok (.goto 4, 3) := by decide +kernel
theorem dX6_word_85 : decode cX6_word 85 = .ok (.lconst 0, 1) := by decide +kernel
theorem dX6_word_86 : decode cX6_word 86 = .ok (.lstore_n 1, 1) := by decide +kernel
theorem dX6_word_87 : decode cX6_word 87 = .ok (.aload_n 0, 1) := by decide +kernel
theorem dX6_word_88 : decode cX6_word 88 = .ok (.dup, 1) := by decide +kernel
theorem dX6_word_89 : decode cX6_word 89 = .ok (.getfield 177, 3) := by decide +kernel
theorem dX6_word_92 : decode cX6_word 92 = .ok (.iconst 1, 1) := by decide +kernel
theorem dX6_word_93 : decode cX6_word 93 = .ok (.iadd, 1) := by decide +kernel
theorem dX6_word_94 : decode cX6_word 94 = .ok (.putfield 177, 3) := by decide +kernel
theorem dX6_word_97 : decode cX6_word 97 = .ok (.goto (-83), 3) := by decide +kernel
theorem dX6_word_100 : decode cX6_word 100 = .ok (.aload_n 0, 1) := by decide +kernel
theorem dX6_word_101 : decode cX6_word 101 = .ok (.getfield 177, 3) := by decide +kernel
theorem dX6_word_104 : decode cX6_word 104 = .ok (.aload_n 0, 1) := by decide +kernel
theorem dX6_word_105 : decode cX6_word 105 = .ok (.getfield 168, 3) := by decide +kernel
theorem dX6_word_108 : decode cX6_word 108 = .ok (.isub, 1) := by decide +kernel
theorem dX6_word_109 : decode cX6_word 109 = .ok (.bipush 7, 2) := by decide +kernel
theorem dX6_word_111 : decode cX6_word 111 = .ok (.if_icmp .le 7, 3) := by decide +kernel
theorem dX6_word_114 : decode cX6_word 114 = .ok (.lconst 0, 1) := by decide +kernel
theorem dX6_word_115 : decode cX6_word 115 = .ok (.goto 4, 3) := by decide +kernel
theorem dX6_word_118 : decode cX6_word 118 = .ok (.lload_n 1, 1) := by decide +kernel
theorem dX6_word_119 : decode cX6_word 119 = .ok (.lreturn, 1) := by decide +kernel
set_option maxRecDepth 20000 in
theorem ggX6_takes_X6_word : GoodIn wsX6_takes wsX6_word := goodIn_r _ [7, 2, 1, 8, 9, 10, 11, 12, 6, 13, 14, 15, 16, 17, 18, 19, 20, 21, 22, 23, 24, 25, 26, 27, 28, 29, 30, 31, 32, 33, 34, 35, 36, 37, 38, 39, 40, 41, 42, 43, 44, 45, 46, 47, 48, 49, 50, 51, 52, 53, 54, 55] (by decide +kernel) (by decide +kernel)
set_option maxRecDepth 20000 in
theorem gX6_takes_X6_word : GoodIn wsX6_takes (wsV RX6 180 RX6 yX6_word wsX6_word) := goodIn_app (goodIn_of _ (by decide +kernel)) ggX6_takes_X6_word
theorem dX6_takes_0 : decode cX6_takes 0 = .ok (.aload_n 0, 1) := by decide +kernel
theorem dX6_takes_1 : decode cX6_takes 1 = .ok (.invokevirtual 180, 3) := by decide +kernel
theorem dX6_takes_4 : decode cX6_takes 4 = .ok (.lload_n 1, 1) := by decide +kernel
theorem dX6_takes_5 : decode cX6_takes 5 = .ok (.lcmp, 1) := by decide +kernel
theorem dX6_takes_6 : decode cX6_takes 6 = .ok (.ifCond .eq 5, 3) := by decide +kernel
theorem dX6_takes_9 : decode cX6_takes 9 = .ok (.iconst 0, 1) := by decide +kernel
theorem dX6_takes_10 : decode cX6_takes 10 = .ok (.ireturn, 1) := by decide +kernel
theorem dX6_takes_11 : decode cX6_takes 11 = .ok (.aload_n 0, 1) := by decide +kernel
theorem dX6_takes_12 : decode cX6_takes 12 = .ok (.aload_n 0, 1) := by decide +kernel
theorem dX6_takes_13 : decode cX6_takes 13 = .ok (.getfield 177, 3) := by decide +kernel
theorem dX6_takes_16 : decode cX6_takes 16 = .ok (.putfield 168, 3) := by decide +kernel
theorem dX6_takes_19 : decode cX6_takes 19 = .ok (.iconst 1, 1) := by decide +kernel
theorem dX6_takes_20 : decode cX6_takes 20 = .ok (.ireturn, 1) := by decide +kernel
set_option maxRecDepth 20000 in
theorem ggX6_takesNumber_X6_blanks : GoodIn wsX6_takesNumber wsX6_blanks := goodIn_r _ [9, 1, 3, 4, 10, 11, 12, 13, 14, 15, 16, 17, 18, 19, 20, 21, 22, 23, 24, 25, 26, 27, 28, 29, 30, 31, 32, 33, 34, 35, 36, 37, 38, 39, 40, 41, 42, 43, 44, 45, 46, 47, 48, 49, 50, 51] (by decide +kernel) (by decide +kernel)
set_option maxRecDepth 20000 in
theorem gX6_takesNumber_X6_blanks : GoodIn wsX6_takesNumber (wsV RX6 174 RX6 yX6_blanks wsX6_blanks) := goodIn_app (goodIn_of _ (by decide +kernel)) ggX6_takesNumber_X6_blanks
theorem dX6_takesNumber_0 : decode cX6_takesNumber 0 = .ok (.aload_n 0, 1) := by decide +kernel
theorem dX6_takesNumber_1 : decode cX6_takesNumber 1 = .ok (.invokevirtual 174, 3) := by decide +kernel
theorem dX6_takesNumber_4 : decode cX6_takesNumber 4 = .ok (.aload_n 0, 1) := by decide +kernel
theorem dX6_takesNumber_5 : decode cX6_takesNumber 5 = .ok (.getfield 168, 3) := by decide +kernel
theorem dX6_takesNumber_8 : decode cX6_takesNumber 8 = .ok (.istore_n 2, 1) := by decide +kernel
theorem dX6_takesNumber_9 : decode cX6_takesNumber 9 = .ok (.aload_n 0, 1) := by decide +kernel
theorem dX6_takesNumber_10 : decode cX6_takesNumber 10 = .ok (.iconst 0, 1) := by decide +kernel
theorem dX6_takesNumber_11 : decode cX6_takesNumber 11 = .ok (.putfield 184, 3) := by decide +kernel
theorem dX6_takesNumber_14 : decode cX6_takesNumber 14 = .ok (.iload_n 2, 1) := by decide +kernel
theorem dX6_takesNumber_15 : decode cX6_takesNumber 15 = .ok (.aload_n 0, 1) := by decide +kernel
theorem dX6_takesNumber_16 : decode cX6_takesNumber 16 = .ok (.getfield 171, 3) := by decide +kernel
theorem dX6_takesNumber_19 : decode cX6_takesNumber 19 = .ok (.if_icmp .ge 62, 3) := by decide +kernel
theorem dX6_takesNumber_22 : decode cX6_takesNumber 22 = .ok (.aload_n 0, 1) := by decide +kernel
theorem dX6_takesNumber_23 : decode cX6_takesNumber 23 = .ok (.getfield 55, 3) := by decide +kernel
theorem dX6_takesNumber_26 : decode cX6_takesNumber 26 = .ok (.iload_n 2, 1) := by decide +kernel
theorem dX6_takesNumber_27 : decode cX6_takesNumber 27 = .ok (.baload, 1) := by decide +kernel
theorem dX6_takesNumber_28 : decode cX6_takesNumber 28 = .ok (.bipush 48, 2) := by decide +kernel
theorem dX6_takesNumber_30 : decode cX6_takesNumber 30 = .ok (.if_icmp .lt 51, 3) := by decide +kernel
theorem dX6_takesNumber_33 : decode cX6_takesNumber 33 = .ok (.aload_n 0, 1) := by decide +kernel
theorem dX6_takesNumber_34 : decode cX6_takesNumber 34 = .ok (.getfield 55, 3) := by decide +kernel
theorem dX6_takesNumber_37 : decode cX6_takesNumber 37 = .ok (.iload_n 2, 1) := by decide +kernel
theorem dX6_takesNumber_38 : decode cX6_takesNumber 38 = .ok (.baload, 1) := by decide +kernel
theorem dX6_takesNumber_39 : decode cX6_takesNumber 39 = .ok (.bipush 57, 2) := by decide +kernel
theorem dX6_takesNumber_41 : decode cX6_takesNumber 41 = .ok (.if_icmp .gt 40, 3) := by decide +kernel
theorem dX6_takesNumber_44 : decode cX6_takesNumber 44 = .ok (.iload_n 2, 1) := by decide +kernel
theorem dX6_takesNumber_45 : decode cX6_takesNumber 45 = .ok (.aload_n 0, 1) := by decide +kernel
theorem dX6_takesNumber_46 : decode cX6_takesNumber 46 = .ok (.getfield 168, 3) := by decide +kernel
theorem dX6_takesNumber_49 : decode cX6_takesNumber 49 = .ok (.isub, 1) := by decide +kernel
theorem dX6_takesNumber_50 : decode cX6_takesNumber 50 = .ok (.iconst 5, 1) := by decide +kernel
theorem dX6_takesNumber_51 : decode cX6_takesNumber 51 = .ok (.if_icmp .ge 24, 3) := by decide +kernel
theorem dX6_takesNumber_54 : decode cX6_takesNumber 54 = .ok (.aload_n 0, 1) := by decide +kernel
theorem dX6_takesNumber_55 : decode cX6_takesNumber 55 = .ok (.bipush 10, 2) := by decide +kernel
theorem dX6_takesNumber_57 : decode cX6_takesNumber 57 = .ok (.aload_n 0, 1) := by decide +kernel
theorem dX6_takesNumber_58 : decode cX6_takesNumber 58 = .ok (.getfield 184, 3) := by decide +kernel
theorem dX6_takesNumber_61 : decode cX6_takesNumber 61 = .ok (.imul, 1) := by decide +kernel
theorem dX6_takesNumber_62 : decode cX6_takesNumber 62 = .ok (.aload_n 0, 1) := by decide +kernel
theorem dX6_takesNumber_63 : decode cX6_takesNumber 63 = .ok (.getfield 55, 3) := by decide +kernel
theorem dX6_takesNumber_66 : decode cX6_takesNumber 66 = .ok (.iload_n 2, 1) := by decide +kernel
theorem dX6_takesNumber_67 : decode cX6_takesNumber 67 = .ok (.baload, 1) := by decide +kernel
theorem dX6_takesNumber_68 : decode cX6_takesNumber 68 = .ok (.iadd, 1) := by decide +kernel
theorem dX6_takesNumber_69 : decode cX6_takesNumber 69 = .ok (.bipush 48, 2) := by decide +kernel
theorem dX6_takesNumber_71 : decode cX6_takesNumber 71 = .ok (.isub, 1) := by decide +kernel
theorem dX6_takesNumber_72 : decode cX6_takesNumber 72 = .ok (.putfield 184, 3) := by decide +kernel
theorem dX6_takesNumber_75 : decode cX6_takesNumber 75 = .ok (.iinc 2 1, 3) := by decide +kernel
theorem dX6_takesNumber_78 : decode cX6_takesNumber 78 = .ok (.goto (-64), 3) := by decide +kernel
theorem dX6_takesNumber_81 : decode cX6_takesNumber 81 = .ok (.iload_n 2, 1) := by decide +kernel
theorem dX6_takesNumber_82 : decode cX6_takesNumber 82 = .ok (.aload_n 0, 1) := by decide +kernel
theorem dX6_takesNumber_83 : decode cX6_takesNumber 83 = .ok (.getfield 168, 3) := by decide +kernel
theorem dX6_takesNumber_86 : decode cX6_takesNumber 86 = .ok (.if_icmp .eq 21, 3) := by decide +kernel
theorem dX6_takesNumber_89 : decode cX6_takesNumber 89 = .ok (.iload_n 2, 1) := by decide +kernel
theorem dX6_takesNumber_90 : decode cX6_takesNumber 90 = .ok (.aload_n 0, 1) := by decide +kernel
theorem dX6_takesNumber_91 : decode cX6_takesNumber 91 = .ok (.getfield 168, 3) := by decide +kernel
theorem dX6_takesNumber_94 : decode cX6_takesNumber 94 = .ok (.isub, 1) := by decide +kernel
theorem dX6_takesNumber_95 : decode cX6_takesNumber 95 = .ok (.iconst 5, 1) := by decide +kernel
theorem dX6_takesNumber_96 : decode cX6_takesNumber 96 = .ok (.if_icmp .gt 11, 3) := by decide +kernel
theorem dX6_takesNumber_99 : decode cX6_takesNumber 99 = .ok (.aload_n 0, 1) := by decide +kernel
theorem dX6_takesNumber_100 : decode cX6_takesNumber 100 = .ok (.getfield 184, 3) := by decide +kernel
theorem dX6_takesNumber_103 : decode cX6_takesNumber 103 = .ok (.iload_n 1, 1) := by decide +kernel
theorem dX6_takesNumber_104 : decode cX6_takesNumber 104 = .ok (.if_icmp .le 5, 3) := by decide +kernel
theorem dX6_takesNumber_107 : decode cX6_takesNumber 107 = .ok (.iconst 0, 1) := by decide +kernel
theorem dX6_takesNumber_108 : decode cX6_takesNumber 108 = .ok (.ireturn, 1) := by decide +kernel
theorem dX6_takesNumber_109 : decode cX6_takesNumber 109 = .ok (.aload_n 0, 1) := by decide +kernel
theorem dX6_takesNumber_110 : decode cX6_takesNumber 110 = .ok (.iload_n 2, 1) := by decide +kernel
theorem dX6_takesNumber_111 : decode cX6_takesNumber 111 = .ok (.putfield 168, 3) := by decide +kernel
theorem dX6_takesNumber_114 : decode cX6_takesNumber 114 = .ok (.iconst 1, 1) := by decide +kernel
theorem dX6_takesNumber_115 : decode cX6_takesNumber 115 = .ok (.ireturn, 1) := by decide +kernel
set_option maxRecDepth 20000 in
theorem ggX6_test_X6_word : GoodIn wsX6_test wsX6_word := goodIn_r _ [17, 6, 5, 7, 8, 18, 19, 20, 16, 21, 26, 27, 28, 29, 30, 31, 32, 33, 34, 35, 36, 37, 38, 39, 40, 41, 42, 43, 44, 45, 46, 47, 48, 49, 50, 51, 52, 53, 54, 55, 56, 57, 58, 59, 60, 61, 62, 63, 64, 65, 66, 67] (by decide +kernel) (by decide +kernel)
set_option maxRecDepth 20000 in
theorem gX6_test_X6_word : GoodIn wsX6_test (wsV RX6 180 RX6 yX6_word wsX6_word) := goodIn_app (goodIn_of _ (by decide +kernel)) ggX6_test_X6_word
set_option maxRecDepth 20000 in
theorem ggX6_test_X6_blanks : GoodIn wsX6_test wsX6_blanks := goodIn_r _ [21, 6, 7, 8, 26, 27, 28, 29, 30, 31, 32, 33, 34, 35, 36, 37, 38, 39, 40, 41, 42, 43, 44, 45, 46, 47, 48, 49, 50, 51, 52, 53, 54, 55, 56, 57, 58, 59, 60, 61, 62, 63, 64, 65, 66, 67] (by decide +kernel) (by decide +kernel)
set_option maxRecDepth 20000 in
theorem gX6_test_X6_blanks : GoodIn wsX6_test (wsV RX6 174 RX6 yX6_blanks wsX6_blanks) := goodIn_app (goodIn_of _ (by decide +kernel)) ggX6_test_X6_blanks
set_option maxRecDepth 20000 in
theorem ggX6_test_X6_takesNumber : GoodIn wsX6_test wsX6_takesNumber := goodIn_r _ [25, 6, 12, 7, 8, 18, 19, 20, 16, 21, 26, 27, 28, 29, 30, 31, 32, 33, 34, 35, 36, 37, 38, 39, 40, 41, 42, 43, 44, 45, 46, 47, 48, 49, 50, 51, 52, 53, 54, 55, 56, 57, 58, 59, 60, 61, 62, 63, 64, 65, 66, 67] (by decide +kernel) (by decide +kernel)
set_option maxRecDepth 20000 in
theorem gX6_test_X6_takesNumber : GoodIn wsX6_test (wsV RX6 194 RX6 yX6_takesNumber wsX6_takesNumber) := goodIn_app (goodIn_of _ (by decide +kernel)) ggX6_test_X6_takesNumber
theorem dX6_test_0 : decode cX6_test 0 = .ok (.aload_n 0, 1) := by decide +kernel
theorem dX6_test_1 : decode cX6_test 1 = .ok (.invokevirtual 180, 3) := by decide +kernel
theorem dX6_test_4 : decode cX6_test 4 = .ok (.lstore_n 2, 1) := by decide +kernel
theorem dX6_test_5 : decode cX6_test 5 = .ok (.aload_n 0, 1) := by decide +kernel
theorem dX6_test_6 : decode cX6_test 6 = .ok (.getfield 74, 3) := by decide +kernel
theorem dX6_test_9 : decode cX6_test 9 = .ok (.iload_n 1, 1) := by decide +kernel
theorem dX6_test_10 : decode cX6_test 10 = .ok (.lload_n 2, 1) := by decide +kernel
theorem dX6_test_11 : decode cX6_test 11 = .ok (.ldc2_w 187, 3) := by decide +kernel
theorem dX6_test_14 : decode cX6_test 14 = .ok (.lcmp, 1) := by decide +kernel
theorem dX6_test_15 : decode cX6_test 15 = .ok (.ifCond .ne 7, 3) := by decide +kernel
theorem dX6_test_18 : decode cX6_test 18 = .ok (.iconst 0, 1) := by decide +kernel
theorem dX6_test_19 : decode cX6_test 19 = .ok (.goto 28, 3) := by decide +kernel
theorem dX6_test_22 : decode cX6_test 22 = .ok (.lload_n 2, 1) := by decide +kernel
theorem dX6_test_23 : decode cX6_test 23 = .ok (.ldc2_w 189, 3) := by decide +kernel
theorem dX6_test_26 : decode cX6_test 26 = .ok (.lcmp, 1) := by decide +kernel
theorem dX6_test_27 : decode cX6_test 27 = .ok (.ifCond .ne 7, 3) := by decide +kernel
theorem dX6_test_30 : decode cX6_test 30 = .ok (.iconst 1, 1) := by decide +kernel
theorem dX6_test_31 : decode cX6_test 31 = .ok (.goto 16, 3) := by decide +kernel
theorem dX6_test_34 : decode cX6_test 34 = .ok (.lload_n 2, 1) := by decide +kernel
theorem dX6_test_35 : decode cX6_test 35 = .ok (.ldc2_w 191, 3) := by decide +kernel
theorem dX6_test_38 : decode cX6_test 38 = .ok (.lcmp, 1) := by decide +kernel
theorem dX6_test_39 : decode cX6_test 39 = .ok (.ifCond .ne 7, 3) := by decide +kernel
theorem dX6_test_42 : decode cX6_test 42 = .ok (.iconst 2, 1) := by decide +kernel
theorem dX6_test_43 : decode cX6_test 43 = .ok (.goto 4, 3) := by decide +kernel
theorem dX6_test_46 : decode cX6_test 46 = .ok (.iconst (-1), 1) := by decide +kernel
theorem dX6_test_47 : decode cX6_test 47 = .ok (.iastore, 1) := by decide +kernel
theorem dX6_test_48 : decode cX6_test 48 = .ok (.aload_n 0, 1) := by decide +kernel
theorem dX6_test_49 : decode cX6_test 49 = .ok (.getfield 74, 3) := by decide +kernel
theorem dX6_test_52 : decode cX6_test 52 = .ok (.iload_n 1, 1) := by decide +kernel
theorem dX6_test_53 : decode cX6_test 53 = .ok (.iaload, 1) := by decide +kernel
theorem dX6_test_54 : decode cX6_test 54 = .ok (.iconst (-1), 1) := by decide +kernel
theorem dX6_test_55 : decode cX6_test 55 = .ok (.if_icmp .ne 5, 3) := by decide +kernel
theorem dX6_test_58 : decode cX6_test 58 = .ok (.iconst 0, 1) := by decide +kernel
theorem dX6_test_59 : decode cX6_test 59 = .ok (.ireturn, 1) := by decide +kernel
theorem dX6_test_60 : decode cX6_test 60 = .ok (.aload_n 0, 1) := by decide +kernel
theorem dX6_test_61 : decode cX6_test 61 = .ok (.aload_n 0, 1) := by decide +kernel
theorem dX6_test_62 : decode cX6_test 62 = .ok (.getfield 177, 3) := by decide +kernel
theorem dX6_test_65 : decode cX6_test 65 = .ok (.putfield 168, 3) := by decide +kernel
theorem dX6_test_68 : decode cX6_test 68 = .ok (.aload_n 0, 1) := by decide +kernel
theorem dX6_test_69 : decode cX6_test 69 = .ok (.invokevirtual 174, 3) := by decide +kernel
theorem dX6_test_72 : decode cX6_test 72 = .ok (.aload_n 0, 1) := by decide +kernel
theorem dX6_test_73 : decode cX6_test 73 = .ok (.getfield 168, 3) := by decide +kernel
theorem dX6_test_76 : decode cX6_test 76 = .ok (.aload_n 0, 1) := by decide +kernel
theorem dX6_test_77 : decode cX6_test 77 = .ok (.getfield 171, 3) := by decide +kernel
theorem dX6_test_80 : decode cX6_test 80 = .ok (.if_icmp .eq 45, 3) := by decide +kernel
theorem dX6_test_83 : decode cX6_test 83 = .ok (.aload_n 0, 1) := by decide +kernel
theorem dX6_test_84 : decode cX6_test 84 = .ok (.getfield 55, 3) := by decide +kernel
theorem dX6_test_87 : decode cX6_test 87 = .ok (.aload_n 0, 1) := by decide +kernel
theorem dX6_test_88 : decode cX6_test 88 = .ok (.getfield 168, 3) := by decide +kernel
theorem dX6_test_91 : decode cX6_test 91 = .ok (.baload, 1) := by decide +kernel
theorem dX6_test_92 : decode cX6_test 92 = .ok (.bipush 60, 2) := by decide +kernel
theorem dX6_test_94 : decode cX6_test 94 = .ok (.if_icmp .eq 33, 3) := by decide +kernel
theorem dX6_test_97 : decode cX6_test 97 = .ok (.aload_n 0, 1) := by decide +kernel
theorem dX6_test_98 : decode cX6_test 98 = .ok (.getfield 55, 3) := by decide +kernel
theorem dX6_test_101 : decode cX6_test 101 = .ok (.aload_n 0, 1) := by decide +kernel
theorem dX6_test_102 : decode cX6_test 102 = .ok (.getfield 168, 3) := by decide +kernel
theorem dX6_test_105 : decode cX6_test 105 = .ok (.baload, 1) := by decide +kernel
theorem dX6_test_106 : decode cX6_test 106 = .ok (.bipush 62, 2) := by decide +kernel
theorem dX6_test_108 : decode cX6_test 108 = .ok (.if_icmp .eq 19, 3) := by decide +kernel
theorem dX6_test_111 : decode cX6_test 111 = .ok (.aload_n 0, 1) := by decide +kernel
theorem dX6_test_112 : decode cX6_test 112 = .ok (.getfield 55, 3) := by decide +kernel
theorem dX6_test_115 : decode cX6_test 115 = .ok (.aload_n 0, 1) := by decide +kernel
theorem dX6_test_116 : decode cX6_test 116 = .ok (.getfield 168, 3) := by decide +kernel
theorem dX6_test_119 : decode cX6_test 119 = .ok (.baload, 1) := by decide +kernel
theorem dX6_test_120 : decode cX6_test 120 = .ok (.bipush 61, 2) := by decide +kernel
theorem dX6_test_122 : decode cX6_test 122 = .ok (.if_icmp .eq 5, 3) := by decide +kernel
theorem dX6_test_125 : decode cX6_test 125 = .ok (.iconst 0, 1) := by decide +kernel
theorem dX6_test_126 : decode cX6_test 126 = .ok (.ireturn, 1) := by decide +kernel
theorem dX6_test_127 : decode cX6_test 127 = .ok (.aload_n 0, 1) := by decide +kernel
theorem dX6_test_128 : decode cX6_test 128 = .ok (.getfield 77, 3) := by decide +kernel
theorem dX6_test_131 : decode cX6_test 131 = .ok (.iload_n 1, 1) := by decide +kernel
theorem dX6_test_132 : decode cX6_test 132 = .ok (.aload_n 0, 1) := by decide +kernel
theorem dX6_test_133 : decode cX6_test 133 = .ok (.getfield 55, 3) := by decide +kernel
theorem dX6_test_136 : decode cX6_test 136 = .ok (.aload_n 0, 1) := by decide +kernel
theorem dX6_test_137 : decode cX6_test 137 = .ok (.getfield 168, 3) := by decide +kernel
theorem dX6_test_140 : decode cX6_test 140 = .ok (.baload, 1) := by decide +kernel
theorem dX6_test_141 : decode cX6_test 141 = .ok (.iastore, 1) := by decide +kernel
theorem dX6_test_142 : decode cX6_test 142 = .ok (.aload_n 0, 1) := by decide +kernel
theorem dX6_test_143 : decode cX6_test 143 = .ok (.dup, 1) := by decide +kernel
theorem dX6_test_144 : decode cX6_test 144 = .ok (.getfield 168, 3) := by decide +kernel
theorem dX6_test_147 : decode cX6_test 147 = .ok (.iconst 1, 1) := by decide +kernel
theorem dX6_test_148 : decode cX6_test 148 = .ok (.iadd, 1) := by decide +kernel
theorem dX6_test_149 : decode cX6_test 149 = .ok (.putfield 168, 3) := by decide +kernel
theorem dX6_test_152 : decode cX6_test 152 = .ok (.aload_n 0, 1) := by decide +kernel
theorem dX6_test_153 : decode cX6_test 153 = .ok (.ldc 193, 2) := by decide +kernel
theorem dX6_test_155 : decode cX6_test 155 = .ok (.invokevirtual 194, 3) := by decide +kernel
theorem dX6_test_158 : decode cX6_test 158 = .ok (.ifCond .ne 5, 3) := by decide +kernel
theorem dX6_test_161 : decode cX6_test 161 = .ok (.iconst 0, 1) := by decide +kernel
theorem dX6_test_162 : decode cX6_test 162 = .ok (.ireturn, 1) := by decide +kernel
theorem dX6_test_163 : decode cX6_test 163 = .ok (.aload_n 0, 1) := by decide +kernel
theorem dX6_test_164 : decode cX6_test 164 = .ok (.getfield 80, 3) := by decide +kernel
theorem dX6_test_167 : decode cX6_test 167 = .ok (.iload_n 1, 1) := by decide +kernel
theorem dX6_test_168 : decode cX6_test 168 = .ok (.aload_n 0, 1) := by decide +kernel
theorem dX6_test_169 : decode cX6_test 169 = .ok (.getfield 184, 3) := by decide +kernel
theorem dX6_test_172 : decode cX6_test 172 = .ok (.iastore, 1) := by decide +kernel
theorem dX6_test_173 : decode cX6_test 173 = .ok (.iconst 1, 1) := by decide +kernel
theorem dX6_test_174 : decode cX6_test 174 = .ok (.ireturn, 1) := by decide +kernel
set_option maxRecDepth 20000 in
theorem ggX6_statement_X6_takes : GoodIn wsX6_statement wsX6_takes := goodIn_r _ [18, 19, 11, 20, 21, 22, 17, 23, 12, 13, 24, 25, 26, 27, 42, 43, 44, 45, 46, 47, 48, 49, 50, 51, 52, 53, 54, 55, 56, 57, 58, 59, 60, 61, 62, 63, 64, 65, 66, 67, 68, 69, 70, 71, 72, 73, 74, 75, 76, 77, 78, 79, 80, 81, 82, 83] (by decide +kernel) (by decide +kernel)
set_option maxRecDepth 20000 in
theorem gX6_statement_X6_takes : GoodIn wsX6_statement (wsV RX6 199 RX6 yX6_takes wsX6_takes) := goodIn_app (goodIn_of _ (by decide +kernel)) ggX6_statement_X6_takes
set_option maxRecDepth 20000 in
theorem ggX6_statement_X6_takesNumber : GoodIn wsX6_statement wsX6_takesNumber := goodIn_r _ [31, 11, 8, 12, 13, 24, 25, 26, 17, 27, 42, 43, 44, 45, 46, 47, 48, 49, 50, 51, 52, 53, 54, 55, 56, 57, 58, 59, 60, 61, 62, 63, 64, 65, 66, 67, 68, 69, 70, 71, 72, 73, 74, 75, 76, 77, 78, 79, 80, 81, 82, 83] (by decide +kernel) (by decide +kernel)
set_option maxRecDepth 20000 in
theorem gX6_statement_X6_takesNumber : GoodIn wsX6_statement (wsV RX6 194 RX6 yX6_takesNumber wsX6_takesNumber) := goodIn_app (goodIn_of _ (by decide +kernel)) ggX6_statement_X6_takesNumber
set_option maxRecDepth 20000 in
theorem ggX6_statement_X6_blanks : GoodIn wsX6_statement wsX6_blanks := goodIn_r _ [27, 11, 12, 13, 42, 43, 44, 45, 46, 47, 48, 49, 50, 51, 52, 53, 54, 55, 56, 57, 58, 59, 60, 61, 62, 63, 64, 65, 66, 67, 68, 69, 70, 71, 72, 73, 74, 75, 76, 77, 78, 79, 80, 81, 82, 83] (by decide +kernel) (by decide +kernel)
set_option maxRecDepth 20000 in
theorem gX6_statement_X6_blanks : GoodIn wsX6_statement (wsV RX6 174 RX6 yX6_blanks wsX6_blanks) := goodIn_app (goodIn_of _ (by decide +kernel)) ggX6_statement_X6_blanks
set_option maxRecDepth 20000 in
theorem ggX6_statement_X6_test : GoodIn wsX6_statement wsX6_test := goodIn_r _ [35, 36, 37, 38, 39, 19, 11, 12, 13, 40, 6, 41, 8, 20, 21, 22, 17, 23, 24, 25, 26, 27, 28, 29, 30, 31, 42, 43, 44, 45, 46, 47, 48, 49, 50, 51, 52, 53, 54, 55, 56, 57, 58, 59, 60, 61, 62, 63, 64, 65, 66, 67, 68, 69, 70, 71, 72, 73, 74, 75, 76, 77, 78, 79, 80, 81, 82, 83] (by decide +kernel) (by decide +kernel)
set_option maxRecDepth 20000 in
theorem gX6_statement_X6_test : GoodIn wsX6_statement (wsV RX6 209 RX6 yX6_test wsX6_test) := goodIn_app (goodIn_of _ (by decide +kernel)) ggX6_statement_X6_test
theorem dX6_statement_0 : decode cX6_statement 0 = .ok (.aload_n 0, 1) := by decide +kernel
theorem dX6_statement_1 : decode cX6_statement 1 = .ok (.getfield 71, 3) := by decide +kernel
theorem dX6_statement_4 : decode cX6_statement 4 = .ok (.iload_n 1, 1) := by decide +kernel
theorem dX6_statement_5 : decode cX6_statement 5 = .ok (.iconst 0, 1) := by decide +kernel
theorem dX6_statement_6 : decode cX6_statement 6 = .ok (.iastore, 1) := by decide +kernel
theorem dX6_statement_7 : decode cX6_statement 7 = .ok (.aload_n 0, 1) := by decide +kernel
theorem dX6_statement_8 : decode cX6_statement 8 = .ok (.getfield 65, 3) := by decide +kernel
theorem dX6_statement_11 : decode cX6_statement 11 = .ok (.iload_n 1, 1) := by decide +kernel
theorem dX6_statement_12 : decode cX6_statement 12 = .ok (.aload_n 0, 1) := by decide +kernel
theorem dX6_statement_13 : decode cX6_statement 13 = .ok (.ldc2_w 197, 3) := by decide +kernel
theorem dX6_statement_16 : decode cX6_statement 16 = .ok (.invokevirtual 199, 3) := by decide +kernel
theorem dX6_statement_19 : decode cX6_statement 19 = .ok (.ifCond .eq 7, 3) := by decide +kernel
theorem dX6_statement_22 : decode cX6_statement 22 = .ok (.iconst 0, 1) := by decide +kernel
theorem dX6_statement_23 : decode cX6_statement 23 = .ok (.goto 32, 3) := by decide +kernel
theorem dX6_statement_26 : decode cX6_statement 26 = .ok (.aload_n 0, 1) := by decide +kernel
theorem dX6_statement_27 : decode cX6_statement 27 = .ok (.ldc2_w 203, 3) := by decide +kernel
theorem dX6_statement_30 : decode cX6_statement 30 = .ok (.invokevirtual 199, 3) := by decide +kernel
theorem dX6_statement_33 : decode cX6_statement 33 = .ok (.ifCond .eq 7, 3) := by decide +kernel
theorem dX6_statement_36 : decode cX6_statement 36 = .ok (.iconst 1, 1) := by decide +kernel
theorem dX6_statement_37 : decode cX6_statement 37 = .ok (.goto 18, 3) := by decide +kernel
theorem dX6_statement_40 : decode cX6_statement 40 = .ok (.aload_n 0, 1) := by decide +kernel
theorem dX6_statement_41 : decode cX6_statement 41 = .ok (.ldc2_w 205, 3) := by decide +kernel
theorem dX6_statement_44 : decode cX6_statement 44 = .ok (.invokevirtual 199, 3) := by decide +kernel
theorem dX6_statement_47 : decode cX6_statement 47 = .ok (.ifCond .eq 7, 3) := by decide +kernel
theorem dX6_statement_50 : decode cX6_statement 50 = .ok (.iconst 2, 1) := by decide +kernel
theorem dX6_statement_51 : decode cX6_statement 51 = .ok (.goto 4, 3) := by decide +kernel
theorem dX6_statement_54 : decode cX6_statement 54 = .ok (.iconst (-1), 1) := by decide +kernel
theorem dX6_statement_55 : decode cX6_statement 55 = .ok (.iastore, 1) := by decide +kernel
theorem dX6_statement_56 : decode cX6_statement 56 = .ok (.aload_n 0, 1) := by decide +kernel
theorem dX6_statement_57 : decode cX6_statement 57 = .ok (.getfield 65, 3) := by decide +kernel
theorem dX6_statement_60 : decode cX6_statement 60 = .ok (.iload_n 1, 1) := by decide +kernel
theorem dX6_statement_61 : decode cX6_statement 61 = .ok (.iaload, 1) := by decide +kernel
theorem dX6_statement_62 : decode cX6_statement 62 = .ok (.iconst (-1), 1) := by decide +kernel
theorem dX6_statement_63 : decode cX6_statement 63 = .ok (.if_icmp .eq 27, 3) := by decide +kernel
theorem dX6_statement_66 : decode cX6_statement 66 = .ok (.aload_n 0, 1) := by decide +kernel
theorem dX6_statement_67 : decode cX6_statement 67 = .ok (.aload_n 0, 1) := by decide +kernel
theorem dX6_statement_68 : decode cX6_statement 68 = .ok (.getfield 65, 3) := by decide +kernel
theorem dX6_statement_71 : decode cX6_statement 71 = .ok (.iload_n 1, 1) := by decide +kernel
theorem dX6_statement_72 : decode cX6_statement 72 = .ok (.iaload, 1) := by decide +kernel
theorem dX6_statement_73 : decode cX6_statement 73 = .ok (.iconst 2, 1) := by decide +kernel
theorem dX6_statement_74 : decode cX6_statement 74 = .ok (.if_icmp .ne 8, 3) := by decide +kernel
theorem dX6_statement_77 : decode cX6_statement 77 = .ok (.bipush 100, 2) := by decide +kernel
theorem dX6_statement_79 : decode cX6_statement 79 = .ok (.goto 5, 3) := by decide +kernel
theorem dX6_statement_82 : decode cX6_statement 82 = .ok (.ldc 193, 2) := by decide +kernel
theorem dX6_statement_84 : decode cX6_statement 84 = .ok (.invokevirtual 194, 3) := by decide +kernel
theorem dX6_statement_87 : decode cX6_statement 87 = .ok (.ifCond .ne 5, 3) := by decide +kernel
theorem dX6_statement_90 : decode cX6_statement 90 = .ok (.iconst 0, 1) := by decide +kernel
theorem dX6_statement_91 : decode cX6_statement 91 = .ok (.ireturn, 1) := by decide +kernel
theorem dX6_statement_92 : decode cX6_statement 92 = .ok (.aload_n 0, 1) := by decide +kernel
theorem dX6_statement_93 : decode cX6_statement 93 = .ok (.getfield 68, 3) := by decide +kernel
theorem dX6_statement_96 : decode cX6_statement 96 = .ok (.iload_n 1, 1) := by decide +kernel
theorem dX6_statement_97 : decode cX6_statement 97 = .ok (.aload_n 0, 1) := by decide +kernel
theorem dX6_statement_98 : decode cX6_statement 98 = .ok (.getfield 184, 3) := by decide +kernel
theorem dX6_statement_101 : decode cX6_statement 101 = .ok (.iastore, 1) := by decide +kernel
theorem dX6_statement_102 : decode cX6_statement 102 = .ok (.aload_n 0, 1) := by decide +kernel
theorem dX6_statement_103 : decode cX6_statement 103 = .ok (.getfield 65, 3) := by decide +kernel
theorem dX6_statement_106 : decode cX6_statement 106 = .ok (.iload_n 1, 1) := by decide +kernel
theorem dX6_statement_107 : decode cX6_statement 107 = .ok (.iaload, 1) := by decide +kernel
theorem dX6_statement_108 : decode cX6_statement 108 = .ok (.iconst 2, 1) := by decide +kernel
theorem dX6_statement_109 : decode cX6_statement 109 = .ok (.if_icmp .ne 17, 3) := by decide +kernel
theorem dX6_statement_112 : decode cX6_statement 112 = .ok (.aload_n 0, 1) := by decide +kernel
theorem dX6_statement_113 : decode cX6_statement 113 = .ok (.ldc2_w 207, 3) := by decide +kernel
theorem dX6_statement_116 : decode cX6_statement 116 = .ok (.invokevirtual 199, 3) := by decide +kernel
theorem dX6_statement_119 : decode cX6_statement 119 = .ok (.ifCond .eq 7, 3) := by decide +kernel
theorem dX6_statement_122 : decode cX6_statement 122 = .ok (.iconst 1, 1) := by decide +kernel
theorem dX6_statement_123 : decode cX6_statement 123 = .ok (.goto 4, 3) := by decide +kernel
theorem dX6_statement_126 : decode cX6_statement 126 = .ok (.iconst 0, 1) := by decide +kernel
theorem dX6_statement_127 : decode cX6_statement 127 = .ok (.istore_n 2, 1) := by decide +kernel
theorem dX6_statement_128 : decode cX6_statement 128 = .ok (.iload_n 2, 1) := by decide +kernel
theorem dX6_statement_129 : decode cX6_statement 129 = .ok (.ifCond .eq 57, 3) := by decide +kernel
theorem dX6_statement_132 : decode cX6_statement 132 = .ok (.aload_n 0, 1) := by decide +kernel
theorem dX6_statement_133 : decode cX6_statement 133 = .ok (.invokevirtual 174, 3) := by decide +kernel
theorem dX6_statement_136 : decode cX6_statement 136 = .ok (.aload_n 0, 1) := by decide +kernel
theorem dX6_statement_137 : decode cX6_statement 137 = .ok (.getfield 71, 3) := by decide +kernel
theorem dX6_statement_140 : decode cX6_statement 140 = .ok (.iload_n 1, 1) := by decide +kernel
theorem dX6_statement_141 : decode cX6_statement 141 = .ok (.iaload, 1) := by decide +kernel
theorem dX6_statement_142 : decode cX6_statement 142 = .ok (.iconst 3, 1) := by decide +kernel
theorem dX6_statement_143 : decode cX6_statement 143 = .ok (.if_icmp .eq 20, 3) := by decide +kernel
theorem dX6_statement_146 : decode cX6_statement 146 = .ok (.aload_n 0, 1) := by decide +kernel
theorem dX6_statement_147 : decode cX6_statement 147 = .ok (.iconst 3, 1) := by decide +kernel
theorem dX6_statement_148 : decode cX6_statement 148 = .ok (.iload_n 1, 1) := by decide +kernel
theorem dX6_statement_149 : decode cX6_statement 149 = .ok (.imul, 1) := by decide +kernel
theorem dX6_statement_150 : decode cX6_statement 150 = .ok (.aload_n 0, 1) := by decide +kernel
theorem dX6_statement_151 : decode cX6_statement 151 = .ok (.getfield 71, 3) := by decide +kernel
theorem dX6_statement_154 : decode cX6_statement 154 = .ok (.iload_n 1, 1) := by decide +kernel
theorem dX6_statement_155 : decode cX6_statement 155 = .ok (.iaload, 1) := by decide +kernel
theorem dX6_statement_156 : decode cX6_statement 156 = .ok (.iadd, 1) := by decide +kernel
theorem dX6_statement_157 : decode cX6_statement 157 = .ok (.invokevirtual 209, 3) := by decide +kernel
theorem dX6_statement_160 : decode cX6_statement 160 = .ok (.ifCond .ne 5, 3) := by decide +kernel
theorem dX6_statement_163 : decode cX6_statement 163 = .ok (.iconst 0, 1) := by decide +kernel
theorem dX6_statement_164 : decode cX6_statement 164 = .ok (.ireturn, 1) := by decide +kernel
theorem dX6_statement_165 : decode cX6_statement 165 = .ok (.aload_n 0, 1) := by decide +kernel
theorem dX6_statement_166 : decode cX6_statement 166 = .ok (.getfield 71, 3) := by decide +kernel
theorem dX6_statement_169 : decode cX6_statement 169 = .ok (.iload_n 1, 1) := by decide +kernel
theorem dX6_statement_170 : decode cX6_statement 170 = .ok (.dup2, 1) := by decide +kernel
theorem dX6_statement_171 : decode cX6_statement 171 = .ok (.iaload, 1) := by decide +kernel
theorem dX6_statement_172 : decode cX6_statement 172 = .ok (.iconst 1, 1) := by decide +kernel
theorem dX6_statement_173 : decode cX6_statement 173 = .ok (.iadd, 1) := by decide +kernel
theorem dX6_statement_174 : decode cX6_statement 174 = .ok (.iastore, 1) := by decide +kernel
theorem dX6_statement_175 : decode cX6_statement 175 = .ok (.aload_n 0, 1) := by decide +kernel
theorem dX6_statement_176 : decode cX6_statement 176 = .ok (.ldc2_w 212, 3) := by decide +kernel
theorem dX6_statement_179 : decode cX6_statement 179 = .ok (.invokevirtual 199, 3) := by decide +kernel
theorem dX6_statement_182 : decode cX6_statement 182 = .ok (.istore_n 2, 1) := by decide +kernel
theorem dX6_statement_183 : decode cX6_statement 183 = .ok (.goto (-55), 3) := by decide +kernel
theorem dX6_statement_186 : decode cX6_statement 186 = .ok (.aload_n 0, 1) := by decide +kernel
theorem dX6_statement_187 : decode cX6_statement 187 = .ok (.invokevirtual 174, 3) := by decide +kernel
theorem dX6_statement_190 : decode cX6_statement 190 = .ok (.aload_n 0, 1) := by decide +kernel
theorem dX6_statement_191 : decode cX6_statement 191 = .ok (.getfield 168, 3) := by decide +kernel
theorem dX6_statement_194 : decode cX6_statement 194 = .ok (.aload_n 0, 1) := by decide +kernel
theorem dX6_statement_195 : decode cX6_statement 195 = .ok (.getfield 171, 3) := by decide +kernel
theorem dX6_statement_198 : decode cX6_statement 198 = .ok (.if_icmp .eq 17, 3) := by decide +kernel
theorem dX6_statement_201 : decode cX6_statement 201 = .ok (.aload_n 0, 1) := by decide +kernel
theorem dX6_statement_202 : decode cX6_statement 202 = .ok (.getfield 55, 3) := by decide +kernel
theorem dX6_statement_205 : decode cX6_statement 205 = .ok (.aload_n 0, 1) := by decide +kernel
theorem dX6_statement_206 : decode cX6_statement 206 = .ok (.getfield 168, 3) := by decide +kernel
theorem dX6_statement_209 : decode cX6_statement 209 = .ok (.baload, 1) := by decide +kernel
theorem dX6_statement_210 : decode cX6_statement 210 = .ok (.bipush 59, 2) := by decide +kernel
theorem dX6_statement_212 : decode cX6_statement 212 = .ok (.if_icmp .eq 5, 3) := by decide +kernel
theorem dX6_statement_215 : decode cX6_statement 215 = .ok (.iconst 0, 1) := by decide +kernel
theorem dX6_statement_216 : decode cX6_statement 216 = .ok (.ireturn, 1) := by decide +kernel
theorem dX6_statement_217 : decode cX6_statement 217 = .ok (.aload_n 0, 1) := by decide +kernel
theorem dX6_statement_218 : decode cX6_statement 218 = .ok (.dup, 1) := by decide +kernel
theorem dX6_statement_219 : decode cX6_statement 219 = .ok (.getfield 168, 3) := by decide +kernel
theorem dX6_statement_222 : decode cX6_statement 222 = .ok (.iconst 1, 1) := by decide +kernel
theorem dX6_statement_223 : decode cX6_statement 223 = .ok (.iadd, 1) := by decide +kernel
theorem dX6_statement_224 : decode cX6_statement 224 = .ok (.putfield 168, 3) := by decide +kernel
theorem dX6_statement_227 : decode cX6_statement 227 = .ok (.iconst 1, 1) := by decide +kernel
theorem dX6_statement_228 : decode cX6_statement 228 = .ok (.ireturn, 1) := by decide +kernel
set_option maxRecDepth 20000 in
theorem ggX6_hall_X6_isIn : GoodIn wsX6_hall wsX6_isIn := goodIn_r _ [12] (by decide +kernel) (by decide +kernel)
set_option maxRecDepth 20000 in
theorem gX6_hall_X6_isIn : GoodIn wsX6_hall (va_wsS RX6 102 yX6_isIn wsX6_isIn) := goodIn_app (goodIn_of _ (by decide +kernel)) ggX6_hall_X6_isIn
set_option maxRecDepth 20000 in
theorem ggX6_hall_X6_blanks : GoodIn wsX6_hall wsX6_blanks := goodIn_r _ [16, 6, 5, 3, 54, 55, 56, 57, 58, 59, 60, 61, 62, 63, 64, 65, 66, 67, 68, 69, 70, 71, 72, 73, 74, 75, 76, 77, 78, 79, 80, 81, 82, 83, 84, 85, 86, 87, 88, 89, 90, 91, 92, 93, 94, 95] (by decide +kernel) (by decide +kernel)
set_option maxRecDepth 20000 in
theorem gX6_hall_X6_blanks : GoodIn wsX6_hall (wsV RX6 174 RX6 yX6_blanks wsX6_blanks) := goodIn_app (goodIn_of _ (by decide +kernel)) ggX6_hall_X6_blanks
set_option maxRecDepth 20000 in
theorem ggX6_hall_X6_statement : GoodIn wsX6_hall wsX6_statement := goodIn_r _ [20, 21, 22, 23, 24, 25, 26, 27, 28, 29, 30, 6, 5, 3, 31, 32, 33, 11, 34, 35, 36, 37, 38, 39, 13, 14, 15, 16, 40, 41, 42, 43, 44, 45, 46, 47, 48, 49, 50, 51, 52, 53, 54, 55, 56, 57, 58, 59, 60, 61, 62, 63, 64, 65, 66, 67, 68, 69, 70, 71, 72, 73, 74, 75, 76, 77, 78, 79, 80, 81, 82, 83, 84, 85, 86, 87, 88, 89, 90, 91, 92, 93, 94, 95] (by decide +kernel) (by decide +kernel)
set_option maxRecDepth 20000 in
theorem gX6_hall_X6_statement : GoodIn wsX6_hall (wsV RX6 217 RX6 yX6_statement wsX6_statement) := goodIn_app (goodIn_of _ (by decide +kernel)) ggX6_hall_X6_statement
theorem dX6_hall_0 : decode cX6_hall 0 = .ok (.iload_n 1, 1) := by decide +kernel
theorem dX6_hall_1 : decode cX6_hall 1 = .ok (.iconst 0, 1) := by decide +kernel
theorem dX6_hall_2 : decode cX6_hall 2 = .ok (.aload_n 0, 1) := by decide +kernel
theorem dX6_hall_3 : decode cX6_hall 3 = .ok (.getfield 161, 3) := by decide +kernel
theorem dX6_hall_6 : decode cX6_hall 6 = .ok (.invokestatic 102, 3) := by decide +kernel
theorem dX6_hall_9 : decode cX6_hall 9 = .ok (.ifCond .ne 6, 3) := by decide +kernel
theorem dX6_hall_12 : decode cX6_hall 12 = .ok (.bipush (-2), 2) := by decide +kernel
theorem dX6_hall_14 : decode cX6_hall 14 = .ok (.ireturn, 1) := by decide +kernel
theorem dX6_hall_15 : decode cX6_hall 15 = .ok (.aload_n 0, 1) := by decide +kernel
theorem dX6_hall_16 : decode cX6_hall 16 = .ok (.getfield 214, 3) := by decide +kernel
theorem dX6_hall_19 : decode cX6_hall 19 = .ok (.bipush 12, 2) := by decide +kernel
theorem dX6_hall_21 : decode cX6_hall 21 = .ok (.if_icmp .ne 6, 3) := by decide +kernel
theorem dX6_hall_24 : decode cX6_hall 24 = .ok (.bipush (-3), 2) := by decide +kernel
theorem dX6_hall_26 : decode cX6_hall 26 = .ok (.ireturn, 1) := by decide +kernel
theorem dX6_hall_27 : decode cX6_hall 27 = .ok (.iconst 0, 1) := by decide +kernel
theorem dX6_hall_28 : decode cX6_hall 28 = .ok (.istore_n 2, 1) := by decide +kernel
theorem dX6_hall_29 : decode cX6_hall 29 = .ok (.iload_n 2, 1) := by decide +kernel
theorem dX6_hall_30 : decode cX6_hall 30 = .ok (.iload_n 1, 1) := by decide +kernel
theorem dX6_hall_31 : decode cX6_hall 31 = .ok (.if_icmp .ge 21, 3) := by decide +kernel
theorem dX6_hall_34 : decode cX6_hall 34 = .ok (.aload_n 0, 1) := by decide +kernel
theorem dX6_hall_35 : decode cX6_hall 35 = .ok (.getfield 55, 3) := by decide +kernel
theorem dX6_hall_38 : decode cX6_hall 38 = .ok (.iload_n 2, 1) := by decide +kernel
theorem dX6_hall_39 : decode cX6_hall 39 = .ok (.aload_n 0, 1) := by decide +kernel
theorem dX6_hall_40 : decode cX6_hall 40 = .ok (.getfield 52, 3) := by decide +kernel
theorem dX6_hall_43 : decode cX6_hall 43 = .ok (.iload_n 2, 1) := by decide +kernel
theorem dX6_hall_44 : decode cX6_hall 44 = .ok (.baload, 1) := by decide +kernel
theorem dX6_hall_45 : decode cX6_hall 45 = .ok (.bastore, 1) := by decide +kernel
theorem dX6_hall_46 : decode cX6_hall 46 = .ok (.iinc 2 1, 3) := by decide +kernel
theorem dX6_hall_49 : decode cX6_hall 49 = .ok (.goto (-20), 3) := by decide +kernel
theorem dX6_hall_52 : decode cX6_hall 52 = .ok (.aload_n 0, 1) := by decide +kernel
theorem dX6_hall_53 : decode cX6_hall 53 = .ok (.iload_n 1, 1) := by decide +kernel
theorem dX6_hall_54 : decode cX6_hall 54 = .ok (.putfield 171, 3) := by decide +kernel
theorem dX6_hall_57 : decode cX6_hall 57 = .ok (.aload_n 0, 1) := by decide +kernel
theorem dX6_hall_58 : decode cX6_hall 58 = .ok (.iconst 0, 1) := by decide +kernel
theorem dX6_hall_59 : decode cX6_hall 59 = .ok (.putfield 161, 3) := by decide +kernel
theorem dX6_hall_62 : decode cX6_hall 62 = .ok (.aload_n 0, 1) := by decide +kernel
theorem dX6_hall_63 : decode cX6_hall 63 = .ok (.iconst 0, 1) := by decide +kernel
theorem dX6_hall_64 : decode cX6_hall 64 = .ok (.putfield 168, 3) := by decide +kernel
theorem dX6_hall_67 : decode cX6_hall 67 = .ok (.aload_n 0, 1) := by decide +kernel
theorem dX6_hall_68 : decode cX6_hall 68 = .ok (.getfield 62, 3) := by decide +kernel
theorem dX6_hall_71 : decode cX6_hall 71 = .ok (.aload_n 0, 1) := by decide +kernel
theorem dX6_hall_72 : decode cX6_hall 72 = .ok (.getfield 214, 3) := by decide +kernel
theorem dX6_hall_75 : decode cX6_hall 75 = .ok (.iconst 0, 1) := by decide +kernel
theorem dX6_hall_76 : decode cX6_hall 76 = .ok (.iastore, 1) := by decide +kernel
theorem dX6_hall_77 : decode cX6_hall 77 = .ok (.iconst 1, 1) := by decide +kernel
theorem dX6_hall_78 : decode cX6_hall 78 = .ok (.istore_n 2, 1) := by decide +kernel
theorem dX6_hall_79 : decode cX6_hall 79 = .ok (.aload_n 0, 1) := by decide +kernel
theorem dX6_hall_80 : decode cX6_hall 80 = .ok (.invokevirtual 174, 3) := by decide +kernel
theorem dX6_hall_83 : decode cX6_hall 83 = .ok (.iload_n 2, 1) := by decide +kernel
theorem dX6_hall_84 : decode cX6_hall 84 = .ok (.ifCond .eq 85, 3) := by decide +kernel
theorem dX6_hall_87 : decode cX6_hall 87 = .ok (.aload_n 0, 1) := by decide +kernel
theorem dX6_hall_88 : decode cX6_hall 88 = .ok (.getfield 168, 3) := by decide +kernel
theorem dX6_hall_91 : decode cX6_hall 91 = .ok (.aload_n 0, 1) := by decide +kernel
theorem dX6_hall_92 : decode cX6_hall 92 = .ok (.getfield 171, 3) := by decide +kernel
theorem dX6_hall_95 : decode cX6_hall 95 = .ok (.if_icmp .ge 74, 3) := by decide +kernel
theorem dX6_hall_98 : decode cX6_hall 98 = .ok (.aload_n 0, 1) := by decide +kernel
theorem dX6_hall_99 : decode cX6_hall 99 = .ok (.getfield 62, 3) := by decide +kernel
theorem dX6_hall_102 : decode cX6_hall 102 = .ok (.aload_n 0, 1) := by decide +kernel
theorem dX6_hall_103 : decode cX6_hall 103 = .ok (.getfield 214, 3) := by decide +kernel
theorem dX6_hall_106 : decode cX6_hall 106 = .ok (.iaload, 1) := by decide +kernel
theorem dX6_hall_107 : decode cX6_hall 107 = .ok (.bipush 12, 2) := by decide +kernel
theorem dX6_hall_109 : decode cX6_hall 109 = .ok (.if_icmp .ge 31, 3) := by decide +kernel
theorem dX6_hall_112 : decode cX6_hall 112 = .ok (.aload_n 0, 1) := by decide +kernel
theorem dX6_hall_113 : decode cX6_hall 113 = .ok (.bipush 12, 2) := by decide +kernel
theorem dX6_hall_115 : decode cX6_hall 115 = .ok (.aload_n 0, 1) := by decide +kernel
theorem dX6_hall_116 : decode cX6_hall 116 = .ok (.getfield 214, 3) := by decide +kernel
theorem dX6_hall_119 : decode cX6_hall 119 = .ok (.imul, 1) := by decide +kernel
theorem dX6_hall_120 : decode cX6_hall 120 = .ok (.aload_n 0, 1) := by decide +kernel

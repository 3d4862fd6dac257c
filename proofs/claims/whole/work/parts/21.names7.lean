theorem dX6_hall_121 : decode cX6_hall 121 = .ok (.getfield 62, 3) := by decide +kernel
theorem dX6_hall_124 : decode cX6_hall 124 = .ok (.aload_n 0, 1) := by decide +kernel
theorem dX6_hall_125 : decode cX6_hall 125 = .ok (.getfield 214, 3) := by decide +kernel
theorem dX6_hall_128 : decode cX6_hall 128 = .ok (.iaload, 1) := by decide +kernel
theorem dX6_hall_129 : decode cX6_hall 129 = .ok (.iadd, 1) := by decide +kernel
theorem dX6_hall_130 : decode cX6_hall 130 = .ok (.invokevirtual 217, 3) := by decide +kernel
theorem dX6_hall_133 : decode cX6_hall 133 = .ok (.ifCond .eq 7, 3) := by decide +kernel
theorem dX6_hall_136 : decode cX6_hall 136 = .ok (.iconst 1, 1) := by decide +kernel
theorem dX6_hall_137 : decode cX6_hall 137 = .ok (.goto 4, 3) := by decide +kernel
theorem dX6_hall_140 : decode cX6_hall 140 = .ok (.iconst 0, 1) := by decide +kernel
theorem dX6_hall_141 : decode cX6_hall 141 = .ok (.istore_n 2, 1) := by decide +kernel
theorem dX6_hall_142 : decode cX6_hall 142 = .ok (.iload_n 2, 1) := by decide +kernel
theorem dX6_hall_143 : decode cX6_hall 143 = .ok (.ifCond .ne 6, 3) := by decide +kernel
theorem dX6_hall_146 : decode cX6_hall 146 = .ok (.goto (-63), 3) := by decide +kernel
theorem dX6_hall_149 : decode cX6_hall 149 = .ok (.aload_n 0, 1) := by decide +kernel
theorem dX6_hall_150 : decode cX6_hall 150 = .ok (.getfield 62, 3) := by decide +kernel
theorem dX6_hall_153 : decode cX6_hall 153 = .ok (.aload_n 0, 1) := by decide +kernel
theorem dX6_hall_154 : decode cX6_hall 154 = .ok (.getfield 214, 3) := by decide +kernel
theorem dX6_hall_157 : decode cX6_hall 157 = .ok (.dup2, 1) := by decide +kernel
theorem dX6_hall_158 : decode cX6_hall 158 = .ok (.iaload, 1) := by decide +kernel
theorem dX6_hall_159 : decode cX6_hall 159 = .ok (.iconst 1, 1) := by decide +kernel
theorem dX6_hall_160 : decode cX6_hall 160 = .ok (.iadd, 1) := by decide +kernel
theorem dX6_hall_161 : decode cX6_hall 161 = .ok (.iastore, 1) := by decide +kernel
theorem dX6_hall_162 : decode cX6_hall 162 = .ok (.aload_n 0, 1) := by decide +kernel
theorem dX6_hall_163 : decode cX6_hall 163 = .ok (.invokevirtual 174, 3) := by decide +kernel
theorem dX6_hall_166 : decode cX6_hall 166 = .ok (.goto (-83), 3) := by decide +kernel
theorem dX6_hall_169 : decode cX6_hall 169 = .ok (.aload_n 0, 1) := by decide +kernel
theorem dX6_hall_170 : decode cX6_hall 170 = .ok (.iload_n 2, 1) := by decide +kernel
theorem dX6_hall_171 : decode cX6_hall 171 = .ok (.ifCond .eq 7, 3) := by decide +kernel
theorem dX6_hall_174 : decode cX6_hall 174 = .ok (.iconst (-1), 1) := by decide +kernel
theorem dX6_hall_175 : decode cX6_hall 175 = .ok (.goto 7, 3) := by decide +kernel
theorem dX6_hall_178 : decode cX6_hall 178 = .ok (.aload_n 0, 1) := by decide +kernel
theorem dX6_hall_179 : decode cX6_hall 179 = .ok (.getfield 168, 3) := by decide +kernel
theorem dX6_hall_182 : decode cX6_hall 182 = .ok (.putfield 58, 3) := by decide +kernel
theorem dX6_hall_185 : decode cX6_hall 185 = .ok (.iload_n 2, 1) := by decide +kernel
theorem dX6_hall_186 : decode cX6_hall 186 = .ok (.ifCond .ne 5, 3) := by decide +kernel
theorem dX6_hall_189 : decode cX6_hall 189 = .ok (.iconst (-1), 1) := by decide +kernel
theorem dX6_hall_190 : decode cX6_hall 190 = .ok (.ireturn, 1) := by decide +kernel
theorem dX6_hall_191 : decode cX6_hall 191 = .ok (.aload_n 0, 1) := by decide +kernel
theorem dX6_hall_192 : decode cX6_hall 192 = .ok (.dup, 1) := by decide +kernel
theorem dX6_hall_193 : decode cX6_hall 193 = .ok (.getfield 214, 3) := by decide +kernel
theorem dX6_hall_196 : decode cX6_hall 196 = .ok (.iconst 1, 1) := by decide +kernel
theorem dX6_hall_197 : decode cX6_hall 197 = .ok (.iadd, 1) := by decide +kernel
theorem dX6_hall_198 : decode cX6_hall 198 = .ok (.putfield 214, 3) := by decide +kernel
theorem dX6_hall_201 : decode cX6_hall 201 = .ok (.aload_n 0, 1) := by decide +kernel
theorem dX6_hall_202 : decode cX6_hall 202 = .ok (.getfield 214, 3) := by decide +kernel
theorem dX6_hall_205 : decode cX6_hall 205 = .ok (.iconst 1, 1) := by decide +kernel
theorem dX6_hall_206 : decode cX6_hall 206 = .ok (.isub, 1) := by decide +kernel
theorem dX6_hall_207 : decode cX6_hall 207 = .ok (.ireturn, 1) := by decide +kernel
theorem dX6_fault_0 : decode cX6_fault 0 = .ok (.aload_n 0, 1) := by decide +kernel
theorem dX6_fault_1 : decode cX6_fault 1 = .ok (.getfield 58, 3) := by decide +kernel
theorem dX6_fault_4 : decode cX6_fault 4 = .ok (.ireturn, 1) := by decide +kernel
theorem dX6_lastOf_0 : decode cX6_lastOf 0 = .ok (.iload_n 3, 1) := by decide +kernel
theorem dX6_lastOf_1 : decode cX6_lastOf 1 = .ok (.istore 4, 2) := by decide +kernel
theorem dX6_lastOf_3 : decode cX6_lastOf 3 = .ok (.bipush 12, 2) := by decide +kernel
theorem dX6_lastOf_5 : decode cX6_lastOf 5 = .ok (.iload_n 1, 1) := by decide +kernel
theorem dX6_lastOf_6 : decode cX6_lastOf 6 = .ok (.imul, 1) := by decide +kernel
theorem dX6_lastOf_7 : decode cX6_lastOf 7 = .ok (.istore 5, 2) := by decide +kernel
theorem dX6_lastOf_9 : decode cX6_lastOf 9 = .ok (.iload 5, 2) := by decide +kernel
theorem dX6_lastOf_11 : decode cX6_lastOf 11 = .ok (.bipush 12, 2) := by decide +kernel
theorem dX6_lastOf_13 : decode cX6_lastOf 13 = .ok (.iload_n 1, 1) := by decide +kernel
theorem dX6_lastOf_14 : decode cX6_lastOf 14 = .ok (.imul, 1) := by decide +kernel
theorem dX6_lastOf_15 : decode cX6_lastOf 15 = .ok (.aload_n 0, 1) := by decide +kernel
theorem dX6_lastOf_16 : decode cX6_lastOf 16 = .ok (.getfield 62, 3) := by decide +kernel
theorem dX6_lastOf_19 : decode cX6_lastOf 19 = .ok (.iload_n 1, 1) := by decide +kernel
theorem dX6_lastOf_20 : decode cX6_lastOf 20 = .ok (.iaload, 1) := by decide +kernel
theorem dX6_lastOf_21 : decode cX6_lastOf 21 = .ok (.iadd, 1) := by decide +kernel
theorem dX6_lastOf_22 : decode cX6_lastOf 22 = .ok (.if_icmp .ge 29, 3) := by decide +kernel
theorem dX6_lastOf_25 : decode cX6_lastOf 25 = .ok (.aload_n 0, 1) := by decide +kernel
theorem dX6_lastOf_26 : decode cX6_lastOf 26 = .ok (.getfield 65, 3) := by decide +kernel
theorem dX6_lastOf_29 : decode cX6_lastOf 29 = .ok (.iload 5, 2) := by decide +kernel
theorem dX6_lastOf_31 : decode cX6_lastOf 31 = .ok (.iaload, 1) := by decide +kernel
theorem dX6_lastOf_32 : decode cX6_lastOf 32 = .ok (.iload_n 2, 1) := by decide +kernel
theorem dX6_lastOf_33 : decode cX6_lastOf 33 = .ok (.if_icmp .ne 12, 3) := by decide +kernel
theorem dX6_lastOf_36 : decode cX6_lastOf 36 = .ok (.aload_n 0, 1) := by decide +kernel
theorem dX6_lastOf_37 : decode cX6_lastOf 37 = .ok (.getfield 68, 3) := by decide +kernel
theorem dX6_lastOf_40 : decode cX6_lastOf 40 = .ok (.iload 5, 2) := by decide +kernel
theorem dX6_lastOf_42 : decode cX6_lastOf 42 = .ok (.iaload, 1) := by decide +kernel
theorem dX6_lastOf_43 : decode cX6_lastOf 43 = .ok (.istore 4, 2) := by decide +kernel
theorem dX6_lastOf_45 : decode cX6_lastOf 45 = .ok (.iinc 5 1, 3) := by decide +kernel
theorem dX6_lastOf_48 : decode cX6_lastOf 48 = .ok (.goto (-39), 3) := by decide +kernel
theorem dX6_lastOf_51 : decode cX6_lastOf 51 = .ok (.iload 4, 2) := by decide +kernel
theorem dX6_lastOf_53 : decode cX6_lastOf 53 = .ok (.ireturn, 1) := by decide +kernel
theorem dX6_partOf_0 : decode cX6_partOf 0 = .ok (.bipush 12, 2) := by decide +kernel
theorem dX6_partOf_2 : decode cX6_partOf 2 = .ok (.iload_n 1, 1) := by decide +kernel
theorem dX6_partOf_3 : decode cX6_partOf 3 = .ok (.imul, 1) := by decide +kernel
theorem dX6_partOf_4 : decode cX6_partOf 4 = .ok (.istore 5, 2) := by decide +kernel
theorem dX6_partOf_6 : decode cX6_partOf 6 = .ok (.iload 5, 2) := by decide +kernel
theorem dX6_partOf_8 : decode cX6_partOf 8 = .ok (.bipush 12, 2) := by decide +kernel
theorem dX6_partOf_10 : decode cX6_partOf 10 = .ok (.iload_n 1, 1) := by decide +kernel
theorem dX6_partOf_11 : decode cX6_partOf 11 = .ok (.imul, 1) := by decide +kernel
theorem dX6_partOf_12 : decode cX6_partOf 12 = .ok (.aload_n 0, 1) := by decide +kernel
theorem dX6_partOf_13 : decode cX6_partOf 13 = .ok (.getfield 62, 3) := by decide +kernel
theorem dX6_partOf_16 : decode cX6_partOf 16 = .ok (.iload_n 1, 1) := by decide +kernel
theorem dX6_partOf_17 : decode cX6_partOf 17 = .ok (.iaload, 1) := by decide +kernel
theorem dX6_partOf_18 : decode cX6_partOf 18 = .ok (.iadd, 1) := by decide +kernel
theorem dX6_partOf_19 : decode cX6_partOf 19 = .ok (.if_icmp .ge 180, 3) := by decide +kernel
theorem dX6_partOf_22 : decode cX6_partOf 22 = .ok (.aload_n 0, 1) := by decide +kernel
theorem dX6_partOf_23 : decode cX6_partOf 23 = .ok (.getfield 65, 3) := by decide +kernel
theorem dX6_partOf_26 : decode cX6_partOf 26 = .ok (.iload 5, 2) := by decide +kernel
theorem dX6_partOf_28 : decode cX6_partOf 28 = .ok (.iaload, 1) := by decide +kernel
theorem dX6_partOf_29 : decode cX6_partOf 29 = .ok (.iconst 2, 1) := by decide +kernel
theorem dX6_partOf_30 : decode cX6_partOf 30 = .ok (.if_icmp .ne 7, 3) := by decide +kernel
theorem dX6_partOf_33 : decode cX6_partOf 33 = .ok (.iconst 1, 1) := by decide +kernel
theorem dX6_partOf_34 : decode cX6_partOf 34 = .ok (.goto 4, 3) := by decide +kernel
theorem dX6_partOf_37 : decode cX6_partOf 37 = .ok (.iconst 0, 1) := by decide +kernel
theorem dX6_partOf_38 : decode cX6_partOf 38 = .ok (.istore 6, 2) := by decide +kernel
theorem dX6_partOf_40 : decode cX6_partOf 40 = .ok (.iconst 3, 1) := by decide +kernel
theorem dX6_partOf_41 : decode cX6_partOf 41 = .ok (.iload 5, 2) := by decide +kernel
theorem dX6_partOf_43 : decode cX6_partOf 43 = .ok (.imul, 1) := by decide +kernel
theorem dX6_partOf_44 : decode cX6_partOf 44 = .ok (.istore 7, 2) := by decide +kernel
theorem dX6_partOf_46 : decode cX6_partOf 46 = .ok (.iload 7, 2) := by decide +kernel
theorem dX6_partOf_48 : decode cX6_partOf 48 = .ok (.iconst 3, 1) := by decide +kernel
theorem dX6_partOf_49 : decode cX6_partOf 49 = .ok (.iload 5, 2) := by decide +kernel
theorem dX6_partOf_51 : decode cX6_partOf 51 = .ok (.imul, 1) := by decide +kernel
theorem dX6_partOf_52 : decode cX6_partOf 52 = .ok (.aload_n 0, 1) := by decide +kernel
theorem dX6_partOf_53 : decode cX6_partOf 53 = .ok (.getfield 71, 3) := by decide +kernel
theorem dX6_partOf_56 : decode cX6_partOf 56 = .ok (.iload 5, 2) := by decide +kernel
theorem dX6_partOf_58 : decode cX6_partOf 58 = .ok (.iaload, 1) := by decide +kernel
theorem dX6_partOf_59 : decode cX6_partOf 59 = .ok (.iadd, 1) := by decide +kernel
theorem dX6_partOf_60 : decode cX6_partOf 60 = .ok (.if_icmp .ge 120, 3) := by decide +kernel
theorem dX6_partOf_63 : decode cX6_partOf 63 = .ok (.aload_n 0, 1) := by decide +kernel
theorem dX6_partOf_64 : decode cX6_partOf 64 = .ok (.getfield 74, 3) := by decide +kernel
theorem dX6_partOf_67 : decode cX6_partOf 67 = .ok (.iload 7, 2) := by decide +kernel
theorem dX6_partOf_69 : decode cX6_partOf 69 = .ok (.iaload, 1) := by decide +kernel
theorem dX6_partOf_70 : decode cX6_partOf 70 = .ok (.ifCond .ne 7, 3) := by decide +kernel
theorem dX6_partOf_73 : decode cX6_partOf 73 = .ok (.iload_n 2, 1) := by decide +kernel
theorem dX6_partOf_74 : decode cX6_partOf 74 = .ok (.goto 20, 3) := by decide +kernel
theorem dX6_partOf_77 : decode cX6_partOf 77 = .ok (.aload_n 0, 1) := by decide +kernel
theorem dX6_partOf_78 : decode cX6_partOf 78 = .ok (.getfield 74, 3) := by decide +kernel
theorem dX6_partOf_81 : decode cX6_partOf 81 = .ok (.iload 7, 2) := by decide +kernel
theorem dX6_partOf_83 : decode cX6_partOf 83 = .ok (.iaload, 1) := by decide +kernel
theorem dX6_partOf_84 : decode cX6_partOf 84 = .ok (.iconst 1, 1) := by decide +kernel
theorem dX6_partOf_85 : decode cX6_partOf 85 = .ok (.if_icmp .ne 7, 3) := by decide +kernel
theorem dX6_partOf_88 : decode cX6_partOf 88 = .ok (.iload_n 3, 1) := by decide +kernel
theorem dX6_partOf_89 : decode cX6_partOf 89 = .ok (.goto 5, 3) := by decide +kernel
theorem dX6_partOf_92 : decode cX6_partOf 92 = .ok (.iload 4, 2) := by decide +kernel
theorem dX6_partOf_94 : decode cX6_partOf 94 = .ok (.istore 8, 2) := by decide +kernel
theorem dX6_partOf_96 : decode cX6_partOf 96 = .ok (.iload 6, 2) := by decide +kernel
theorem dX6_partOf_98 : decode cX6_partOf 98 = .ok (.ifCond .eq 73, 3) := by decide +kernel
theorem dX6_partOf_101 : decode cX6_partOf 101 = .ok (.aload_n 0, 1) := by decide +kernel
theorem dX6_partOf_102 : decode cX6_partOf 102 = .ok (.getfield 77, 3) := by decide +kernel
theorem dX6_partOf_105 : decode cX6_partOf 105 = .ok (.iload 7, 2) := by decide +kernel
theorem dX6_partOf_107 : decode cX6_partOf 107 = .ok (.iaload, 1) := by decide +kernel
theorem dX6_partOf_108 : decode cX6_partOf 108 = .ok (.bipush 60, 2) := by decide +kernel
theorem dX6_partOf_110 : decode cX6_partOf 110 = .ok (.if_icmp .ne 18, 3) := by decide +kernel
theorem dX6_partOf_113 : decode cX6_partOf 113 = .ok (.iload 8, 2) := by decide +kernel
theorem dX6_partOf_115 : decode cX6_partOf 115 = .ok (.aload_n 0, 1) := by decide +kernel
theorem dX6_partOf_116 : decode cX6_partOf 116 = .ok (.getfield 80, 3) := by decide +kernel
theorem dX6_partOf_119 : decode cX6_partOf 119 = .ok (.iload 7, 2) := by decide +kernel
theorem dX6_partOf_121 : decode cX6_partOf 121 = .ok (.iaload, 1) := by decide +kernel
theorem dX6_partOf_122 : decode cX6_partOf 122 = .ok (.if_icmp .ge 49, 3) := by decide +kernel
theorem dX6_partOf_125 : decode cX6_partOf 125 = .ok (.goto 42, 3) := by decide +kernel
theorem dX6_partOf_128 : decode cX6_partOf 128 = .ok (.aload_n 0, 1) := by decide +kernel
theorem dX6_partOf_129 : decode cX6_partOf 129 = .ok (.getfield 77, 3) := by decide +kernel
theorem dX6_partOf_132 : decode cX6_partOf 132 = .ok (.iload 7, 2) := by decide +kernel
theorem dX6_partOf_134 : decode cX6_partOf 134 = .ok (.iaload, 1) := by decide +kernel
theorem dX6_partOf_135 : decode cX6_partOf 135 = .ok (.bipush 62, 2) := by decide +kernel
theorem dX6_partOf_137 : decode cX6_partOf 137 = .ok (.if_icmp .ne 18, 3) := by decide +kernel
theorem dX6_partOf_140 : decode cX6_partOf 140 = .ok (.iload 8, 2) := by decide +kernel
theorem dX6_partOf_142 : decode cX6_partOf 142 = .ok (.aload_n 0, 1) := by decide +kernel
theorem dX6_partOf_143 : decode cX6_partOf 143 = .ok (.getfield 80, 3) := by decide +kernel
theorem dX6_partOf_146 : decode cX6_partOf 146 = .ok (.iload 7, 2) := by decide +kernel
theorem dX6_partOf_148 : decode cX6_partOf 148 = .ok (.iaload, 1) := by decide +kernel
theorem dX6_partOf_149 : decode cX6_partOf 149 = .ok (.if_icmp .le 22, 3) := by decide +kernel
theorem dX6_partOf_152 : decode cX6_partOf 152 = .ok (.goto 15, 3) := by decide +kernel
theorem dX6_partOf_155 : decode cX6_partOf 155 = .ok (.iload 8, 2) := by decide +kernel
theorem dX6_partOf_157 : decode cX6_partOf 157 = .ok (.aload_n 0, 1) := by decide +kernel
theorem dX6_partOf_158 : decode cX6_partOf 158 = .ok (.getfield 80, 3) := by decide +kernel
theorem dX6_partOf_161 : decode cX6_partOf 161 = .ok (.iload 7, 2) := by decide +kernel
theorem dX6_partOf_163 : decode cX6_partOf 163 = .ok (.iaload, 1) := by decide +kernel
theorem dX6_partOf_164 : decode cX6_partOf 164 = .ok (.if_icmp .ne 7, 3) := by decide +kernel
theorem dX6_partOf_167 : decode cX6_partOf 167 = .ok (.iconst 1, 1) := by decide +kernel
theorem dX6_partOf_168 : decode cX6_partOf 168 = .ok (.goto 4, 3) := by decide +kernel
theorem dX6_partOf_171 : decode cX6_partOf 171 = .ok (.iconst 0, 1) := by decide +kernel
theorem dX6_partOf_172 : decode cX6_partOf 172 = .ok (.istore 6, 2) := by decide +kernel
theorem dX6_partOf_174 : decode cX6_partOf 174 = .ok (.iinc 7 1, 3) := by decide +kernel
theorem dX6_partOf_177 : decode cX6_partOf 177 = .ok (.goto (-131), 3) := by decide +kernel
theorem dX6_partOf_180 : decode cX6_partOf 180 = .ok (.iload 6, 2) := by decide +kernel
theorem dX6_partOf_182 : decode cX6_partOf 182 = .ok (.ifCond .eq 11, 3) := by decide +kernel
theorem dX6_partOf_185 : decode cX6_partOf 185 = .ok (.aload_n 0, 1) := by decide +kernel
theorem dX6_partOf_186 : decode cX6_partOf 186 = .ok (.getfield 68, 3) := by decide +kernel
theorem dX6_partOf_189 : decode cX6_partOf 189 = .ok (.iload 5, 2) := by decide +kernel
theorem dX6_partOf_191 : decode cX6_partOf 191 = .ok (.iaload, 1) := by decide +kernel
theorem dX6_partOf_192 : decode cX6_partOf 192 = .ok (.ireturn, 1) := by decide +kernel
theorem dX6_partOf_193 : decode cX6_partOf 193 = .ok (.iinc 5 1, 3) := by decide +kernel
theorem dX6_partOf_196 : decode cX6_partOf 196 = .ok (.goto (-190), 3) := by decide +kernel
theorem dX6_partOf_199 : decode cX6_partOf 199 = .ok (.bipush 50, 2) := by decide +kernel
theorem dX6_partOf_201 : decode cX6_partOf 201 = .ok (.ireturn, 1) := by decide +kernel
set_option maxRecDepth 20000 in
theorem ggX6_week_X6_isIn : GoodIn wsX6_week wsX6_isIn := goodIn_r _ [14] (by decide +kernel) (by decide +kernel)
set_option maxRecDepth 20000 in
theorem gX6_week_X6_isIn : GoodIn wsX6_week (va_wsS RX6 102 yX6_isIn wsX6_isIn) := goodIn_app (goodIn_of _ (by decide +kernel)) ggX6_week_X6_isIn
set_option maxRecDepth 20000 in
theorem ggX6_week_X6_lastOf : GoodIn wsX6_week wsX6_lastOf := goodIn_r _ [18, 19, 20, 21, 30, 31, 32, 33, 34, 35, 36, 37, 38, 39, 40, 41, 42, 43, 44, 45, 46, 47, 48, 49, 50, 51, 52, 53, 54, 55, 56, 57, 58, 59, 60, 61, 62, 63, 64, 65, 66, 67, 68, 69, 70, 71] (by decide +kernel) (by decide +kernel)
set_option maxRecDepth 20000 in
theorem gX6_week_X6_lastOf : GoodIn wsX6_week (wsV RX6 220 RX6 yX6_lastOf wsX6_lastOf) := goodIn_app (goodIn_of _ (by decide +kernel)) ggX6_week_X6_lastOf
set_option maxRecDepth 20000 in
theorem ggX6_week_X6_partOf : GoodIn wsX6_week wsX6_partOf := goodIn_r _ [25, 19, 20, 26, 27, 28, 29, 21, 30, 31, 32, 33, 34, 35, 36, 37, 38, 39, 40, 41, 42, 43, 44, 45, 46, 47, 48, 49, 50, 51, 52, 53, 54, 55, 56, 57, 58, 59, 60, 61, 62, 63, 64, 65, 66, 67, 68, 69, 70, 71] (by decide +kernel) (by decide +kernel)
set_option maxRecDepth 20000 in
theorem gX6_week_X6_partOf : GoodIn wsX6_week (wsV RX6 224 RX6 yX6_partOf wsX6_partOf) := goodIn_app (goodIn_of _ (by decide +kernel)) ggX6_week_X6_partOf
theorem dX6_week_0 : decode cX6_week 0 = .ok (.iload_n 1, 1) := by decide +kernel
theorem dX6_week_1 : decode cX6_week 1 = .ok (.iconst 0, 1) := by decide +kernel
theorem dX6_week_2 : decode cX6_week 2 = .ok (.aload_n 0, 1) := by decide +kernel
theorem dX6_week_3 : decode cX6_week 3 = .ok (.getfield 214, 3) := by decide +kernel
theorem dX6_week_6 : decode cX6_week 6 = .ok (.iconst 1, 1) := by decide +kernel
theorem dX6_week_7 : decode cX6_week 7 = .ok (.isub, 1) := by decide +kernel
theorem dX6_week_8 : decode cX6_week 8 = .ok (.invokestatic 102, 3) := by decide +kernel
theorem dX6_week_11 : decode cX6_week 11 = .ok (.ifCond .eq 39, 3) := by decide +kernel
theorem dX6_week_14 : decode cX6_week 14 = .ok (.aload_n 0, 1) := by decide +kernel
theorem dX6_week_15 : decode cX6_week 15 = .ok (.getfield 83, 3) := by decide +kernel
theorem dX6_week_18 : decode cX6_week 18 = .ok (.iload_n 1, 1) := by decide +kernel
theorem dX6_week_19 : decode cX6_week 19 = .ok (.iaload, 1) := by decide +kernel
theorem dX6_week_20 : decode cX6_week 20 = .ok (.aload_n 0, 1) := by decide +kernel
theorem dX6_week_21 : decode cX6_week 21 = .ok (.iload_n 1, 1) := by decide +kernel
theorem dX6_week_22 : decode cX6_week 22 = .ok (.iconst 0, 1) := by decide +kernel
theorem dX6_week_23 : decode cX6_week 23 = .ok (.iconst 1, 1) := by decide +kernel
theorem dX6_week_24 : decode cX6_week 24 = .ok (.invokevirtual 220, 3) := by decide +kernel
theorem dX6_week_27 : decode cX6_week 27 = .ok (.if_icmp .ge 23, 3) := by decide +kernel
theorem dX6_week_30 : decode cX6_week 30 = .ok (.iload_n 2, 1) := by decide +kernel
theorem dX6_week_31 : decode cX6_week 31 = .ok (.iconst 0, 1) := by decide +kernel
theorem dX6_week_32 : decode cX6_week 32 = .ok (.ldc 193, 2) := by decide +kernel
theorem dX6_week_34 : decode cX6_week 34 = .ok (.invokestatic 102, 3) := by decide +kernel
theorem dX6_week_37 : decode cX6_week 37 = .ok (.ifCond .eq 13, 3) := by decide +kernel
theorem dX6_week_40 : decode cX6_week 40 = .ok (.iload_n 3, 1) := by decide +kernel
theorem dX6_week_41 : decode cX6_week 41 = .ok (.iconst 0, 1) := by decide +kernel
theorem dX6_week_42 : decode cX6_week 42 = .ok (.ldc 193, 2) := by decide +kernel
theorem dX6_week_44 : decode cX6_week 44 = .ok (.invokestatic 102, 3) := by decide +kernel
theorem dX6_week_47 : decode cX6_week 47 = .ok (.ifCond .ne 5, 3) := by decide +kernel
theorem dX6_week_50 : decode cX6_week 50 = .ok (.iconst (-1), 1) := by decide +kernel
theorem dX6_week_51 : decode cX6_week 51 = .ok (.ireturn, 1) := by decide +kernel
theorem dX6_week_52 : decode cX6_week 52 = .ok (.aload_n 0, 1) := by decide +kernel
theorem dX6_week_53 : decode cX6_week 53 = .ok (.getfield 83, 3) := by decide +kernel
theorem dX6_week_56 : decode cX6_week 56 = .ok (.iload_n 1, 1) := by decide +kernel
theorem dX6_week_57 : decode cX6_week 57 = .ok (.dup2, 1) := by decide +kernel
theorem dX6_week_58 : decode cX6_week 58 = .ok (.iaload, 1) := by decide +kernel
theorem dX6_week_59 : decode cX6_week 59 = .ok (.iconst 1, 1) := by decide +kernel
theorem dX6_week_60 : decode cX6_week 60 = .ok (.iadd, 1) := by decide +kernel
theorem dX6_week_61 : decode cX6_week 61 = .ok (.iastore, 1) := by decide +kernel
theorem dX6_week_62 : decode cX6_week 62 = .ok (.iload_n 3, 1) := by decide +kernel
theorem dX6_week_63 : decode cX6_week 63 = .ok (.iload_n 3, 1) := by decide +kernel
theorem dX6_week_64 : decode cX6_week 64 = .ok (.aload_n 0, 1) := by decide +kernel
theorem dX6_week_65 : decode cX6_week 65 = .ok (.iload_n 1, 1) := by decide +kernel
theorem dX6_week_66 : decode cX6_week 66 = .ok (.iconst 1, 1) := by decide +kernel
theorem dX6_week_67 : decode cX6_week 67 = .ok (.iconst 0, 1) := by decide +kernel
theorem dX6_week_68 : decode cX6_week 68 = .ok (.invokevirtual 220, 3) := by decide +kernel
theorem dX6_week_71 : decode cX6_week 71 = .ok (.invokestatic 138, 3) := by decide +kernel
theorem dX6_week_74 : decode cX6_week 74 = .ok (.isub, 1) := by decide +kernel
theorem dX6_week_75 : decode cX6_week 75 = .ok (.istore 4, 2) := by decide +kernel
theorem dX6_week_77 : decode cX6_week 77 = .ok (.iload 4, 2) := by decide +kernel
theorem dX6_week_79 : decode cX6_week 79 = .ok (.aload_n 0, 1) := by decide +kernel
theorem dX6_week_80 : decode cX6_week 80 = .ok (.iload_n 1, 1) := by decide +kernel
theorem dX6_week_81 : decode cX6_week 81 = .ok (.aload_n 0, 1) := by decide +kernel
theorem dX6_week_82 : decode cX6_week 82 = .ok (.getfield 83, 3) := by decide +kernel
theorem dX6_week_85 : decode cX6_week 85 = .ok (.iload_n 1, 1) := by decide +kernel
theorem dX6_week_86 : decode cX6_week 86 = .ok (.iaload, 1) := by decide +kernel
theorem dX6_week_87 : decode cX6_week 87 = .ok (.iload_n 2, 1) := by decide +kernel
theorem dX6_week_88 : decode cX6_week 88 = .ok (.iload_n 3, 1) := by decide +kernel
theorem dX6_week_89 : decode cX6_week 89 = .ok (.invokevirtual 224, 3) := by decide +kernel
theorem dX6_week_92 : decode cX6_week 92 = .ok (.imul, 1) := by decide +kernel
theorem dX6_week_93 : decode cX6_week 93 = .ok (.bipush 100, 2) := by decide +kernel
theorem dX6_week_95 : decode cX6_week 95 = .ok (.idiv, 1) := by decide +kernel
theorem dX6_week_96 : decode cX6_week 96 = .ok (.istore 5, 2) := by decide +kernel
theorem dX6_week_98 : decode cX6_week 98 = .ok (.aload_n 0, 1) := by decide +kernel
theorem dX6_week_99 : decode cX6_week 99 = .ok (.getfield 86, 3) := by decide +kernel
theorem dX6_week_102 : decode cX6_week 102 = .ok (.iload_n 1, 1) := by decide +kernel
theorem dX6_week_103 : decode cX6_week 103 = .ok (.dup2, 1) := by decide +kernel
theorem dX6_week_104 : decode cX6_week 104 = .ok (.iaload, 1) := by decide +kernel
theorem dX6_week_105 : decode cX6_week 105 = .ok (.iload_n 2, 1) := by decide +kernel
theorem dX6_week_106 : decode cX6_week 106 = .ok (.iadd, 1) := by decide +kernel
theorem dX6_week_107 : decode cX6_week 107 = .ok (.iastore, 1) := by decide +kernel
theorem dX6_week_108 : decode cX6_week 108 = .ok (.aload_n 0, 1) := by decide +kernel
theorem dX6_week_109 : decode cX6_week 109 = .ok (.getfield 89, 3) := by decide +kernel
theorem dX6_week_112 : decode cX6_week 112 = .ok (.iload_n 1, 1) := by decide +kernel
theorem dX6_week_113 : decode cX6_week 113 = .ok (.dup2, 1) := by decide +kernel
theorem dX6_week_114 : decode cX6_week 114 = .ok (.laload, 1) := by decide +kernel
theorem dX6_week_115 : decode cX6_week 115 = .ok (.iload 5, 2) := by decide +kernel
theorem dX6_week_117 : decode cX6_week 117 = .ok (.i2l, 1) := by decide +kernel
theorem dX6_week_118 : decode cX6_week 118 = .ok (.ladd, 1) := by decide +kernel
theorem dX6_week_119 : decode cX6_week 119 = .ok (.lastore, 1) := by decide +kernel
theorem dX6_week_120 : decode cX6_week 120 = .ok (.aload_n 0, 1) := by decide +kernel
theorem dX6_week_121 : decode cX6_week 121 = .ok (.getfield 93, 3) := by decide +kernel
theorem dX6_week_124 : decode cX6_week 124 = .ok (.iload_n 1, 1) := by decide +kernel
theorem dX6_week_125 : decode cX6_week 125 = .ok (.dup2, 1) := by decide +kernel
theorem dX6_week_126 : decode cX6_week 126 = .ok (.laload, 1) := by decide +kernel
theorem dX6_week_127 : decode cX6_week 127 = .ok (.iload_n 3, 1) := by decide +kernel
theorem dX6_week_128 : decode cX6_week 128 = .ok (.iload 5, 2) := by decide +kernel
theorem dX6_week_130 : decode cX6_week 130 = .ok (.isub, 1) := by decide +kernel
theorem dX6_week_131 : decode cX6_week 131 = .ok (.i2l, 1) := by decide +kernel
theorem dX6_week_132 : decode cX6_week 132 = .ok (.ladd, 1) := by decide +kernel
theorem dX6_week_133 : decode cX6_week 133 = .ok (.lastore, 1) := by decide +kernel
theorem dX6_week_134 : decode cX6_week 134 = .ok (.iload 5, 2) := by decide +kernel
theorem dX6_week_136 : decode cX6_week 136 = .ok (.ireturn, 1) := by decide +kernel
set_option maxRecDepth 20000 in
theorem ggX6_hallOf_X6_isIn : GoodIn wsX6_hallOf wsX6_isIn := goodIn_r _ [9] (by decide +kernel) (by decide +kernel)
set_option maxRecDepth 20000 in
theorem gX6_hallOf_X6_isIn : GoodIn wsX6_hallOf (va_wsS RX6 102 yX6_isIn wsX6_isIn) := goodIn_app (goodIn_of _ (by decide +kernel)) ggX6_hallOf_X6_isIn
set_option maxRecDepth 20000 in
theorem ggX6_hallOf_X6_lastOf : GoodIn wsX6_hallOf wsX6_lastOf := goodIn_r _ [13, 14, 15, 16, 17, 18, 19, 20, 21, 22, 23, 24, 25, 26, 27, 28, 29, 30, 31, 32, 33, 34, 35, 36, 37, 38, 39, 40, 41, 42, 43, 44, 45, 46, 47, 48, 49, 50, 51, 52, 53, 54, 55, 56, 57, 58] (by decide +kernel) (by decide +kernel)
set_option maxRecDepth 20000 in
theorem gX6_hallOf_X6_lastOf : GoodIn wsX6_hallOf (wsV RX6 220 RX6 yX6_lastOf wsX6_lastOf) := goodIn_app (goodIn_of _ (by decide +kernel)) ggX6_hallOf_X6_lastOf
theorem dX6_hallOf_0 : decode cX6_hallOf 0 = .ok (.iload_n 1, 1) := by decide +kernel
theorem dX6_hallOf_1 : decode cX6_hallOf 1 = .ok (.iconst 0, 1) := by decide +kernel
theorem dX6_hallOf_2 : decode cX6_hallOf 2 = .ok (.aload_n 0, 1) := by decide +kernel
theorem dX6_hallOf_3 : decode cX6_hallOf 3 = .ok (.getfield 214, 3) := by decide +kernel
theorem dX6_hallOf_6 : decode cX6_hallOf 6 = .ok (.iconst 1, 1) := by decide +kernel
theorem dX6_hallOf_7 : decode cX6_hallOf 7 = .ok (.isub, 1) := by decide +kernel
theorem dX6_hallOf_8 : decode cX6_hallOf 8 = .ok (.invokestatic 102, 3) := by decide +kernel
theorem dX6_hallOf_11 : decode cX6_hallOf 11 = .ok (.ifCond .ne 5, 3) := by decide +kernel
theorem dX6_hallOf_14 : decode cX6_hallOf 14 = .ok (.iconst (-1), 1) := by decide +kernel
theorem dX6_hallOf_15 : decode cX6_hallOf 15 = .ok (.ireturn, 1) := by decide +kernel
theorem dX6_hallOf_16 : decode cX6_hallOf 16 = .ok (.iload_n 2, 1) := by decide +kernel
theorem dX6_hallOf_17 : decode cX6_hallOf 17 = .ok (.tableswitch 85 0 5 #[39, 47, 54, 62, 70, 77], 39) := by decide +kernel
theorem dX6_hallOf_56 : decode cX6_hallOf 56 = .ok (.aload_n 0, 1) := by decide +kernel
theorem dX6_hallOf_57 : decode cX6_hallOf 57 = .ok (.iload_n 1, 1) := by decide +kernel
theorem dX6_hallOf_58 : decode cX6_hallOf 58 = .ok (.iconst 0, 1) := by decide +kernel
theorem dX6_hallOf_59 : decode cX6_hallOf 59 = .ok (.iconst 1, 1) := by decide +kernel
theorem dX6_hallOf_60 : decode cX6_hallOf 60 = .ok (.invokevirtual 220, 3) := by decide +kernel
theorem dX6_hallOf_63 : decode cX6_hallOf 63 = .ok (.ireturn, 1) := by decide +kernel
theorem dX6_hallOf_64 : decode cX6_hallOf 64 = .ok (.aload_n 0, 1) := by decide +kernel
theorem dX6_hallOf_65 : decode cX6_hallOf 65 = .ok (.getfield 83, 3) := by decide +kernel
theorem dX6_hallOf_68 : decode cX6_hallOf 68 = .ok (.iload_n 1, 1) := by decide +kernel
theorem dX6_hallOf_69 : decode cX6_hallOf 69 = .ok (.iaload, 1) := by decide +kernel
theorem dX6_hallOf_70 : decode cX6_hallOf 70 = .ok (.ireturn, 1) := by decide +kernel
theorem dX6_hallOf_71 : decode cX6_hallOf 71 = .ok (.aload_n 0, 1) := by decide +kernel
theorem dX6_hallOf_72 : decode cX6_hallOf 72 = .ok (.getfield 89, 3) := by decide +kernel
theorem dX6_hallOf_75 : decode cX6_hallOf 75 = .ok (.iload_n 1, 1) := by decide +kernel
theorem dX6_hallOf_76 : decode cX6_hallOf 76 = .ok (.laload, 1) := by decide +kernel
theorem dX6_hallOf_77 : decode cX6_hallOf 77 = .ok (.l2i, 1) := by decide +kernel
theorem dX6_hallOf_78 : decode cX6_hallOf 78 = .ok (.ireturn, 1) := by decide +kernel
theorem dX6_hallOf_79 : decode cX6_hallOf 79 = .ok (.aload_n 0, 1) := by decide +kernel
theorem dX6_hallOf_80 : decode cX6_hallOf 80 = .ok (.getfield 93, 3) := by decide +kernel
theorem dX6_hallOf_83 : decode cX6_hallOf 83 = .ok (.iload_n 1, 1) := by decide +kernel
theorem dX6_hallOf_84 : decode cX6_hallOf 84 = .ok (.laload, 1) := by decide +kernel
theorem dX6_hallOf_85 : decode cX6_hallOf 85 = .ok (.l2i, 1) := by decide +kernel
theorem dX6_hallOf_86 : decode cX6_hallOf 86 = .ok (.ireturn, 1) := by decide +kernel
theorem dX6_hallOf_87 : decode cX6_hallOf 87 = .ok (.aload_n 0, 1) := by decide +kernel
theorem dX6_hallOf_88 : decode cX6_hallOf 88 = .ok (.getfield 86, 3) := by decide +kernel
theorem dX6_hallOf_91 : decode cX6_hallOf 91 = .ok (.iload_n 1, 1) := by decide +kernel
theorem dX6_hallOf_92 : decode cX6_hallOf 92 = .ok (.iaload, 1) := by decide +kernel
theorem dX6_hallOf_93 : decode cX6_hallOf 93 = .ok (.ireturn, 1) := by decide +kernel
theorem dX6_hallOf_94 : decode cX6_hallOf 94 = .ok (.aload_n 0, 1) := by decide +kernel
theorem dX6_hallOf_95 : decode cX6_hallOf 95 = .ok (.iload_n 1, 1) := by decide +kernel
theorem dX6_hallOf_96 : decode cX6_hallOf 96 = .ok (.iconst 1, 1) := by decide +kernel
theorem dX6_hallOf_97 : decode cX6_hallOf 97 = .ok (.iconst 0, 1) := by decide +kernel
theorem dX6_hallOf_98 : decode cX6_hallOf 98 = .ok (.invokevirtual 220, 3) := by decide +kernel
theorem dX6_hallOf_101 : decode cX6_hallOf 101 = .ok (.ireturn, 1) := by decide +kernel
theorem dX6_hallOf_102 : decode cX6_hallOf 102 = .ok (.iconst (-1), 1) := by decide +kernel
theorem dX6_hallOf_103 : decode cX6_hallOf 103 = .ok (.ireturn, 1) := by decide +kernel
set_option maxRecDepth 20000 in
theorem ggX6_room_X6_isIn : GoodIn wsX6_room wsX6_isIn := goodIn_r _ [5] (by decide +kernel) (by decide +kernel)
set_option maxRecDepth 20000 in
theorem gX6_room_X6_isIn : GoodIn wsX6_room (va_wsS RX6 102 yX6_isIn wsX6_isIn) := goodIn_app (goodIn_of _ (by decide +kernel)) ggX6_room_X6_isIn
theorem dX6_room_0 : decode cX6_room 0 = .ok (.iload_n 1, 1) := by decide +kernel
theorem dX6_room_1 : decode cX6_room 1 = .ok (.iconst 1, 1) := by decide +kernel
theorem dX6_room_2 : decode cX6_room 2 = .ok (.sipush 200, 3) := by decide +kernel
theorem dX6_room_5 : decode cX6_room 5 = .ok (.invokestatic 102, 3) := by decide +kernel
theorem dX6_room_8 : decode cX6_room 8 = .ok (.ifCond .ne 5, 3) := by decide +kernel
theorem dX6_room_11 : decode cX6_room 11 = .ok (.iconst 0, 1) := by decide +kernel
theorem dX6_room_12 : decode cX6_room 12 = .ok (.ireturn, 1) := by decide +kernel
theorem dX6_room_13 : decode cX6_room 13 = .ok (.aload_n 0, 1) := by decide +kernel
theorem dX6_room_14 : decode cX6_room 14 = .ok (.iload_n 1, 1) := by decide +kernel
theorem dX6_room_15 : decode cX6_room 15 = .ok (.putfield 96, 3) := by decide +kernel
theorem dX6_room_18 : decode cX6_room 18 = .ok (.iconst 1, 1) := by decide +kernel
theorem dX6_room_19 : decode cX6_room 19 = .ok (.ireturn, 1) := by decide +kernel
set_option maxRecDepth 20000 in
theorem ggX6_minute_X6_isIn : GoodIn wsX6_minute wsX6_isIn := goodIn_r _ [18] (by decide +kernel) (by decide +kernel)
set_option maxRecDepth 20000 in
theorem gX6_minute_X6_isIn : GoodIn wsX6_minute (va_wsS RX6 102 yX6_isIn wsX6_isIn) := goodIn_app (goodIn_of _ (by decide +kernel)) ggX6_minute_X6_isIn
theorem dX6_minute_0 : decode cX6_minute 0 = .ok (.iload_n 1, 1) := by decide +kernel
theorem dX6_minute_1 : decode cX6_minute 1 = .ok (.iconst 0, 1) := by decide +kernel
theorem dX6_minute_2 : decode cX6_minute 2 = .ok (.sipush 500, 3) := by decide +kernel
theorem dX6_minute_5 : decode cX6_minute 5 = .ok (.invokestatic 102, 3) := by decide +kernel
theorem dX6_minute_8 : decode cX6_minute 8 = .ok (.ifCond .eq 15, 3) := by decide +kernel
theorem dX6_minute_11 : decode cX6_minute 11 = .ok (.aload_n 0, 1) := by decide +kernel
theorem dX6_minute_12 : decode cX6_minute 12 = .ok (.getfield 228, 3) := by decide +kernel
theorem dX6_minute_15 : decode cX6_minute 15 = .ok (.iload_n 1, 1) := by decide +kernel
theorem dX6_minute_16 : decode cX6_minute 16 = .ok (.iadd, 1) := by decide +kernel
theorem dX6_minute_17 : decode cX6_minute 17 = .ok (.sipush 2000, 3) := by decide +kernel
theorem dX6_minute_20 : decode cX6_minute 20 = .ok (.if_icmp .le 5, 3) := by decide +kernel
theorem dX6_minute_23 : decode cX6_minute 23 = .ok (.iconst (-1), 1) := by decide +kernel
theorem dX6_minute_24 : decode cX6_minute 24 = .ok (.ireturn, 1) := by decide +kernel
theorem dX6_minute_25 : decode cX6_minute 25 = .ok (.aload_n 0, 1) := by decide +kernel
theorem dX6_minute_26 : decode cX6_minute 26 = .ok (.getfield 231, 3) := by decide +kernel
theorem dX6_minute_29 : decode cX6_minute 29 = .ok (.bipush 12, 2) := by decide +kernel
theorem dX6_minute_31 : decode cX6_minute 31 = .ok (.irem, 1) := by decide +kernel
theorem dX6_minute_32 : decode cX6_minute 32 = .ok (.istore_n 2, 1) := by decide +kernel
theorem dX6_minute_33 : decode cX6_minute 33 = .ok (.aload_n 0, 1) := by decide +kernel
theorem dX6_minute_34 : decode cX6_minute 34 = .ok (.dup, 1) := by decide +kernel
theorem dX6_minute_35 : decode cX6_minute 35 = .ok (.getfield 234, 3) := by decide +kernel
theorem dX6_minute_38 : decode cX6_minute 38 = .ok (.aload_n 0, 1) := by decide +kernel
theorem dX6_minute_39 : decode cX6_minute 39 = .ok (.getfield 99, 3) := by decide +kernel
theorem dX6_minute_42 : decode cX6_minute 42 = .ok (.iload_n 2, 1) := by decide +kernel
theorem dX6_minute_43 : decode cX6_minute 43 = .ok (.iaload, 1) := by decide +kernel
theorem dX6_minute_44 : decode cX6_minute 44 = .ok (.isub, 1) := by decide +kernel
theorem dX6_minute_45 : decode cX6_minute 45 = .ok (.putfield 234, 3) := by decide +kernel
theorem dX6_minute_48 : decode cX6_minute 48 = .ok (.aload_n 0, 1) := by decide +kernel
theorem dX6_minute_49 : decode cX6_minute 49 = .ok (.dup, 1) := by decide +kernel
theorem dX6_minute_50 : decode cX6_minute 50 = .ok (.getfield 237, 3) := by decide +kernel
theorem dX6_minute_53 : decode cX6_minute 53 = .ok (.aload_n 0, 1) := by decide +kernel
theorem dX6_minute_54 : decode cX6_minute 54 = .ok (.getfield 99, 3) := by decide +kernel
theorem dX6_minute_57 : decode cX6_minute 57 = .ok (.iload_n 2, 1) := by decide +kernel
theorem dX6_minute_58 : decode cX6_minute 58 = .ok (.iaload, 1) := by decide +kernel
theorem dX6_minute_59 : decode cX6_minute 59 = .ok (.iadd, 1) := by decide +kernel
theorem dX6_minute_60 : decode cX6_minute 60 = .ok (.putfield 237, 3) := by decide +kernel
theorem dX6_minute_63 : decode cX6_minute 63 = .ok (.aload_n 0, 1) := by decide +kernel
theorem dX6_minute_64 : decode cX6_minute 64 = .ok (.dup, 1) := by decide +kernel
theorem dX6_minute_65 : decode cX6_minute 65 = .ok (.getfield 228, 3) := by decide +kernel
theorem dX6_minute_68 : decode cX6_minute 68 = .ok (.iload_n 1, 1) := by decide +kernel
theorem dX6_minute_69 : decode cX6_minute 69 = .ok (.iadd, 1) := by decide +kernel
theorem dX6_minute_70 : decode cX6_minute 70 = .ok (.putfield 228, 3) := by decide +kernel
theorem dX6_minute_73 : decode cX6_minute 73 = .ok (.aload_n 0, 1) := by decide +kernel
theorem dX6_minute_74 : decode cX6_minute 74 = .ok (.getfield 99, 3) := by decide +kernel
theorem dX6_minute_77 : decode cX6_minute 77 = .ok (.iload_n 2, 1) := by decide +kernel
theorem dX6_minute_78 : decode cX6_minute 78 = .ok (.iconst 0, 1) := by decide +kernel
theorem dX6_minute_79 : decode cX6_minute 79 = .ok (.bipush 8, 2) := by decide +kernel
theorem dX6_minute_81 : decode cX6_minute 81 = .ok (.aload_n 0, 1) := by decide +kernel
theorem dX6_minute_82 : decode cX6_minute 82 = .ok (.getfield 228, 3) := by decide +kernel
theorem dX6_minute_85 : decode cX6_minute 85 = .ok (.aload_n 0, 1) := by decide +kernel
theorem dX6_minute_86 : decode cX6_minute 86 = .ok (.getfield 96, 3) := by decide +kernel
theorem dX6_minute_89 : decode cX6_minute 89 = .ok (.aload_n 0, 1) := by decide +kernel
theorem dX6_minute_90 : decode cX6_minute 90 = .ok (.getfield 234, 3) := by decide +kernel
theorem dX6_minute_93 : decode cX6_minute 93 = .ok (.isub, 1) := by decide +kernel
theorem dX6_minute_94 : decode cX6_minute 94 = .ok (.invokestatic 138, 3) := by decide +kernel
theorem dX6_minute_97 : decode cX6_minute 97 = .ok (.invokestatic 138, 3) := by decide +kernel
theorem dX6_minute_100 : decode cX6_minute 100 = .ok (.invokestatic 119, 3) := by decide +kernel
theorem dX6_minute_103 : decode cX6_minute 103 = .ok (.iastore, 1) := by decide +kernel
theorem dX6_minute_104 : decode cX6_minute 104 = .ok (.aload_n 0, 1) := by decide +kernel
theorem dX6_minute_105 : decode cX6_minute 105 = .ok (.dup, 1) := by decide +kernel
theorem dX6_minute_106 : decode cX6_minute 106 = .ok (.getfield 228, 3) := by decide +kernel
theorem dX6_minute_109 : decode cX6_minute 109 = .ok (.aload_n 0, 1) := by decide +kernel
theorem dX6_minute_110 : decode cX6_minute 110 = .ok (.getfield 99, 3) := by decide +kernel
theorem dX6_minute_113 : decode cX6_minute 113 = .ok (.iload_n 2, 1) := by decide +kernel
theorem dX6_minute_114 : decode cX6_minute 114 = .ok (.iaload, 1) := by decide +kernel
theorem dX6_minute_115 : decode cX6_minute 115 = .ok (.isub, 1) := by decide +kernel
theorem dX6_minute_116 : decode cX6_minute 116 = .ok (.putfield 228, 3) := by decide +kernel
theorem dX6_minute_119 : decode cX6_minute 119 = .ok (.aload_n 0, 1) := by decide +kernel
theorem dX6_minute_120 : decode cX6_minute 120 = .ok (.dup, 1) := by decide +kernel
theorem dX6_minute_121 : decode cX6_minute 121 = .ok (.getfield 234, 3) := by decide +kernel
theorem dX6_minute_124 : decode cX6_minute 124 = .ok (.aload_n 0, 1) := by decide +kernel
theorem dX6_minute_125 : decode cX6_minute 125 = .ok (.getfield 99, 3) := by decide +kernel
theorem dX6_minute_128 : decode cX6_minute 128 = .ok (.iload_n 2, 1) := by decide +kernel
theorem dX6_minute_129 : decode cX6_minute 129 = .ok (.iaload, 1) := by decide +kernel
theorem dX6_minute_130 : decode cX6_minute 130 = .ok (.iadd, 1) := by decide +kernel
theorem dX6_minute_131 : decode cX6_minute 131 = .ok (.putfield 234, 3) := by decide +kernel
theorem dX6_minute_134 : decode cX6_minute 134 = .ok (.aload_n 0, 1) := by decide +kernel
theorem dX6_minute_135 : decode cX6_minute 135 = .ok (.aload_n 0, 1) := by decide +kernel
theorem dX6_minute_136 : decode cX6_minute 136 = .ok (.getfield 240, 3) := by decide +kernel
theorem dX6_minute_139 : decode cX6_minute 139 = .ok (.aload_n 0, 1) := by decide +kernel
theorem dX6_minute_140 : decode cX6_minute 140 = .ok (.getfield 234, 3) := by decide +kernel
theorem dX6_minute_143 : decode cX6_minute 143 = .ok (.invokestatic 119, 3) := by decide +kernel
theorem dX6_minute_146 : decode cX6_minute 146 = .ok (.putfield 240, 3) := by decide +kernel
theorem dX6_minute_149 : decode cX6_minute 149 = .ok (.aload_n 0, 1) := by decide +kernel
theorem dX6_minute_150 : decode cX6_minute 150 = .ok (.dup, 1) := by decide +kernel
theorem dX6_minute_151 : decode cX6_minute 151 = .ok (.getfield 231, 3) := by decide +kernel
theorem dX6_minute_154 : decode cX6_minute 154 = .ok (.iconst 1, 1) := by decide +kernel
theorem dX6_minute_155 : decode cX6_minute 155 = .ok (.iadd, 1) := by decide +kernel
theorem dX6_minute_156 : decode cX6_minute 156 = .ok (.putfield 231, 3) := by decide +kernel
theorem dX6_minute_159 : decode cX6_minute 159 = .ok (.aload_n 0, 1) := by decide +kernel
theorem dX6_minute_160 : decode cX6_minute 160 = .ok (.getfield 99, 3) := by decide +kernel
theorem dX6_minute_163 : decode cX6_minute 163 = .ok (.iload_n 2, 1) := by decide +kernel
theorem dX6_minute_164 : decode cX6_minute 164 = .ok (.iaload, 1) := by decide +kernel
theorem dX6_minute_165 : decode cX6_minute 165 = .ok (.ireturn, 1) := by decide +kernel
theorem dX6_crowd_0 : decode cX6_crowd 0 = .ok (.iload_n 1, 1) := by decide +kernel
theorem dX6_crowd_1 : decode cX6_crowd 1 = .ok (.tableswitch 69 0 5 #[39, 44, 49, 54, 59, 64], 39) := by decide +kernel
theorem dX6_crowd_40 : decode cX6_crowd 40 = .ok (.aload_n 0, 1) := by decide +kernel
theorem dX6_crowd_41 : decode cX6_crowd 41 = .ok (.getfield 234, 3) := by decide +kernel
theorem dX6_crowd_44 : decode cX6_crowd 44 = .ok (.ireturn, 1) := by decide +kernel
theorem dX6_crowd_45 : decode cX6_crowd 45 = .ok (.aload_n 0, 1) := by decide +kernel
theorem dX6_crowd_46 : decode cX6_crowd 46 = .ok (.getfield 228, 3) := by decide +kernel
theorem dX6_crowd_49 : decode cX6_crowd 49 = .ok (.ireturn, 1) := by decide +kernel
theorem dX6_crowd_50 : decode cX6_crowd 50 = .ok (.aload_n 0, 1) := by decide +kernel
theorem dX6_crowd_51 : decode cX6_crowd 51 = .ok (.getfield 237, 3) := by decide +kernel
theorem dX6_crowd_54 : decode cX6_crowd 54 = .ok (.ireturn, 1) := by decide +kernel
theorem dX6_crowd_55 : decode cX6_crowd 55 = .ok (.aload_n 0, 1) := by decide +kernel
theorem dX6_crowd_56 : decode cX6_crowd 56 = .ok (.getfield 231, 3) := by decide +kernel
theorem dX6_crowd_59 : decode cX6_crowd 59 = .ok (.ireturn, 1) := by decide +kernel
theorem dX6_crowd_60 : decode cX6_crowd 60 = .ok (.aload_n 0, 1) := by decide +kernel
theorem dX6_crowd_61 : decode cX6_crowd 61 = .ok (.getfield 240, 3) := by decide +kernel
theorem dX6_crowd_64 : decode cX6_crowd 64 = .ok (.ireturn, 1) := by decide +kernel
theorem dX6_crowd_65 : decode cX6_crowd 65 = .ok (.aload_n 0, 1) := by decide +kernel
theorem dX6_crowd_66 : decode cX6_crowd 66 = .ok (.getfield 96, 3) := by decide +kernel
theorem dX6_crowd_69 : decode cX6_crowd 69 = .ok (.ireturn, 1) := by decide +kernel
theorem dX6_crowd_70 : decode cX6_crowd 70 = .ok (.iconst (-1), 1) := by decide +kernel
theorem dX6_crowd_71 : decode cX6_crowd 71 = .ok (.ireturn, 1) := by decide +kernel
set_option maxRecDepth 20000 in
theorem ggX6_count_X6_viewAt : GoodIn wsX6_count wsX6_viewAt := goodIn_r _ [10, 11, 12, 13, 14, 15, 16, 17, 18, 19, 20, 9, 21, 22, 23, 24, 25, 26, 27, 28, 29, 30, 31, 32, 33, 34, 35, 36, 37, 38, 39, 40, 41, 42, 43, 44, 45, 46, 47, 48, 49, 50, 51, 52, 53, 54, 55, 56, 57, 58, 59, 60, 61, 62, 63, 64, 65, 66, 67, 68, 69, 70, 71, 72, 73, 74, 75, 76] (by decide +kernel) (by decide +kernel)
set_option maxRecDepth 20000 in
theorem gX6_count_X6_viewAt : GoodIn wsX6_count (wsV RX6 145 RX6 yX6_viewAt wsX6_viewAt) := goodIn_app (goodIn_of _ (by decide +kernel)) ggX6_count_X6_viewAt
theorem dX6_count_0 : decode cX6_count 0 = .ok (.iconst 0, 1) := by decide +kernel
theorem dX6_count_1 : decode cX6_count 1 = .ok (.istore_n 2, 1) := by decide +kernel
theorem dX6_count_2 : decode cX6_count 2 = .ok (.iload_n 1, 1) := by decide +kernel
theorem dX6_count_3 : decode cX6_count 3 = .ok (.tableswitch 125 0 5 #[37, 42, 47, 52, 57, 91], 37) := by decide +kernel
theorem dX6_count_40 : decode cX6_count 40 = .ok (.aload_n 0, 1) := by decide +kernel
theorem dX6_count_41 : decode cX6_count 41 = .ok (.getfield 155, 3) := by decide +kernel
theorem dX6_count_44 : decode cX6_count 44 = .ok (.ireturn, 1) := by decide +kernel
theorem dX6_count_45 : decode cX6_count 45 = .ok (.aload_n 0, 1) := by decide +kernel
theorem dX6_count_46 : decode cX6_count 46 = .ok (.getfield 148, 3) := by decide +kernel
theorem dX6_count_49 : decode cX6_count 49 = .ok (.ireturn, 1) := by decide +kernel
theorem dX6_count_50 : decode cX6_count 50 = .ok (.aload_n 0, 1) := by decide +kernel
theorem dX6_count_51 : decode cX6_count 51 = .ok (.getfield 214, 3) := by decide +kernel
theorem dX6_count_54 : decode cX6_count 54 = .ok (.ireturn, 1) := by decide +kernel
theorem dX6_count_55 : decode cX6_count 55 = .ok (.aload_n 0, 1) := by decide +kernel
theorem dX6_count_56 : decode cX6_count 56 = .ok (.getfield 161, 3) := by decide +kernel
theorem dX6_count_59 : decode cX6_count 59 = .ok (.ireturn, 1) := by decide +kernel
theorem dX6_count_60 : decode cX6_count 60 = .ok (.iconst 0, 1) := by decide +kernel
theorem dX6_count_61 : decode cX6_count 61 = .ok (.istore_n 3, 1) := by decide +kernel
theorem dX6_count_62 : decode cX6_count 62 = .ok (.iload_n 3, 1) := by decide +kernel
theorem dX6_count_63 : decode cX6_count 63 = .ok (.sipush 7200, 3) := by decide +kernel
theorem dX6_count_66 : decode cX6_count 66 = .ok (.if_icmp .ge 26, 3) := by decide +kernel
theorem dX6_count_69 : decode cX6_count 69 = .ok (.iload_n 2, 1) := by decide +kernel
theorem dX6_count_70 : decode cX6_count 70 = .ok (.aload_n 0, 1) := by decide +kernel
theorem dX6_count_71 : decode cX6_count 71 = .ok (.iload_n 3, 1) := by decide +kernel
theorem dX6_count_72 : decode cX6_count 72 = .ok (.invokevirtual 145, 3) := by decide +kernel
theorem dX6_count_75 : decode cX6_count 75 = .ok (.iconst (-1), 1) := by decide +kernel
theorem dX6_count_76 : decode cX6_count 76 = .ok (.if_icmp .eq 7, 3) := by decide +kernel
theorem dX6_count_79 : decode cX6_count 79 = .ok (.iconst 1, 1) := by decide +kernel
theorem dX6_count_80 : decode cX6_count 80 = .ok (.goto 4, 3) := by decide +kernel
theorem dX6_count_83 : decode cX6_count 83 = .ok (.iconst 0, 1) := by decide +kernel
theorem dX6_count_84 : decode cX6_count 84 = .ok (.iadd, 1) := by decide +kernel
theorem dX6_count_85 : decode cX6_count 85 = .ok (.istore_n 2, 1) := by decide +kernel
theorem dX6_count_86 : decode cX6_count 86 = .ok (.iinc 3 1, 3) := by decide +kernel
theorem dX6_count_89 : decode cX6_count 89 = .ok (.goto (-27), 3) := by decide +kernel
theorem dX6_count_92 : decode cX6_count 92 = .ok (.iload_n 2, 1) := by decide +kernel
theorem dX6_count_93 : decode cX6_count 93 = .ok (.ireturn, 1) := by decide +kernel
theorem dX6_count_94 : decode cX6_count 94 = .ok (.iconst 0, 1) := by decide +kernel
theorem dX6_count_95 : decode cX6_count 95 = .ok (.istore_n 3, 1) := by decide +kernel
theorem dX6_count_96 : decode cX6_count 96 = .ok (.iload_n 3, 1) := by decide +kernel
theorem dX6_count_97 : decode cX6_count 97 = .ok (.bipush 72, 2) := by decide +kernel
theorem dX6_count_99 : decode cX6_count 99 = .ok (.if_icmp .ge 27, 3) := by decide +kernel
theorem dX6_count_102 : decode cX6_count 102 = .ok (.iload_n 2, 1) := by decide +kernel
theorem dX6_count_103 : decode cX6_count 103 = .ok (.aload_n 0, 1) := by decide +kernel
theorem dX6_count_104 : decode cX6_count 104 = .ok (.getfield 28, 3) := by decide +kernel
theorem dX6_count_107 : decode cX6_count 107 = .ok (.iload_n 3, 1) := by decide +kernel
theorem dX6_count_108 : decode cX6_count 108 = .ok (.iaload, 1) := by decide +kernel
theorem dX6_count_109 : decode cX6_count 109 = .ok (.iconst 2, 1) := by decide +kernel
theorem dX6_count_110 : decode cX6_count 110 = .ok (.if_icmp .ne 7, 3) := by decide +kernel
theorem dX6_count_113 : decode cX6_count 113 = .ok (.iconst 1, 1) := by decide +kernel
theorem dX6_count_114 : decode cX6_count 114 = .ok (.goto 4, 3) := by decide +kernel
theorem dX6_count_117 : decode cX6_count 117 = .ok (.iconst 0, 1) := by decide +kernel
theorem dX6_count_118 : decode cX6_count 118 = .ok (.iadd, 1) := by decide +kernel
theorem dX6_count_119 : decode cX6_count 119 = .ok (.istore_n 2, 1) := by decide +kernel
theorem dX6_count_120 : decode cX6_count 120 = .ok (.iinc 3 1, 3) := by decide +kernel
theorem dX6_count_123 : decode cX6_count 123 = .ok (.goto (-27), 3) := by decide +kernel
theorem dX6_count_126 : decode cX6_count 126 = .ok (.iload_n 2, 1) := by decide +kernel
theorem dX6_count_127 : decode cX6_count 127 = .ok (.ireturn, 1) := by decide +kernel
theorem dX6_count_128 : decode cX6_count 128 = .ok (.iconst (-1), 1) := by decide +kernel
theorem dX6_count_129 : decode cX6_count 129 = .ok (.ireturn, 1) := by decide +kernel
theorem dJ9_floorDiv_7cf53_0 : decode cJ9_floorDiv_7cf53 0 = .ok (.iload_n 0, 1) := by decide +kernel
theorem dJ9_floorDiv_7cf53_1 : decode cJ9_floorDiv_7cf53 1 = .ok (.iload_n 1, 1) := by decide +kernel
theorem dJ9_floorDiv_7cf53_2 : decode cJ9_floorDiv_7cf53 2 = .ok (.idiv, 1) := by decide +kernel
theorem dJ9_floorDiv_7cf53_3 : decode cJ9_floorDiv_7cf53 3 = .ok (.istore_n 2, 1) := by decide +kernel
theorem dJ9_floorDiv_7cf53_4 : decode cJ9_floorDiv_7cf53 4 = .ok (.iload_n 0, 1) := by decide +kernel
theorem dJ9_floorDiv_7cf53_5 : decode cJ9_floorDiv_7cf53 5 = .ok (.iload_n 1, 1) := by decide +kernel
theorem dJ9_floorDiv_7cf53_6 : decode cJ9_floorDiv_7cf53 6 = .ok (.ixor, 1) := by decide +kernel
theorem dJ9_floorDiv_7cf53_7 : decode cJ9_floorDiv_7cf53 7 = .ok (.ifCond .ge 14, 3) := by decide +kernel
theorem dJ9_floorDiv_7cf53_10 : decode cJ9_floorDiv_7cf53 10 = .ok (.iload_n 2, 1) := by decide +kernel
theorem dJ9_floorDiv_7cf53_11 : decode cJ9_floorDiv_7cf53 11 = .ok (.iload_n 1, 1) := by decide +kernel
theorem dJ9_floorDiv_7cf53_12 : decode cJ9_floorDiv_7cf53 12 = .ok (.imul, 1) := by decide +kernel
theorem dJ9_floorDiv_7cf53_13 : decode cJ9_floorDiv_7cf53 13 = .ok (.iload_n 0, 1) := by decide +kernel
theorem dJ9_floorDiv_7cf53_14 : decode cJ9_floorDiv_7cf53 14 = .ok (.if_icmp .eq 7, 3) := by decide +kernel
theorem dJ9_floorDiv_7cf53_17 : decode cJ9_floorDiv_7cf53 17 = .ok (.iload_n 2, 1) := by decide +kernel
theorem dJ9_floorDiv_7cf53_18 : decode cJ9_floorDiv_7cf53 18 = .ok (.iconst 1, 1) := by decide +kernel
theorem dJ9_floorDiv_7cf53_19 : decode cJ9_floorDiv_7cf53 19 = .ok (.isub, 1) := by decide +kernel
theorem dJ9_floorDiv_7cf53_20 : decode cJ9_floorDiv_7cf53 20 = .ok (.ireturn, 1) := by decide +kernel
theorem dJ9_floorDiv_7cf53_21 : decode cJ9_floorDiv_7cf53 21 = .ok (.iload_n 2, 1) := by decide +kernel
theorem dJ9_floorDiv_7cf53_22 : decode cJ9_floorDiv_7cf53 22 = .ok (.ireturn, 1) := by decide +kernel
theorem dJ9_floorMod_7cf53_0 : decode cJ9_floorMod_7cf53 0 = .ok (.iload_n 0, 1) := by decide +kernel
theorem dJ9_floorMod_7cf53_1 : decode cJ9_floorMod_7cf53 1 = .ok (.iload_n 1, 1) := by decide +kernel
theorem dJ9_floorMod_7cf53_2 : decode cJ9_floorMod_7cf53 2 = .ok (.irem, 1) := by decide +kernel
theorem dJ9_floorMod_7cf53_3 : decode cJ9_floorMod_7cf53 3 = .ok (.istore_n 2, 1) := by decide +kernel
theorem dJ9_floorMod_7cf53_4 : decode cJ9_floorMod_7cf53 4 = .ok (.iload_n 0, 1) := by decide +kernel
theorem dJ9_floorMod_7cf53_5 : decode cJ9_floorMod_7cf53 5 = .ok (.iload_n 1, 1) := by decide +kernel
theorem dJ9_floorMod_7cf53_6 : decode cJ9_floorMod_7cf53 6 = .ok (.ixor, 1) := by decide +kernel
theorem dJ9_floorMod_7cf53_7 : decode cJ9_floorMod_7cf53 7 = .ok (.ifCond .ge 11, 3) := by decide +kernel
theorem dJ9_floorMod_7cf53_10 : decode cJ9_floorMod_7cf53 10 = .ok (.iload_n 2, 1) := by decide +kernel
theorem dJ9_floorMod_7cf53_11 : decode cJ9_floorMod_7cf53 11 = .ok (.ifCond .eq 7, 3) := by decide +kernel
theorem dJ9_floorMod_7cf53_14 : decode cJ9_floorMod_7cf53 14 = .ok (.iload_n 2, 1) := by decide +kernel
theorem dJ9_floorMod_7cf53_15 : decode cJ9_floorMod_7cf53 15 = .ok (.iload_n 1, 1) := by decide +kernel
theorem dJ9_floorMod_7cf53_16 : decode cJ9_floorMod_7cf53 16 = .ok (.iadd, 1) := by decide +kernel
theorem dJ9_floorMod_7cf53_17 : decode cJ9_floorMod_7cf53 17 = .ok (.ireturn, 1) := by decide +kernel
theorem dJ9_floorMod_7cf53_18 : decode cJ9_floorMod_7cf53 18 = .ok (.iload_n 2, 1) := by decide +kernel
theorem dJ9_floorMod_7cf53_19 : decode cJ9_floorMod_7cf53 19 = .ok (.ireturn, 1) := by decide +kernel
theorem dJ9_abs_0f7a4_0 : decode cJ9_abs_0f7a4 0 = .ok (.iload_n 0, 1) := by decide +kernel
theorem dJ9_abs_0f7a4_1 : decode cJ9_abs_0f7a4 1 = .ok (.ifCond .ge 8, 3) := by decide +kernel
theorem dJ9_abs_0f7a4_4 : decode cJ9_abs_0f7a4 4 = .ok (.iload_n 0, 1) := by decide +kernel
theorem dJ9_abs_0f7a4_5 : decode cJ9_abs_0f7a4 5 = .ok (.ineg, 1) := by decide +kernel
theorem dJ9_abs_0f7a4_6 : decode cJ9_abs_0f7a4 6 = .ok (.goto 4, 3) := by decide +kernel
theorem dJ9_abs_0f7a4_9 : decode cJ9_abs_0f7a4 9 = .ok (.iload_n 0, 1) := by decide +kernel
theorem dJ9_abs_0f7a4_10 : decode cJ9_abs_0f7a4 10 = .ok (.ireturn, 1) := by decide +kernel
theorem dJ9_max_7cf53_0 : decode cJ9_max_7cf53 0 = .ok (.iload_n 0, 1) := by decide +kernel
theorem dJ9_max_7cf53_1 : decode cJ9_max_7cf53 1 = .ok (.iload_n 1, 1) := by decide +kernel
theorem dJ9_max_7cf53_2 : decode cJ9_max_7cf53 2 = .ok (.if_icmp .lt 7, 3) := by decide +kernel
theorem dJ9_max_7cf53_5 : decode cJ9_max_7cf53 5 = .ok (.iload_n 0, 1) := by decide +kernel
theorem dJ9_max_7cf53_6 : decode cJ9_max_7cf53 6 = .ok (.goto 4, 3) := by decide +kernel
theorem dJ9_max_7cf53_9 : decode cJ9_max_7cf53 9 = .ok (.iload_n 1, 1) := by decide +kernel
theorem dJ9_max_7cf53_10 : decode cJ9_max_7cf53 10 = .ok (.ireturn, 1) := by decide +kernel
theorem dJ9_min_7cf53_0 : decode cJ9_min_7cf53 0 = .ok (.iload_n 0, 1) := by decide +kernel
theorem dJ9_min_7cf53_1 : decode cJ9_min_7cf53 1 = .ok (.iload_n 1, 1) := by decide +kernel
theorem dJ9_min_7cf53_2 : decode cJ9_min_7cf53 2 = .ok (.if_icmp .gt 7, 3) := by decide +kernel
theorem dJ9_min_7cf53_5 : decode cJ9_min_7cf53 5 = .ok (.iload_n 0, 1) := by decide +kernel
theorem dJ9_min_7cf53_6 : decode cJ9_min_7cf53 6 = .ok (.goto 4, 3) := by decide +kernel
theorem dJ9_min_7cf53_9 : decode cJ9_min_7cf53 9 = .ok (.iload_n 1, 1) := by decide +kernel
theorem dJ9_min_7cf53_10 : decode cJ9_min_7cf53 10 = .ok (.ireturn, 1) := by decide +kernel
set_option maxRecDepth 20000 in
theorem ggJ0_length_8abf5_J0_coder_7d493 : GoodIn wsJ0_length_8abf5 wsJ0_coder_7d493 := goodIn_r _ [6, 7, 8] (by decide +kernel) (by decide +kernel)
set_option maxRecDepth 20000 in
theorem gJ0_length_8abf5_J0_coder_7d493 : GoodIn wsJ0_length_8abf5 (wsV RJ0 335 RJ0 yJ0_coder_7d493 wsJ0_coder_7d493) := goodIn_app (goodIn_of _ (by decide +kernel)) ggJ0_length_8abf5_J0_coder_7d493
theorem dJ0_length_8abf5_0 : decode cJ0_length_8abf5 0 = .ok (.aload_n 0, 1) := by decide +kernel
theorem dJ0_length_8abf5_1 : decode cJ0_length_8abf5 1 = .ok (.getfield 9, 3) := by decide +kernel
theorem dJ0_length_8abf5_4 : decode cJ0_length_8abf5 4 = .ok (.arraylength, 1) := by decide +kernel
theorem dJ0_length_8abf5_5 : decode cJ0_length_8abf5 5 = .ok (.aload_n 0, 1) := by decide +kernel
theorem dJ0_length_8abf5_6 : decode cJ0_length_8abf5 6 = .ok (.invokevirtual 335, 3) := by decide +kernel
theorem dJ0_length_8abf5_9 : decode cJ0_length_8abf5 9 = .ok (.ishr, 1) := by decide +kernel
theorem dJ0_length_8abf5_10 : decode cJ0_length_8abf5 10 = .ok (.ireturn, 1) := by decide +kernel
set_option maxRecDepth 20000 in
theorem ggJ0_charAt_5068e_J0_isLatin1_aae02 : GoodIn wsJ0_charAt_5068e wsJ0_isLatin1_aae02 := goodIn_r _ [6, 7, 8] (by decide +kernel) (by decide +kernel)
set_option maxRecDepth 20000 in
theorem gJ0_charAt_5068e_J0_isLatin1_aae02 : GoodIn wsJ0_charAt_5068e (wsV RJ0 492 RJ0 yJ0_isLatin1_aae02 wsJ0_isLatin1_aae02) := goodIn_app (goodIn_of _ (by decide +kernel)) ggJ0_charAt_5068e_J0_isLatin1_aae02
set_option maxRecDepth 20000 in
theorem ggJ0_charAt_5068e_J1_charAt_3b067 : GoodIn wsJ0_charAt_5068e wsJ1_charAt_3b067 := goodIn_r _ [12, 13, 14, 5, 15, 16, 17, 18, 19, 20] (by decide +kernel) (by decide +kernel)
set_option maxRecDepth 20000 in
theorem gJ0_charAt_5068e_J1_charAt_3b067 : GoodIn wsJ0_charAt_5068e (va_wsS RJ0 495 yJ1_charAt_3b067 wsJ1_charAt_3b067) := goodIn_app (goodIn_of _ (by decide +kernel)) ggJ0_charAt_5068e_J1_charAt_3b067
set_option maxRecDepth 20000 in
theorem ggJ0_charAt_5068e_J2_charAt_3b067 : GoodIn wsJ0_charAt_5068e wsJ2_charAt_3b067 := goodIn_r _ [24, 25, 26, 23, 27, 28, 29, 30, 31, 14, 5, 15, 16, 17, 18, 19, 20, 32, 33, 34, 35, 36, 37] (by decide +kernel) (by decide +kernel)
set_option maxRecDepth 20000 in
theorem gJ0_charAt_5068e_J2_charAt_3b067 : GoodIn wsJ0_charAt_5068e (va_wsS RJ0 498 yJ2_charAt_3b067 wsJ2_charAt_3b067) := goodIn_app (goodIn_of _ (by decide +kernel)) ggJ0_charAt_5068e_J2_charAt_3b067
theorem dJ0_charAt_5068e_0 : decode cJ0_charAt_5068e 0 = .ok (.aload_n 0, 1) := by decide +kernel
theorem dJ0_charAt_5068e_1 : decode cJ0_charAt_5068e 1 = .ok (.invokevirtual 492, 3) := by decide +kernel
theorem dJ0_charAt_5068e_4 : decode cJ0_charAt_5068e 4 = .ok (.ifCond .eq 12, 3) := by decide +kernel
theorem dJ0_charAt_5068e_7 : decode cJ0_charAt_5068e 7 = .ok (.aload_n 0, 1) := by decide +kernel
theorem dJ0_charAt_5068e_8 : decode cJ0_charAt_5068e 8 = .ok (.getfield 9, 3) := by decide +kernel
theorem dJ0_charAt_5068e_11 : decode cJ0_charAt_5068e 11 = .ok (.iload_n 1, 1) := by decide +kernel
theorem dJ0_charAt_5068e_12 : decode cJ0_charAt_5068e 12 = .ok (.invokestatic 495, 3) := by decide +kernel
theorem dJ0_charAt_5068e_15 : decode cJ0_charAt_5068e 15 = .ok (.ireturn, 1) := by decide +kernel
theorem dJ0_charAt_5068e_16 : decode cJ0_charAt_5068e 16 = .ok (.aload_n 0, 1) := by decide +kernel
theorem dJ0_charAt_5068e_17 : decode cJ0_charAt_5068e 17 = .ok (.getfield 9, 3) := by decide +kernel
theorem dJ0_charAt_5068e_20 : decode cJ0_charAt_5068e 20 = .ok (.iload_n 1, 1) := by decide +kernel
theorem dJ0_charAt_5068e_21 : decode cJ0_charAt_5068e 21 = .ok (.invokestatic 498, 3) := by decide +kernel
theorem dJ0_charAt_5068e_24 : decode cJ0_charAt_5068e 24 = .ok (.ireturn, 1) := by decide +kernel
theorem dJ0_coder_7d493_0 : decode cJ0_coder_7d493 0 = .ok (.getstatic 38, 3) := by decide +kernel
theorem dJ0_coder_7d493_3 : decode cJ0_coder_7d493 3 = .ok (.ifCond .eq 10, 3) := by decide +kernel
theorem dJ0_coder_7d493_6 : decode cJ0_coder_7d493 6 = .ok (.aload_n 0, 1) := by decide +kernel
theorem dJ0_coder_7d493_7 : decode cJ0_coder_7d493 7 = .ok (.getfield 15, 3) := by decide +kernel
theorem dJ0_coder_7d493_10 : decode cJ0_coder_7d493 10 = .ok (.goto 4, 3) := by decide +kernel
theorem dJ0_coder_7d493_13 : decode cJ0_coder_7d493 13 = .ok (.iconst 1, 1) := by decide +kernel
theorem dJ0_coder_7d493_14 : decode cJ0_coder_7d493 14 = .ok (.ireturn, 1) := by decide +kernel
theorem dJ0_isLatin1_aae02_0 : decode cJ0_isLatin1_aae02 0 = .ok (.getstatic 38, 3) := by decide +kernel
theorem dJ0_isLatin1_aae02_3 : decode cJ0_isLatin1_aae02 3 = .ok (.ifCond .eq 14, 3) := by decide +kernel
theorem dJ0_isLatin1_aae02_6 : decode cJ0_isLatin1_aae02 6 = .ok (.aload_n 0, 1) := by decide +kernel
theorem dJ0_isLatin1_aae02_7 : decode cJ0_isLatin1_aae02 7 = .ok (.getfield 15, 3) := by decide +kernel
theorem dJ0_isLatin1_aae02_10 : decode cJ0_isLatin1_aae02 10 = .ok (.ifCond .ne 7, 3) := by decide +kernel
theorem dJ0_isLatin1_aae02_13 : decode cJ0_isLatin1_aae02 13 = .ok (.iconst 1, 1) := by decide +kernel
theorem dJ0_isLatin1_aae02_14 : decode cJ0_isLatin1_aae02 14 = .ok (.goto 4, 3) := by decide +kernel
theorem dJ0_isLatin1_aae02_17 : decode cJ0_isLatin1_aae02 17 = .ok (.iconst 0, 1) := by decide +kernel
theorem dJ0_isLatin1_aae02_18 : decode cJ0_isLatin1_aae02 18 = .ok (.ireturn, 1) := by decide +kernel
set_option maxRecDepth 20000 in
theorem ggJ0_checkIndex_df160_J3_checkIndex_8e157 : GoodIn wsJ0_checkIndex_df160 wsJ3_checkIndex_8e157 := goodIn_r _ [5] (by decide +kernel) (by decide +kernel)
set_option maxRecDepth 20000 in
theorem gJ0_checkIndex_df160_J3_checkIndex_8e157 : GoodIn wsJ0_checkIndex_df160 (va_wsS RJ0 1059 yJ3_checkIndex_8e157 wsJ3_checkIndex_8e157) := goodIn_app (goodIn_of _ (by decide +kernel)) ggJ0_checkIndex_df160_J3_checkIndex_8e157
theorem dJ0_checkIndex_df160_0 : decode cJ0_checkIndex_df160 0 = .ok (.iload_n 0, 1) := by decide +kernel
theorem dJ0_checkIndex_df160_1 : decode cJ0_checkIndex_df160 1 = .ok (.iload_n 1, 1) := by decide +kernel
theorem dJ0_checkIndex_df160_2 : decode cJ0_checkIndex_df160 2 = .ok (.getstatic 1053, 3) := by decide +kernel
theorem dJ0_checkIndex_df160_5 : decode cJ0_checkIndex_df160 5 = .ok (.invokestatic 1059, 3) := by decide +kernel
theorem dJ0_checkIndex_df160_8 : decode cJ0_checkIndex_df160 8 = .ok (.pop, 1) := by decide +kernel
theorem dJ0_checkIndex_df160_9 : decode cJ0_checkIndex_df160 9 = .ok (.return_, 1) := by decide +kernel
set_option maxRecDepth 20000 in
theorem ggJ1_charAt_3b067_J0_checkIndex_df160 : GoodIn wsJ1_charAt_3b067 wsJ0_checkIndex_df160 := goodIn_r _ [4, 5, 6, 7, 8, 9] (by decide +kernel) (by decide +kernel)
set_option maxRecDepth 20000 in
theorem gJ1_charAt_3b067_J0_checkIndex_df160 : GoodIn wsJ1_charAt_3b067 (va_wsS RJ1 9 yJ0_checkIndex_df160 wsJ0_checkIndex_df160) := goodIn_app (goodIn_of _ (by decide +kernel)) ggJ1_charAt_3b067_J0_checkIndex_df160
theorem dJ1_charAt_3b067_0 : decode cJ1_charAt_3b067 0 = .ok (.iload_n 1, 1) := by decide +kernel
theorem dJ1_charAt_3b067_1 : decode cJ1_charAt_3b067 1 = .ok (.aload_n 0, 1) := by decide +kernel
theorem dJ1_charAt_3b067_2 : decode cJ1_charAt_3b067 2 = .ok (.arraylength, 1) := by decide +kernel
theorem dJ1_charAt_3b067_3 : decode cJ1_charAt_3b067 3 = .ok (.invokestatic 9, 3) := by decide +kernel
theorem dJ1_charAt_3b067_6 : decode cJ1_charAt_3b067 6 = .ok (.aload_n 0, 1) := by decide +kernel
theorem dJ1_charAt_3b067_7 : decode cJ1_charAt_3b067 7 = .ok (.iload_n 1, 1) := by decide +kernel
theorem dJ1_charAt_3b067_8 : decode cJ1_charAt_3b067 8 = .ok (.baload, 1) := by decide +kernel
theorem dJ1_charAt_3b067_9 : decode cJ1_charAt_3b067 9 = .ok (.sipush 255, 3) := by decide +kernel
theorem dJ1_charAt_3b067_12 : decode cJ1_charAt_3b067 12 = .ok (.iand, 1) := by decide +kernel
theorem dJ1_charAt_3b067_13 : decode cJ1_charAt_3b067 13 = .ok (.i2c, 1) := by decide +kernel
theorem dJ1_charAt_3b067_14 : decode cJ1_charAt_3b067 14 = .ok (.ireturn, 1) := by decide +kernel
set_option maxRecDepth 20000 in
theorem ggJ2_getChar_3b067_J2_length_9d52b : GoodIn wsJ2_getChar_3b067 wsJ2_length_9d52b := goodIn_r _ [7] (by decide +kernel) (by decide +kernel)
set_option maxRecDepth 20000 in
theorem gJ2_getChar_3b067_J2_length_9d52b : GoodIn wsJ2_getChar_3b067 (va_wsS RJ2 48 yJ2_length_9d52b wsJ2_length_9d52b) := goodIn_app (goodIn_of _ (by decide +kernel)) ggJ2_getChar_3b067_J2_length_9d52b
theorem dJ2_getChar_3b067_0 : decode cJ2_getChar_3b067 0 = .ok (.getstatic 44, 3) := by decide +kernel
theorem dJ2_getChar_3b067_3 : decode cJ2_getChar_3b067 3 = .ok (.ifCond .ne 25, 3) := by decide +kernel
theorem dJ2_getChar_3b067_6 : decode cJ2_getChar_3b067 6 = .ok (.iload_n 1, 1) := by decide +kernel
theorem dJ2_getChar_3b067_7 : decode cJ2_getChar_3b067 7 = .ok (.ifCond .lt 11, 3) := by decide +kernel
theorem dJ2_getChar_3b067_10 : decode cJ2_getChar_3b067 10 = .ok (.iload_n 1, 1) := by decide +kernel
theorem dJ2_getChar_3b067_11 : decode cJ2_getChar_3b067 11 = .ok (.aload_n 0, 1) := by decide +kernel
theorem dJ2_getChar_3b067_12 : decode cJ2_getChar_3b067 12 = .ok (.invokestatic 48, 3) := by decide +kernel
theorem dJ2_getChar_3b067_15 : decode cJ2_getChar_3b067 15 = .ok (.if_icmp .lt 13, 3) := by decide +kernel
theorem dJ2_getChar_3b067_18 : decode cJ2_getChar_3b067 18 = .ok (.new 52, 3) := by decide +kernel
theorem dJ2_getChar_3b067_21 : decode cJ2_getChar_3b067 21 = .ok (.dup, 1) := by decide +kernel
theorem dJ2_getChar_3b067_22 : decode cJ2_getChar_3b067 22 = .ok (.ldc 54, 2) := by decide +kernel
theorem dJ2_getChar_3b067_24 : decode cJ2_getChar_3b067 24 = .ok (.invokespecial 56, 3) := by decide +kernel
theorem dJ2_getChar_3b067_27 : decode cJ2_getChar_3b067 27 = .ok (.athrow, 1) := by decide +kernel
theorem dJ2_getChar_3b067_28 : decode cJ2_getChar_3b067 28 = .ok (.iload_n 1, 1) := by decide +kernel
theorem dJ2_getChar_3b067_29 : decode cJ2_getChar_3b067 29 = .ok (.iconst 1, 1) := by decide +kernel
theorem dJ2_getChar_3b067_30 : decode cJ2_getChar_3b067 30 = .ok (.ishl, 1) := by decide +kernel
theorem dJ2_getChar_3b067_31 : decode cJ2_getChar_3b067 31 = .ok (.istore_n 1, 1) := by decide +kernel
theorem dJ2_getChar_3b067_32 : decode cJ2_getChar_3b067 32 = .ok (.aload_n 0, 1) := by decide +kernel
theorem dJ2_getChar_3b067_33 : decode cJ2_getChar_3b067 33 = .ok (.iload_n 1, 1) := by decide +kernel
theorem dJ2_getChar_3b067_34 : decode cJ2_getChar_3b067 34 = .ok (.iinc 1 1, 3) := by decide +kernel
theorem dJ2_getChar_3b067_37 : decode cJ2_getChar_3b067 37 = .ok (.baload, 1) := by decide +kernel
theorem dJ2_getChar_3b067_38 : decode cJ2_getChar_3b067 38 = .ok (.sipush 255, 3) := by decide +kernel
theorem dJ2_getChar_3b067_41 : decode cJ2_getChar_3b067 41 = .ok (.iand, 1) := by decide +kernel
theorem dJ2_getChar_3b067_42 : decode cJ2_getChar_3b067 42 = .ok (.getstatic 59, 3) := by decide +kernel
theorem dJ2_getChar_3b067_45 : decode cJ2_getChar_3b067 45 = .ok (.ishl, 1) := by decide +kernel
theorem dJ2_getChar_3b067_46 : decode cJ2_getChar_3b067 46 = .ok (.aload_n 0, 1) := by decide +kernel
theorem dJ2_getChar_3b067_47 : decode cJ2_getChar_3b067 47 = .ok (.iload_n 1, 1) := by decide +kernel
theorem dJ2_getChar_3b067_48 : decode cJ2_getChar_3b067 48 = .ok (.baload, 1) := by decide +kernel
theorem dJ2_getChar_3b067_49 : decode cJ2_getChar_3b067 49 = .ok (.sipush 255, 3) := by decide +kernel
theorem dJ2_getChar_3b067_52 : decode cJ2_getChar_3b067 52 = .ok (.iand, 1) := by decide +kernel
theorem dJ2_getChar_3b067_53 : decode cJ2_getChar_3b067 53 = .ok (.getstatic 63, 3) := by decide +kernel
theorem dJ2_getChar_3b067_56 : decode cJ2_getChar_3b067 56 = .ok (.ishl, 1) := by decide +kernel
theorem dJ2_getChar_3b067_57 : decode cJ2_getChar_3b067 57 = .ok (.ior, 1) := by decide +kernel
theorem dJ2_getChar_3b067_58 : decode cJ2_getChar_3b067 58 = .ok (.i2c, 1) := by decide +kernel
theorem dJ2_getChar_3b067_59 : decode cJ2_getChar_3b067 59 = .ok (.ireturn, 1) := by decide +kernel
theorem dJ2_length_9d52b_0 : decode cJ2_length_9d52b 0 = .ok (.aload_n 0, 1) := by decide +kernel
theorem dJ2_length_9d52b_1 : decode cJ2_length_9d52b 1 = .ok (.arraylength, 1) := by decide +kernel
theorem dJ2_length_9d52b_2 : decode cJ2_length_9d52b 2 = .ok (.iconst 1, 1) := by decide +kernel
theorem dJ2_length_9d52b_3 : decode cJ2_length_9d52b 3 = .ok (.ishr, 1) := by decide +kernel
theorem dJ2_length_9d52b_4 : decode cJ2_length_9d52b 4 = .ok (.ireturn, 1) := by decide +kernel
set_option maxRecDepth 20000 in
theorem ggJ2_charAt_3b067_J2_checkIndex_2214a : GoodIn wsJ2_charAt_3b067 wsJ2_checkIndex_2214a := goodIn_r _ [4, 5, 6, 3, 7, 8, 9, 10, 11, 12, 13, 14, 15, 16] (by decide +kernel) (by decide +kernel)
set_option maxRecDepth 20000 in
theorem gJ2_charAt_3b067_J2_checkIndex_2214a : GoodIn wsJ2_charAt_3b067 (va_wsS RJ2 67 yJ2_checkIndex_2214a wsJ2_checkIndex_2214a) := goodIn_app (goodIn_of _ (by decide +kernel)) ggJ2_charAt_3b067_J2_checkIndex_2214a
set_option maxRecDepth 20000 in
theorem ggJ2_charAt_3b067_J2_getChar_3b067 : GoodIn wsJ2_charAt_3b067 wsJ2_getChar_3b067 := goodIn_r _ [19, 20, 21, 22, 5, 6, 3, 7] (by decide +kernel) (by decide +kernel)
set_option maxRecDepth 20000 in
theorem gJ2_charAt_3b067_J2_getChar_3b067 : GoodIn wsJ2_charAt_3b067 (va_wsS RJ2 71 yJ2_getChar_3b067 wsJ2_getChar_3b067) := goodIn_app (goodIn_of _ (by decide +kernel)) ggJ2_charAt_3b067_J2_getChar_3b067
theorem dJ2_charAt_3b067_0 : decode cJ2_charAt_3b067 0 = .ok (.iload_n 1, 1) := by decide +kernel
theorem dJ2_charAt_3b067_1 : decode cJ2_charAt_3b067 1 = .ok (.aload_n 0, 1) := by decide +kernel
theorem dJ2_charAt_3b067_2 : decode cJ2_charAt_3b067 2 = .ok (.invokestatic 67, 3) := by decide +kernel
theorem dJ2_charAt_3b067_5 : decode cJ2_charAt_3b067 5 = .ok (.aload_n 0, 1) := by decide +kernel
theorem dJ2_charAt_3b067_6 : decode cJ2_charAt_3b067 6 = .ok (.iload_n 1, 1) := by decide +kernel
theorem dJ2_charAt_3b067_7 : decode cJ2_charAt_3b067 7 = .ok (.invokestatic 71, 3) := by decide +kernel
theorem dJ2_charAt_3b067_10 : decode cJ2_charAt_3b067 10 = .ok (.ireturn, 1) := by decide +kernel
set_option maxRecDepth 20000 in
theorem ggJ2_checkIndex_2214a_J2_length_9d52b : GoodIn wsJ2_checkIndex_2214a wsJ2_length_9d52b := goodIn_r _ [4] (by decide +kernel) (by decide +kernel)
set_option maxRecDepth 20000 in
theorem gJ2_checkIndex_2214a_J2_length_9d52b : GoodIn wsJ2_checkIndex_2214a (va_wsS RJ2 48 yJ2_length_9d52b wsJ2_length_9d52b) := goodIn_app (goodIn_of _ (by decide +kernel)) ggJ2_checkIndex_2214a_J2_length_9d52b
set_option maxRecDepth 20000 in
theorem ggJ2_checkIndex_2214a_J0_checkIndex_df160 : GoodIn wsJ2_checkIndex_2214a wsJ0_checkIndex_df160 := goodIn_r _ [8, 9, 10, 11, 12, 13] (by decide +kernel) (by decide +kernel)
set_option maxRecDepth 20000 in
theorem gJ2_checkIndex_2214a_J0_checkIndex_df160 : GoodIn wsJ2_checkIndex_2214a (va_wsS RJ2 414 yJ0_checkIndex_df160 wsJ0_checkIndex_df160) := goodIn_app (goodIn_of _ (by decide +kernel)) ggJ2_checkIndex_2214a_J0_checkIndex_df160
theorem dJ2_checkIndex_2214a_0 : decode cJ2_checkIndex_2214a 0 = .ok (.iload_n 0, 1) := by decide +kernel
theorem dJ2_checkIndex_2214a_1 : decode cJ2_checkIndex_2214a 1 = .ok (.aload_n 1, 1) := by decide +kernel
theorem dJ2_checkIndex_2214a_2 : decode cJ2_checkIndex_2214a 2 = .ok (.invokestatic 48, 3) := by decide +kernel
theorem dJ2_checkIndex_2214a_5 : decode cJ2_checkIndex_2214a 5 = .ok (.invokestatic 414, 3) := by decide +kernel
theorem dJ2_checkIndex_2214a_8 : decode cJ2_checkIndex_2214a 8 = .ok (.return_, 1) := by decide +kernel
theorem dJ3_checkIndex_8e157_0 : decode cJ3_checkIndex_8e157 0 = .ok (.iload_n 0, 1) := by decide +kernel
theorem dJ3_checkIndex_8e157_1 : decode cJ3_checkIndex_8e157 1 = .ok (.ifCond .lt 8, 3) := by decide +kernel
theorem dJ3_checkIndex_8e157_4 : decode cJ3_checkIndex_8e157 4 = .ok (.iload_n 0, 1) := by decide +kernel
theorem dJ3_checkIndex_8e157_5 : decode cJ3_checkIndex_8e157 5 = .ok (.iload_n 1, 1) := by decide +kernel
theorem dJ3_checkIndex_8e157_6 : decode cJ3_checkIndex_8e157 6 = .ok (.if_icmp .lt 10, 3) := by decide +kernel
theorem dJ3_checkIndex_8e157_9 : decode cJ3_checkIndex_8e157 9 = .ok (.aload_n 2, 1) := by decide +kernel
theorem dJ3_checkIndex_8e157_10 : decode cJ3_checkIndex_8e157 10 = .ok (.iload_n 0, 1) := by decide +kernel
theorem dJ3_checkIndex_8e157_11 : decode cJ3_checkIndex_8e157 11 = .ok (.iload_n 1, 1) := by decide +kernel
theorem dJ3_checkIndex_8e157_12 : decode cJ3_checkIndex_8e157 12 = .ok (.invokestatic 95, 3) := by decide +kernel
theorem dJ3_checkIndex_8e157_15 : decode cJ3_checkIndex_8e157 15 = .ok (.athrow, 1) := by decide +kernel
theorem dJ3_checkIndex_8e157_16 : decode cJ3_checkIndex_8e157 16 = .ok (.iload_n 0, 1) := by decide +kernel
theorem dJ3_checkIndex_8e157_17 : decode cJ3_checkIndex_8e157 17 = .ok (.ireturn, 1) := by decide +kernel
set_option maxRecDepth 20000 in
theorem ggL_law_X5_init : GoodIn wsL_law wsX5_init := goodIn_r _ [8, 9, 10, 11, 12, 13, 14, 15, 16, 17, 18, 19, 20, 21, 22, 23, 24, 25, 26, 27, 28, 29, 30, 31, 32, 33, 34, 35, 36, 37, 38, 39, 40, 41, 42, 43, 44, 45, 46, 47, 48, 49, 50, 51, 52, 53, 54, 55, 56, 57, 58, 59, 60, 61, 62, 63, 64, 65, 66, 67, 68, 69, 70, 71, 72, 73, 74, 75, 764, 765, 714, 715, 716, 717, 718, 719, 720, 721, 766, 767, 768, 769, 770, 771, 772, 773, 774, 775, 776, 777, 778, 779, 780, 781, 782, 783, 784, 785, 786, 787, 788, 789, 790, 791, 792, 793, 794, 795, 796, 797, 798, 799, 800, 801, 802] (by decide +kernel) (by decide +kernel)
set_option maxRecDepth 20000 in
theorem gL_law_X5_init : GoodIn wsL_law (wsX5_init) := ggL_law_X5_init
set_option maxRecDepth 20000 in
theorem ggL_law_X6_init : GoodIn wsL_law wsX6_init := goodIn_r _ [78, 79, 10, 11, 38, 80, 81, 82, 83, 84, 40, 85, 86, 87, 88, 89, 90, 91, 92, 93, 94, 95, 96, 97, 98, 99, 100, 101, 102, 103, 104, 105, 106, 107, 108, 109, 110, 111, 722, 723, 724, 725, 726, 727, 728, 729, 730, 731, 732, 733, 734, 735, 736, 737, 738, 739, 740, 741, 742, 743, 744, 745, 746, 747, 748, 749, 750, 751, 752, 753, 754, 755, 756, 757, 758, 759, 760, 761, 762, 763] (by decide +kernel) (by decide +kernel)
set_option maxRecDepth 20000 in
theorem gL_law_X6_init : GoodIn wsL_law (wsX6_init) := ggL_law_X6_init
set_option maxRecDepth 20000 in
theorem ggL_law_X5_mark : GoodIn wsL_law wsX5_mark := goodIn_r _ [115, 15, 116, 117, 118, 14, 119, 39, 41, 120, 121, 122, 123, 124, 125, 126, 127, 128, 129, 130, 131, 132, 133, 134, 135, 136, 137, 138, 139, 140, 141, 142, 143, 144, 145, 146, 147, 148, 149, 150, 151, 152, 153, 154, 155, 156, 157, 158, 159, 160, 161, 162, 163, 164, 2, 165, 714, 715, 716, 717, 718, 719, 720, 721, 764, 765] (by decide +kernel) (by decide +kernel)
set_option maxRecDepth 20000 in
theorem gL_law_X5_mark : GoodIn wsL_law (wsV RL 13 RX5 yX5_mark wsX5_mark) := goodIn_app (goodIn_of _ (by decide +kernel)) ggL_law_X5_mark
set_option maxRecDepth 20000 in
theorem ggL_law_X6_mark : GoodIn wsL_law wsX6_mark := goodIn_r _ [169, 170, 171, 5, 172, 173, 174, 175, 176, 177, 178, 179, 80, 84, 722, 723, 724, 725, 726, 727, 728, 729, 730, 731, 732, 733, 734, 735, 736, 737, 738, 739, 740, 741, 742, 743, 744, 745, 746, 747, 748, 749, 750, 751, 752, 753, 754, 755, 756, 757, 758, 759, 760, 761, 762, 763] (by decide +kernel) (by decide +kernel)
set_option maxRecDepth 20000 in
theorem gL_law_X6_mark : GoodIn wsL_law (wsV RL 17 RX6 yX6_mark wsX6_mark) := goodIn_app (goodIn_of _ (by decide +kernel)) ggL_law_X6_mark
set_option maxRecDepth 20000 in
theorem ggL_law_X5_line : GoodIn wsL_law wsX5_line := goodIn_r _ [183, 15, 184, 185, 186, 14, 187, 188, 189, 156, 190, 191, 192, 193, 120, 121, 122, 123, 124, 125, 194, 195, 196, 197, 198, 134, 199, 200, 117, 118, 119, 39, 41, 126, 127, 128, 129, 130, 131, 132, 133, 135, 136, 137, 138, 139, 140, 141, 142, 143, 144, 145, 146, 147, 148, 149, 150, 151, 152, 153, 154, 155, 157, 158, 159, 160, 161, 162, 163, 164, 2, 165, 714, 715, 716, 717, 718, 719, 720, 721, 764, 765] (by decide +kernel) (by decide +kernel)
set_option maxRecDepth 20000 in
theorem gL_law_X5_line : GoodIn wsL_law (wsV RL 18 RX5 yX5_line wsX5_line) := goodIn_app (goodIn_of _ (by decide +kernel)) ggL_law_X5_line
set_option maxRecDepth 20000 in
theorem ggL_law_X6_line : GoodIn wsL_law wsX6_line := goodIn_r _ [204, 205, 189, 156, 190, 206, 192, 193, 170, 171, 5, 172, 173, 174, 175, 207, 198, 134, 199, 176, 177, 178, 179, 80, 84, 722, 723, 724, 725, 726, 727, 728, 729, 730, 731, 732, 733, 734, 735, 736, 737, 738, 739, 740, 741, 742, 743, 744, 745, 746, 747, 748, 749, 750, 751, 752, 753, 754, 755, 756, 757, 758, 759, 760, 761, 762, 763] (by decide +kernel) (by decide +kernel)
set_option maxRecDepth 20000 in
theorem gL_law_X6_line : GoodIn wsL_law (wsV RL 22 RX6 yX6_line wsX6_line) := goodIn_app (goodIn_of _ (by decide +kernel)) ggL_law_X6_line
set_option maxRecDepth 20000 in
theorem ggL_law_X5_stands : GoodIn wsL_law wsX5_stands := goodIn_r _ [211, 212, 121, 14, 122, 213, 127, 128, 129, 130, 131, 132, 133, 134, 135, 214, 137, 138, 139, 140, 141] (by decide +kernel) (by decide +kernel)
set_option maxRecDepth 20000 in
theorem gL_law_X5_stands : GoodIn wsL_law (wsV RL 23 RX5 yX5_stands wsX5_stands) := goodIn_app (goodIn_of _ (by decide +kernel)) ggL_law_X5_stands
set_option maxRecDepth 20000 in
theorem ggL_law_X6_stands : GoodIn wsL_law wsX6_stands := goodIn_r _ [218, 170, 171, 5, 172, 173, 174, 175, 219, 220, 221, 222, 133, 134, 135, 223, 224, 225] (by decide +kernel) (by decide +kernel)
set_option maxRecDepth 20000 in
theorem gL_law_X6_stands : GoodIn wsL_law (wsV RL 27 RX6 yX6_stands wsX6_stands) := goodIn_app (goodIn_of _ (by decide +kernel)) ggL_law_X6_stands
set_option maxRecDepth 20000 in
theorem ggL_law_X5_colour : GoodIn wsL_law wsX5_colour := goodIn_r _ [229, 15, 230, 231, 14, 232, 233, 234, 235, 236, 142, 143, 144, 145, 146, 147, 148, 149, 132, 133, 134, 135, 129, 130, 131, 150, 151, 152, 153, 154, 155, 156, 157, 39, 139, 140, 141, 120, 121, 122, 158, 159, 160, 714, 715, 716, 717, 718, 719, 720, 721, 764, 765] (by decide +kernel) (by decide +kernel)
set_option maxRecDepth 20000 in
theorem gL_law_X5_colour : GoodIn wsL_law (wsV RL 28 RX5 yX5_colour wsX5_colour) := goodIn_app (goodIn_of _ (by decide +kernel)) ggL_law_X5_colour
set_option maxRecDepth 20000 in
theorem ggL_law_X6_colour : GoodIn wsL_law wsX6_colour := goodIn_r _ [240, 241, 242, 5, 243, 173, 174, 175, 244, 245, 246, 247, 205, 189, 156, 190, 248, 155, 157, 249, 250, 251, 252, 84, 82, 80, 219, 220, 221, 222, 133, 134, 135, 223, 224, 225, 722, 723, 724, 725, 726, 727, 728, 729, 730, 731, 732, 733, 734, 735, 736, 737, 738, 739, 740, 741, 742, 743, 744, 745, 746, 747, 748, 749, 750, 751, 752, 753, 754, 755, 756, 757, 758, 759, 760, 761, 762, 763] (by decide +kernel) (by decide +kernel)
set_option maxRecDepth 20000 in
theorem gL_law_X6_colour : GoodIn wsL_law (wsV RL 32 RX6 yX6_colour wsX6_colour) := goodIn_app (goodIn_of _ (by decide +kernel)) ggL_law_X6_colour
set_option maxRecDepth 20000 in
theorem ggL_law_X5_from : GoodIn wsL_law wsX5_from := goodIn_r _ [256, 15, 230, 231, 14, 232, 257, 143, 144, 145, 146, 147, 148, 149, 132, 133, 134, 135, 129, 130, 131, 150, 151, 152, 153, 154, 155, 156, 157, 39, 139, 140, 141, 120, 121, 122, 158, 159, 160, 714, 715, 716, 717, 718, 719, 720, 721, 764, 765] (by decide +kernel) (by decide +kernel)
set_option maxRecDepth 20000 in
theorem gL_law_X5_from : GoodIn wsL_law (wsV RL 33 RX5 yX5_from wsX5_from) := goodIn_app (goodIn_of _ (by decide +kernel)) ggL_law_X5_from
set_option maxRecDepth 20000 in
theorem ggL_law_X6_from : GoodIn wsL_law wsX6_from := goodIn_r _ [261, 241, 242, 5, 243, 173, 174, 175, 244, 245, 246, 247, 205, 189, 156, 190, 248, 155, 157, 249, 250, 251, 252, 84, 82, 80, 219, 220, 221, 222, 133, 134, 135, 223, 224, 225, 722, 723, 724, 725, 726, 727, 728, 729, 730, 731, 732, 733, 734, 735, 736, 737, 738, 739, 740, 741, 742, 743, 744, 745, 746, 747, 748, 749, 750, 751, 752, 753, 754, 755, 756, 757, 758, 759, 760, 761, 762, 763] (by decide +kernel) (by decide +kernel)
set_option maxRecDepth 20000 in
theorem gL_law_X6_from : GoodIn wsL_law (wsV RL 36 RX6 yX6_from wsX6_from) := goodIn_app (goodIn_of _ (by decide +kernel)) ggL_law_X6_from
set_option maxRecDepth 20000 in
theorem ggL_law_X5_seam : GoodIn wsL_law wsX5_seam := goodIn_r _ [265, 15, 266, 267, 268, 14, 269, 146, 147, 148, 149, 132, 133, 134, 135, 129, 130, 131, 150, 151, 152, 153, 154, 155, 156, 157, 39, 139, 140, 141, 120, 121, 122, 158, 159, 160, 714, 715, 716, 717, 718, 719, 720, 721, 764, 765] (by decide +kernel) (by decide +kernel)
set_option maxRecDepth 20000 in
theorem gL_law_X5_seam : GoodIn wsL_law (wsV RL 37 RX5 yX5_seam wsX5_seam) := goodIn_app (goodIn_of _ (by decide +kernel)) ggL_law_X5_seam
set_option maxRecDepth 20000 in
theorem ggL_law_X6_seam : GoodIn wsL_law wsX6_seam := goodIn_r _ [273, 173, 174, 5, 175, 249, 250, 251, 252, 84, 82, 80, 219, 220, 221, 222, 133, 134, 135, 223, 224, 225, 722, 723, 724, 725, 726, 727, 728, 729, 730, 731, 732, 733, 734, 735, 736, 737, 738, 739, 740, 741, 742, 743, 744, 745, 746, 747, 748, 749, 750, 751, 752, 753, 754, 755, 756, 757, 758, 759, 760, 761, 762, 763] (by decide +kernel) (by decide +kernel)
set_option maxRecDepth 20000 in
theorem gL_law_X6_seam : GoodIn wsL_law (wsV RL 41 RX6 yX6_seam wsX6_seam) := goodIn_app (goodIn_of _ (by decide +kernel)) ggL_law_X6_seam
set_option maxRecDepth 20000 in
theorem ggL_law_X5_gang : GoodIn wsL_law wsX5_gang := goodIn_r _ [277, 19, 278, 279, 280, 18, 281, 282, 46, 714, 715, 716, 717, 718, 719, 720, 721, 766, 767, 768, 769, 770, 771, 772, 773, 774, 775, 776, 777] (by decide +kernel) (by decide +kernel)
set_option maxRecDepth 20000 in
theorem gL_law_X5_gang : GoodIn wsL_law (wsV RL 42 RX5 yX5_gang wsX5_gang) := goodIn_app (goodIn_of _ (by decide +kernel)) ggL_law_X5_gang
set_option maxRecDepth 20000 in
theorem ggL_law_X6_gang : GoodIn wsL_law wsX6_gang := goodIn_r _ [286, 287, 85, 173, 174, 5, 175, 722, 723, 724, 725, 726, 727, 728, 729, 730, 731, 732, 733, 734, 735, 736, 737, 738, 739, 740, 741, 742, 743, 744, 745, 746, 747, 748, 749, 750, 751, 752, 753, 754, 755, 756, 757, 758, 759, 760, 761, 762, 763] (by decide +kernel) (by decide +kernel)
set_option maxRecDepth 20000 in
theorem gL_law_X6_gang : GoodIn wsL_law (wsV RL 45 RX6 yX6_gang wsX6_gang) := goodIn_app (goodIn_of _ (by decide +kernel)) ggL_law_X6_gang
set_option maxRecDepth 20000 in
theorem ggL_law_X5_put : GoodIn wsL_law wsX5_put := goodIn_r _ [291, 19, 292, 293, 294, 18, 295, 47, 48, 49, 296, 51, 50, 297, 192, 156, 193, 298, 299, 300, 301, 282, 164, 2, 165, 302, 303, 304, 305, 55, 306, 307, 308, 14, 309, 41, 714, 715, 716, 717, 718, 719, 720, 721, 766, 767, 768, 769, 770, 771, 772, 773, 774, 775, 776, 777, 764, 765] (by decide +kernel) (by decide +kernel)
set_option maxRecDepth 20000 in
theorem gL_law_X5_put : GoodIn wsL_law (wsV RL 46 RX5 yX5_put wsX5_put) := goodIn_app (goodIn_of _ (by decide +kernel)) ggL_law_X5_put
set_option maxRecDepth 20000 in
theorem ggL_law_X6_put : GoodIn wsL_law wsX6_put := goodIn_r _ [313, 287, 86, 87, 88, 314, 90, 89, 206, 192, 156, 193, 173, 174, 5, 175, 315, 316, 317, 318, 319, 320, 321, 244, 245, 246, 247, 205, 189, 190, 248, 155, 157, 249, 250, 251, 252, 84, 82, 80, 219, 220, 221, 222, 133, 134, 135, 223, 224, 225, 722, 723, 724, 725, 726, 727, 728, 729, 730, 731, 732, 733, 734, 735, 736, 737, 738, 739, 740, 741, 742, 743, 744, 745, 746, 747, 748, 749, 750, 751, 752, 753, 754, 755, 756, 757, 758, 759, 760, 761, 762, 763] (by decide +kernel) (by decide +kernel)
set_option maxRecDepth 20000 in
theorem gL_law_X6_put : GoodIn wsL_law (wsV RL 49 RX6 yX6_put wsX6_put) := goodIn_app (goodIn_of _ (by decide +kernel)) ggL_law_X6_put
set_option maxRecDepth 20000 in
theorem ggL_law_X5_day : GoodIn wsL_law wsX5_day := goodIn_r _ [325, 19, 326, 327, 328, 18, 329, 296, 47, 330, 331, 332, 333, 50, 46, 297, 192, 156, 193, 298, 299, 300, 301, 282, 164, 2, 165, 334, 335, 336, 337, 48, 51, 52, 53, 49, 714, 715, 716, 717, 718, 719, 720, 721, 766, 767, 768, 769, 770, 771, 772, 773, 774, 775, 776, 777] (by decide +kernel) (by decide +kernel)
set_option maxRecDepth 20000 in
theorem gL_law_X5_day : GoodIn wsL_law (wsV RL 50 RX5 yX5_day wsX5_day) := goodIn_app (goodIn_of _ (by decide +kernel)) ggL_law_X5_day
set_option maxRecDepth 20000 in
theorem ggL_law_X6_day : GoodIn wsL_law wsX6_day := goodIn_r _ [341, 314, 287, 86, 89, 85, 206, 192, 156, 193, 87, 90, 91, 92, 88, 722, 723, 724, 725, 726, 727, 728, 729, 730, 731, 732, 733, 734, 735, 736, 737, 738, 739, 740, 741, 742, 743, 744, 745, 746, 747, 748, 749, 750, 751, 752, 753, 754, 755, 756, 757, 758, 759, 760, 761, 762, 763] (by decide +kernel) (by decide +kernel)
set_option maxRecDepth 20000 in
theorem gL_law_X6_day : GoodIn wsL_law (wsV RL 54 RX6 yX6_day wsX6_day) := goodIn_app (goodIn_of _ (by decide +kernel)) ggL_law_X6_day
set_option maxRecDepth 20000 in
theorem ggL_law_X5_square : GoodIn wsL_law wsX5_square := goodIn_r _ [345, 19, 346, 347, 348, 18, 349, 48, 49, 50, 51, 52, 53, 164, 2, 165, 302, 303, 304, 305, 55, 306, 307, 308, 14, 309, 41, 714, 715, 716, 717, 718, 719, 720, 721, 766, 767, 768, 769, 770, 771, 772, 773, 774, 775, 776, 777, 764, 765] (by decide +kernel) (by decide +kernel)
set_option maxRecDepth 20000 in
theorem gL_law_X5_square : GoodIn wsL_law (wsV RL 55 RX5 yX5_square wsX5_square) := goodIn_app (goodIn_of _ (by decide +kernel)) ggL_law_X5_square
set_option maxRecDepth 20000 in
theorem ggL_law_X6_square : GoodIn wsL_law wsX6_square := goodIn_r _ [353, 87, 88, 89, 90, 91, 92, 315, 316, 5, 317, 173, 174, 175, 318, 319, 320, 321, 244, 245, 246, 247, 205, 189, 156, 190, 248, 155, 157, 249, 250, 251, 252, 84, 82, 80, 219, 220, 221, 222, 133, 134, 135, 223, 224, 225, 722, 723, 724, 725, 726, 727, 728, 729, 730, 731, 732, 733, 734, 735, 736, 737, 738, 739, 740, 741, 742, 743, 744, 745, 746, 747, 748, 749, 750, 751, 752, 753, 754, 755, 756, 757, 758, 759, 760, 761, 762, 763] (by decide +kernel) (by decide +kernel)
set_option maxRecDepth 20000 in
theorem gL_law_X6_square : GoodIn wsL_law (wsV RL 58 RX6 yX6_square wsX6_square) := goodIn_app (goodIn_of _ (by decide +kernel)) ggL_law_X6_square
set_option maxRecDepth 20000 in
theorem ggL_law_X5_least : GoodIn wsL_law wsX5_least := goodIn_r _ [357, 19, 358, 359, 360, 18, 361, 282, 54, 362, 363, 364, 365, 366, 367, 155, 156, 157, 368, 369, 370, 371, 297, 192, 193, 372, 373, 374, 375, 46, 302, 303, 304, 305, 55, 306, 307, 308, 14, 309, 41, 164, 2, 165, 714, 715, 716, 717, 718, 719, 720, 721, 766, 767, 768, 769, 770, 771, 772, 773, 774, 775, 776, 777, 764, 765] (by decide +kernel) (by decide +kernel)
set_option maxRecDepth 20000 in
theorem gL_law_X5_least : GoodIn wsL_law (wsV RL 59 RX5 yX5_least wsX5_least) := goodIn_app (goodIn_of _ (by decide +kernel)) ggL_law_X5_least
set_option maxRecDepth 20000 in
theorem ggL_law_X6_least : GoodIn wsL_law wsX6_least := goodIn_r _ [379, 287, 248, 155, 156, 157, 93, 94, 85, 206, 192, 193, 173, 174, 5, 175, 318, 319, 320, 321, 244, 245, 246, 247, 205, 189, 190, 249, 250, 251, 252, 84, 82, 80, 219, 220, 221, 222, 133, 134, 135, 223, 224, 225, 722, 723, 724, 725, 726, 727, 728, 729, 730, 731, 732, 733, 734, 735, 736, 737, 738, 739, 740, 741, 742, 743, 744, 745, 746, 747, 748, 749, 750, 751, 752, 753, 754, 755, 756, 757, 758, 759, 760, 761, 762, 763] (by decide +kernel) (by decide +kernel)
set_option maxRecDepth 20000 in
theorem gL_law_X6_least : GoodIn wsL_law (wsV RL 63 RX6 yX6_least wsX6_least) := goodIn_app (goodIn_of _ (by decide +kernel)) ggL_law_X6_least
set_option maxRecDepth 20000 in
theorem ggL_law_X5_feed : GoodIn wsL_law wsX5_feed := goodIn_r _ [383, 23, 384, 385, 386, 22, 387, 388, 389, 390, 391, 392, 59, 714, 715, 716, 717, 718, 719, 720, 721, 778, 779, 780, 781, 782, 783] (by decide +kernel) (by decide +kernel)
set_option maxRecDepth 20000 in
theorem gL_law_X5_feed : GoodIn wsL_law (wsV RL 64 RX5 yX5_feed wsX5_feed) := goodIn_app (goodIn_of _ (by decide +kernel)) ggL_law_X5_feed
set_option maxRecDepth 20000 in
theorem ggL_law_X6_feed : GoodIn wsL_law wsX6_feed := goodIn_r _ [396, 397, 398, 399, 400, 5, 401, 95, 722, 723, 724, 725, 726, 727, 728, 729, 730, 731, 732, 733, 734, 735, 736, 737, 738, 739, 740, 741, 742, 743, 744, 745, 746, 747, 748, 749, 750, 751, 752, 753, 754, 755, 756, 757, 758, 759, 760, 761, 762, 763] (by decide +kernel) (by decide +kernel)
set_option maxRecDepth 20000 in
theorem gL_law_X6_feed : GoodIn wsL_law (wsV RL 68 RX6 yX6_feed wsX6_feed) := goodIn_app (goodIn_of _ (by decide +kernel)) ggL_law_X6_feed
set_option maxRecDepth 20000 in
theorem ggL_law_X5_hall : GoodIn wsL_law wsX5_hall := goodIn_r _ [405, 23, 33, 32, 34, 25, 24, 30, 31, 406, 407, 408, 22, 409, 388, 410, 411, 412, 413, 414, 155, 156, 157, 415, 416, 417, 418, 419, 420, 421, 422, 423, 75, 424, 425, 426, 427, 428, 429, 430, 431, 432, 59, 433, 434, 435, 436, 437, 438, 439, 440, 441, 442, 443, 444, 445, 446, 447, 448, 449, 450, 451, 452, 453, 454, 455, 456, 457, 458, 459, 460, 461, 462, 463, 464, 465, 466, 467, 468, 469, 470, 471, 472, 473, 474, 475, 476, 477, 478, 479, 480, 481, 482, 483, 484, 485, 486, 487, 488, 489, 490, 491, 492, 493, 494, 495, 496, 497, 498, 499, 500, 501, 502, 503, 504, 505, 506, 507, 508, 509, 70, 71, 510, 511, 512, 513, 514, 515, 516, 517, 518, 519, 520, 521, 522, 523, 524, 525, 526, 527, 528, 529, 72, 73, 74, 66, 67, 68, 69, 10, 11, 40, 714, 715, 716, 717, 718, 719, 720, 721, 791, 792, 793, 794, 795, 796, 797, 798, 799, 800, 801, 802, 778, 779, 780, 781, 782, 783] (by decide +kernel) (by decide +kernel)
set_option maxRecDepth 20000 in
theorem gL_law_X5_hall : GoodIn wsL_law (wsV RL 69 RX5 yX5_hall wsX5_hall) := goodIn_app (goodIn_of _ (by decide +kernel)) ggL_law_X5_hall
set_option maxRecDepth 20000 in
theorem ggL_law_X6_hall : GoodIn wsL_law wsX6_hall := goodIn_r _ [533, 397, 534, 96, 95, 535, 536, 98, 97, 173, 174, 5, 175, 537, 538, 539, 540, 541, 542, 543, 544, 101, 99, 545, 546, 547, 548, 100, 549, 550, 551, 552, 553, 554, 555, 556, 557, 558, 559, 560, 561, 562, 563, 564, 565, 566, 567, 568, 102, 569, 570, 571, 103, 104, 722, 723, 724, 725, 726, 727, 728, 729, 730, 731, 732, 733, 734, 735, 736, 737, 738, 739, 740, 741, 742, 743, 744, 745, 746, 747, 748, 749, 750, 751, 752, 753, 754, 755, 756, 757, 758, 759, 760, 761, 762, 763] (by decide +kernel) (by decide +kernel)
set_option maxRecDepth 20000 in
theorem gL_law_X6_hall : GoodIn wsL_law (wsV RL 72 RX6 yX6_hall wsX6_hall) := goodIn_app (goodIn_of _ (by decide +kernel)) ggL_law_X6_hall
set_option maxRecDepth 20000 in
theorem ggL_law_X5_fault : GoodIn wsL_law wsX5_fault := goodIn_r _ [575, 34, 714, 715, 716, 717, 718, 719, 720, 721] (by decide +kernel) (by decide +kernel)
set_option maxRecDepth 20000 in
theorem gL_law_X5_fault : GoodIn wsL_law (wsV RL 73 RX5 yX5_fault wsX5_fault) := goodIn_app (goodIn_of _ (by decide +kernel)) ggL_law_X5_fault
set_option maxRecDepth 20000 in
theorem ggL_law_X6_fault : GoodIn wsL_law wsX6_fault := goodIn_r _ [579, 97, 722, 723, 724, 725, 726, 727, 728, 729, 730, 731, 732, 733, 734, 735, 736, 737, 738, 739, 740, 741, 742, 743, 744, 745, 746, 747, 748, 749, 750, 751, 752, 753, 754, 755, 756, 757, 758, 759, 760, 761, 762, 763] (by decide +kernel) (by decide +kernel)
set_option maxRecDepth 20000 in
theorem gL_law_X6_fault : GoodIn wsL_law (wsV RL 76 RX6 yX6_fault wsX6_fault) := goodIn_app (goodIn_of _ (by decide +kernel)) ggL_law_X6_fault
set_option maxRecDepth 20000 in
theorem ggL_law_X5_week : GoodIn wsL_law wsX5_week := goodIn_r _ [583, 584, 585, 586, 2, 587, 25, 588, 589, 590, 591, 592, 593, 594, 31, 595, 596, 75, 424, 597, 155, 156, 157, 598, 599, 600, 601, 602, 603, 604, 423, 70, 605, 606, 607, 608, 71, 609, 610, 611, 612, 72, 73, 74, 613, 614, 615, 616, 714, 715, 716, 717, 718, 719, 720, 721, 791, 792, 793, 794, 795, 796, 797, 798, 799, 800, 801, 802] (by decide +kernel) (by decide +kernel)
set_option maxRecDepth 20000 in
theorem gL_law_X5_week : GoodIn wsL_law (wsV RL 77 RX5 yX5_week wsX5_week) := goodIn_app (goodIn_of _ (by decide +kernel)) ggL_law_X5_week
set_option maxRecDepth 20000 in
theorem ggL_law_X6_week : GoodIn wsL_law wsX6_week := goodIn_r _ [620, 534, 105, 548, 248, 155, 156, 157, 106, 108, 109, 173, 174, 5, 175, 621, 622, 623, 624, 98, 99, 100, 625, 626, 627, 628, 101, 102, 103, 104, 722, 723, 724, 725, 726, 727, 728, 729, 730, 731, 732, 733, 734, 735, 736, 737, 738, 739, 740, 741, 742, 743, 744, 745, 746, 747, 748, 749, 750, 751, 752, 753, 754, 755, 756, 757, 758, 759, 760, 761, 762, 763] (by decide +kernel) (by decide +kernel)
set_option maxRecDepth 20000 in
theorem gL_law_X6_week : GoodIn wsL_law (wsV RL 80 RX6 yX6_week wsX6_week) := goodIn_app (goodIn_of _ (by decide +kernel)) ggL_law_X6_week
set_option maxRecDepth 20000 in
theorem ggL_law_X5_hallOf : GoodIn wsL_law wsX5_hallOf := goodIn_r _ [632, 584, 585, 586, 2, 587, 25, 633, 634, 635, 31, 636, 75, 596, 598, 599, 600, 424, 714, 715, 716, 717, 718, 719, 720, 721, 791, 792, 793, 794, 795, 796, 797, 798, 799, 800, 801, 802] (by decide +kernel) (by decide +kernel)
set_option maxRecDepth 20000 in
theorem gL_law_X5_hallOf : GoodIn wsL_law (wsV RL 81 RX5 yX5_hallOf wsX5_hallOf) := goodIn_app (goodIn_of _ (by decide +kernel)) ggL_law_X5_hallOf
set_option maxRecDepth 20000 in
theorem ggL_law_X6_hallOf : GoodIn wsL_law wsX6_hallOf := goodIn_r _ [640, 534, 105, 108, 109, 106, 173, 174, 5, 175, 621, 622, 623, 624, 98, 99, 100, 722, 723, 724, 725, 726, 727, 728, 729, 730, 731, 732, 733, 734, 735, 736, 737, 738, 739, 740, 741, 742, 743, 744, 745, 746, 747, 748, 749, 750, 751, 752, 753, 754, 755, 756, 757, 758, 759, 760, 761, 762, 763] (by decide +kernel) (by decide +kernel)
set_option maxRecDepth 20000 in
theorem gL_law_X6_hallOf : GoodIn wsL_law (wsV RL 84 RX6 yX6_hallOf wsX6_hallOf) := goodIn_app (goodIn_of _ (by decide +kernel)) ggL_law_X6_hallOf

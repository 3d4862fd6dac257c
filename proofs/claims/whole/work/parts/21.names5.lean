set_option maxRecDepth 20000 in
theorem gX5_count_X2_gangs : GoodIn wsX5_count (wsV RX5 142 RX2 yX2_gangs wsX2_gangs) := goodIn_app (goodIn_of _ (by decide +kernel)) ggX5_count_X2_gangs
set_option maxRecDepth 20000 in
theorem ggX5_count_X0_bytes : GoodIn wsX5_count wsX0_bytes := goodIn_r _ [20, 21, 53, 54, 55, 56, 57, 58] (by decide +kernel) (by decide +kernel)
set_option maxRecDepth 20000 in
theorem gX5_count_X0_bytes : GoodIn wsX5_count (wsV RX5 111 RX0 yX0_bytes wsX0_bytes) := goodIn_app (goodIn_of _ (by decide +kernel)) ggX5_count_X0_bytes
set_option maxRecDepth 20000 in
theorem ggX5_count_X4_colouredPlaces : GoodIn wsX5_count wsX4_colouredPlaces := goodIn_r _ [26, 27, 59, 60] (by decide +kernel) (by decide +kernel)
set_option maxRecDepth 20000 in
theorem gX5_count_X4_colouredPlaces : GoodIn wsX5_count (wsV RX5 145 RX4 yX4_colouredPlaces wsX4_colouredPlaces) := goodIn_app (goodIn_of _ (by decide +kernel)) ggX5_count_X4_colouredPlaces
set_option maxRecDepth 20000 in
theorem ggX5_count_X2_finishedSquares : GoodIn wsX5_count wsX2_finishedSquares := goodIn_r _ [31, 32, 41, 42, 43, 44, 45, 46, 47, 48, 49, 50, 51, 52] (by decide +kernel) (by decide +kernel)
set_option maxRecDepth 20000 in
theorem gX5_count_X2_finishedSquares : GoodIn wsX5_count (wsV RX5 148 RX2 yX2_finishedSquares wsX2_finishedSquares) := goodIn_app (goodIn_of _ (by decide +kernel)) ggX5_count_X2_finishedSquares
theorem dX5_count_0 : decode cX5_count 0 = .ok (.iload_n 1, 1) := by decide +kernel
theorem dX5_count_1 : decode cX5_count 1 = .ok (.tableswitch 84 0 5 #[39, 47, 55, 60, 68, 76], 39) := by decide +kernel
theorem dX5_count_40 : decode cX5_count 40 = .ok (.aload_n 0, 1) := by decide +kernel
theorem dX5_count_41 : decode cX5_count 41 = .ok (.getfield 21, 3) := by decide +kernel
theorem dX5_count_44 : decode cX5_count 44 = .ok (.invokevirtual 139, 3) := by decide +kernel
theorem dX5_count_47 : decode cX5_count 47 = .ok (.ireturn, 1) := by decide +kernel
theorem dX5_count_48 : decode cX5_count 48 = .ok (.aload_n 0, 1) := by decide +kernel
theorem dX5_count_49 : decode cX5_count 49 = .ok (.getfield 21, 3) := by decide +kernel
theorem dX5_count_52 : decode cX5_count 52 = .ok (.invokevirtual 142, 3) := by decide +kernel
theorem dX5_count_55 : decode cX5_count 55 = .ok (.ireturn, 1) := by decide +kernel
theorem dX5_count_56 : decode cX5_count 56 = .ok (.aload_n 0, 1) := by decide +kernel
theorem dX5_count_57 : decode cX5_count 57 = .ok (.getfield 50, 3) := by decide +kernel
theorem dX5_count_60 : decode cX5_count 60 = .ok (.ireturn, 1) := by decide +kernel
theorem dX5_count_61 : decode cX5_count 61 = .ok (.aload_n 0, 1) := by decide +kernel
theorem dX5_count_62 : decode cX5_count 62 = .ok (.getfield 28, 3) := by decide +kernel
theorem dX5_count_65 : decode cX5_count 65 = .ok (.invokevirtual 111, 3) := by decide +kernel
theorem dX5_count_68 : decode cX5_count 68 = .ok (.ireturn, 1) := by decide +kernel
theorem dX5_count_69 : decode cX5_count 69 = .ok (.aload_n 0, 1) := by decide +kernel
theorem dX5_count_70 : decode cX5_count 70 = .ok (.getfield 10, 3) := by decide +kernel
theorem dX5_count_73 : decode cX5_count 73 = .ok (.invokevirtual 145, 3) := by decide +kernel
theorem dX5_count_76 : decode cX5_count 76 = .ok (.ireturn, 1) := by decide +kernel
theorem dX5_count_77 : decode cX5_count 77 = .ok (.aload_n 0, 1) := by decide +kernel
theorem dX5_count_78 : decode cX5_count 78 = .ok (.getfield 21, 3) := by decide +kernel
theorem dX5_count_81 : decode cX5_count 81 = .ok (.invokevirtual 148, 3) := by decide +kernel
theorem dX5_count_84 : decode cX5_count 84 = .ok (.ireturn, 1) := by decide +kernel
theorem dX5_count_85 : decode cX5_count 85 = .ok (.iconst (-1), 1) := by decide +kernel
theorem dX5_count_86 : decode cX5_count 86 = .ok (.ireturn, 1) := by decide +kernel
theorem dX5_hallNumbered_0 : decode cX5_hallNumbered 0 = .ok (.iload_n 1, 1) := by decide +kernel
theorem dX5_hallNumbered_1 : decode cX5_hallNumbered 1 = .ok (.ifCond .lt 18, 3) := by decide +kernel
theorem dX5_hallNumbered_4 : decode cX5_hallNumbered 4 = .ok (.iload_n 1, 1) := by decide +kernel
theorem dX5_hallNumbered_5 : decode cX5_hallNumbered 5 = .ok (.bipush 12, 2) := by decide +kernel
theorem dX5_hallNumbered_7 : decode cX5_hallNumbered 7 = .ok (.if_icmp .ge 12, 3) := by decide +kernel
theorem dX5_hallNumbered_10 : decode cX5_hallNumbered 10 = .ok (.aload_n 0, 1) := by decide +kernel
theorem dX5_hallNumbered_11 : decode cX5_hallNumbered 11 = .ok (.getfield 34, 3) := by decide +kernel
theorem dX5_hallNumbered_14 : decode cX5_hallNumbered 14 = .ok (.iload_n 1, 1) := by decide +kernel
theorem dX5_hallNumbered_15 : decode cX5_hallNumbered 15 = .ok (.aaload, 1) := by decide +kernel
theorem dX5_hallNumbered_16 : decode cX5_hallNumbered 16 = .ok (.goto 4, 3) := by decide +kernel
theorem dX5_hallNumbered_19 : decode cX5_hallNumbered 19 = .ok (.aconst_null, 1) := by decide +kernel
theorem dX5_hallNumbered_20 : decode cX5_hallNumbered 20 = .ok (.areturn, 1) := by decide +kernel
theorem dX5_isTold_0 : decode cX5_isTold 0 = .ok (.iload_n 0, 1) := by decide +kernel
theorem dX5_isTold_1 : decode cX5_isTold 1 = .ok (.ifCond .lt 13, 3) := by decide +kernel
theorem dX5_isTold_4 : decode cX5_isTold 4 = .ok (.iload_n 0, 1) := by decide +kernel
theorem dX5_isTold_5 : decode cX5_isTold 5 = .ok (.ldc 151, 2) := by decide +kernel
theorem dX5_isTold_7 : decode cX5_isTold 7 = .ok (.if_icmp .gt 7, 3) := by decide +kernel
theorem dX5_isTold_10 : decode cX5_isTold 10 = .ok (.iconst 1, 1) := by decide +kernel
theorem dX5_isTold_11 : decode cX5_isTold 11 = .ok (.goto 4, 3) := by decide +kernel
theorem dX5_isTold_14 : decode cX5_isTold 14 = .ok (.iconst 0, 1) := by decide +kernel
theorem dX5_isTold_15 : decode cX5_isTold 15 = .ok (.ireturn, 1) := by decide +kernel
theorem dX5_isSquare_0 : decode cX5_isSquare 0 = .ok (.iload_n 0, 1) := by decide +kernel
theorem dX5_isSquare_1 : decode cX5_isSquare 1 = .ok (.ifCond .lt 13, 3) := by decide +kernel
theorem dX5_isSquare_4 : decode cX5_isSquare 4 = .ok (.iload_n 0, 1) := by decide +kernel
theorem dX5_isSquare_5 : decode cX5_isSquare 5 = .ok (.bipush 72, 2) := by decide +kernel
theorem dX5_isSquare_7 : decode cX5_isSquare 7 = .ok (.if_icmp .ge 7, 3) := by decide +kernel
theorem dX5_isSquare_10 : decode cX5_isSquare 10 = .ok (.iconst 1, 1) := by decide +kernel
theorem dX5_isSquare_11 : decode cX5_isSquare 11 = .ok (.goto 4, 3) := by decide +kernel
theorem dX5_isSquare_14 : decode cX5_isSquare 14 = .ok (.iconst 0, 1) := by decide +kernel
theorem dX5_isSquare_15 : decode cX5_isSquare 15 = .ok (.ireturn, 1) := by decide +kernel
theorem dX6_init_0 : decode cX6_init 0 = .ok (.aload_n 0, 1) := by decide +kernel
theorem dX6_init_1 : decode cX6_init 1 = .ok (.invokespecial 1, 3) := by decide +kernel
theorem dX6_init_4 : decode cX6_init 4 = .ok (.aload_n 0, 1) := by decide +kernel
theorem dX6_init_5 : decode cX6_init 5 = .ok (.sipush 9600, 3) := by decide +kernel
theorem dX6_init_8 : decode cX6_init 8 = .ok (.newarray .byte, 2) := by decide +kernel
theorem dX6_init_10 : decode cX6_init 10 = .ok (.putfield 7, 3) := by decide +kernel
theorem dX6_init_13 : decode cX6_init 13 = .ok (.aload_n 0, 1) := by decide +kernel
theorem dX6_init_14 : decode cX6_init 14 = .ok (.ldc 13, 2) := by decide +kernel
theorem dX6_init_16 : decode cX6_init 16 = .ok (.newarray .byte, 2) := by decide +kernel
theorem dX6_init_18 : decode cX6_init 18 = .ok (.putfield 14, 3) := by decide +kernel
theorem dX6_init_21 : decode cX6_init 21 = .ok (.aload_n 0, 1) := by decide +kernel
theorem dX6_init_22 : decode cX6_init 22 = .ok (.bipush 12, 2) := by decide +kernel
theorem dX6_init_24 : decode cX6_init 24 = .ok (.newarray .boolean, 2) := by decide +kernel
theorem dX6_init_26 : decode cX6_init 26 = .ok (.putfield 17, 3) := by decide +kernel
theorem dX6_init_29 : decode cX6_init 29 = .ok (.aload_n 0, 1) := by decide +kernel
theorem dX6_init_30 : decode cX6_init 30 = .ok (.bipush 6, 2) := by decide +kernel
theorem dX6_init_32 : decode cX6_init 32 = .ok (.newarray .int, 2) := by decide +kernel
theorem dX6_init_34 : decode cX6_init 34 = .ok (.putfield 21, 3) := by decide +kernel
theorem dX6_init_37 : decode cX6_init 37 = .ok (.aload_n 0, 1) := by decide +kernel
theorem dX6_init_38 : decode cX6_init 38 = .ok (.bipush 6, 2) := by decide +kernel
theorem dX6_init_40 : decode cX6_init 40 = .ok (.newarray .int, 2) := by decide +kernel
theorem dX6_init_42 : decode cX6_init 42 = .ok (.putfield 25, 3) := by decide +kernel
theorem dX6_init_45 : decode cX6_init 45 = .ok (.aload_n 0, 1) := by decide +kernel
theorem dX6_init_46 : decode cX6_init 46 = .ok (.bipush 72, 2) := by decide +kernel
theorem dX6_init_48 : decode cX6_init 48 = .ok (.newarray .int, 2) := by decide +kernel
theorem dX6_init_50 : decode cX6_init 50 = .ok (.putfield 28, 3) := by decide +kernel
theorem dX6_init_53 : decode cX6_init 53 = .ok (.aload_n 0, 1) := by decide +kernel
theorem dX6_init_54 : decode cX6_init 54 = .ok (.bipush 72, 2) := by decide +kernel
theorem dX6_init_56 : decode cX6_init 56 = .ok (.newarray .int, 2) := by decide +kernel
theorem dX6_init_58 : decode cX6_init 58 = .ok (.putfield 31, 3) := by decide +kernel
theorem dX6_init_61 : decode cX6_init 61 = .ok (.aload_n 0, 1) := by decide +kernel
theorem dX6_init_62 : decode cX6_init 62 = .ok (.bipush 72, 2) := by decide +kernel
theorem dX6_init_64 : decode cX6_init 64 = .ok (.newarray .int, 2) := by decide +kernel
theorem dX6_init_66 : decode cX6_init 66 = .ok (.putfield 34, 3) := by decide +kernel
theorem dX6_init_69 : decode cX6_init 69 = .ok (.aload_n 0, 1) := by decide +kernel
theorem dX6_init_70 : decode cX6_init 70 = .ok (.bipush 72, 2) := by decide +kernel
theorem dX6_init_72 : decode cX6_init 72 = .ok (.newarray .int, 2) := by decide +kernel
theorem dX6_init_74 : decode cX6_init 74 = .ok (.putfield 37, 3) := by decide +kernel
theorem dX6_init_77 : decode cX6_init 77 = .ok (.aload_n 0, 1) := by decide +kernel
theorem dX6_init_78 : decode cX6_init 78 = .ok (.bipush 72, 2) := by decide +kernel
theorem dX6_init_80 : decode cX6_init 80 = .ok (.newarray .int, 2) := by decide +kernel
theorem dX6_init_82 : decode cX6_init 82 = .ok (.putfield 40, 3) := by decide +kernel
theorem dX6_init_85 : decode cX6_init 85 = .ok (.aload_n 0, 1) := by decide +kernel
theorem dX6_init_86 : decode cX6_init 86 = .ok (.bipush 72, 2) := by decide +kernel
theorem dX6_init_88 : decode cX6_init 88 = .ok (.newarray .int, 2) := by decide +kernel
theorem dX6_init_90 : decode cX6_init 90 = .ok (.putfield 43, 3) := by decide +kernel
theorem dX6_init_93 : decode cX6_init 93 = .ok (.aload_n 0, 1) := by decide +kernel
theorem dX6_init_94 : decode cX6_init 94 = .ok (.bipush 6, 2) := by decide +kernel
theorem dX6_init_96 : decode cX6_init 96 = .ok (.newarray .int, 2) := by decide +kernel
theorem dX6_init_98 : decode cX6_init 98 = .ok (.putfield 46, 3) := by decide +kernel
theorem dX6_init_101 : decode cX6_init 101 = .ok (.aload_n 0, 1) := by decide +kernel
theorem dX6_init_102 : decode cX6_init 102 = .ok (.iconst 3, 1) := by decide +kernel
theorem dX6_init_103 : decode cX6_init 103 = .ok (.newarray .int, 2) := by decide +kernel
theorem dX6_init_105 : decode cX6_init 105 = .ok (.putfield 49, 3) := by decide +kernel
theorem dX6_init_108 : decode cX6_init 108 = .ok (.aload_n 0, 1) := by decide +kernel
theorem dX6_init_109 : decode cX6_init 109 = .ok (.sipush 600, 3) := by decide +kernel
theorem dX6_init_112 : decode cX6_init 112 = .ok (.newarray .byte, 2) := by decide +kernel
theorem dX6_init_114 : decode cX6_init 114 = .ok (.putfield 52, 3) := by decide +kernel
theorem dX6_init_117 : decode cX6_init 117 = .ok (.aload_n 0, 1) := by decide +kernel
theorem dX6_init_118 : decode cX6_init 118 = .ok (.sipush 600, 3) := by decide +kernel
theorem dX6_init_121 : decode cX6_init 121 = .ok (.newarray .byte, 2) := by decide +kernel
theorem dX6_init_123 : decode cX6_init 123 = .ok (.putfield 55, 3) := by decide +kernel
theorem dX6_init_126 : decode cX6_init 126 = .ok (.aload_n 0, 1) := by decide +kernel
theorem dX6_init_127 : decode cX6_init 127 = .ok (.iconst (-1), 1) := by decide +kernel
theorem dX6_init_128 : decode cX6_init 128 = .ok (.putfield 58, 3) := by decide +kernel
theorem dX6_init_131 : decode cX6_init 131 = .ok (.aload_n 0, 1) := by decide +kernel
theorem dX6_init_132 : decode cX6_init 132 = .ok (.bipush 13, 2) := by decide +kernel
theorem dX6_init_134 : decode cX6_init 134 = .ok (.newarray .int, 2) := by decide +kernel
theorem dX6_init_136 : decode cX6_init 136 = .ok (.putfield 62, 3) := by decide +kernel
theorem dX6_init_139 : decode cX6_init 139 = .ok (.aload_n 0, 1) := by decide +kernel
theorem dX6_init_140 : decode cX6_init 140 = .ok (.sipush 156, 3) := by decide +kernel
theorem dX6_init_143 : decode cX6_init 143 = .ok (.newarray .int, 2) := by decide +kernel
theorem dX6_init_145 : decode cX6_init 145 = .ok (.putfield 65, 3) := by decide +kernel
theorem dX6_init_148 : decode cX6_init 148 = .ok (.aload_n 0, 1) := by decide +kernel
theorem dX6_init_149 : decode cX6_init 149 = .ok (.sipush 156, 3) := by decide +kernel
theorem dX6_init_152 : decode cX6_init 152 = .ok (.newarray .int, 2) := by decide +kernel
theorem dX6_init_154 : decode cX6_init 154 = .ok (.putfield 68, 3) := by decide +kernel
theorem dX6_init_157 : decode cX6_init 157 = .ok (.aload_n 0, 1) := by decide +kernel
theorem dX6_init_158 : decode cX6_init 158 = .ok (.sipush 156, 3) := by decide +kernel
theorem dX6_init_161 : decode cX6_init 161 = .ok (.newarray .int, 2) := by decide +kernel
theorem dX6_init_163 : decode cX6_init 163 = .ok (.putfield 71, 3) := by decide +kernel
theorem dX6_init_166 : decode cX6_init 166 = .ok (.aload_n 0, 1) := by decide +kernel
theorem dX6_init_167 : decode cX6_init 167 = .ok (.sipush 468, 3) := by decide +kernel
theorem dX6_init_170 : decode cX6_init 170 = .ok (.newarray .int, 2) := by decide +kernel
theorem dX6_init_172 : decode cX6_init 172 = .ok (.putfield 74, 3) := by decide +kernel
theorem dX6_init_175 : decode cX6_init 175 = .ok (.aload_n 0, 1) := by decide +kernel
theorem dX6_init_176 : decode cX6_init 176 = .ok (.sipush 468, 3) := by decide +kernel
theorem dX6_init_179 : decode cX6_init 179 = .ok (.newarray .int, 2) := by decide +kernel
theorem dX6_init_181 : decode cX6_init 181 = .ok (.putfield 77, 3) := by decide +kernel
theorem dX6_init_184 : decode cX6_init 184 = .ok (.aload_n 0, 1) := by decide +kernel
theorem dX6_init_185 : decode cX6_init 185 = .ok (.sipush 468, 3) := by decide +kernel
theorem dX6_init_188 : decode cX6_init 188 = .ok (.newarray .int, 2) := by decide +kernel
theorem dX6_init_190 : decode cX6_init 190 = .ok (.putfield 80, 3) := by decide +kernel
theorem dX6_init_193 : decode cX6_init 193 = .ok (.aload_n 0, 1) := by decide +kernel
theorem dX6_init_194 : decode cX6_init 194 = .ok (.bipush 12, 2) := by decide +kernel
theorem dX6_init_196 : decode cX6_init 196 = .ok (.newarray .int, 2) := by decide +kernel
theorem dX6_init_198 : decode cX6_init 198 = .ok (.putfield 83, 3) := by decide +kernel
theorem dX6_init_201 : decode cX6_init 201 = .ok (.aload_n 0, 1) := by decide +kernel
theorem dX6_init_202 : decode cX6_init 202 = .ok (.bipush 12, 2) := by decide +kernel
theorem dX6_init_204 : decode cX6_init 204 = .ok (.newarray .int, 2) := by decide +kernel
theorem dX6_init_206 : decode cX6_init 206 = .ok (.putfield 86, 3) := by decide +kernel
theorem dX6_init_209 : decode cX6_init 209 = .ok (.aload_n 0, 1) := by decide +kernel
theorem dX6_init_210 : decode cX6_init 210 = .ok (.bipush 12, 2) := by decide +kernel
theorem dX6_init_212 : decode cX6_init 212 = .ok (.newarray .long, 2) := by decide +kernel
theorem dX6_init_214 : decode cX6_init 214 = .ok (.putfield 89, 3) := by decide +kernel
theorem dX6_init_217 : decode cX6_init 217 = .ok (.aload_n 0, 1) := by decide +kernel
theorem dX6_init_218 : decode cX6_init 218 = .ok (.bipush 12, 2) := by decide +kernel
theorem dX6_init_220 : decode cX6_init 220 = .ok (.newarray .long, 2) := by decide +kernel
theorem dX6_init_222 : decode cX6_init 222 = .ok (.putfield 93, 3) := by decide +kernel
theorem dX6_init_225 : decode cX6_init 225 = .ok (.aload_n 0, 1) := by decide +kernel
theorem dX6_init_226 : decode cX6_init 226 = .ok (.bipush 40, 2) := by decide +kernel
theorem dX6_init_228 : decode cX6_init 228 = .ok (.putfield 96, 3) := by decide +kernel
theorem dX6_init_231 : decode cX6_init 231 = .ok (.aload_n 0, 1) := by decide +kernel
theorem dX6_init_232 : decode cX6_init 232 = .ok (.bipush 12, 2) := by decide +kernel
theorem dX6_init_234 : decode cX6_init 234 = .ok (.newarray .int, 2) := by decide +kernel
theorem dX6_init_236 : decode cX6_init 236 = .ok (.putfield 99, 3) := by decide +kernel
theorem dX6_init_239 : decode cX6_init 239 = .ok (.iconst 0, 1) := by decide +kernel
theorem dX6_init_240 : decode cX6_init 240 = .ok (.istore_n 1, 1) := by decide +kernel
theorem dX6_init_241 : decode cX6_init 241 = .ok (.iload_n 1, 1) := by decide +kernel
theorem dX6_init_242 : decode cX6_init 242 = .ok (.bipush 6, 2) := by decide +kernel
theorem dX6_init_244 : decode cX6_init 244 = .ok (.if_icmp .ge 16, 3) := by decide +kernel
theorem dX6_init_247 : decode cX6_init 247 = .ok (.aload_n 0, 1) := by decide +kernel
theorem dX6_init_248 : decode cX6_init 248 = .ok (.getfield 25, 3) := by decide +kernel
theorem dX6_init_251 : decode cX6_init 251 = .ok (.iload_n 1, 1) := by decide +kernel
theorem dX6_init_252 : decode cX6_init 252 = .ok (.iconst (-1), 1) := by decide +kernel
theorem dX6_init_253 : decode cX6_init 253 = .ok (.iastore, 1) := by decide +kernel
theorem dX6_init_254 : decode cX6_init 254 = .ok (.iinc 1 1, 3) := by decide +kernel
theorem dX6_init_257 : decode cX6_init 257 = .ok (.goto (-16), 3) := by decide +kernel
theorem dX6_init_260 : decode cX6_init 260 = .ok (.iconst 0, 1) := by decide +kernel
theorem dX6_init_261 : decode cX6_init 261 = .ok (.istore_n 1, 1) := by decide +kernel
theorem dX6_init_262 : decode cX6_init 262 = .ok (.iload_n 1, 1) := by decide +kernel
theorem dX6_init_263 : decode cX6_init 263 = .ok (.bipush 72, 2) := by decide +kernel
theorem dX6_init_265 : decode cX6_init 265 = .ok (.if_icmp .ge 37, 3) := by decide +kernel
theorem dX6_init_268 : decode cX6_init 268 = .ok (.aload_n 0, 1) := by decide +kernel
theorem dX6_init_269 : decode cX6_init 269 = .ok (.getfield 31, 3) := by decide +kernel
theorem dX6_init_272 : decode cX6_init 272 = .ok (.iload_n 1, 1) := by decide +kernel
theorem dX6_init_273 : decode cX6_init 273 = .ok (.iconst (-1), 1) := by decide +kernel
theorem dX6_init_274 : decode cX6_init 274 = .ok (.iastore, 1) := by decide +kernel
theorem dX6_init_275 : decode cX6_init 275 = .ok (.aload_n 0, 1) := by decide +kernel
theorem dX6_init_276 : decode cX6_init 276 = .ok (.getfield 37, 3) := by decide +kernel
theorem dX6_init_279 : decode cX6_init 279 = .ok (.iload_n 1, 1) := by decide +kernel
theorem dX6_init_280 : decode cX6_init 280 = .ok (.iconst (-1), 1) := by decide +kernel
theorem dX6_init_281 : decode cX6_init 281 = .ok (.iastore, 1) := by decide +kernel
theorem dX6_init_282 : decode cX6_init 282 = .ok (.aload_n 0, 1) := by decide +kernel
theorem dX6_init_283 : decode cX6_init 283 = .ok (.getfield 40, 3) := by decide +kernel
theorem dX6_init_286 : decode cX6_init 286 = .ok (.iload_n 1, 1) := by decide +kernel
theorem dX6_init_287 : decode cX6_init 287 = .ok (.iconst (-1), 1) := by decide +kernel
theorem dX6_init_288 : decode cX6_init 288 = .ok (.iastore, 1) := by decide +kernel
theorem dX6_init_289 : decode cX6_init 289 = .ok (.aload_n 0, 1) := by decide +kernel
theorem dX6_init_290 : decode cX6_init 290 = .ok (.getfield 43, 3) := by decide +kernel
theorem dX6_init_293 : decode cX6_init 293 = .ok (.iload_n 1, 1) := by decide +kernel
theorem dX6_init_294 : decode cX6_init 294 = .ok (.iconst (-1), 1) := by decide +kernel
theorem dX6_init_295 : decode cX6_init 295 = .ok (.iastore, 1) := by decide +kernel
theorem dX6_init_296 : decode cX6_init 296 = .ok (.iinc 1 1, 3) := by decide +kernel
theorem dX6_init_299 : decode cX6_init 299 = .ok (.goto (-37), 3) := by decide +kernel
theorem dX6_init_302 : decode cX6_init 302 = .ok (.return_, 1) := by decide +kernel
theorem dX6_isIn_0 : decode cX6_isIn 0 = .ok (.iload_n 0, 1) := by decide +kernel
theorem dX6_isIn_1 : decode cX6_isIn 1 = .ok (.iload_n 1, 1) := by decide +kernel
theorem dX6_isIn_2 : decode cX6_isIn 2 = .ok (.if_icmp .lt 12, 3) := by decide +kernel
theorem dX6_isIn_5 : decode cX6_isIn 5 = .ok (.iload_n 0, 1) := by decide +kernel
theorem dX6_isIn_6 : decode cX6_isIn 6 = .ok (.iload_n 2, 1) := by decide +kernel
theorem dX6_isIn_7 : decode cX6_isIn 7 = .ok (.if_icmp .gt 7, 3) := by decide +kernel
theorem dX6_isIn_10 : decode cX6_isIn 10 = .ok (.iconst 1, 1) := by decide +kernel
theorem dX6_isIn_11 : decode cX6_isIn 11 = .ok (.goto 4, 3) := by decide +kernel
theorem dX6_isIn_14 : decode cX6_isIn 14 = .ok (.iconst 0, 1) := by decide +kernel
theorem dX6_isIn_15 : decode cX6_isIn 15 = .ok (.ireturn, 1) := by decide +kernel
set_option maxRecDepth 20000 in
theorem ggX6_isMark_X6_isIn : GoodIn wsX6_isMark wsX6_isIn := goodIn_r _ [4] (by decide +kernel) (by decide +kernel)
set_option maxRecDepth 20000 in
theorem gX6_isMark_X6_isIn : GoodIn wsX6_isMark (va_wsS RX6 102 yX6_isIn wsX6_isIn) := goodIn_app (goodIn_of _ (by decide +kernel)) ggX6_isMark_X6_isIn
theorem dX6_isMark_0 : decode cX6_isMark 0 = .ok (.iload_n 0, 1) := by decide +kernel
theorem dX6_isMark_1 : decode cX6_isMark 1 = .ok (.iconst 0, 1) := by decide +kernel
theorem dX6_isMark_2 : decode cX6_isMark 2 = .ok (.bipush 11, 2) := by decide +kernel
theorem dX6_isMark_4 : decode cX6_isMark 4 = .ok (.invokestatic 102, 3) := by decide +kernel
theorem dX6_isMark_7 : decode cX6_isMark 7 = .ok (.ifCond .eq 27, 3) := by decide +kernel
theorem dX6_isMark_10 : decode cX6_isMark 10 = .ok (.iload_n 1, 1) := by decide +kernel
theorem dX6_isMark_11 : decode cX6_isMark 11 = .ok (.iconst 0, 1) := by decide +kernel
theorem dX6_isMark_12 : decode cX6_isMark 12 = .ok (.bipush 39, 2) := by decide +kernel
theorem dX6_isMark_14 : decode cX6_isMark 14 = .ok (.invokestatic 102, 3) := by decide +kernel
theorem dX6_isMark_17 : decode cX6_isMark 17 = .ok (.ifCond .eq 17, 3) := by decide +kernel
theorem dX6_isMark_20 : decode cX6_isMark 20 = .ok (.iload_n 2, 1) := by decide +kernel
theorem dX6_isMark_21 : decode cX6_isMark 21 = .ok (.iconst 0, 1) := by decide +kernel
theorem dX6_isMark_22 : decode cX6_isMark 22 = .ok (.bipush 19, 2) := by decide +kernel
theorem dX6_isMark_24 : decode cX6_isMark 24 = .ok (.invokestatic 102, 3) := by decide +kernel
theorem dX6_isMark_27 : decode cX6_isMark 27 = .ok (.ifCond .eq 7, 3) := by decide +kernel
theorem dX6_isMark_30 : decode cX6_isMark 30 = .ok (.iconst 1, 1) := by decide +kernel
theorem dX6_isMark_31 : decode cX6_isMark 31 = .ok (.goto 4, 3) := by decide +kernel
theorem dX6_isMark_34 : decode cX6_isMark 34 = .ok (.iconst 0, 1) := by decide +kernel
theorem dX6_isMark_35 : decode cX6_isMark 35 = .ok (.ireturn, 1) := by decide +kernel
theorem dX6_puts_0 : decode cX6_puts 0 = .ok (.aload_n 0, 1) := by decide +kernel
theorem dX6_puts_1 : decode cX6_puts 1 = .ok (.getfield 7, 3) := by decide +kernel
theorem dX6_puts_4 : decode cX6_puts 4 = .ok (.iload_n 1, 1) := by decide +kernel
theorem dX6_puts_5 : decode cX6_puts 5 = .ok (.bipush 40, 2) := by decide +kernel
theorem dX6_puts_7 : decode cX6_puts 7 = .ok (.imul, 1) := by decide +kernel
theorem dX6_puts_8 : decode cX6_puts 8 = .ok (.iload_n 2, 1) := by decide +kernel
theorem dX6_puts_9 : decode cX6_puts 9 = .ok (.iadd, 1) := by decide +kernel
theorem dX6_puts_10 : decode cX6_puts 10 = .ok (.bipush 20, 2) := by decide +kernel
theorem dX6_puts_12 : decode cX6_puts 12 = .ok (.imul, 1) := by decide +kernel
theorem dX6_puts_13 : decode cX6_puts 13 = .ok (.iload_n 3, 1) := by decide +kernel
theorem dX6_puts_14 : decode cX6_puts 14 = .ok (.iadd, 1) := by decide +kernel
theorem dX6_puts_15 : decode cX6_puts 15 = .ok (.iload 4, 2) := by decide +kernel
theorem dX6_puts_17 : decode cX6_puts 17 = .ok (.i2b, 1) := by decide +kernel
theorem dX6_puts_18 : decode cX6_puts 18 = .ok (.bastore, 1) := by decide +kernel
theorem dX6_puts_19 : decode cX6_puts 19 = .ok (.aload_n 0, 1) := by decide +kernel
theorem dX6_puts_20 : decode cX6_puts 20 = .ok (.getfield 17, 3) := by decide +kernel
theorem dX6_puts_23 : decode cX6_puts 23 = .ok (.iload_n 1, 1) := by decide +kernel
theorem dX6_puts_24 : decode cX6_puts 24 = .ok (.iconst 0, 1) := by decide +kernel
theorem dX6_puts_25 : decode cX6_puts 25 = .ok (.bastore, 1) := by decide +kernel
theorem dX6_puts_26 : decode cX6_puts 26 = .ok (.return_, 1) := by decide +kernel
set_option maxRecDepth 20000 in
theorem ggX6_mark_X6_isMark : GoodIn wsX6_mark wsX6_isMark := goodIn_r _ [4, 5, 6, 3, 7] (by decide +kernel) (by decide +kernel)
set_option maxRecDepth 20000 in
theorem gX6_mark_X6_isMark : GoodIn wsX6_mark (va_wsS RX6 106 yX6_isMark wsX6_isMark) := goodIn_app (goodIn_of _ (by decide +kernel)) ggX6_mark_X6_isMark
set_option maxRecDepth 20000 in
theorem ggX6_mark_X6_isIn : GoodIn wsX6_mark wsX6_isIn := goodIn_r _ [7] (by decide +kernel) (by decide +kernel)
set_option maxRecDepth 20000 in
theorem gX6_mark_X6_isIn : GoodIn wsX6_mark (va_wsS RX6 102 yX6_isIn wsX6_isIn) := goodIn_app (goodIn_of _ (by decide +kernel)) ggX6_mark_X6_isIn
set_option maxRecDepth 20000 in
theorem ggX6_mark_X6_puts : GoodIn wsX6_mark wsX6_puts := goodIn_r _ [11, 12, 13, 14, 15, 16, 17, 18, 19, 20, 21, 22, 23, 24, 25, 26, 27, 28, 29, 30, 31, 32, 33, 34, 35, 36, 37, 38, 39, 40, 41, 42, 43, 44, 45, 46, 47, 48, 49, 50, 51, 52, 53, 54, 55] (by decide +kernel) (by decide +kernel)
set_option maxRecDepth 20000 in
theorem gX6_mark_X6_puts : GoodIn wsX6_mark (wsV RX6 109 RX6 yX6_puts wsX6_puts) := goodIn_app (goodIn_of _ (by decide +kernel)) ggX6_mark_X6_puts
theorem dX6_mark_0 : decode cX6_mark 0 = .ok (.iload_n 1, 1) := by decide +kernel
theorem dX6_mark_1 : decode cX6_mark 1 = .ok (.iload_n 2, 1) := by decide +kernel
theorem dX6_mark_2 : decode cX6_mark 2 = .ok (.iload_n 3, 1) := by decide +kernel
theorem dX6_mark_3 : decode cX6_mark 3 = .ok (.invokestatic 106, 3) := by decide +kernel
theorem dX6_mark_6 : decode cX6_mark 6 = .ok (.ifCond .eq 14, 3) := by decide +kernel
theorem dX6_mark_9 : decode cX6_mark 9 = .ok (.iload 4, 2) := by decide +kernel
theorem dX6_mark_11 : decode cX6_mark 11 = .ok (.iconst 0, 1) := by decide +kernel
theorem dX6_mark_12 : decode cX6_mark 12 = .ok (.bipush 7, 2) := by decide +kernel
theorem dX6_mark_14 : decode cX6_mark 14 = .ok (.invokestatic 102, 3) := by decide +kernel
theorem dX6_mark_17 : decode cX6_mark 17 = .ok (.ifCond .ne 5, 3) := by decide +kernel
theorem dX6_mark_20 : decode cX6_mark 20 = .ok (.iconst 0, 1) := by decide +kernel
theorem dX6_mark_21 : decode cX6_mark 21 = .ok (.ireturn, 1) := by decide +kernel
theorem dX6_mark_22 : decode cX6_mark 22 = .ok (.aload_n 0, 1) := by decide +kernel
theorem dX6_mark_23 : decode cX6_mark 23 = .ok (.iload_n 1, 1) := by decide +kernel
theorem dX6_mark_24 : decode cX6_mark 24 = .ok (.iload_n 2, 1) := by decide +kernel
theorem dX6_mark_25 : decode cX6_mark 25 = .ok (.iload_n 3, 1) := by decide +kernel
theorem dX6_mark_26 : decode cX6_mark 26 = .ok (.iload 4, 2) := by decide +kernel
theorem dX6_mark_28 : decode cX6_mark 28 = .ok (.invokevirtual 109, 3) := by decide +kernel
theorem dX6_mark_31 : decode cX6_mark 31 = .ok (.iconst 1, 1) := by decide +kernel
theorem dX6_mark_32 : decode cX6_mark 32 = .ok (.ireturn, 1) := by decide +kernel
set_option maxRecDepth 20000 in
theorem ggX6_line_X6_isMark : GoodIn wsX6_line wsX6_isMark := goodIn_r _ [11, 12, 13, 10, 14] (by decide +kernel) (by decide +kernel)
set_option maxRecDepth 20000 in
theorem gX6_line_X6_isMark : GoodIn wsX6_line (va_wsS RX6 106 yX6_isMark wsX6_isMark) := goodIn_app (goodIn_of _ (by decide +kernel)) ggX6_line_X6_isMark
set_option maxRecDepth 20000 in
theorem ggX6_line_X6_isIn : GoodIn wsX6_line wsX6_isIn := goodIn_r _ [14] (by decide +kernel) (by decide +kernel)
set_option maxRecDepth 20000 in
theorem gX6_line_X6_isIn : GoodIn wsX6_line (va_wsS RX6 102 yX6_isIn wsX6_isIn) := goodIn_app (goodIn_of _ (by decide +kernel)) ggX6_line_X6_isIn
set_option maxRecDepth 20000 in
theorem ggX6_line_J9_floorDiv_7cf53 : GoodIn wsX6_line wsJ9_floorDiv_7cf53 := goodIn_r _ [18] (by decide +kernel) (by decide +kernel)
set_option maxRecDepth 20000 in
theorem gX6_line_J9_floorDiv_7cf53 : GoodIn wsX6_line (va_wsS RX6 123 yJ9_floorDiv_7cf53 wsJ9_floorDiv_7cf53) := goodIn_app (goodIn_of _ (by decide +kernel)) ggX6_line_J9_floorDiv_7cf53
set_option maxRecDepth 20000 in
theorem ggX6_line_X6_puts : GoodIn wsX6_line wsX6_puts := goodIn_r _ [22, 23, 24, 25, 26, 27, 28, 29, 30, 31, 32, 33, 34, 35, 36, 37, 38, 39, 40, 41, 42, 43, 44, 45, 46, 47, 48, 49, 50, 51, 52, 53, 54, 55, 56, 57, 58, 59, 60, 61, 62, 63, 64, 65, 66] (by decide +kernel) (by decide +kernel)
set_option maxRecDepth 20000 in
theorem gX6_line_X6_puts : GoodIn wsX6_line (wsV RX6 109 RX6 yX6_puts wsX6_puts) := goodIn_app (goodIn_of _ (by decide +kernel)) ggX6_line_X6_puts
theorem dX6_line_0 : decode cX6_line 0 = .ok (.iload_n 1, 1) := by decide +kernel
theorem dX6_line_1 : decode cX6_line 1 = .ok (.iload_n 2, 1) := by decide +kernel
theorem dX6_line_2 : decode cX6_line 2 = .ok (.iload_n 3, 1) := by decide +kernel
theorem dX6_line_3 : decode cX6_line 3 = .ok (.invokestatic 106, 3) := by decide +kernel
theorem dX6_line_6 : decode cX6_line 6 = .ok (.ifCond .eq 25, 3) := by decide +kernel
theorem dX6_line_9 : decode cX6_line 9 = .ok (.iload_n 1, 1) := by decide +kernel
theorem dX6_line_10 : decode cX6_line 10 = .ok (.iload 4, 2) := by decide +kernel
theorem dX6_line_12 : decode cX6_line 12 = .ok (.iload 5, 2) := by decide +kernel
theorem dX6_line_14 : decode cX6_line 14 = .ok (.invokestatic 106, 3) := by decide +kernel
theorem dX6_line_17 : decode cX6_line 17 = .ok (.ifCond .eq 14, 3) := by decide +kernel
theorem dX6_line_20 : decode cX6_line 20 = .ok (.iload 6, 2) := by decide +kernel
theorem dX6_line_22 : decode cX6_line 22 = .ok (.iconst 0, 1) := by decide +kernel
theorem dX6_line_23 : decode cX6_line 23 = .ok (.bipush 7, 2) := by decide +kernel
theorem dX6_line_25 : decode cX6_line 25 = .ok (.invokestatic 102, 3) := by decide +kernel
theorem dX6_line_28 : decode cX6_line 28 = .ok (.ifCond .ne 5, 3) := by decide +kernel
theorem dX6_line_31 : decode cX6_line 31 = .ok (.iconst (-1), 1) := by decide +kernel
theorem dX6_line_32 : decode cX6_line 32 = .ok (.ireturn, 1) := by decide +kernel
theorem dX6_line_33 : decode cX6_line 33 = .ok (.iload 4, 2) := by decide +kernel
theorem dX6_line_35 : decode cX6_line 35 = .ok (.iload_n 2, 1) := by decide +kernel
theorem dX6_line_36 : decode cX6_line 36 = .ok (.isub, 1) := by decide +kernel
theorem dX6_line_37 : decode cX6_line 37 = .ok (.invokestatic 113, 3) := by decide +kernel
theorem dX6_line_40 : decode cX6_line 40 = .ok (.iload 5, 2) := by decide +kernel
theorem dX6_line_42 : decode cX6_line 42 = .ok (.iload_n 3, 1) := by decide +kernel
theorem dX6_line_43 : decode cX6_line 43 = .ok (.isub, 1) := by decide +kernel
theorem dX6_line_44 : decode cX6_line 44 = .ok (.invokestatic 113, 3) := by decide +kernel
theorem dX6_line_47 : decode cX6_line 47 = .ok (.invokestatic 119, 3) := by decide +kernel
theorem dX6_line_50 : decode cX6_line 50 = .ok (.istore 7, 2) := by decide +kernel
theorem dX6_line_52 : decode cX6_line 52 = .ok (.iconst 0, 1) := by decide +kernel
theorem dX6_line_53 : decode cX6_line 53 = .ok (.istore 8, 2) := by decide +kernel
theorem dX6_line_55 : decode cX6_line 55 = .ok (.iload 8, 2) := by decide +kernel
theorem dX6_line_57 : decode cX6_line 57 = .ok (.iload 7, 2) := by decide +kernel
theorem dX6_line_59 : decode cX6_line 59 = .ok (.if_icmp .gt 62, 3) := by decide +kernel
theorem dX6_line_62 : decode cX6_line 62 = .ok (.aload_n 0, 1) := by decide +kernel
theorem dX6_line_63 : decode cX6_line 63 = .ok (.iload_n 1, 1) := by decide +kernel
theorem dX6_line_64 : decode cX6_line 64 = .ok (.iload_n 2, 1) := by decide +kernel
theorem dX6_line_65 : decode cX6_line 65 = .ok (.iload 7, 2) := by decide +kernel
theorem dX6_line_67 : decode cX6_line 67 = .ok (.ifCond .ne 7, 3) := by decide +kernel
theorem dX6_line_70 : decode cX6_line 70 = .ok (.iconst 0, 1) := by decide +kernel
theorem dX6_line_71 : decode cX6_line 71 = .ok (.goto 15, 3) := by decide +kernel
theorem dX6_line_74 : decode cX6_line 74 = .ok (.iload 8, 2) := by decide +kernel
theorem dX6_line_76 : decode cX6_line 76 = .ok (.iload 4, 2) := by decide +kernel
theorem dX6_line_78 : decode cX6_line 78 = .ok (.iload_n 2, 1) := by decide +kernel
theorem dX6_line_79 : decode cX6_line 79 = .ok (.isub, 1) := by decide +kernel
theorem dX6_line_80 : decode cX6_line 80 = .ok (.imul, 1) := by decide +kernel
theorem dX6_line_81 : decode cX6_line 81 = .ok (.iload 7, 2) := by decide +kernel
theorem dX6_line_83 : decode cX6_line 83 = .ok (.invokestatic 123, 3) := by decide +kernel
theorem dX6_line_86 : decode cX6_line 86 = .ok (.iadd, 1) := by decide +kernel
theorem dX6_line_87 : decode cX6_line 87 = .ok (.iload_n 3, 1) := by decide +kernel
theorem dX6_line_88 : decode cX6_line 88 = .ok (.iload 7, 2) := by decide +kernel
theorem dX6_line_90 : decode cX6_line 90 = .ok (.ifCond .ne 7, 3) := by decide +kernel
theorem dX6_line_93 : decode cX6_line 93 = .ok (.iconst 0, 1) := by decide +kernel
theorem dX6_line_94 : decode cX6_line 94 = .ok (.goto 15, 3) := by decide +kernel
theorem dX6_line_97 : decode cX6_line 97 = .ok (.iload 8, 2) := by decide +kernel
theorem dX6_line_99 : decode cX6_line 99 = .ok (.iload 5, 2) := by decide +kernel
theorem dX6_line_101 : decode cX6_line 101 = .ok (.iload_n 3, 1) := by decide +kernel
theorem dX6_line_102 : decode cX6_line 102 = .ok (.isub, 1) := by decide +kernel
theorem dX6_line_103 : decode cX6_line 103 = .ok (.imul, 1) := by decide +kernel
theorem dX6_line_104 : decode cX6_line 104 = .ok (.iload 7, 2) := by decide +kernel
theorem dX6_line_106 : decode cX6_line 106 = .ok (.invokestatic 123, 3) := by decide +kernel
theorem dX6_line_109 : decode cX6_line 109 = .ok (.iadd, 1) := by decide +kernel
theorem dX6_line_110 : decode cX6_line 110 = .ok (.iload 6, 2) := by decide +kernel
theorem dX6_line_112 : decode cX6_line 112 = .ok (.invokevirtual 109, 3) := by decide +kernel
theorem dX6_line_115 : decode cX6_line 115 = .ok (.iinc 8 1, 3) := by decide +kernel
theorem dX6_line_118 : decode cX6_line 118 = .ok (.goto (-63), 3) := by decide +kernel
theorem dX6_line_121 : decode cX6_line 121 = .ok (.iload 7, 2) := by decide +kernel
theorem dX6_line_123 : decode cX6_line 123 = .ok (.iconst 1, 1) := by decide +kernel
theorem dX6_line_124 : decode cX6_line 124 = .ok (.iadd, 1) := by decide +kernel
theorem dX6_line_125 : decode cX6_line 125 = .ok (.ireturn, 1) := by decide +kernel
set_option maxRecDepth 20000 in
theorem ggX6_column_J9_floorMod_7cf53 : GoodIn wsX6_column wsJ9_floorMod_7cf53 := goodIn_r _ [4] (by decide +kernel) (by decide +kernel)
set_option maxRecDepth 20000 in
theorem gX6_column_J9_floorMod_7cf53 : GoodIn wsX6_column (va_wsS RX6 126 yJ9_floorMod_7cf53 wsJ9_floorMod_7cf53) := goodIn_app (goodIn_of _ (by decide +kernel)) ggX6_column_J9_floorMod_7cf53
theorem dX6_column_0 : decode cX6_column 0 = .ok (.iload_n 1, 1) := by decide +kernel
theorem dX6_column_1 : decode cX6_column 1 = .ok (.bipush 20, 2) := by decide +kernel
theorem dX6_column_3 : decode cX6_column 3 = .ok (.isub, 1) := by decide +kernel
theorem dX6_column_4 : decode cX6_column 4 = .ok (.istore_n 2, 1) := by decide +kernel
theorem dX6_column_5 : decode cX6_column 5 = .ok (.bipush 30, 2) := by decide +kernel
theorem dX6_column_7 : decode cX6_column 7 = .ok (.iload_n 0, 1) := by decide +kernel
theorem dX6_column_8 : decode cX6_column 8 = .ok (.imul, 1) := by decide +kernel
theorem dX6_column_9 : decode cX6_column 9 = .ok (.iload_n 2, 1) := by decide +kernel
theorem dX6_column_10 : decode cX6_column 10 = .ok (.iadd, 1) := by decide +kernel
theorem dX6_column_11 : decode cX6_column 11 = .ok (.iload_n 2, 1) := by decide +kernel
theorem dX6_column_12 : decode cX6_column 12 = .ok (.iload_n 2, 1) := by decide +kernel
theorem dX6_column_13 : decode cX6_column 13 = .ok (.imul, 1) := by decide +kernel
theorem dX6_column_14 : decode cX6_column 14 = .ok (.iload_n 2, 1) := by decide +kernel
theorem dX6_column_15 : decode cX6_column 15 = .ok (.imul, 1) := by decide +kernel
theorem dX6_column_16 : decode cX6_column 16 = .ok (.sipush 6000, 3) := by decide +kernel
theorem dX6_column_19 : decode cX6_column 19 = .ok (.idiv, 1) := by decide +kernel
theorem dX6_column_20 : decode cX6_column 20 = .ok (.isub, 1) := by decide +kernel
theorem dX6_column_21 : decode cX6_column 21 = .ok (.sipush 360, 3) := by decide +kernel
theorem dX6_column_24 : decode cX6_column 24 = .ok (.invokestatic 126, 3) := by decide +kernel
theorem dX6_column_27 : decode cX6_column 27 = .ok (.ireturn, 1) := by decide +kernel
theorem dX6_row_0 : decode cX6_row 0 = .ok (.iload_n 1, 1) := by decide +kernel
theorem dX6_row_1 : decode cX6_row 1 = .ok (.sipush 1000, 3) := by decide +kernel
theorem dX6_row_4 : decode cX6_row 4 = .ok (.imul, 1) := by decide +kernel
theorem dX6_row_5 : decode cX6_row 5 = .ok (.sipush 1000, 3) := by decide +kernel
theorem dX6_row_8 : decode cX6_row 8 = .ok (.iload_n 0, 1) := by decide +kernel
theorem dX6_row_9 : decode cX6_row 9 = .ok (.bipush 20, 2) := by decide +kernel
theorem dX6_row_11 : decode cX6_row 11 = .ok (.isub, 1) := by decide +kernel
theorem dX6_row_12 : decode cX6_row 12 = .ok (.iload_n 0, 1) := by decide +kernel
theorem dX6_row_13 : decode cX6_row 13 = .ok (.bipush 20, 2) := by decide +kernel
theorem dX6_row_15 : decode cX6_row 15 = .ok (.isub, 1) := by decide +kernel
theorem dX6_row_16 : decode cX6_row 16 = .ok (.imul, 1) := by decide +kernel
theorem dX6_row_17 : decode cX6_row 17 = .ok (.iadd, 1) := by decide +kernel
theorem dX6_row_18 : decode cX6_row 18 = .ok (.idiv, 1) := by decide +kernel
theorem dX6_row_19 : decode cX6_row 19 = .ok (.ireturn, 1) := by decide +kernel
set_option maxRecDepth 20000 in
theorem ggX6_stands_X6_isMark : GoodIn wsX6_stands wsX6_isMark := goodIn_r _ [4, 5, 6, 3, 7] (by decide +kernel) (by decide +kernel)
set_option maxRecDepth 20000 in
theorem gX6_stands_X6_isMark : GoodIn wsX6_stands (va_wsS RX6 106 yX6_isMark wsX6_isMark) := goodIn_app (goodIn_of _ (by decide +kernel)) ggX6_stands_X6_isMark
set_option maxRecDepth 20000 in
theorem ggX6_stands_X6_column : GoodIn wsX6_stands wsX6_column := goodIn_r _ [10, 11, 12, 13, 14] (by decide +kernel) (by decide +kernel)
set_option maxRecDepth 20000 in
theorem gX6_stands_X6_column : GoodIn wsX6_stands (va_wsS RX6 129 yX6_column wsX6_column) := goodIn_app (goodIn_of _ (by decide +kernel)) ggX6_stands_X6_column
set_option maxRecDepth 20000 in
theorem ggX6_stands_X6_row : GoodIn wsX6_stands wsX6_row := goodIn_r _ [17] (by decide +kernel) (by decide +kernel)
set_option maxRecDepth 20000 in
theorem gX6_stands_X6_row : GoodIn wsX6_stands (va_wsS RX6 132 yX6_row wsX6_row) := goodIn_app (goodIn_of _ (by decide +kernel)) ggX6_stands_X6_row
theorem dX6_stands_0 : decode cX6_stands 0 = .ok (.iload_n 1, 1) := by decide +kernel
theorem dX6_stands_1 : decode cX6_stands 1 = .ok (.iload_n 2, 1) := by decide +kernel
theorem dX6_stands_2 : decode cX6_stands 2 = .ok (.iload_n 3, 1) := by decide +kernel
theorem dX6_stands_3 : decode cX6_stands 3 = .ok (.invokestatic 106, 3) := by decide +kernel
theorem dX6_stands_6 : decode cX6_stands 6 = .ok (.ifCond .ne 7, 3) := by decide +kernel
theorem dX6_stands_9 : decode cX6_stands 9 = .ok (.iconst (-1), 1) := by decide +kernel
theorem dX6_stands_10 : decode cX6_stands 10 = .ok (.goto 31, 3) := by decide +kernel
theorem dX6_stands_13 : decode cX6_stands 13 = .ok (.iload 4, 2) := by decide +kernel
theorem dX6_stands_15 : decode cX6_stands 15 = .ok (.ifCond .ne 11, 3) := by decide +kernel
theorem dX6_stands_18 : decode cX6_stands 18 = .ok (.iload_n 1, 1) := by decide +kernel
theorem dX6_stands_19 : decode cX6_stands 19 = .ok (.iload_n 2, 1) := by decide +kernel
theorem dX6_stands_20 : decode cX6_stands 20 = .ok (.invokestatic 129, 3) := by decide +kernel
theorem dX6_stands_23 : decode cX6_stands 23 = .ok (.goto 18, 3) := by decide +kernel
theorem dX6_stands_26 : decode cX6_stands 26 = .ok (.iload 4, 2) := by decide +kernel
theorem dX6_stands_28 : decode cX6_stands 28 = .ok (.iconst 1, 1) := by decide +kernel
theorem dX6_stands_29 : decode cX6_stands 29 = .ok (.if_icmp .ne 11, 3) := by decide +kernel
theorem dX6_stands_32 : decode cX6_stands 32 = .ok (.iload_n 2, 1) := by decide +kernel
theorem dX6_stands_33 : decode cX6_stands 33 = .ok (.iload_n 3, 1) := by decide +kernel
theorem dX6_stands_34 : decode cX6_stands 34 = .ok (.invokestatic 132, 3) := by decide +kernel
theorem dX6_stands_37 : decode cX6_stands 37 = .ok (.goto 4, 3) := by decide +kernel
theorem dX6_stands_40 : decode cX6_stands 40 = .ok (.iconst (-1), 1) := by decide +kernel
theorem dX6_stands_41 : decode cX6_stands 41 = .ok (.ireturn, 1) := by decide +kernel
set_option maxRecDepth 20000 in
theorem ggX6_colourIn_X6_column : GoodIn wsX6_colourIn wsX6_column := goodIn_r _ [7, 8, 9, 10, 11] (by decide +kernel) (by decide +kernel)
set_option maxRecDepth 20000 in
theorem gX6_colourIn_X6_column : GoodIn wsX6_colourIn (va_wsS RX6 129 yX6_column wsX6_column) := goodIn_app (goodIn_of _ (by decide +kernel)) ggX6_colourIn_X6_column
set_option maxRecDepth 20000 in
theorem ggX6_colourIn_X6_row : GoodIn wsX6_colourIn wsX6_row := goodIn_r _ [14] (by decide +kernel) (by decide +kernel)
set_option maxRecDepth 20000 in
theorem gX6_colourIn_X6_row : GoodIn wsX6_colourIn (va_wsS RX6 132 yX6_row wsX6_row) := goodIn_app (goodIn_of _ (by decide +kernel)) ggX6_colourIn_X6_row
theorem dX6_colourIn_0 : decode cX6_colourIn 0 = .ok (.aload_n 0, 1) := by decide +kernel
theorem dX6_colourIn_1 : decode cX6_colourIn 1 = .ok (.getfield 17, 3) := by decide +kernel
theorem dX6_colourIn_4 : decode cX6_colourIn 4 = .ok (.iload_n 1, 1) := by decide +kernel
theorem dX6_colourIn_5 : decode cX6_colourIn 5 = .ok (.baload, 1) := by decide +kernel
theorem dX6_colourIn_6 : decode cX6_colourIn 6 = .ok (.ifCond .ne 120, 3) := by decide +kernel
theorem dX6_colourIn_9 : decode cX6_colourIn 9 = .ok (.iconst 0, 1) := by decide +kernel
theorem dX6_colourIn_10 : decode cX6_colourIn 10 = .ok (.istore_n 3, 1) := by decide +kernel
theorem dX6_colourIn_11 : decode cX6_colourIn 11 = .ok (.iload_n 3, 1) := by decide +kernel
theorem dX6_colourIn_12 : decode cX6_colourIn 12 = .ok (.sipush 7200, 3) := by decide +kernel
theorem dX6_colourIn_15 : decode cX6_colourIn 15 = .ok (.if_icmp .ge 22, 3) := by decide +kernel
theorem dX6_colourIn_18 : decode cX6_colourIn 18 = .ok (.aload_n 0, 1) := by decide +kernel
theorem dX6_colourIn_19 : decode cX6_colourIn 19 = .ok (.getfield 14, 3) := by decide +kernel
theorem dX6_colourIn_22 : decode cX6_colourIn 22 = .ok (.sipush 7200, 3) := by decide +kernel
theorem dX6_colourIn_25 : decode cX6_colourIn 25 = .ok (.iload_n 1, 1) := by decide +kernel
theorem dX6_colourIn_26 : decode cX6_colourIn 26 = .ok (.imul, 1) := by decide +kernel
theorem dX6_colourIn_27 : decode cX6_colourIn 27 = .ok (.iload_n 3, 1) := by decide +kernel
theorem dX6_colourIn_28 : decode cX6_colourIn 28 = .ok (.iadd, 1) := by decide +kernel
theorem dX6_colourIn_29 : decode cX6_colourIn 29 = .ok (.iconst 0, 1) := by decide +kernel
theorem dX6_colourIn_30 : decode cX6_colourIn 30 = .ok (.bastore, 1) := by decide +kernel
theorem dX6_colourIn_31 : decode cX6_colourIn 31 = .ok (.iinc 3 1, 3) := by decide +kernel
theorem dX6_colourIn_34 : decode cX6_colourIn 34 = .ok (.goto (-23), 3) := by decide +kernel
theorem dX6_colourIn_37 : decode cX6_colourIn 37 = .ok (.iconst 0, 1) := by decide +kernel
theorem dX6_colourIn_38 : decode cX6_colourIn 38 = .ok (.istore_n 3, 1) := by decide +kernel
theorem dX6_colourIn_39 : decode cX6_colourIn 39 = .ok (.iload_n 3, 1) := by decide +kernel
theorem dX6_colourIn_40 : decode cX6_colourIn 40 = .ok (.bipush 40, 2) := by decide +kernel
theorem dX6_colourIn_42 : decode cX6_colourIn 42 = .ok (.if_icmp .ge 77, 3) := by decide +kernel
theorem dX6_colourIn_45 : decode cX6_colourIn 45 = .ok (.iconst 0, 1) := by decide +kernel
theorem dX6_colourIn_46 : decode cX6_colourIn 46 = .ok (.istore 4, 2) := by decide +kernel
theorem dX6_colourIn_48 : decode cX6_colourIn 48 = .ok (.iload 4, 2) := by decide +kernel
theorem dX6_colourIn_50 : decode cX6_colourIn 50 = .ok (.bipush 20, 2) := by decide +kernel
theorem dX6_colourIn_52 : decode cX6_colourIn 52 = .ok (.if_icmp .ge 61, 3) := by decide +kernel
theorem dX6_colourIn_55 : decode cX6_colourIn 55 = .ok (.aload_n 0, 1) := by decide +kernel
theorem dX6_colourIn_56 : decode cX6_colourIn 56 = .ok (.getfield 7, 3) := by decide +kernel
theorem dX6_colourIn_59 : decode cX6_colourIn 59 = .ok (.iload_n 1, 1) := by decide +kernel
theorem dX6_colourIn_60 : decode cX6_colourIn 60 = .ok (.bipush 40, 2) := by decide +kernel
theorem dX6_colourIn_62 : decode cX6_colourIn 62 = .ok (.imul, 1) := by decide +kernel
theorem dX6_colourIn_63 : decode cX6_colourIn 63 = .ok (.iload_n 3, 1) := by decide +kernel
theorem dX6_colourIn_64 : decode cX6_colourIn 64 = .ok (.iadd, 1) := by decide +kernel
theorem dX6_colourIn_65 : decode cX6_colourIn 65 = .ok (.bipush 20, 2) := by decide +kernel
theorem dX6_colourIn_67 : decode cX6_colourIn 67 = .ok (.imul, 1) := by decide +kernel
theorem dX6_colourIn_68 : decode cX6_colourIn 68 = .ok (.iload 4, 2) := by decide +kernel
theorem dX6_colourIn_70 : decode cX6_colourIn 70 = .ok (.iadd, 1) := by decide +kernel
theorem dX6_colourIn_71 : decode cX6_colourIn 71 = .ok (.baload, 1) := by decide +kernel
theorem dX6_colourIn_72 : decode cX6_colourIn 72 = .ok (.istore 5, 2) := by decide +kernel
theorem dX6_colourIn_74 : decode cX6_colourIn 74 = .ok (.iload 5, 2) := by decide +kernel
theorem dX6_colourIn_76 : decode cX6_colourIn 76 = .ok (.ifCond .eq 31, 3) := by decide +kernel
theorem dX6_colourIn_79 : decode cX6_colourIn 79 = .ok (.aload_n 0, 1) := by decide +kernel
theorem dX6_colourIn_80 : decode cX6_colourIn 80 = .ok (.getfield 14, 3) := by decide +kernel
theorem dX6_colourIn_83 : decode cX6_colourIn 83 = .ok (.sipush 7200, 3) := by decide +kernel
theorem dX6_colourIn_86 : decode cX6_colourIn 86 = .ok (.iload_n 1, 1) := by decide +kernel
theorem dX6_colourIn_87 : decode cX6_colourIn 87 = .ok (.imul, 1) := by decide +kernel
theorem dX6_colourIn_88 : decode cX6_colourIn 88 = .ok (.bipush 20, 2) := by decide +kernel
theorem dX6_colourIn_90 : decode cX6_colourIn 90 = .ok (.iload_n 1, 1) := by decide +kernel
theorem dX6_colourIn_91 : decode cX6_colourIn 91 = .ok (.iload_n 3, 1) := by decide +kernel
theorem dX6_colourIn_92 : decode cX6_colourIn 92 = .ok (.invokestatic 129, 3) := by decide +kernel
theorem dX6_colourIn_95 : decode cX6_colourIn 95 = .ok (.imul, 1) := by decide +kernel
theorem dX6_colourIn_96 : decode cX6_colourIn 96 = .ok (.iadd, 1) := by decide +kernel
theorem dX6_colourIn_97 : decode cX6_colourIn 97 = .ok (.iload_n 3, 1) := by decide +kernel
theorem dX6_colourIn_98 : decode cX6_colourIn 98 = .ok (.iload 4, 2) := by decide +kernel
theorem dX6_colourIn_100 : decode cX6_colourIn 100 = .ok (.invokestatic 132, 3) := by decide +kernel
theorem dX6_colourIn_103 : decode cX6_colourIn 103 = .ok (.iadd, 1) := by decide +kernel
theorem dX6_colourIn_104 : decode cX6_colourIn 104 = .ok (.iload 5, 2) := by decide +kernel
theorem dX6_colourIn_106 : decode cX6_colourIn 106 = .ok (.bastore, 1) := by decide +kernel
theorem dX6_colourIn_107 : decode cX6_colourIn 107 = .ok (.iinc 4 1, 3) := by decide +kernel
theorem dX6_colourIn_110 : decode cX6_colourIn 110 = .ok (.goto (-62), 3) := by decide +kernel
theorem dX6_colourIn_113 : decode cX6_colourIn 113 = .ok (.iinc 3 1, 3) := by decide +kernel
theorem dX6_colourIn_116 : decode cX6_colourIn 116 = .ok (.goto (-77), 3) := by decide +kernel
theorem dX6_colourIn_119 : decode cX6_colourIn 119 = .ok (.aload_n 0, 1) := by decide +kernel
theorem dX6_colourIn_120 : decode cX6_colourIn 120 = .ok (.getfield 17, 3) := by decide +kernel
theorem dX6_colourIn_123 : decode cX6_colourIn 123 = .ok (.iload_n 1, 1) := by decide +kernel
theorem dX6_colourIn_124 : decode cX6_colourIn 124 = .ok (.iconst 1, 1) := by decide +kernel
theorem dX6_colourIn_125 : decode cX6_colourIn 125 = .ok (.bastore, 1) := by decide +kernel
theorem dX6_colourIn_126 : decode cX6_colourIn 126 = .ok (.aload_n 0, 1) := by decide +kernel
theorem dX6_colourIn_127 : decode cX6_colourIn 127 = .ok (.getfield 14, 3) := by decide +kernel
theorem dX6_colourIn_130 : decode cX6_colourIn 130 = .ok (.sipush 7200, 3) := by decide +kernel
theorem dX6_colourIn_133 : decode cX6_colourIn 133 = .ok (.iload_n 1, 1) := by decide +kernel
theorem dX6_colourIn_134 : decode cX6_colourIn 134 = .ok (.imul, 1) := by decide +kernel
theorem dX6_colourIn_135 : decode cX6_colourIn 135 = .ok (.iload_n 2, 1) := by decide +kernel
theorem dX6_colourIn_136 : decode cX6_colourIn 136 = .ok (.iadd, 1) := by decide +kernel
theorem dX6_colourIn_137 : decode cX6_colourIn 137 = .ok (.baload, 1) := by decide +kernel
theorem dX6_colourIn_138 : decode cX6_colourIn 138 = .ok (.ireturn, 1) := by decide +kernel
set_option maxRecDepth 20000 in
theorem ggX6_viewAt_X6_colourIn : GoodIn wsX6_viewAt wsX6_colourIn := goodIn_r _ [12, 13, 14, 15, 16, 17, 11, 18, 19, 20, 21, 22, 23, 24, 25, 26, 27, 28, 29, 30, 31, 32, 33, 34, 35, 36, 37, 38, 39, 40, 41, 42, 43, 44, 45, 46, 47, 48, 49, 50, 51, 52, 53, 54, 55, 56, 57, 58, 59, 60, 61, 62, 63, 64, 65, 66, 67] (by decide +kernel) (by decide +kernel)
set_option maxRecDepth 20000 in
theorem gX6_viewAt_X6_colourIn : GoodIn wsX6_viewAt (wsV RX6 135 RX6 yX6_colourIn wsX6_colourIn) := goodIn_app (goodIn_of _ (by decide +kernel)) ggX6_viewAt_X6_colourIn
theorem dX6_viewAt_0 : decode cX6_viewAt 0 = .ok (.iconst (-1), 1) := by decide +kernel
theorem dX6_viewAt_1 : decode cX6_viewAt 1 = .ok (.istore_n 2, 1) := by decide +kernel
theorem dX6_viewAt_2 : decode cX6_viewAt 2 = .ok (.iconst 0, 1) := by decide +kernel
theorem dX6_viewAt_3 : decode cX6_viewAt 3 = .ok (.istore_n 3, 1) := by decide +kernel
theorem dX6_viewAt_4 : decode cX6_viewAt 4 = .ok (.iconst 0, 1) := by decide +kernel
theorem dX6_viewAt_5 : decode cX6_viewAt 5 = .ok (.istore 4, 2) := by decide +kernel
theorem dX6_viewAt_7 : decode cX6_viewAt 7 = .ok (.iload 4, 2) := by decide +kernel
theorem dX6_viewAt_9 : decode cX6_viewAt 9 = .ok (.bipush 12, 2) := by decide +kernel
theorem dX6_viewAt_11 : decode cX6_viewAt 11 = .ok (.if_icmp .ge 70, 3) := by decide +kernel
theorem dX6_viewAt_14 : decode cX6_viewAt 14 = .ok (.aload_n 0, 1) := by decide +kernel
theorem dX6_viewAt_15 : decode cX6_viewAt 15 = .ok (.iload 4, 2) := by decide +kernel
theorem dX6_viewAt_17 : decode cX6_viewAt 17 = .ok (.iload_n 1, 1) := by decide +kernel
theorem dX6_viewAt_18 : decode cX6_viewAt 18 = .ok (.invokevirtual 135, 3) := by decide +kernel
theorem dX6_viewAt_21 : decode cX6_viewAt 21 = .ok (.ifCond .ne 6, 3) := by decide +kernel
theorem dX6_viewAt_24 : decode cX6_viewAt 24 = .ok (.goto 51, 3) := by decide +kernel
theorem dX6_viewAt_27 : decode cX6_viewAt 27 = .ok (.bipush 30, 2) := by decide +kernel
theorem dX6_viewAt_29 : decode cX6_viewAt 29 = .ok (.iload 4, 2) := by decide +kernel
theorem dX6_viewAt_31 : decode cX6_viewAt 31 = .ok (.imul, 1) := by decide +kernel
theorem dX6_viewAt_32 : decode cX6_viewAt 32 = .ok (.iload_n 1, 1) := by decide +kernel
theorem dX6_viewAt_33 : decode cX6_viewAt 33 = .ok (.bipush 20, 2) := by decide +kernel
theorem dX6_viewAt_35 : decode cX6_viewAt 35 = .ok (.idiv, 1) := by decide +kernel
theorem dX6_viewAt_36 : decode cX6_viewAt 36 = .ok (.isub, 1) := by decide +kernel
theorem dX6_viewAt_37 : decode cX6_viewAt 37 = .ok (.invokestatic 113, 3) := by decide +kernel
theorem dX6_viewAt_40 : decode cX6_viewAt 40 = .ok (.istore 5, 2) := by decide +kernel
theorem dX6_viewAt_42 : decode cX6_viewAt 42 = .ok (.iload 5, 2) := by decide +kernel
theorem dX6_viewAt_44 : decode cX6_viewAt 44 = .ok (.sipush 360, 3) := by decide +kernel
theorem dX6_viewAt_47 : decode cX6_viewAt 47 = .ok (.iload 5, 2) := by decide +kernel
theorem dX6_viewAt_49 : decode cX6_viewAt 49 = .ok (.isub, 1) := by decide +kernel
theorem dX6_viewAt_50 : decode cX6_viewAt 50 = .ok (.invokestatic 138, 3) := by decide +kernel
theorem dX6_viewAt_53 : decode cX6_viewAt 53 = .ok (.istore 5, 2) := by decide +kernel
theorem dX6_viewAt_55 : decode cX6_viewAt 55 = .ok (.iload_n 2, 1) := by decide +kernel
theorem dX6_viewAt_56 : decode cX6_viewAt 56 = .ok (.iconst (-1), 1) := by decide +kernel
theorem dX6_viewAt_57 : decode cX6_viewAt 57 = .ok (.if_icmp .eq 12, 3) := by decide +kernel
theorem dX6_viewAt_60 : decode cX6_viewAt 60 = .ok (.iload 5, 2) := by decide +kernel
theorem dX6_viewAt_62 : decode cX6_viewAt 62 = .ok (.iload_n 3, 1) := by decide +kernel
theorem dX6_viewAt_63 : decode cX6_viewAt 63 = .ok (.if_icmp .lt 6, 3) := by decide +kernel
theorem dX6_viewAt_66 : decode cX6_viewAt 66 = .ok (.goto 9, 3) := by decide +kernel
theorem dX6_viewAt_69 : decode cX6_viewAt 69 = .ok (.iload 4, 2) := by decide +kernel
theorem dX6_viewAt_71 : decode cX6_viewAt 71 = .ok (.istore_n 2, 1) := by decide +kernel
theorem dX6_viewAt_72 : decode cX6_viewAt 72 = .ok (.iload 5, 2) := by decide +kernel
theorem dX6_viewAt_74 : decode cX6_viewAt 74 = .ok (.istore_n 3, 1) := by decide +kernel
theorem dX6_viewAt_75 : decode cX6_viewAt 75 = .ok (.iinc 4 1, 3) := by decide +kernel
theorem dX6_viewAt_78 : decode cX6_viewAt 78 = .ok (.goto (-71), 3) := by decide +kernel
theorem dX6_viewAt_81 : decode cX6_viewAt 81 = .ok (.iload_n 2, 1) := by decide +kernel
theorem dX6_viewAt_82 : decode cX6_viewAt 82 = .ok (.ireturn, 1) := by decide +kernel
set_option maxRecDepth 20000 in
theorem ggX6_isPlace_X6_isIn : GoodIn wsX6_isPlace wsX6_isIn := goodIn_r _ [4] (by decide +kernel) (by decide +kernel)
set_option maxRecDepth 20000 in
theorem gX6_isPlace_X6_isIn : GoodIn wsX6_isPlace (va_wsS RX6 102 yX6_isIn wsX6_isIn) := goodIn_app (goodIn_of _ (by decide +kernel)) ggX6_isPlace_X6_isIn
theorem dX6_isPlace_0 : decode cX6_isPlace 0 = .ok (.iload_n 0, 1) := by decide +kernel
theorem dX6_isPlace_1 : decode cX6_isPlace 1 = .ok (.iconst 0, 1) := by decide +kernel
theorem dX6_isPlace_2 : decode cX6_isPlace 2 = .ok (.sipush 359, 3) := by decide +kernel
theorem dX6_isPlace_5 : decode cX6_isPlace 5 = .ok (.invokestatic 102, 3) := by decide +kernel
theorem dX6_isPlace_8 : decode cX6_isPlace 8 = .ok (.ifCond .eq 17, 3) := by decide +kernel
theorem dX6_isPlace_11 : decode cX6_isPlace 11 = .ok (.iload_n 1, 1) := by decide +kernel
theorem dX6_isPlace_12 : decode cX6_isPlace 12 = .ok (.iconst 0, 1) := by decide +kernel
theorem dX6_isPlace_13 : decode cX6_isPlace 13 = .ok (.bipush 19, 2) := by decide +kernel
theorem dX6_isPlace_15 : decode cX6_isPlace 15 = .ok (.invokestatic 102, 3) := by decide +kernel
theorem dX6_isPlace_18 : decode cX6_isPlace 18 = .ok (.ifCond .eq 7, 3) := by decide +kernel
theorem dX6_isPlace_21 : decode cX6_isPlace 21 = .ok (.iconst 1, 1) := by decide +kernel
theorem dX6_isPlace_22 : decode cX6_isPlace 22 = .ok (.goto 4, 3) := by decide +kernel
theorem dX6_isPlace_25 : decode cX6_isPlace 25 = .ok (.iconst 0, 1) := by decide +kernel
theorem dX6_isPlace_26 : decode cX6_isPlace 26 = .ok (.ireturn, 1) := by decide +kernel
set_option maxRecDepth 20000 in
theorem ggX6_colour_X6_isPlace : GoodIn wsX6_colour wsX6_isPlace := goodIn_r _ [4, 5, 6, 3, 7] (by decide +kernel) (by decide +kernel)
set_option maxRecDepth 20000 in
theorem gX6_colour_X6_isPlace : GoodIn wsX6_colour (va_wsS RX6 141 yX6_isPlace wsX6_isPlace) := goodIn_app (goodIn_of _ (by decide +kernel)) ggX6_colour_X6_isPlace
set_option maxRecDepth 20000 in
theorem ggX6_colour_X6_viewAt : GoodIn wsX6_colour wsX6_viewAt := goodIn_r _ [11, 12, 13, 14, 15, 16, 17, 18, 19, 20, 21, 3, 22, 23, 24, 25, 26, 27, 28, 29, 30, 31, 32, 33, 34, 35, 36, 37, 38, 39, 40, 41, 42, 43, 44, 45, 46, 47, 48, 49, 50, 51, 52, 53, 54, 55, 56, 57, 58, 59, 60, 61, 62, 63, 64, 65, 66, 67, 68, 69, 70, 71, 72, 73, 74, 75, 76, 77] (by decide +kernel) (by decide +kernel)
set_option maxRecDepth 20000 in
theorem gX6_colour_X6_viewAt : GoodIn wsX6_colour (wsV RX6 145 RX6 yX6_viewAt wsX6_viewAt) := goodIn_app (goodIn_of _ (by decide +kernel)) ggX6_colour_X6_viewAt
set_option maxRecDepth 20000 in
theorem ggX6_colour_X6_colourIn : GoodIn wsX6_colour wsX6_colourIn := goodIn_r _ [22, 23, 24, 25, 26, 27, 3, 28, 29, 30, 31, 32, 33, 34, 35, 36, 37, 38, 39, 40, 41, 42, 43, 44, 45, 46, 47, 48, 49, 50, 51, 52, 53, 54, 55, 56, 57, 58, 59, 60, 61, 62, 63, 64, 65, 66, 67, 68, 69, 70, 71, 72, 73, 74, 75, 76, 77] (by decide +kernel) (by decide +kernel)
set_option maxRecDepth 20000 in
theorem gX6_colour_X6_colourIn : GoodIn wsX6_colour (wsV RX6 135 RX6 yX6_colourIn wsX6_colourIn) := goodIn_app (goodIn_of _ (by decide +kernel)) ggX6_colour_X6_colourIn
theorem dX6_colour_0 : decode cX6_colour 0 = .ok (.iload_n 1, 1) := by decide +kernel
theorem dX6_colour_1 : decode cX6_colour 1 = .ok (.iload_n 2, 1) := by decide +kernel
theorem dX6_colour_2 : decode cX6_colour 2 = .ok (.invokestatic 141, 3) := by decide +kernel
theorem dX6_colour_5 : decode cX6_colour 5 = .ok (.ifCond .ne 5, 3) := by decide +kernel
theorem dX6_colour_8 : decode cX6_colour 8 = .ok (.iconst (-1), 1) := by decide +kernel
theorem dX6_colour_9 : decode cX6_colour 9 = .ok (.ireturn, 1) := by decide +kernel
theorem dX6_colour_10 : decode cX6_colour 10 = .ok (.aload_n 0, 1) := by decide +kernel
theorem dX6_colour_11 : decode cX6_colour 11 = .ok (.bipush 20, 2) := by decide +kernel
theorem dX6_colour_13 : decode cX6_colour 13 = .ok (.iload_n 1, 1) := by decide +kernel
theorem dX6_colour_14 : decode cX6_colour 14 = .ok (.imul, 1) := by decide +kernel
theorem dX6_colour_15 : decode cX6_colour 15 = .ok (.iload_n 2, 1) := by decide +kernel
theorem dX6_colour_16 : decode cX6_colour 16 = .ok (.iadd, 1) := by decide +kernel
theorem dX6_colour_17 : decode cX6_colour 17 = .ok (.invokevirtual 145, 3) := by decide +kernel
theorem dX6_colour_20 : decode cX6_colour 20 = .ok (.istore_n 3, 1) := by decide +kernel
theorem dX6_colour_21 : decode cX6_colour 21 = .ok (.iload_n 3, 1) := by decide +kernel
theorem dX6_colour_22 : decode cX6_colour 22 = .ok (.iconst (-1), 1) := by decide +kernel
theorem dX6_colour_23 : decode cX6_colour 23 = .ok (.if_icmp .ne 7, 3) := by decide +kernel
theorem dX6_colour_26 : decode cX6_colour 26 = .ok (.iconst 0, 1) := by decide +kernel
theorem dX6_colour_27 : decode cX6_colour 27 = .ok (.goto 14, 3) := by decide +kernel
theorem dX6_colour_30 : decode cX6_colour 30 = .ok (.aload_n 0, 1) := by decide +kernel
theorem dX6_colour_31 : decode cX6_colour 31 = .ok (.iload_n 3, 1) := by decide +kernel
theorem dX6_colour_32 : decode cX6_colour 32 = .ok (.bipush 20, 2) := by decide +kernel
theorem dX6_colour_34 : decode cX6_colour 34 = .ok (.iload_n 1, 1) := by decide +kernel
theorem dX6_colour_35 : decode cX6_colour 35 = .ok (.imul, 1) := by decide +kernel
theorem dX6_colour_36 : decode cX6_colour 36 = .ok (.iload_n 2, 1) := by decide +kernel
theorem dX6_colour_37 : decode cX6_colour 37 = .ok (.iadd, 1) := by decide +kernel
theorem dX6_colour_38 : decode cX6_colour 38 = .ok (.invokevirtual 135, 3) := by decide +kernel
theorem dX6_colour_41 : decode cX6_colour 41 = .ok (.ireturn, 1) := by decide +kernel
set_option maxRecDepth 20000 in
theorem ggX6_from_X6_isPlace : GoodIn wsX6_from wsX6_isPlace := goodIn_r _ [4, 5, 6, 3, 7] (by decide +kernel) (by decide +kernel)
set_option maxRecDepth 20000 in
theorem gX6_from_X6_isPlace : GoodIn wsX6_from (va_wsS RX6 141 yX6_isPlace wsX6_isPlace) := goodIn_app (goodIn_of _ (by decide +kernel)) ggX6_from_X6_isPlace
set_option maxRecDepth 20000 in
theorem ggX6_from_X6_viewAt : GoodIn wsX6_from wsX6_viewAt := goodIn_r _ [11, 12, 13, 14, 15, 16, 17, 18, 19, 20, 21, 3, 22, 23, 24, 25, 26, 27, 28, 29, 30, 31, 32, 33, 34, 35, 36, 37, 38, 39, 40, 41, 42, 43, 44, 45, 46, 47, 48, 49, 50, 51, 52, 53, 54, 55, 56, 57, 58, 59, 60, 61, 62, 63, 64, 65, 66, 67, 68, 69, 70, 71, 72, 73, 74, 75, 76, 77] (by decide +kernel) (by decide +kernel)
set_option maxRecDepth 20000 in
theorem gX6_from_X6_viewAt : GoodIn wsX6_from (wsV RX6 145 RX6 yX6_viewAt wsX6_viewAt) := goodIn_app (goodIn_of _ (by decide +kernel)) ggX6_from_X6_viewAt
theorem dX6_from_0 : decode cX6_from 0 = .ok (.iload_n 1, 1) := by decide +kernel
theorem dX6_from_1 : decode cX6_from 1 = .ok (.iload_n 2, 1) := by decide +kernel
theorem dX6_from_2 : decode cX6_from 2 = .ok (.invokestatic 141, 3) := by decide +kernel
theorem dX6_from_5 : decode cX6_from 5 = .ok (.ifCond .eq 16, 3) := by decide +kernel
theorem dX6_from_8 : decode cX6_from 8 = .ok (.aload_n 0, 1) := by decide +kernel
theorem dX6_from_9 : decode cX6_from 9 = .ok (.bipush 20, 2) := by decide +kernel
theorem dX6_from_11 : decode cX6_from 11 = .ok (.iload_n 1, 1) := by decide +kernel
theorem dX6_from_12 : decode cX6_from 12 = .ok (.imul, 1) := by decide +kernel
theorem dX6_from_13 : decode cX6_from 13 = .ok (.iload_n 2, 1) := by decide +kernel
theorem dX6_from_14 : decode cX6_from 14 = .ok (.iadd, 1) := by decide +kernel
theorem dX6_from_15 : decode cX6_from 15 = .ok (.invokevirtual 145, 3) := by decide +kernel
theorem dX6_from_18 : decode cX6_from 18 = .ok (.goto 4, 3) := by decide +kernel
theorem dX6_from_21 : decode cX6_from 21 = .ok (.iconst (-1), 1) := by decide +kernel
theorem dX6_from_22 : decode cX6_from 22 = .ok (.ireturn, 1) := by decide +kernel
set_option maxRecDepth 20000 in
theorem ggX6_seam_X6_isIn : GoodIn wsX6_seam wsX6_isIn := goodIn_r _ [4] (by decide +kernel) (by decide +kernel)
set_option maxRecDepth 20000 in
theorem gX6_seam_X6_isIn : GoodIn wsX6_seam (va_wsS RX6 102 yX6_isIn wsX6_isIn) := goodIn_app (goodIn_of _ (by decide +kernel)) ggX6_seam_X6_isIn
set_option maxRecDepth 20000 in
theorem ggX6_seam_X6_colourIn : GoodIn wsX6_seam wsX6_colourIn := goodIn_r _ [8, 9, 10, 11, 12, 13, 3, 14, 15, 16, 17, 18, 19, 20, 21, 22, 23, 24, 25, 26, 27, 28, 29, 30, 31, 32, 33, 34, 35, 36, 37, 38, 39, 40, 41, 42, 43, 44, 45, 46, 47, 48, 49, 50, 51, 52, 53, 54, 55, 56, 57, 58, 59, 60, 61, 62, 63] (by decide +kernel) (by decide +kernel)
set_option maxRecDepth 20000 in
theorem gX6_seam_X6_colourIn : GoodIn wsX6_seam (wsV RX6 135 RX6 yX6_colourIn wsX6_colourIn) := goodIn_app (goodIn_of _ (by decide +kernel)) ggX6_seam_X6_colourIn
theorem dX6_seam_0 : decode cX6_seam 0 = .ok (.iload_n 1, 1) := by decide +kernel
theorem dX6_seam_1 : decode cX6_seam 1 = .ok (.iconst 0, 1) := by decide +kernel
theorem dX6_seam_2 : decode cX6_seam 2 = .ok (.bipush 11, 2) := by decide +kernel
theorem dX6_seam_4 : decode cX6_seam 4 = .ok (.invokestatic 102, 3) := by decide +kernel
theorem dX6_seam_7 : decode cX6_seam 7 = .ok (.ifCond .ne 5, 3) := by decide +kernel
theorem dX6_seam_10 : decode cX6_seam 10 = .ok (.iconst (-1), 1) := by decide +kernel
theorem dX6_seam_11 : decode cX6_seam 11 = .ok (.ireturn, 1) := by decide +kernel
theorem dX6_seam_12 : decode cX6_seam 12 = .ok (.iconst 0, 1) := by decide +kernel
theorem dX6_seam_13 : decode cX6_seam 13 = .ok (.istore_n 2, 1) := by decide +kernel
theorem dX6_seam_14 : decode cX6_seam 14 = .ok (.iconst 0, 1) := by decide +kernel
theorem dX6_seam_15 : decode cX6_seam 15 = .ok (.istore_n 3, 1) := by decide +kernel
theorem dX6_seam_16 : decode cX6_seam 16 = .ok (.iload_n 3, 1) := by decide +kernel
theorem dX6_seam_17 : decode cX6_seam 17 = .ok (.sipush 7200, 3) := by decide +kernel
theorem dX6_seam_20 : decode cX6_seam 20 = .ok (.if_icmp .ge 55, 3) := by decide +kernel
theorem dX6_seam_23 : decode cX6_seam 23 = .ok (.aload_n 0, 1) := by decide +kernel
theorem dX6_seam_24 : decode cX6_seam 24 = .ok (.iload_n 1, 1) := by decide +kernel
theorem dX6_seam_25 : decode cX6_seam 25 = .ok (.iload_n 3, 1) := by decide +kernel
theorem dX6_seam_26 : decode cX6_seam 26 = .ok (.invokevirtual 135, 3) := by decide +kernel
theorem dX6_seam_29 : decode cX6_seam 29 = .ok (.istore 4, 2) := by decide +kernel
theorem dX6_seam_31 : decode cX6_seam 31 = .ok (.aload_n 0, 1) := by decide +kernel
theorem dX6_seam_32 : decode cX6_seam 32 = .ok (.iload_n 1, 1) := by decide +kernel
theorem dX6_seam_33 : decode cX6_seam 33 = .ok (.iconst 1, 1) := by decide +kernel
theorem dX6_seam_34 : decode cX6_seam 34 = .ok (.iadd, 1) := by decide +kernel
theorem dX6_seam_35 : decode cX6_seam 35 = .ok (.bipush 12, 2) := by decide +kernel
theorem dX6_seam_37 : decode cX6_seam 37 = .ok (.irem, 1) := by decide +kernel
theorem dX6_seam_38 : decode cX6_seam 38 = .ok (.iload_n 3, 1) := by decide +kernel
theorem dX6_seam_39 : decode cX6_seam 39 = .ok (.invokevirtual 135, 3) := by decide +kernel
theorem dX6_seam_42 : decode cX6_seam 42 = .ok (.istore 5, 2) := by decide +kernel
theorem dX6_seam_44 : decode cX6_seam 44 = .ok (.iload_n 2, 1) := by decide +kernel
theorem dX6_seam_45 : decode cX6_seam 45 = .ok (.iload 4, 2) := by decide +kernel
theorem dX6_seam_47 : decode cX6_seam 47 = .ok (.ifCond .eq 19, 3) := by decide +kernel
theorem dX6_seam_50 : decode cX6_seam 50 = .ok (.iload 5, 2) := by decide +kernel
theorem dX6_seam_52 : decode cX6_seam 52 = .ok (.ifCond .eq 14, 3) := by decide +kernel
theorem dX6_seam_55 : decode cX6_seam 55 = .ok (.iload 4, 2) := by decide +kernel
theorem dX6_seam_57 : decode cX6_seam 57 = .ok (.iload 5, 2) := by decide +kernel
theorem dX6_seam_59 : decode cX6_seam 59 = .ok (.if_icmp .eq 7, 3) := by decide +kernel
theorem dX6_seam_62 : decode cX6_seam 62 = .ok (.iconst 1, 1) := by decide +kernel
theorem dX6_seam_63 : decode cX6_seam 63 = .ok (.goto 4, 3) := by decide +kernel
theorem dX6_seam_66 : decode cX6_seam 66 = .ok (.iconst 0, 1) := by decide +kernel
theorem dX6_seam_67 : decode cX6_seam 67 = .ok (.iadd, 1) := by decide +kernel
theorem dX6_seam_68 : decode cX6_seam 68 = .ok (.istore_n 2, 1) := by decide +kernel
theorem dX6_seam_69 : decode cX6_seam 69 = .ok (.iinc 3 1, 3) := by decide +kernel
theorem dX6_seam_72 : decode cX6_seam 72 = .ok (.goto (-56), 3) := by decide +kernel
theorem dX6_seam_75 : decode cX6_seam 75 = .ok (.iload_n 2, 1) := by decide +kernel
theorem dX6_seam_76 : decode cX6_seam 76 = .ok (.ireturn, 1) := by decide +kernel
set_option maxRecDepth 20000 in
theorem ggX6_isSquare_X6_isIn : GoodIn wsX6_isSquare wsX6_isIn := goodIn_r _ [4] (by decide +kernel) (by decide +kernel)
set_option maxRecDepth 20000 in
theorem gX6_isSquare_X6_isIn : GoodIn wsX6_isSquare (va_wsS RX6 102 yX6_isIn wsX6_isIn) := goodIn_app (goodIn_of _ (by decide +kernel)) ggX6_isSquare_X6_isIn
theorem dX6_isSquare_0 : decode cX6_isSquare 0 = .ok (.iload_n 0, 1) := by decide +kernel
theorem dX6_isSquare_1 : decode cX6_isSquare 1 = .ok (.iconst 0, 1) := by decide +kernel
theorem dX6_isSquare_2 : decode cX6_isSquare 2 = .ok (.bipush 71, 2) := by decide +kernel
theorem dX6_isSquare_4 : decode cX6_isSquare 4 = .ok (.invokestatic 102, 3) := by decide +kernel
theorem dX6_isSquare_7 : decode cX6_isSquare 7 = .ok (.ireturn, 1) := by decide +kernel
set_option maxRecDepth 20000 in
theorem ggX6_work_X6_viewAt : GoodIn wsX6_work wsX6_viewAt := goodIn_r _ [5, 6, 7, 8, 9, 10, 11, 12, 13, 14, 15, 4, 16, 17, 18, 19, 20, 21, 22, 23, 24, 25, 26, 27, 28, 29, 30, 31, 32, 33, 34, 35, 36, 37, 38, 39, 40, 41, 42, 43, 44, 45, 46, 47, 48, 49, 50, 51, 52, 53, 54, 55, 56, 57, 58, 59, 60, 61, 62, 63, 64, 65, 66, 67, 68, 69, 70, 71] (by decide +kernel) (by decide +kernel)
set_option maxRecDepth 20000 in
theorem gX6_work_X6_viewAt : GoodIn wsX6_work (wsV RX6 145 RX6 yX6_viewAt wsX6_viewAt) := goodIn_app (goodIn_of _ (by decide +kernel)) ggX6_work_X6_viewAt
theorem dX6_work_0 : decode cX6_work 0 = .ok (.iconst 3, 1) := by decide +kernel
theorem dX6_work_1 : decode cX6_work 1 = .ok (.istore_n 2, 1) := by decide +kernel
theorem dX6_work_2 : decode cX6_work 2 = .ok (.iload_n 1, 1) := by decide +kernel
theorem dX6_work_3 : decode cX6_work 3 = .ok (.bipush 36, 2) := by decide +kernel
theorem dX6_work_5 : decode cX6_work 5 = .ok (.if_icmp .ge 8, 3) := by decide +kernel
theorem dX6_work_8 : decode cX6_work 8 = .ok (.bipush 10, 2) := by decide +kernel
theorem dX6_work_10 : decode cX6_work 10 = .ok (.goto 4, 3) := by decide +kernel
theorem dX6_work_13 : decode cX6_work 13 = .ok (.iconst 0, 1) := by decide +kernel
theorem dX6_work_14 : decode cX6_work 14 = .ok (.istore_n 3, 1) := by decide +kernel
theorem dX6_work_15 : decode cX6_work 15 = .ok (.bipush 10, 2) := by decide +kernel
theorem dX6_work_17 : decode cX6_work 17 = .ok (.iload_n 1, 1) := by decide +kernel
theorem dX6_work_18 : decode cX6_work 18 = .ok (.bipush 36, 2) := by decide +kernel
theorem dX6_work_20 : decode cX6_work 20 = .ok (.irem, 1) := by decide +kernel
theorem dX6_work_21 : decode cX6_work 21 = .ok (.imul, 1) := by decide +kernel
theorem dX6_work_22 : decode cX6_work 22 = .ok (.istore 4, 2) := by decide +kernel
theorem dX6_work_24 : decode cX6_work 24 = .ok (.iload 4, 2) := by decide +kernel
theorem dX6_work_26 : decode cX6_work 26 = .ok (.bipush 10, 2) := by decide +kernel
theorem dX6_work_28 : decode cX6_work 28 = .ok (.iload_n 1, 1) := by decide +kernel
theorem dX6_work_29 : decode cX6_work 29 = .ok (.bipush 36, 2) := by decide +kernel
theorem dX6_work_31 : decode cX6_work 31 = .ok (.irem, 1) := by decide +kernel
theorem dX6_work_32 : decode cX6_work 32 = .ok (.imul, 1) := by decide +kernel
theorem dX6_work_33 : decode cX6_work 33 = .ok (.bipush 10, 2) := by decide +kernel
theorem dX6_work_35 : decode cX6_work 35 = .ok (.iadd, 1) := by decide +kernel
theorem dX6_work_36 : decode cX6_work 36 = .ok (.if_icmp .ge 51, 3) := by decide +kernel
theorem dX6_work_39 : decode cX6_work 39 = .ok (.iload_n 3, 1) := by decide +kernel
theorem dX6_work_40 : decode cX6_work 40 = .ok (.istore 5, 2) := by decide +kernel
theorem dX6_work_42 : decode cX6_work 42 = .ok (.iload 5, 2) := by decide +kernel
theorem dX6_work_44 : decode cX6_work 44 = .ok (.iload_n 3, 1) := by decide +kernel
theorem dX6_work_45 : decode cX6_work 45 = .ok (.bipush 10, 2) := by decide +kernel
theorem dX6_work_47 : decode cX6_work 47 = .ok (.iadd, 1) := by decide +kernel
theorem dX6_work_48 : decode cX6_work 48 = .ok (.if_icmp .ge 33, 3) := by decide +kernel
theorem dX6_work_51 : decode cX6_work 51 = .ok (.iload_n 2, 1) := by decide +kernel
theorem dX6_work_52 : decode cX6_work 52 = .ok (.aload_n 0, 1) := by decide +kernel
theorem dX6_work_53 : decode cX6_work 53 = .ok (.bipush 20, 2) := by decide +kernel
theorem dX6_work_55 : decode cX6_work 55 = .ok (.iload 4, 2) := by decide +kernel
theorem dX6_work_57 : decode cX6_work 57 = .ok (.imul, 1) := by decide +kernel
theorem dX6_work_58 : decode cX6_work 58 = .ok (.iload 5, 2) := by decide +kernel
theorem dX6_work_60 : decode cX6_work 60 = .ok (.iadd, 1) := by decide +kernel
theorem dX6_work_61 : decode cX6_work 61 = .ok (.invokevirtual 145, 3) := by decide +kernel
theorem dX6_work_64 : decode cX6_work 64 = .ok (.iconst (-1), 1) := by decide +kernel
theorem dX6_work_65 : decode cX6_work 65 = .ok (.if_icmp .eq 7, 3) := by decide +kernel
theorem dX6_work_68 : decode cX6_work 68 = .ok (.iconst 1, 1) := by decide +kernel
theorem dX6_work_69 : decode cX6_work 69 = .ok (.goto 4, 3) := by decide +kernel
theorem dX6_work_72 : decode cX6_work 72 = .ok (.iconst 0, 1) := by decide +kernel
theorem dX6_work_73 : decode cX6_work 73 = .ok (.iadd, 1) := by decide +kernel
theorem dX6_work_74 : decode cX6_work 74 = .ok (.istore_n 2, 1) := by decide +kernel
theorem dX6_work_75 : decode cX6_work 75 = .ok (.iinc 5 1, 3) := by decide +kernel
theorem dX6_work_78 : decode cX6_work 78 = .ok (.goto (-36), 3) := by decide +kernel
theorem dX6_work_81 : decode cX6_work 81 = .ok (.iinc 4 1, 3) := by decide +kernel
theorem dX6_work_84 : decode cX6_work 84 = .ok (.goto (-60), 3) := by decide +kernel
theorem dX6_work_87 : decode cX6_work 87 = .ok (.iload_n 2, 1) := by decide +kernel
theorem dX6_work_88 : decode cX6_work 88 = .ok (.ireturn, 1) := by decide +kernel
set_option maxRecDepth 20000 in
theorem ggX6_gang_X6_isIn : GoodIn wsX6_gang wsX6_isIn := goodIn_r _ [6] (by decide +kernel) (by decide +kernel)
set_option maxRecDepth 20000 in
theorem gX6_gang_X6_isIn : GoodIn wsX6_gang (va_wsS RX6 102 yX6_isIn wsX6_isIn) := goodIn_app (goodIn_of _ (by decide +kernel)) ggX6_gang_X6_isIn
theorem dX6_gang_0 : decode cX6_gang 0 = .ok (.iload_n 1, 1) := by decide +kernel
theorem dX6_gang_1 : decode cX6_gang 1 = .ok (.iconst 1, 1) := by decide +kernel
theorem dX6_gang_2 : decode cX6_gang 2 = .ok (.bipush 20, 2) := by decide +kernel
theorem dX6_gang_4 : decode cX6_gang 4 = .ok (.invokestatic 102, 3) := by decide +kernel
theorem dX6_gang_7 : decode cX6_gang 7 = .ok (.ifCond .eq 12, 3) := by decide +kernel
theorem dX6_gang_10 : decode cX6_gang 10 = .ok (.aload_n 0, 1) := by decide +kernel
theorem dX6_gang_11 : decode cX6_gang 11 = .ok (.getfield 148, 3) := by decide +kernel
theorem dX6_gang_14 : decode cX6_gang 14 = .ok (.bipush 6, 2) := by decide +kernel
theorem dX6_gang_16 : decode cX6_gang 16 = .ok (.if_icmp .ne 5, 3) := by decide +kernel
theorem dX6_gang_19 : decode cX6_gang 19 = .ok (.iconst (-1), 1) := by decide +kernel
theorem dX6_gang_20 : decode cX6_gang 20 = .ok (.ireturn, 1) := by decide +kernel
theorem dX6_gang_21 : decode cX6_gang 21 = .ok (.aload_n 0, 1) := by decide +kernel
theorem dX6_gang_22 : decode cX6_gang 22 = .ok (.getfield 21, 3) := by decide +kernel
theorem dX6_gang_25 : decode cX6_gang 25 = .ok (.aload_n 0, 1) := by decide +kernel
theorem dX6_gang_26 : decode cX6_gang 26 = .ok (.getfield 148, 3) := by decide +kernel
theorem dX6_gang_29 : decode cX6_gang 29 = .ok (.iload_n 1, 1) := by decide +kernel
theorem dX6_gang_30 : decode cX6_gang 30 = .ok (.iastore, 1) := by decide +kernel
theorem dX6_gang_31 : decode cX6_gang 31 = .ok (.aload_n 0, 1) := by decide +kernel
theorem dX6_gang_32 : decode cX6_gang 32 = .ok (.dup, 1) := by decide +kernel
theorem dX6_gang_33 : decode cX6_gang 33 = .ok (.getfield 148, 3) := by decide +kernel
theorem dX6_gang_36 : decode cX6_gang 36 = .ok (.iconst 1, 1) := by decide +kernel
theorem dX6_gang_37 : decode cX6_gang 37 = .ok (.iadd, 1) := by decide +kernel
theorem dX6_gang_38 : decode cX6_gang 38 = .ok (.putfield 148, 3) := by decide +kernel
theorem dX6_gang_41 : decode cX6_gang 41 = .ok (.aload_n 0, 1) := by decide +kernel
theorem dX6_gang_42 : decode cX6_gang 42 = .ok (.getfield 148, 3) := by decide +kernel
theorem dX6_gang_45 : decode cX6_gang 45 = .ok (.iconst 1, 1) := by decide +kernel
theorem dX6_gang_46 : decode cX6_gang 46 = .ok (.isub, 1) := by decide +kernel
theorem dX6_gang_47 : decode cX6_gang 47 = .ok (.ireturn, 1) := by decide +kernel
set_option maxRecDepth 20000 in
theorem ggX6_put_X6_isIn : GoodIn wsX6_put wsX6_isIn := goodIn_r _ [15] (by decide +kernel) (by decide +kernel)
set_option maxRecDepth 20000 in
theorem gX6_put_X6_isIn : GoodIn wsX6_put (va_wsS RX6 102 yX6_isIn wsX6_isIn) := goodIn_app (goodIn_of _ (by decide +kernel)) ggX6_put_X6_isIn
set_option maxRecDepth 20000 in
theorem ggX6_put_X6_isSquare : GoodIn wsX6_put wsX6_isSquare := goodIn_r _ [18, 12, 13, 14, 15] (by decide +kernel) (by decide +kernel)
set_option maxRecDepth 20000 in
theorem gX6_put_X6_isSquare : GoodIn wsX6_put (va_wsS RX6 151 yX6_isSquare wsX6_isSquare) := goodIn_app (goodIn_of _ (by decide +kernel)) ggX6_put_X6_isSquare
set_option maxRecDepth 20000 in
theorem ggX6_put_X6_work : GoodIn wsX6_put wsX6_work := goodIn_r _ [22, 23, 24, 25, 14, 26, 27, 28, 10, 29, 30, 31, 32, 33, 34, 35, 36, 37, 38, 39, 40, 41, 42, 43, 44, 45, 46, 47, 48, 49, 50, 51, 52, 53, 54, 55, 56, 57, 58, 59, 60, 61, 62, 63, 64, 65, 66, 67, 68, 69, 70, 71, 72, 73, 74, 75, 76, 77, 78, 79, 80, 81, 82, 83, 84, 85, 86, 87, 88, 89, 90, 91] (by decide +kernel) (by decide +kernel)
set_option maxRecDepth 20000 in
theorem gX6_put_X6_work : GoodIn wsX6_put (wsV RX6 158 RX6 yX6_work wsX6_work) := goodIn_app (goodIn_of _ (by decide +kernel)) ggX6_put_X6_work
theorem dX6_put_0 : decode cX6_put 0 = .ok (.iload_n 1, 1) := by decide +kernel
theorem dX6_put_1 : decode cX6_put 1 = .ok (.iconst 0, 1) := by decide +kernel
theorem dX6_put_2 : decode cX6_put 2 = .ok (.aload_n 0, 1) := by decide +kernel
theorem dX6_put_3 : decode cX6_put 3 = .ok (.getfield 148, 3) := by decide +kernel
theorem dX6_put_6 : decode cX6_put 6 = .ok (.iconst 1, 1) := by decide +kernel
theorem dX6_put_7 : decode cX6_put 7 = .ok (.isub, 1) := by decide +kernel
theorem dX6_put_8 : decode cX6_put 8 = .ok (.invokestatic 102, 3) := by decide +kernel
theorem dX6_put_11 : decode cX6_put 11 = .ok (.ifCond .eq 10, 3) := by decide +kernel
theorem dX6_put_14 : decode cX6_put 14 = .ok (.iload_n 2, 1) := by decide +kernel
theorem dX6_put_15 : decode cX6_put 15 = .ok (.invokestatic 151, 3) := by decide +kernel
theorem dX6_put_18 : decode cX6_put 18 = .ok (.ifCond .ne 6, 3) := by decide +kernel
theorem dX6_put_21 : decode cX6_put 21 = .ok (.bipush (-2), 2) := by decide +kernel
theorem dX6_put_23 : decode cX6_put 23 = .ok (.ireturn, 1) := by decide +kernel
theorem dX6_put_24 : decode cX6_put 24 = .ok (.aload_n 0, 1) := by decide +kernel
theorem dX6_put_25 : decode cX6_put 25 = .ok (.getfield 25, 3) := by decide +kernel
theorem dX6_put_28 : decode cX6_put 28 = .ok (.iload_n 1, 1) := by decide +kernel
theorem dX6_put_29 : decode cX6_put 29 = .ok (.iaload, 1) := by decide +kernel
theorem dX6_put_30 : decode cX6_put 30 = .ok (.iconst (-1), 1) := by decide +kernel
theorem dX6_put_31 : decode cX6_put 31 = .ok (.if_icmp .eq 6, 3) := by decide +kernel
theorem dX6_put_34 : decode cX6_put 34 = .ok (.bipush (-3), 2) := by decide +kernel
theorem dX6_put_36 : decode cX6_put 36 = .ok (.ireturn, 1) := by decide +kernel
theorem dX6_put_37 : decode cX6_put 37 = .ok (.aload_n 0, 1) := by decide +kernel
theorem dX6_put_38 : decode cX6_put 38 = .ok (.getfield 28, 3) := by decide +kernel
theorem dX6_put_41 : decode cX6_put 41 = .ok (.iload_n 2, 1) := by decide +kernel
theorem dX6_put_42 : decode cX6_put 42 = .ok (.iaload, 1) := by decide +kernel
theorem dX6_put_43 : decode cX6_put 43 = .ok (.iconst 2, 1) := by decide +kernel
theorem dX6_put_44 : decode cX6_put 44 = .ok (.if_icmp .ne 6, 3) := by decide +kernel
theorem dX6_put_47 : decode cX6_put 47 = .ok (.bipush (-4), 2) := by decide +kernel
theorem dX6_put_49 : decode cX6_put 49 = .ok (.ireturn, 1) := by decide +kernel
theorem dX6_put_50 : decode cX6_put 50 = .ok (.aload_n 0, 1) := by decide +kernel
theorem dX6_put_51 : decode cX6_put 51 = .ok (.getfield 31, 3) := by decide +kernel
theorem dX6_put_54 : decode cX6_put 54 = .ok (.iload_n 2, 1) := by decide +kernel
theorem dX6_put_55 : decode cX6_put 55 = .ok (.iaload, 1) := by decide +kernel
theorem dX6_put_56 : decode cX6_put 56 = .ok (.iconst (-1), 1) := by decide +kernel
theorem dX6_put_57 : decode cX6_put 57 = .ok (.if_icmp .eq 6, 3) := by decide +kernel
theorem dX6_put_60 : decode cX6_put 60 = .ok (.bipush (-5), 2) := by decide +kernel
theorem dX6_put_62 : decode cX6_put 62 = .ok (.ireturn, 1) := by decide +kernel
theorem dX6_put_63 : decode cX6_put 63 = .ok (.aload_n 0, 1) := by decide +kernel
theorem dX6_put_64 : decode cX6_put 64 = .ok (.getfield 28, 3) := by decide +kernel
theorem dX6_put_67 : decode cX6_put 67 = .ok (.iload_n 2, 1) := by decide +kernel
theorem dX6_put_68 : decode cX6_put 68 = .ok (.iaload, 1) := by decide +kernel
theorem dX6_put_69 : decode cX6_put 69 = .ok (.iconst 1, 1) := by decide +kernel
theorem dX6_put_70 : decode cX6_put 70 = .ok (.iadd, 1) := by decide +kernel
theorem dX6_put_71 : decode cX6_put 71 = .ok (.istore_n 3, 1) := by decide +kernel
theorem dX6_put_72 : decode cX6_put 72 = .ok (.iload_n 3, 1) := by decide +kernel
theorem dX6_put_73 : decode cX6_put 73 = .ok (.iconst 2, 1) := by decide +kernel
theorem dX6_put_74 : decode cX6_put 74 = .ok (.if_icmp .ne 21, 3) := by decide +kernel
theorem dX6_put_77 : decode cX6_put 77 = .ok (.aload_n 0, 1) := by decide +kernel
theorem dX6_put_78 : decode cX6_put 78 = .ok (.getfield 155, 3) := by decide +kernel
theorem dX6_put_81 : decode cX6_put 81 = .ok (.aload_n 0, 1) := by decide +kernel
theorem dX6_put_82 : decode cX6_put 82 = .ok (.getfield 37, 3) := by decide +kernel
theorem dX6_put_85 : decode cX6_put 85 = .ok (.iload_n 2, 1) := by decide +kernel

theorem dX0_init_0 : decode cX0_init 0 = .ok (.aload_n 0, 1) := by decide +kernel
theorem dX0_init_1 : decode cX0_init 1 = .ok (.invokespecial 3, 3) := by decide +kernel
theorem dX0_init_4 : decode cX0_init 4 = .ok (.aload_n 0, 1) := by decide +kernel
theorem dX0_init_5 : decode cX0_init 5 = .ok (.sipush 600, 3) := by decide +kernel
theorem dX0_init_8 : decode cX0_init 8 = .ok (.newarray .int, 2) := by decide +kernel
theorem dX0_init_10 : decode cX0_init 10 = .ok (.putfield 9, 3) := by decide +kernel
theorem dX0_init_13 : decode cX0_init 13 = .ok (.return_, 1) := by decide +kernel
theorem dX0_bytes_0 : decode cX0_bytes 0 = .ok (.aload_n 0, 1) := by decide +kernel
theorem dX0_bytes_1 : decode cX0_bytes 1 = .ok (.getfield 15, 3) := by decide +kernel
theorem dX0_bytes_4 : decode cX0_bytes 4 = .ok (.ireturn, 1) := by decide +kernel
set_option maxRecDepth 20000 in
theorem ggX0_takeBytes_X0_takeFour : GoodIn wsX0_takeBytes wsX0_takeFour := goodIn_r _ [6, 1, 7, 8, 9, 10, 11, 12, 13] (by decide +kernel) (by decide +kernel)
set_option maxRecDepth 20000 in
theorem gX0_takeBytes_X0_takeFour : GoodIn wsX0_takeBytes (wsV RX0 19 RX0 yX0_takeFour wsX0_takeFour) := goodIn_app (goodIn_of _ (by decide +kernel)) ggX0_takeBytes_X0_takeFour
theorem dX0_takeBytes_0 : decode cX0_takeBytes 0 = .ok (.aload_n 0, 1) := by decide +kernel
theorem dX0_takeBytes_1 : decode cX0_takeBytes 1 = .ok (.getfield 15, 3) := by decide +kernel
theorem dX0_takeBytes_4 : decode cX0_takeBytes 4 = .ok (.sipush 580, 3) := by decide +kernel
theorem dX0_takeBytes_7 : decode cX0_takeBytes 7 = .ok (.if_icmp .le 5, 3) := by decide +kernel
theorem dX0_takeBytes_10 : decode cX0_takeBytes 10 = .ok (.iconst (-1), 1) := by decide +kernel
theorem dX0_takeBytes_11 : decode cX0_takeBytes 11 = .ok (.ireturn, 1) := by decide +kernel
theorem dX0_takeBytes_12 : decode cX0_takeBytes 12 = .ok (.aload_n 0, 1) := by decide +kernel
theorem dX0_takeBytes_13 : decode cX0_takeBytes 13 = .ok (.iload_n 1, 1) := by decide +kernel
theorem dX0_takeBytes_14 : decode cX0_takeBytes 14 = .ok (.invokevirtual 19, 3) := by decide +kernel
theorem dX0_takeBytes_17 : decode cX0_takeBytes 17 = .ok (.aload_n 0, 1) := by decide +kernel
theorem dX0_takeBytes_18 : decode cX0_takeBytes 18 = .ok (.iload_n 2, 1) := by decide +kernel
theorem dX0_takeBytes_19 : decode cX0_takeBytes 19 = .ok (.invokevirtual 19, 3) := by decide +kernel
theorem dX0_takeBytes_22 : decode cX0_takeBytes 22 = .ok (.aload_n 0, 1) := by decide +kernel
theorem dX0_takeBytes_23 : decode cX0_takeBytes 23 = .ok (.iload_n 3, 1) := by decide +kernel
theorem dX0_takeBytes_24 : decode cX0_takeBytes 24 = .ok (.invokevirtual 19, 3) := by decide +kernel
theorem dX0_takeBytes_27 : decode cX0_takeBytes 27 = .ok (.aload_n 0, 1) := by decide +kernel
theorem dX0_takeBytes_28 : decode cX0_takeBytes 28 = .ok (.iload 4, 2) := by decide +kernel
theorem dX0_takeBytes_30 : decode cX0_takeBytes 30 = .ok (.invokevirtual 19, 3) := by decide +kernel
theorem dX0_takeBytes_33 : decode cX0_takeBytes 33 = .ok (.aload_n 0, 1) := by decide +kernel
theorem dX0_takeBytes_34 : decode cX0_takeBytes 34 = .ok (.iload 5, 2) := by decide +kernel
theorem dX0_takeBytes_36 : decode cX0_takeBytes 36 = .ok (.invokevirtual 19, 3) := by decide +kernel
theorem dX0_takeBytes_39 : decode cX0_takeBytes 39 = .ok (.aload_n 0, 1) := by decide +kernel
theorem dX0_takeBytes_40 : decode cX0_takeBytes 40 = .ok (.getfield 15, 3) := by decide +kernel
theorem dX0_takeBytes_43 : decode cX0_takeBytes 43 = .ok (.ireturn, 1) := by decide +kernel
theorem dX0_takeFour_0 : decode cX0_takeFour 0 = .ok (.bipush 24, 2) := by decide +kernel
theorem dX0_takeFour_2 : decode cX0_takeFour 2 = .ok (.istore_n 2, 1) := by decide +kernel
theorem dX0_takeFour_3 : decode cX0_takeFour 3 = .ok (.iload_n 2, 1) := by decide +kernel
theorem dX0_takeFour_4 : decode cX0_takeFour 4 = .ok (.ifCond .lt 52, 3) := by decide +kernel
theorem dX0_takeFour_7 : decode cX0_takeFour 7 = .ok (.aload_n 0, 1) := by decide +kernel
theorem dX0_takeFour_8 : decode cX0_takeFour 8 = .ok (.getfield 15, 3) := by decide +kernel
theorem dX0_takeFour_11 : decode cX0_takeFour 11 = .ok (.ifCond .lt 39, 3) := by decide +kernel
theorem dX0_takeFour_14 : decode cX0_takeFour 14 = .ok (.aload_n 0, 1) := by decide +kernel
theorem dX0_takeFour_15 : decode cX0_takeFour 15 = .ok (.getfield 15, 3) := by decide +kernel
theorem dX0_takeFour_18 : decode cX0_takeFour 18 = .ok (.sipush 600, 3) := by decide +kernel
theorem dX0_takeFour_21 : decode cX0_takeFour 21 = .ok (.if_icmp .ge 29, 3) := by decide +kernel
theorem dX0_takeFour_24 : decode cX0_takeFour 24 = .ok (.aload_n 0, 1) := by decide +kernel
theorem dX0_takeFour_25 : decode cX0_takeFour 25 = .ok (.getfield 9, 3) := by decide +kernel
theorem dX0_takeFour_28 : decode cX0_takeFour 28 = .ok (.aload_n 0, 1) := by decide +kernel
theorem dX0_takeFour_29 : decode cX0_takeFour 29 = .ok (.getfield 15, 3) := by decide +kernel
theorem dX0_takeFour_32 : decode cX0_takeFour 32 = .ok (.iload_n 1, 1) := by decide +kernel
theorem dX0_takeFour_33 : decode cX0_takeFour 33 = .ok (.iload_n 2, 1) := by decide +kernel
theorem dX0_takeFour_34 : decode cX0_takeFour 34 = .ok (.iushr, 1) := by decide +kernel
theorem dX0_takeFour_35 : decode cX0_takeFour 35 = .ok (.sipush 255, 3) := by decide +kernel
theorem dX0_takeFour_38 : decode cX0_takeFour 38 = .ok (.iand, 1) := by decide +kernel
theorem dX0_takeFour_39 : decode cX0_takeFour 39 = .ok (.iastore, 1) := by decide +kernel
theorem dX0_takeFour_40 : decode cX0_takeFour 40 = .ok (.aload_n 0, 1) := by decide +kernel
theorem dX0_takeFour_41 : decode cX0_takeFour 41 = .ok (.dup, 1) := by decide +kernel
theorem dX0_takeFour_42 : decode cX0_takeFour 42 = .ok (.getfield 15, 3) := by decide +kernel
theorem dX0_takeFour_45 : decode cX0_takeFour 45 = .ok (.iconst 1, 1) := by decide +kernel
theorem dX0_takeFour_46 : decode cX0_takeFour 46 = .ok (.iadd, 1) := by decide +kernel
theorem dX0_takeFour_47 : decode cX0_takeFour 47 = .ok (.putfield 15, 3) := by decide +kernel
theorem dX0_takeFour_50 : decode cX0_takeFour 50 = .ok (.iinc 2 (-8), 3) := by decide +kernel
theorem dX0_takeFour_53 : decode cX0_takeFour 53 = .ok (.goto (-50), 3) := by decide +kernel
theorem dX0_takeFour_56 : decode cX0_takeFour 56 = .ok (.return_, 1) := by decide +kernel
set_option maxRecDepth 20000 in
theorem ggX0_readContract_X1_clearContract : GoodIn wsX0_readContract wsX1_clearContract := goodIn_r _ [14, 15, 16, 17, 136, 137, 138, 139, 140, 141, 142, 143, 144, 145, 146, 147] (by decide +kernel) (by decide +kernel)
set_option maxRecDepth 20000 in
theorem gX0_readContract_X1_clearContract : GoodIn wsX0_readContract (wsV RX0 23 RX1 yX1_clearContract wsX1_clearContract) := goodIn_app (goodIn_of _ (by decide +kernel)) ggX0_readContract_X1_clearContract
set_option maxRecDepth 20000 in
theorem ggX0_readContract_X0_advance : GoodIn wsX0_readContract wsX0_advance := goodIn_r _ [22, 7, 9, 6, 8, 23, 24, 25, 21, 26, 27, 28, 29, 30, 130, 131, 132, 133, 134, 135] (by decide +kernel) (by decide +kernel)
set_option maxRecDepth 20000 in
theorem gX0_readContract_X0_advance : GoodIn wsX0_readContract (wsV RX0 40 RX0 yX0_advance wsX0_advance) := goodIn_app (goodIn_of _ (by decide +kernel)) ggX0_readContract_X0_advance
set_option maxRecDepth 20000 in
theorem ggX0_readContract_X0_readStatement : GoodIn wsX0_readContract wsX0_readStatement := goodIn_r _ [34, 35, 36, 37, 38, 21, 39, 8, 7, 9, 40, 41, 42, 43, 44, 45, 46, 47, 48, 49, 50, 51, 23, 24, 25, 26, 6, 27, 52, 53, 54, 55, 56, 57, 58, 59, 60, 61, 62, 63, 64, 65, 66, 67, 68, 69, 70, 71, 72, 73, 74, 75, 76, 77, 78, 79, 80, 81, 82, 83, 84, 85, 86, 87, 88, 18, 19, 20, 22, 28, 29, 30, 89, 90, 91, 92, 93, 94, 95, 13, 96, 16, 97, 98, 99, 100, 17, 101, 102, 103, 104, 15, 105, 106, 107, 108, 109, 110, 111, 112, 113, 114, 115, 116, 117, 118, 119, 120, 121, 122, 123, 124, 125, 126, 127, 128, 129, 130, 131, 132, 133, 134, 135, 136, 137, 138, 139, 140, 141, 142, 143, 144, 145, 146, 147] (by decide +kernel) (by decide +kernel)
set_option maxRecDepth 20000 in
theorem gX0_readContract_X0_readStatement : GoodIn wsX0_readContract (wsV RX0 46 RX0 yX0_readStatement wsX0_readStatement) := goodIn_app (goodIn_of _ (by decide +kernel)) ggX0_readContract_X0_readStatement
theorem dX0_readContract_0 : decode cX0_readContract 0 = .ok (.aload_n 2, 1) := by decide +kernel
theorem dX0_readContract_1 : decode cX0_readContract 1 = .ok (.invokevirtual 23, 3) := by decide +kernel
theorem dX0_readContract_4 : decode cX0_readContract 4 = .ok (.aload_n 0, 1) := by decide +kernel
theorem dX0_readContract_5 : decode cX0_readContract 5 = .ok (.iload_n 1, 1) := by decide +kernel
theorem dX0_readContract_6 : decode cX0_readContract 6 = .ok (.aload_n 0, 1) := by decide +kernel
theorem dX0_readContract_7 : decode cX0_readContract 7 = .ok (.getfield 15, 3) := by decide +kernel
theorem dX0_readContract_10 : decode cX0_readContract 10 = .ok (.invokestatic 28, 3) := by decide +kernel
theorem dX0_readContract_13 : decode cX0_readContract 13 = .ok (.putfield 34, 3) := by decide +kernel
theorem dX0_readContract_16 : decode cX0_readContract 16 = .ok (.aload_n 0, 1) := by decide +kernel
theorem dX0_readContract_17 : decode cX0_readContract 17 = .ok (.iconst 0, 1) := by decide +kernel
theorem dX0_readContract_18 : decode cX0_readContract 18 = .ok (.putfield 15, 3) := by decide +kernel
theorem dX0_readContract_21 : decode cX0_readContract 21 = .ok (.aload_n 0, 1) := by decide +kernel
theorem dX0_readContract_22 : decode cX0_readContract 22 = .ok (.iconst 0, 1) := by decide +kernel
theorem dX0_readContract_23 : decode cX0_readContract 23 = .ok (.putfield 37, 3) := by decide +kernel
theorem dX0_readContract_26 : decode cX0_readContract 26 = .ok (.aload_n 0, 1) := by decide +kernel
theorem dX0_readContract_27 : decode cX0_readContract 27 = .ok (.invokevirtual 40, 3) := by decide +kernel
theorem dX0_readContract_30 : decode cX0_readContract 30 = .ok (.iconst 0, 1) := by decide +kernel
theorem dX0_readContract_31 : decode cX0_readContract 31 = .ok (.istore_n 3, 1) := by decide +kernel
theorem dX0_readContract_32 : decode cX0_readContract 32 = .ok (.iload_n 3, 1) := by decide +kernel
theorem dX0_readContract_33 : decode cX0_readContract 33 = .ok (.bipush 12, 2) := by decide +kernel
theorem dX0_readContract_35 : decode cX0_readContract 35 = .ok (.if_icmp .ge 29, 3) := by decide +kernel
theorem dX0_readContract_38 : decode cX0_readContract 38 = .ok (.aload_n 0, 1) := by decide +kernel
theorem dX0_readContract_39 : decode cX0_readContract 39 = .ok (.getfield 43, 3) := by decide +kernel
theorem dX0_readContract_42 : decode cX0_readContract 42 = .ok (.ifCond .eq 22, 3) := by decide +kernel
theorem dX0_readContract_45 : decode cX0_readContract 45 = .ok (.aload_n 0, 1) := by decide +kernel
theorem dX0_readContract_46 : decode cX0_readContract 46 = .ok (.aload_n 2, 1) := by decide +kernel
theorem dX0_readContract_47 : decode cX0_readContract 47 = .ok (.invokevirtual 46, 3) := by decide +kernel
theorem dX0_readContract_50 : decode cX0_readContract 50 = .ok (.ifCond .ne 8, 3) := by decide +kernel
theorem dX0_readContract_53 : decode cX0_readContract 53 = .ok (.aload_n 0, 1) := by decide +kernel
theorem dX0_readContract_54 : decode cX0_readContract 54 = .ok (.getfield 50, 3) := by decide +kernel
theorem dX0_readContract_57 : decode cX0_readContract 57 = .ok (.ireturn, 1) := by decide +kernel
theorem dX0_readContract_58 : decode cX0_readContract 58 = .ok (.iinc 3 1, 3) := by decide +kernel
theorem dX0_readContract_61 : decode cX0_readContract 61 = .ok (.goto (-29), 3) := by decide +kernel
theorem dX0_readContract_64 : decode cX0_readContract 64 = .ok (.aload_n 0, 1) := by decide +kernel
theorem dX0_readContract_65 : decode cX0_readContract 65 = .ok (.getfield 43, 3) := by decide +kernel
theorem dX0_readContract_68 : decode cX0_readContract 68 = .ok (.ifCond .ne 7, 3) := by decide +kernel
theorem dX0_readContract_71 : decode cX0_readContract 71 = .ok (.iconst (-1), 1) := by decide +kernel
theorem dX0_readContract_72 : decode cX0_readContract 72 = .ok (.goto 7, 3) := by decide +kernel
theorem dX0_readContract_75 : decode cX0_readContract 75 = .ok (.aload_n 0, 1) := by decide +kernel
theorem dX0_readContract_76 : decode cX0_readContract 76 = .ok (.getfield 50, 3) := by decide +kernel
theorem dX0_readContract_79 : decode cX0_readContract 79 = .ok (.ireturn, 1) := by decide +kernel
set_option maxRecDepth 20000 in
theorem ggX0_readStatement_X0_isWord : GoodIn wsX0_readStatement wsX0_isWord := goodIn_r _ [6, 7, 8, 9, 10, 11, 12, 13, 14, 15, 16, 17, 18, 19, 20, 21, 22, 23, 24, 5, 25, 26, 27, 28, 29, 30, 31, 32, 33, 34, 35, 36, 37, 38, 39, 40, 41, 42, 43, 44, 45, 46, 47, 48, 49, 50, 51, 52, 53, 54, 55, 56, 57, 58, 59, 60, 61, 62, 63, 64, 117, 118, 119, 120, 121, 122] (by decide +kernel) (by decide +kernel)
set_option maxRecDepth 20000 in
theorem gX0_readStatement_X0_isWord : GoodIn wsX0_readStatement (wsV RX0 55 RX0 yX0_isWord wsX0_isWord) := goodIn_app (goodIn_of _ (by decide +kernel)) ggX0_readStatement_X0_isWord
set_option maxRecDepth 20000 in
theorem ggX0_readStatement_X0_advance : GoodIn wsX0_readStatement wsX0_advance := goodIn_r _ [68, 8, 9, 26, 7, 22, 23, 24, 5, 25, 27, 69, 70, 71, 117, 118, 119, 120, 121, 122] (by decide +kernel) (by decide +kernel)
set_option maxRecDepth 20000 in
theorem gX0_readStatement_X0_advance : GoodIn wsX0_readStatement (wsV RX0 40 RX0 yX0_advance wsX0_advance) := goodIn_app (goodIn_of _ (by decide +kernel)) ggX0_readStatement_X0_advance
set_option maxRecDepth 20000 in
theorem ggX0_readStatement_X0_numberHere : GoodIn wsX0_readStatement wsX0_numberHere := goodIn_r _ [75, 7, 8, 9, 22, 23, 24, 5, 25, 26, 27, 117, 118, 119, 120, 121, 122] (by decide +kernel) (by decide +kernel)
set_option maxRecDepth 20000 in
theorem gX0_readStatement_X0_numberHere : GoodIn wsX0_readStatement (wsV RX0 64 RX0 yX0_numberHere wsX0_numberHere) := goodIn_app (goodIn_of _ (by decide +kernel)) ggX0_readStatement_X0_numberHere
set_option maxRecDepth 20000 in
theorem ggX0_readStatement_X1_setWeeks : GoodIn wsX0_readStatement wsX1_setWeeks := goodIn_r _ [80, 81, 123, 124, 125, 126, 127, 128, 129, 130, 131, 132, 133, 134] (by decide +kernel) (by decide +kernel)
set_option maxRecDepth 20000 in
theorem gX0_readStatement_X1_setWeeks : GoodIn wsX0_readStatement (wsV RX0 68 RX1 yX1_setWeeks wsX1_setWeeks) := goodIn_app (goodIn_of _ (by decide +kernel)) ggX0_readStatement_X1_setWeeks
set_option maxRecDepth 20000 in
theorem ggX0_readStatement_X1_setRent : GoodIn wsX0_readStatement wsX1_setRent := goodIn_r _ [85, 86, 123, 124, 125, 126, 127, 128, 129, 130, 131, 132, 133, 134] (by decide +kernel) (by decide +kernel)
set_option maxRecDepth 20000 in
theorem gX0_readStatement_X1_setRent : GoodIn wsX0_readStatement (wsV RX0 71 RX1 yX1_setRent wsX1_setRent) := goodIn_app (goodIn_of _ (by decide +kernel)) ggX0_readStatement_X1_setRent
set_option maxRecDepth 20000 in
theorem ggX0_readStatement_X1_addPart : GoodIn wsX0_readStatement wsX1_addPart := goodIn_r _ [90, 91, 92, 93, 123, 124, 125, 126, 127, 128, 129, 130, 131, 132, 133, 134] (by decide +kernel) (by decide +kernel)
set_option maxRecDepth 20000 in
theorem gX0_readStatement_X1_addPart : GoodIn wsX0_readStatement (wsV RX0 74 RX1 yX1_addPart wsX1_addPart) := goodIn_app (goodIn_of _ (by decide +kernel)) ggX0_readStatement_X1_addPart
set_option maxRecDepth 20000 in
theorem ggX0_readStatement_X0_readTests : GoodIn wsX0_readStatement wsX0_readTests := goodIn_r _ [97, 2, 3, 4, 5, 6, 7, 8, 9, 10, 11, 12, 13, 14, 15, 16, 17, 18, 19, 20, 21, 22, 23, 24, 25, 26, 27, 28, 29, 30, 31, 32, 33, 34, 35, 36, 37, 38, 39, 40, 41, 42, 43, 44, 45, 46, 47, 48, 49, 50, 51, 52, 53, 54, 55, 56, 57, 58, 59, 60, 61, 62, 63, 64, 65, 66, 67, 68, 69, 70, 71, 98, 99, 100, 101, 1, 102, 103, 104, 105, 106, 107, 108, 109, 72, 73, 74, 75, 110, 111, 112, 79, 113, 91, 93, 114, 115, 116, 117, 118, 119, 120, 121, 122, 123, 124, 125, 126, 127, 128, 129, 130, 131, 132, 133, 134] (by decide +kernel) (by decide +kernel)
set_option maxRecDepth 20000 in
theorem gX0_readStatement_X0_readTests : GoodIn wsX0_readStatement (wsV RX0 77 RX0 yX0_readTests wsX0_readTests) := goodIn_app (goodIn_of _ (by decide +kernel)) ggX0_readStatement_X0_readTests
set_option maxRecDepth 20000 in
theorem ggX0_readStatement_X0_signHere : GoodIn wsX0_readStatement wsX0_signHere := goodIn_r _ [109, 7, 9, 22, 23, 24, 5, 25, 26, 27, 117, 118, 119, 120, 121, 122] (by decide +kernel) (by decide +kernel)
set_option maxRecDepth 20000 in
theorem gX0_readStatement_X0_signHere : GoodIn wsX0_readStatement (wsV RX0 80 RX0 yX0_signHere wsX0_signHere) := goodIn_app (goodIn_of _ (by decide +kernel)) ggX0_readStatement_X0_signHere
theorem dX0_readStatement_0 : decode cX0_readStatement 0 = .ok (.aload_n 0, 1) := by decide +kernel
theorem dX0_readStatement_1 : decode cX0_readStatement 1 = .ok (.ldc 53, 2) := by decide +kernel
theorem dX0_readStatement_3 : decode cX0_readStatement 3 = .ok (.invokevirtual 55, 3) := by decide +kernel
theorem dX0_readStatement_6 : decode cX0_readStatement 6 = .ok (.istore_n 2, 1) := by decide +kernel
theorem dX0_readStatement_7 : decode cX0_readStatement 7 = .ok (.aload_n 0, 1) := by decide +kernel
theorem dX0_readStatement_8 : decode cX0_readStatement 8 = .ok (.ldc 59, 2) := by decide +kernel
theorem dX0_readStatement_10 : decode cX0_readStatement 10 = .ok (.invokevirtual 55, 3) := by decide +kernel
theorem dX0_readStatement_13 : decode cX0_readStatement 13 = .ok (.istore_n 3, 1) := by decide +kernel
theorem dX0_readStatement_14 : decode cX0_readStatement 14 = .ok (.iload_n 2, 1) := by decide +kernel
theorem dX0_readStatement_15 : decode cX0_readStatement 15 = .ok (.ifCond .ne 18, 3) := by decide +kernel
theorem dX0_readStatement_18 : decode cX0_readStatement 18 = .ok (.iload_n 3, 1) := by decide +kernel
theorem dX0_readStatement_19 : decode cX0_readStatement 19 = .ok (.ifCond .ne 14, 3) := by decide +kernel
theorem dX0_readStatement_22 : decode cX0_readStatement 22 = .ok (.aload_n 0, 1) := by decide +kernel
theorem dX0_readStatement_23 : decode cX0_readStatement 23 = .ok (.ldc 61, 2) := by decide +kernel
theorem dX0_readStatement_25 : decode cX0_readStatement 25 = .ok (.invokevirtual 55, 3) := by decide +kernel
theorem dX0_readStatement_28 : decode cX0_readStatement 28 = .ok (.ifCond .ne 5, 3) := by decide +kernel
theorem dX0_readStatement_31 : decode cX0_readStatement 31 = .ok (.iconst 0, 1) := by decide +kernel
theorem dX0_readStatement_32 : decode cX0_readStatement 32 = .ok (.ireturn, 1) := by decide +kernel
theorem dX0_readStatement_33 : decode cX0_readStatement 33 = .ok (.aload_n 0, 1) := by decide +kernel
theorem dX0_readStatement_34 : decode cX0_readStatement 34 = .ok (.invokevirtual 40, 3) := by decide +kernel
theorem dX0_readStatement_37 : decode cX0_readStatement 37 = .ok (.aload_n 0, 1) := by decide +kernel
theorem dX0_readStatement_38 : decode cX0_readStatement 38 = .ok (.iload_n 3, 1) := by decide +kernel
theorem dX0_readStatement_39 : decode cX0_readStatement 39 = .ok (.ifCond .eq 8, 3) := by decide +kernel
theorem dX0_readStatement_42 : decode cX0_readStatement 42 = .ok (.bipush 100, 2) := by decide +kernel
theorem dX0_readStatement_44 : decode cX0_readStatement 44 = .ok (.goto 5, 3) := by decide +kernel
theorem dX0_readStatement_47 : decode cX0_readStatement 47 = .ok (.ldc 63, 2) := by decide +kernel
theorem dX0_readStatement_49 : decode cX0_readStatement 49 = .ok (.invokevirtual 64, 3) := by decide +kernel
theorem dX0_readStatement_52 : decode cX0_readStatement 52 = .ok (.istore 4, 2) := by decide +kernel
theorem dX0_readStatement_54 : decode cX0_readStatement 54 = .ok (.iload 4, 2) := by decide +kernel
theorem dX0_readStatement_56 : decode cX0_readStatement 56 = .ok (.iconst (-1), 1) := by decide +kernel
theorem dX0_readStatement_57 : decode cX0_readStatement 57 = .ok (.if_icmp .ne 5, 3) := by decide +kernel
theorem dX0_readStatement_60 : decode cX0_readStatement 60 = .ok (.iconst 0, 1) := by decide +kernel
theorem dX0_readStatement_61 : decode cX0_readStatement 61 = .ok (.ireturn, 1) := by decide +kernel
theorem dX0_readStatement_62 : decode cX0_readStatement 62 = .ok (.aload_n 0, 1) := by decide +kernel
theorem dX0_readStatement_63 : decode cX0_readStatement 63 = .ok (.invokevirtual 40, 3) := by decide +kernel
theorem dX0_readStatement_66 : decode cX0_readStatement 66 = .ok (.iload_n 2, 1) := by decide +kernel
theorem dX0_readStatement_67 : decode cX0_readStatement 67 = .ok (.ifCond .eq 12, 3) := by decide +kernel
theorem dX0_readStatement_70 : decode cX0_readStatement 70 = .ok (.aload_n 1, 1) := by decide +kernel
theorem dX0_readStatement_71 : decode cX0_readStatement 71 = .ok (.iload 4, 2) := by decide +kernel
theorem dX0_readStatement_73 : decode cX0_readStatement 73 = .ok (.invokevirtual 68, 3) := by decide +kernel
theorem dX0_readStatement_76 : decode cX0_readStatement 76 = .ok (.goto 32, 3) := by decide +kernel
theorem dX0_readStatement_79 : decode cX0_readStatement 79 = .ok (.iload_n 3, 1) := by decide +kernel
theorem dX0_readStatement_80 : decode cX0_readStatement 80 = .ok (.ifCond .ne 12, 3) := by decide +kernel
theorem dX0_readStatement_83 : decode cX0_readStatement 83 = .ok (.aload_n 1, 1) := by decide +kernel
theorem dX0_readStatement_84 : decode cX0_readStatement 84 = .ok (.iload 4, 2) := by decide +kernel
theorem dX0_readStatement_86 : decode cX0_readStatement 86 = .ok (.invokevirtual 71, 3) := by decide +kernel
theorem dX0_readStatement_89 : decode cX0_readStatement 89 = .ok (.goto 19, 3) := by decide +kernel
theorem dX0_readStatement_92 : decode cX0_readStatement 92 = .ok (.aload_n 1, 1) := by decide +kernel
theorem dX0_readStatement_93 : decode cX0_readStatement 93 = .ok (.iload 4, 2) := by decide +kernel
theorem dX0_readStatement_95 : decode cX0_readStatement 95 = .ok (.invokevirtual 74, 3) := by decide +kernel
theorem dX0_readStatement_98 : decode cX0_readStatement 98 = .ok (.aload_n 0, 1) := by decide +kernel
theorem dX0_readStatement_99 : decode cX0_readStatement 99 = .ok (.aload_n 1, 1) := by decide +kernel
theorem dX0_readStatement_100 : decode cX0_readStatement 100 = .ok (.invokevirtual 77, 3) := by decide +kernel
theorem dX0_readStatement_103 : decode cX0_readStatement 103 = .ok (.ifCond .ne 5, 3) := by decide +kernel
theorem dX0_readStatement_106 : decode cX0_readStatement 106 = .ok (.iconst 0, 1) := by decide +kernel
theorem dX0_readStatement_107 : decode cX0_readStatement 107 = .ok (.ireturn, 1) := by decide +kernel
theorem dX0_readStatement_108 : decode cX0_readStatement 108 = .ok (.aload_n 0, 1) := by decide +kernel
theorem dX0_readStatement_109 : decode cX0_readStatement 109 = .ok (.invokevirtual 80, 3) := by decide +kernel
theorem dX0_readStatement_112 : decode cX0_readStatement 112 = .ok (.bipush 59, 2) := by decide +kernel
theorem dX0_readStatement_114 : decode cX0_readStatement 114 = .ok (.if_icmp .eq 5, 3) := by decide +kernel
theorem dX0_readStatement_117 : decode cX0_readStatement 117 = .ok (.iconst 0, 1) := by decide +kernel
theorem dX0_readStatement_118 : decode cX0_readStatement 118 = .ok (.ireturn, 1) := by decide +kernel
theorem dX0_readStatement_119 : decode cX0_readStatement 119 = .ok (.aload_n 0, 1) := by decide +kernel
theorem dX0_readStatement_120 : decode cX0_readStatement 120 = .ok (.invokevirtual 40, 3) := by decide +kernel
theorem dX0_readStatement_123 : decode cX0_readStatement 123 = .ok (.iconst 1, 1) := by decide +kernel
theorem dX0_readStatement_124 : decode cX0_readStatement 124 = .ok (.ireturn, 1) := by decide +kernel
set_option maxRecDepth 20000 in
theorem ggX0_readTests_X0_isWord : GoodIn wsX0_readTests wsX0_isWord := goodIn_r _ [5, 6, 7, 8, 9, 10, 11, 12, 13, 14, 15, 16, 17, 18, 19, 20, 21, 22, 23, 4, 24, 25, 26, 27, 28, 29, 30, 31, 32, 33, 34, 35, 36, 37, 38, 39, 40, 41, 42, 43, 44, 45, 46, 47, 48, 49, 50, 51, 52, 53, 54, 55, 56, 57, 58, 59, 60, 61, 62, 63, 98, 99, 100, 101, 102, 103] (by decide +kernel) (by decide +kernel)
set_option maxRecDepth 20000 in
theorem gX0_readTests_X0_isWord : GoodIn wsX0_readTests (wsV RX0 55 RX0 yX0_isWord wsX0_isWord) := goodIn_app (goodIn_of _ (by decide +kernel)) ggX0_readTests_X0_isWord
set_option maxRecDepth 20000 in
theorem ggX0_readTests_X0_advance : GoodIn wsX0_readTests wsX0_advance := goodIn_r _ [67, 7, 8, 25, 6, 21, 22, 23, 4, 24, 26, 68, 69, 70, 98, 99, 100, 101, 102, 103] (by decide +kernel) (by decide +kernel)
set_option maxRecDepth 20000 in
theorem gX0_readTests_X0_advance : GoodIn wsX0_readTests (wsV RX0 40 RX0 yX0_advance wsX0_advance) := goodIn_app (goodIn_of _ (by decide +kernel)) ggX0_readTests_X0_advance
set_option maxRecDepth 20000 in
theorem ggX0_readTests_X0_readTest : GoodIn wsX0_readTests wsX0_readTest := goodIn_r _ [74, 75, 76, 77, 78, 4, 79, 1, 2, 3, 5, 6, 7, 8, 9, 10, 11, 12, 13, 14, 15, 16, 17, 18, 19, 20, 21, 22, 23, 24, 25, 26, 27, 28, 29, 30, 31, 32, 33, 34, 35, 36, 37, 38, 39, 40, 41, 42, 43, 44, 45, 46, 47, 48, 49, 50, 51, 52, 53, 54, 55, 56, 57, 58, 59, 60, 61, 62, 63, 64, 65, 66, 67, 68, 69, 70, 80, 81, 82, 83, 84, 85, 86, 87, 88, 89, 90, 91, 92, 93, 94, 95, 96, 97, 98, 99, 100, 101, 102, 103, 104, 105, 106, 107, 108, 109, 110, 111, 112, 113, 114, 115] (by decide +kernel) (by decide +kernel)
set_option maxRecDepth 20000 in
theorem gX0_readTests_X0_readTest : GoodIn wsX0_readTests (wsV RX0 86 RX0 yX0_readTest wsX0_readTest) := goodIn_app (goodIn_of _ (by decide +kernel)) ggX0_readTests_X0_readTest
theorem dX0_readTests_0 : decode cX0_readTests 0 = .ok (.aload_n 0, 1) := by decide +kernel
theorem dX0_readTests_1 : decode cX0_readTests 1 = .ok (.ldc 84, 2) := by decide +kernel
theorem dX0_readTests_3 : decode cX0_readTests 3 = .ok (.invokevirtual 55, 3) := by decide +kernel
theorem dX0_readTests_6 : decode cX0_readTests 6 = .ok (.istore_n 2, 1) := by decide +kernel
theorem dX0_readTests_7 : decode cX0_readTests 7 = .ok (.iconst 0, 1) := by decide +kernel
theorem dX0_readTests_8 : decode cX0_readTests 8 = .ok (.istore_n 3, 1) := by decide +kernel
theorem dX0_readTests_9 : decode cX0_readTests 9 = .ok (.iload_n 2, 1) := by decide +kernel
theorem dX0_readTests_10 : decode cX0_readTests 10 = .ok (.ifCond .eq 35, 3) := by decide +kernel
theorem dX0_readTests_13 : decode cX0_readTests 13 = .ok (.iload_n 3, 1) := by decide +kernel
theorem dX0_readTests_14 : decode cX0_readTests 14 = .ok (.iconst 3, 1) := by decide +kernel
theorem dX0_readTests_15 : decode cX0_readTests 15 = .ok (.if_icmp .ge 30, 3) := by decide +kernel
theorem dX0_readTests_18 : decode cX0_readTests 18 = .ok (.aload_n 0, 1) := by decide +kernel
theorem dX0_readTests_19 : decode cX0_readTests 19 = .ok (.invokevirtual 40, 3) := by decide +kernel
theorem dX0_readTests_22 : decode cX0_readTests 22 = .ok (.aload_n 0, 1) := by decide +kernel
theorem dX0_readTests_23 : decode cX0_readTests 23 = .ok (.aload_n 1, 1) := by decide +kernel
theorem dX0_readTests_24 : decode cX0_readTests 24 = .ok (.invokevirtual 86, 3) := by decide +kernel
theorem dX0_readTests_27 : decode cX0_readTests 27 = .ok (.ifCond .ne 5, 3) := by decide +kernel
theorem dX0_readTests_30 : decode cX0_readTests 30 = .ok (.iconst 0, 1) := by decide +kernel
theorem dX0_readTests_31 : decode cX0_readTests 31 = .ok (.ireturn, 1) := by decide +kernel
theorem dX0_readTests_32 : decode cX0_readTests 32 = .ok (.aload_n 0, 1) := by decide +kernel
theorem dX0_readTests_33 : decode cX0_readTests 33 = .ok (.ldc 89, 2) := by decide +kernel
theorem dX0_readTests_35 : decode cX0_readTests 35 = .ok (.invokevirtual 55, 3) := by decide +kernel
theorem dX0_readTests_38 : decode cX0_readTests 38 = .ok (.istore_n 2, 1) := by decide +kernel
theorem dX0_readTests_39 : decode cX0_readTests 39 = .ok (.iinc 3 1, 3) := by decide +kernel
theorem dX0_readTests_42 : decode cX0_readTests 42 = .ok (.goto (-33), 3) := by decide +kernel
theorem dX0_readTests_45 : decode cX0_readTests 45 = .ok (.iload_n 2, 1) := by decide +kernel
theorem dX0_readTests_46 : decode cX0_readTests 46 = .ok (.ifCond .eq 7, 3) := by decide +kernel
theorem dX0_readTests_49 : decode cX0_readTests 49 = .ok (.aload_n 0, 1) := by decide +kernel
theorem dX0_readTests_50 : decode cX0_readTests 50 = .ok (.invokevirtual 40, 3) := by decide +kernel
theorem dX0_readTests_53 : decode cX0_readTests 53 = .ok (.iload_n 2, 1) := by decide +kernel
theorem dX0_readTests_54 : decode cX0_readTests 54 = .ok (.ifCond .ne 7, 3) := by decide +kernel
theorem dX0_readTests_57 : decode cX0_readTests 57 = .ok (.iconst 1, 1) := by decide +kernel
theorem dX0_readTests_58 : decode cX0_readTests 58 = .ok (.goto 4, 3) := by decide +kernel
theorem dX0_readTests_61 : decode cX0_readTests 61 = .ok (.iconst 0, 1) := by decide +kernel
theorem dX0_readTests_62 : decode cX0_readTests 62 = .ok (.ireturn, 1) := by decide +kernel
set_option maxRecDepth 20000 in
theorem ggX0_readTest_X0_subjectHere : GoodIn wsX0_readTest wsX0_subjectHere := goodIn_r _ [6, 7, 8, 9, 5, 10, 11, 12, 13, 14, 15, 16, 17, 18, 19, 20, 21, 22, 23, 24, 25, 26, 27, 28, 29, 30, 31, 32, 33, 34, 35, 36, 37, 38, 39, 40, 41, 42, 43, 44, 45, 46, 47, 48, 49, 50, 51, 52, 53, 54, 55, 56, 57, 58, 59, 60, 61, 62, 63, 64, 65, 66, 67, 68, 94, 95, 96, 97, 98, 99] (by decide +kernel) (by decide +kernel)
set_option maxRecDepth 20000 in
theorem gX0_readTest_X0_subjectHere : GoodIn wsX0_readTest (wsV RX0 91 RX0 yX0_subjectHere wsX0_subjectHere) := goodIn_app (goodIn_of _ (by decide +kernel)) ggX0_readTest_X0_subjectHere
set_option maxRecDepth 20000 in
theorem ggX0_readTest_X0_advance : GoodIn wsX0_readTest wsX0_advance := goodIn_r _ [72, 12, 13, 30, 11, 26, 27, 28, 5, 29, 31, 73, 74, 75, 94, 95, 96, 97, 98, 99] (by decide +kernel) (by decide +kernel)
set_option maxRecDepth 20000 in
theorem gX0_readTest_X0_advance : GoodIn wsX0_readTest (wsV RX0 40 RX0 yX0_advance wsX0_advance) := goodIn_app (goodIn_of _ (by decide +kernel)) ggX0_readTest_X0_advance
set_option maxRecDepth 20000 in
theorem ggX0_readTest_X0_signHere : GoodIn wsX0_readTest wsX0_signHere := goodIn_r _ [79, 11, 13, 26, 27, 28, 5, 29, 30, 31, 94, 95, 96, 97, 98, 99] (by decide +kernel) (by decide +kernel)
set_option maxRecDepth 20000 in
theorem gX0_readTest_X0_signHere : GoodIn wsX0_readTest (wsV RX0 80 RX0 yX0_signHere wsX0_signHere) := goodIn_app (goodIn_of _ (by decide +kernel)) ggX0_readTest_X0_signHere
set_option maxRecDepth 20000 in
theorem ggX0_readTest_X0_numberHere : GoodIn wsX0_readTest wsX0_numberHere := goodIn_r _ [83, 11, 12, 13, 26, 27, 28, 5, 29, 30, 31, 94, 95, 96, 97, 98, 99] (by decide +kernel) (by decide +kernel)
set_option maxRecDepth 20000 in
theorem gX0_readTest_X0_numberHere : GoodIn wsX0_readTest (wsV RX0 64 RX0 yX0_numberHere wsX0_numberHere) := goodIn_app (goodIn_of _ (by decide +kernel)) ggX0_readTest_X0_numberHere
set_option maxRecDepth 20000 in
theorem ggX0_readTest_X1_addTest : GoodIn wsX0_readTest wsX1_addTest := goodIn_r _ [88, 89, 90, 91, 92, 93, 100, 101, 102, 103, 104, 105, 106, 107, 108, 109, 110, 111] (by decide +kernel) (by decide +kernel)
set_option maxRecDepth 20000 in
theorem gX0_readTest_X1_addTest : GoodIn wsX0_readTest (wsV RX0 94 RX1 yX1_addTest wsX1_addTest) := goodIn_app (goodIn_of _ (by decide +kernel)) ggX0_readTest_X1_addTest
theorem dX0_readTest_0 : decode cX0_readTest 0 = .ok (.aload_n 0, 1) := by decide +kernel
theorem dX0_readTest_1 : decode cX0_readTest 1 = .ok (.invokevirtual 91, 3) := by decide +kernel
theorem dX0_readTest_4 : decode cX0_readTest 4 = .ok (.istore_n 2, 1) := by decide +kernel
theorem dX0_readTest_5 : decode cX0_readTest 5 = .ok (.iload_n 2, 1) := by decide +kernel
theorem dX0_readTest_6 : decode cX0_readTest 6 = .ok (.iconst (-1), 1) := by decide +kernel
theorem dX0_readTest_7 : decode cX0_readTest 7 = .ok (.if_icmp .ne 5, 3) := by decide +kernel
theorem dX0_readTest_10 : decode cX0_readTest 10 = .ok (.iconst 0, 1) := by decide +kernel
theorem dX0_readTest_11 : decode cX0_readTest 11 = .ok (.ireturn, 1) := by decide +kernel
theorem dX0_readTest_12 : decode cX0_readTest 12 = .ok (.aload_n 0, 1) := by decide +kernel
theorem dX0_readTest_13 : decode cX0_readTest 13 = .ok (.invokevirtual 40, 3) := by decide +kernel
theorem dX0_readTest_16 : decode cX0_readTest 16 = .ok (.aload_n 0, 1) := by decide +kernel
theorem dX0_readTest_17 : decode cX0_readTest 17 = .ok (.invokevirtual 80, 3) := by decide +kernel
theorem dX0_readTest_20 : decode cX0_readTest 20 = .ok (.istore_n 3, 1) := by decide +kernel
theorem dX0_readTest_21 : decode cX0_readTest 21 = .ok (.iload_n 3, 1) := by decide +kernel
theorem dX0_readTest_22 : decode cX0_readTest 22 = .ok (.iconst (-1), 1) := by decide +kernel
theorem dX0_readTest_23 : decode cX0_readTest 23 = .ok (.if_icmp .eq 9, 3) := by decide +kernel
theorem dX0_readTest_26 : decode cX0_readTest 26 = .ok (.iload_n 3, 1) := by decide +kernel
theorem dX0_readTest_27 : decode cX0_readTest 27 = .ok (.bipush 59, 2) := by decide +kernel
theorem dX0_readTest_29 : decode cX0_readTest 29 = .ok (.if_icmp .ne 5, 3) := by decide +kernel
theorem dX0_readTest_32 : decode cX0_readTest 32 = .ok (.iconst 0, 1) := by decide +kernel
theorem dX0_readTest_33 : decode cX0_readTest 33 = .ok (.ireturn, 1) := by decide +kernel
theorem dX0_readTest_34 : decode cX0_readTest 34 = .ok (.aload_n 0, 1) := by decide +kernel
theorem dX0_readTest_35 : decode cX0_readTest 35 = .ok (.invokevirtual 40, 3) := by decide +kernel
theorem dX0_readTest_38 : decode cX0_readTest 38 = .ok (.aload_n 0, 1) := by decide +kernel
theorem dX0_readTest_39 : decode cX0_readTest 39 = .ok (.ldc 63, 2) := by decide +kernel
theorem dX0_readTest_41 : decode cX0_readTest 41 = .ok (.invokevirtual 64, 3) := by decide +kernel
theorem dX0_readTest_44 : decode cX0_readTest 44 = .ok (.istore 4, 2) := by decide +kernel
theorem dX0_readTest_46 : decode cX0_readTest 46 = .ok (.iload 4, 2) := by decide +kernel
theorem dX0_readTest_48 : decode cX0_readTest 48 = .ok (.iconst (-1), 1) := by decide +kernel
theorem dX0_readTest_49 : decode cX0_readTest 49 = .ok (.if_icmp .ne 5, 3) := by decide +kernel
theorem dX0_readTest_52 : decode cX0_readTest 52 = .ok (.iconst 0, 1) := by decide +kernel
theorem dX0_readTest_53 : decode cX0_readTest 53 = .ok (.ireturn, 1) := by decide +kernel
theorem dX0_readTest_54 : decode cX0_readTest 54 = .ok (.aload_n 0, 1) := by decide +kernel
theorem dX0_readTest_55 : decode cX0_readTest 55 = .ok (.invokevirtual 40, 3) := by decide +kernel
theorem dX0_readTest_58 : decode cX0_readTest 58 = .ok (.aload_n 1, 1) := by decide +kernel
theorem dX0_readTest_59 : decode cX0_readTest 59 = .ok (.iload_n 2, 1) := by decide +kernel
theorem dX0_readTest_60 : decode cX0_readTest 60 = .ok (.iload_n 3, 1) := by decide +kernel
theorem dX0_readTest_61 : decode cX0_readTest 61 = .ok (.iload 4, 2) := by decide +kernel
theorem dX0_readTest_63 : decode cX0_readTest 63 = .ok (.invokevirtual 94, 3) := by decide +kernel
theorem dX0_readTest_66 : decode cX0_readTest 66 = .ok (.iconst 1, 1) := by decide +kernel
theorem dX0_readTest_67 : decode cX0_readTest 67 = .ok (.ireturn, 1) := by decide +kernel
set_option maxRecDepth 20000 in
theorem ggX0_subjectHere_X0_isWord : GoodIn wsX0_subjectHere wsX0_isWord := goodIn_r _ [5, 6, 7, 8, 9, 10, 11, 12, 13, 14, 15, 16, 17, 18, 19, 20, 21, 22, 23, 4, 24, 25, 26, 27, 28, 29, 30, 31, 32, 33, 34, 35, 36, 37, 38, 39, 40, 41, 42, 43, 44, 45, 46, 47, 48, 49, 50, 51, 52, 53, 54, 55, 56, 57, 58, 59, 60, 61, 62, 63, 64, 65, 66, 67, 68, 69] (by decide +kernel) (by decide +kernel)
set_option maxRecDepth 20000 in
theorem gX0_subjectHere_X0_isWord : GoodIn wsX0_subjectHere (wsV RX0 55 RX0 yX0_isWord wsX0_isWord) := goodIn_app (goodIn_of _ (by decide +kernel)) ggX0_subjectHere_X0_isWord
theorem dX0_subjectHere_0 : decode cX0_subjectHere 0 = .ok (.aload_n 0, 1) := by decide +kernel
theorem dX0_subjectHere_1 : decode cX0_subjectHere 1 = .ok (.ldc 98, 2) := by decide +kernel
theorem dX0_subjectHere_3 : decode cX0_subjectHere 3 = .ok (.invokevirtual 55, 3) := by decide +kernel
theorem dX0_subjectHere_6 : decode cX0_subjectHere 6 = .ok (.ifCond .eq 5, 3) := by decide +kernel
theorem dX0_subjectHere_9 : decode cX0_subjectHere 9 = .ok (.iconst 0, 1) := by decide +kernel
theorem dX0_subjectHere_10 : decode cX0_subjectHere 10 = .ok (.ireturn, 1) := by decide +kernel
theorem dX0_subjectHere_11 : decode cX0_subjectHere 11 = .ok (.aload_n 0, 1) := by decide +kernel
theorem dX0_subjectHere_12 : decode cX0_subjectHere 12 = .ok (.ldc 100, 2) := by decide +kernel
theorem dX0_subjectHere_14 : decode cX0_subjectHere 14 = .ok (.invokevirtual 55, 3) := by decide +kernel
theorem dX0_subjectHere_17 : decode cX0_subjectHere 17 = .ok (.ifCond .eq 5, 3) := by decide +kernel
theorem dX0_subjectHere_20 : decode cX0_subjectHere 20 = .ok (.iconst 1, 1) := by decide +kernel
theorem dX0_subjectHere_21 : decode cX0_subjectHere 21 = .ok (.ireturn, 1) := by decide +kernel
theorem dX0_subjectHere_22 : decode cX0_subjectHere 22 = .ok (.aload_n 0, 1) := by decide +kernel
theorem dX0_subjectHere_23 : decode cX0_subjectHere 23 = .ok (.ldc 102, 2) := by decide +kernel
theorem dX0_subjectHere_25 : decode cX0_subjectHere 25 = .ok (.invokevirtual 55, 3) := by decide +kernel
theorem dX0_subjectHere_28 : decode cX0_subjectHere 28 = .ok (.ifCond .eq 7, 3) := by decide +kernel
theorem dX0_subjectHere_31 : decode cX0_subjectHere 31 = .ok (.iconst 2, 1) := by decide +kernel
theorem dX0_subjectHere_32 : decode cX0_subjectHere 32 = .ok (.goto 4, 3) := by decide +kernel
theorem dX0_subjectHere_35 : decode cX0_subjectHere 35 = .ok (.iconst (-1), 1) := by decide +kernel
theorem dX0_subjectHere_36 : decode cX0_subjectHere 36 = .ok (.ireturn, 1) := by decide +kernel
set_option maxRecDepth 20000 in
theorem ggX0_signHere_X0_byteAt : GoodIn wsX0_signHere wsX0_byteAt := goodIn_r _ [7, 8, 9, 10, 11, 12, 13, 14, 15] (by decide +kernel) (by decide +kernel)
set_option maxRecDepth 20000 in
theorem gX0_signHere_X0_byteAt : GoodIn wsX0_signHere (wsV RX0 104 RX0 yX0_byteAt wsX0_byteAt) := goodIn_app (goodIn_of _ (by decide +kernel)) ggX0_signHere_X0_byteAt
theorem dX0_signHere_0 : decode cX0_signHere 0 = .ok (.aload_n 0, 1) := by decide +kernel
theorem dX0_signHere_1 : decode cX0_signHere 1 = .ok (.getfield 43, 3) := by decide +kernel
theorem dX0_signHere_4 : decode cX0_signHere 4 = .ok (.iconst 3, 1) := by decide +kernel
theorem dX0_signHere_5 : decode cX0_signHere 5 = .ok (.if_icmp .ne 14, 3) := by decide +kernel
theorem dX0_signHere_8 : decode cX0_signHere 8 = .ok (.aload_n 0, 1) := by decide +kernel
theorem dX0_signHere_9 : decode cX0_signHere 9 = .ok (.aload_n 0, 1) := by decide +kernel
theorem dX0_signHere_10 : decode cX0_signHere 10 = .ok (.getfield 50, 3) := by decide +kernel
theorem dX0_signHere_13 : decode cX0_signHere 13 = .ok (.invokevirtual 104, 3) := by decide +kernel
theorem dX0_signHere_16 : decode cX0_signHere 16 = .ok (.goto 4, 3) := by decide +kernel
theorem dX0_signHere_19 : decode cX0_signHere 19 = .ok (.iconst (-1), 1) := by decide +kernel
theorem dX0_signHere_20 : decode cX0_signHere 20 = .ok (.ireturn, 1) := by decide +kernel
set_option maxRecDepth 20000 in
theorem ggX0_numberHere_X0_byteAt : GoodIn wsX0_numberHere wsX0_byteAt := goodIn_r _ [8, 9, 10, 11, 12, 13, 14, 15, 16] (by decide +kernel) (by decide +kernel)
set_option maxRecDepth 20000 in
theorem gX0_numberHere_X0_byteAt : GoodIn wsX0_numberHere (wsV RX0 104 RX0 yX0_byteAt wsX0_byteAt) := goodIn_app (goodIn_of _ (by decide +kernel)) ggX0_numberHere_X0_byteAt
theorem dX0_numberHere_0 : decode cX0_numberHere 0 = .ok (.aload_n 0, 1) := by decide +kernel
theorem dX0_numberHere_1 : decode cX0_numberHere 1 = .ok (.getfield 43, 3) := by decide +kernel
theorem dX0_numberHere_4 : decode cX0_numberHere 4 = .ok (.iconst 2, 1) := by decide +kernel
theorem dX0_numberHere_5 : decode cX0_numberHere 5 = .ok (.if_icmp .ne 16, 3) := by decide +kernel
theorem dX0_numberHere_8 : decode cX0_numberHere 8 = .ok (.aload_n 0, 1) := by decide +kernel
theorem dX0_numberHere_9 : decode cX0_numberHere 9 = .ok (.getfield 37, 3) := by decide +kernel
theorem dX0_numberHere_12 : decode cX0_numberHere 12 = .ok (.aload_n 0, 1) := by decide +kernel
theorem dX0_numberHere_13 : decode cX0_numberHere 13 = .ok (.getfield 50, 3) := by decide +kernel
theorem dX0_numberHere_16 : decode cX0_numberHere 16 = .ok (.isub, 1) := by decide +kernel
theorem dX0_numberHere_17 : decode cX0_numberHere 17 = .ok (.iconst 5, 1) := by decide +kernel
theorem dX0_numberHere_18 : decode cX0_numberHere 18 = .ok (.if_icmp .le 5, 3) := by decide +kernel
theorem dX0_numberHere_21 : decode cX0_numberHere 21 = .ok (.iconst (-1), 1) := by decide +kernel
theorem dX0_numberHere_22 : decode cX0_numberHere 22 = .ok (.ireturn, 1) := by decide +kernel
theorem dX0_numberHere_23 : decode cX0_numberHere 23 = .ok (.iconst 0, 1) := by decide +kernel
theorem dX0_numberHere_24 : decode cX0_numberHere 24 = .ok (.istore_n 2, 1) := by decide +kernel
theorem dX0_numberHere_25 : decode cX0_numberHere 25 = .ok (.aload_n 0, 1) := by decide +kernel
theorem dX0_numberHere_26 : decode cX0_numberHere 26 = .ok (.getfield 50, 3) := by decide +kernel
theorem dX0_numberHere_29 : decode cX0_numberHere 29 = .ok (.istore_n 3, 1) := by decide +kernel
theorem dX0_numberHere_30 : decode cX0_numberHere 30 = .ok (.iload_n 3, 1) := by decide +kernel
theorem dX0_numberHere_31 : decode cX0_numberHere 31 = .ok (.aload_n 0, 1) := by decide +kernel
theorem dX0_numberHere_32 : decode cX0_numberHere 32 = .ok (.getfield 37, 3) := by decide +kernel
theorem dX0_numberHere_35 : decode cX0_numberHere 35 = .ok (.if_icmp .ge 23, 3) := by decide +kernel
theorem dX0_numberHere_38 : decode cX0_numberHere 38 = .ok (.iload_n 2, 1) := by decide +kernel
theorem dX0_numberHere_39 : decode cX0_numberHere 39 = .ok (.bipush 10, 2) := by decide +kernel
theorem dX0_numberHere_41 : decode cX0_numberHere 41 = .ok (.imul, 1) := by decide +kernel
theorem dX0_numberHere_42 : decode cX0_numberHere 42 = .ok (.aload_n 0, 1) := by decide +kernel
theorem dX0_numberHere_43 : decode cX0_numberHere 43 = .ok (.iload_n 3, 1) := by decide +kernel
theorem dX0_numberHere_44 : decode cX0_numberHere 44 = .ok (.invokevirtual 104, 3) := by decide +kernel
theorem dX0_numberHere_47 : decode cX0_numberHere 47 = .ok (.iadd, 1) := by decide +kernel
theorem dX0_numberHere_48 : decode cX0_numberHere 48 = .ok (.bipush 48, 2) := by decide +kernel
theorem dX0_numberHere_50 : decode cX0_numberHere 50 = .ok (.isub, 1) := by decide +kernel
theorem dX0_numberHere_51 : decode cX0_numberHere 51 = .ok (.istore_n 2, 1) := by decide +kernel
theorem dX0_numberHere_52 : decode cX0_numberHere 52 = .ok (.iinc 3 1, 3) := by decide +kernel
theorem dX0_numberHere_55 : decode cX0_numberHere 55 = .ok (.goto (-25), 3) := by decide +kernel
theorem dX0_numberHere_58 : decode cX0_numberHere 58 = .ok (.iload_n 2, 1) := by decide +kernel
theorem dX0_numberHere_59 : decode cX0_numberHere 59 = .ok (.iload_n 1, 1) := by decide +kernel
theorem dX0_numberHere_60 : decode cX0_numberHere 60 = .ok (.if_icmp .le 7, 3) := by decide +kernel
theorem dX0_numberHere_63 : decode cX0_numberHere 63 = .ok (.iconst (-1), 1) := by decide +kernel
theorem dX0_numberHere_64 : decode cX0_numberHere 64 = .ok (.goto 4, 3) := by decide +kernel
theorem dX0_numberHere_67 : decode cX0_numberHere 67 = .ok (.iload_n 2, 1) := by decide +kernel
theorem dX0_numberHere_68 : decode cX0_numberHere 68 = .ok (.ireturn, 1) := by decide +kernel
set_option maxRecDepth 20000 in
theorem ggX0_isWord_J0_length_8abf5 : GoodIn wsX0_isWord wsJ0_length_8abf5 := goodIn_r _ [8, 9, 10, 11, 12, 7, 13, 14, 15] (by decide +kernel) (by decide +kernel)
set_option maxRecDepth 20000 in
theorem gX0_isWord_J0_length_8abf5 : GoodIn wsX0_isWord (wsV RX0 107 RJ0 yJ0_length_8abf5 wsJ0_length_8abf5) := goodIn_app (goodIn_of _ (by decide +kernel)) ggX0_isWord_J0_length_8abf5
set_option maxRecDepth 20000 in
theorem ggX0_isWord_X0_byteAt : GoodIn wsX0_isWord wsX0_byteAt := goodIn_r _ [20, 21, 22, 60, 61, 62, 63, 64, 65] (by decide +kernel) (by decide +kernel)
set_option maxRecDepth 20000 in
theorem gX0_isWord_X0_byteAt : GoodIn wsX0_isWord (wsV RX0 104 RX0 yX0_byteAt wsX0_byteAt) := goodIn_app (goodIn_of _ (by decide +kernel)) ggX0_isWord_X0_byteAt
set_option maxRecDepth 20000 in
theorem ggX0_isWord_J0_charAt_5068e : GoodIn wsX0_isWord wsJ0_charAt_5068e := goodIn_r _ [26, 9, 27, 28, 29, 7, 30, 14, 15, 31, 32, 33, 34, 35, 36, 37, 38, 39, 40, 41, 42, 43, 44, 45, 46, 47, 48, 49, 50, 51, 52, 53, 54, 55, 56, 57, 58, 59] (by decide +kernel) (by decide +kernel)
set_option maxRecDepth 20000 in
theorem gX0_isWord_J0_charAt_5068e : GoodIn wsX0_isWord (wsV RX0 111 RJ0 yJ0_charAt_5068e wsJ0_charAt_5068e) := goodIn_app (goodIn_of _ (by decide +kernel)) ggX0_isWord_J0_charAt_5068e
theorem dX0_isWord_0 : decode cX0_isWord 0 = .ok (.aload_n 0, 1) := by decide +kernel
theorem dX0_isWord_1 : decode cX0_isWord 1 = .ok (.getfield 43, 3) := by decide +kernel
theorem dX0_isWord_4 : decode cX0_isWord 4 = .ok (.iconst 1, 1) := by decide +kernel
theorem dX0_isWord_5 : decode cX0_isWord 5 = .ok (.if_icmp .ne 19, 3) := by decide +kernel
theorem dX0_isWord_8 : decode cX0_isWord 8 = .ok (.aload_n 0, 1) := by decide +kernel
theorem dX0_isWord_9 : decode cX0_isWord 9 = .ok (.getfield 37, 3) := by decide +kernel
theorem dX0_isWord_12 : decode cX0_isWord 12 = .ok (.aload_n 0, 1) := by decide +kernel
theorem dX0_isWord_13 : decode cX0_isWord 13 = .ok (.getfield 50, 3) := by decide +kernel
theorem dX0_isWord_16 : decode cX0_isWord 16 = .ok (.isub, 1) := by decide +kernel
theorem dX0_isWord_17 : decode cX0_isWord 17 = .ok (.aload_n 1, 1) := by decide +kernel
theorem dX0_isWord_18 : decode cX0_isWord 18 = .ok (.invokevirtual 107, 3) := by decide +kernel
theorem dX0_isWord_21 : decode cX0_isWord 21 = .ok (.if_icmp .eq 5, 3) := by decide +kernel
theorem dX0_isWord_24 : decode cX0_isWord 24 = .ok (.iconst 0, 1) := by decide +kernel
theorem dX0_isWord_25 : decode cX0_isWord 25 = .ok (.ireturn, 1) := by decide +kernel
theorem dX0_isWord_26 : decode cX0_isWord 26 = .ok (.iconst 0, 1) := by decide +kernel
theorem dX0_isWord_27 : decode cX0_isWord 27 = .ok (.istore_n 2, 1) := by decide +kernel
theorem dX0_isWord_28 : decode cX0_isWord 28 = .ok (.iload_n 2, 1) := by decide +kernel
theorem dX0_isWord_29 : decode cX0_isWord 29 = .ok (.aload_n 1, 1) := by decide +kernel
theorem dX0_isWord_30 : decode cX0_isWord 30 = .ok (.invokevirtual 107, 3) := by decide +kernel
theorem dX0_isWord_33 : decode cX0_isWord 33 = .ok (.if_icmp .ge 29, 3) := by decide +kernel
theorem dX0_isWord_36 : decode cX0_isWord 36 = .ok (.aload_n 0, 1) := by decide +kernel
theorem dX0_isWord_37 : decode cX0_isWord 37 = .ok (.aload_n 0, 1) := by decide +kernel
theorem dX0_isWord_38 : decode cX0_isWord 38 = .ok (.getfield 50, 3) := by decide +kernel
theorem dX0_isWord_41 : decode cX0_isWord 41 = .ok (.iload_n 2, 1) := by decide +kernel
theorem dX0_isWord_42 : decode cX0_isWord 42 = .ok (.iadd, 1) := by decide +kernel
theorem dX0_isWord_43 : decode cX0_isWord 43 = .ok (.invokevirtual 104, 3) := by decide +kernel
theorem dX0_isWord_46 : decode cX0_isWord 46 = .ok (.aload_n 1, 1) := by decide +kernel
theorem dX0_isWord_47 : decode cX0_isWord 47 = .ok (.iload_n 2, 1) := by decide +kernel
theorem dX0_isWord_48 : decode cX0_isWord 48 = .ok (.invokevirtual 111, 3) := by decide +kernel
theorem dX0_isWord_51 : decode cX0_isWord 51 = .ok (.if_icmp .eq 5, 3) := by decide +kernel
theorem dX0_isWord_54 : decode cX0_isWord 54 = .ok (.iconst 0, 1) := by decide +kernel
theorem dX0_isWord_55 : decode cX0_isWord 55 = .ok (.ireturn, 1) := by decide +kernel
theorem dX0_isWord_56 : decode cX0_isWord 56 = .ok (.iinc 2 1, 3) := by decide +kernel
theorem dX0_isWord_59 : decode cX0_isWord 59 = .ok (.goto (-31), 3) := by decide +kernel
theorem dX0_isWord_62 : decode cX0_isWord 62 = .ok (.iconst 1, 1) := by decide +kernel
theorem dX0_isWord_63 : decode cX0_isWord 63 = .ok (.ireturn, 1) := by decide +kernel
set_option maxRecDepth 20000 in
theorem ggX0_advance_X0_byteAt : GoodIn wsX0_advance wsX0_byteAt := goodIn_r _ [9, 3, 10, 14, 15, 16, 17, 18, 19] (by decide +kernel) (by decide +kernel)
set_option maxRecDepth 20000 in
theorem gX0_advance_X0_byteAt : GoodIn wsX0_advance (wsV RX0 104 RX0 yX0_byteAt wsX0_byteAt) := goodIn_app (goodIn_of _ (by decide +kernel)) ggX0_advance_X0_byteAt
set_option maxRecDepth 20000 in
theorem ggX0_advance_X0_kindOf : GoodIn wsX0_advance wsX0_kindOf := goodIn_r _ [13] (by decide +kernel) (by decide +kernel)
set_option maxRecDepth 20000 in
theorem gX0_advance_X0_kindOf : GoodIn wsX0_advance (va_wsS RX0 115 yX0_kindOf wsX0_kindOf) := goodIn_app (goodIn_of _ (by decide +kernel)) ggX0_advance_X0_kindOf
theorem dX0_advance_0 : decode cX0_advance 0 = .ok (.aload_n 0, 1) := by decide +kernel
theorem dX0_advance_1 : decode cX0_advance 1 = .ok (.aload_n 0, 1) := by decide +kernel
theorem dX0_advance_2 : decode cX0_advance 2 = .ok (.getfield 37, 3) := by decide +kernel
theorem dX0_advance_5 : decode cX0_advance 5 = .ok (.putfield 50, 3) := by decide +kernel
theorem dX0_advance_8 : decode cX0_advance 8 = .ok (.aload_n 0, 1) := by decide +kernel
theorem dX0_advance_9 : decode cX0_advance 9 = .ok (.getfield 50, 3) := by decide +kernel
theorem dX0_advance_12 : decode cX0_advance 12 = .ok (.aload_n 0, 1) := by decide +kernel
theorem dX0_advance_13 : decode cX0_advance 13 = .ok (.getfield 34, 3) := by decide +kernel
theorem dX0_advance_16 : decode cX0_advance 16 = .ok (.if_icmp .ge 31, 3) := by decide +kernel
theorem dX0_advance_19 : decode cX0_advance 19 = .ok (.aload_n 0, 1) := by decide +kernel
theorem dX0_advance_20 : decode cX0_advance 20 = .ok (.aload_n 0, 1) := by decide +kernel
theorem dX0_advance_21 : decode cX0_advance 21 = .ok (.getfield 50, 3) := by decide +kernel
theorem dX0_advance_24 : decode cX0_advance 24 = .ok (.invokevirtual 104, 3) := by decide +kernel
theorem dX0_advance_27 : decode cX0_advance 27 = .ok (.invokestatic 115, 3) := by decide +kernel
theorem dX0_advance_30 : decode cX0_advance 30 = .ok (.iconst 4, 1) := by decide +kernel
theorem dX0_advance_31 : decode cX0_advance 31 = .ok (.if_icmp .ne 16, 3) := by decide +kernel
theorem dX0_advance_34 : decode cX0_advance 34 = .ok (.aload_n 0, 1) := by decide +kernel
theorem dX0_advance_35 : decode cX0_advance 35 = .ok (.dup, 1) := by decide +kernel
theorem dX0_advance_36 : decode cX0_advance 36 = .ok (.getfield 50, 3) := by decide +kernel
theorem dX0_advance_39 : decode cX0_advance 39 = .ok (.iconst 1, 1) := by decide +kernel
theorem dX0_advance_40 : decode cX0_advance 40 = .ok (.iadd, 1) := by decide +kernel
theorem dX0_advance_41 : decode cX0_advance 41 = .ok (.putfield 50, 3) := by decide +kernel
theorem dX0_advance_44 : decode cX0_advance 44 = .ok (.goto (-36), 3) := by decide +kernel
theorem dX0_advance_47 : decode cX0_advance 47 = .ok (.aload_n 0, 1) := by decide +kernel
theorem dX0_advance_48 : decode cX0_advance 48 = .ok (.aload_n 0, 1) := by decide +kernel
theorem dX0_advance_49 : decode cX0_advance 49 = .ok (.aload_n 0, 1) := by decide +kernel
theorem dX0_advance_50 : decode cX0_advance 50 = .ok (.getfield 50, 3) := by decide +kernel
theorem dX0_advance_53 : decode cX0_advance 53 = .ok (.invokevirtual 104, 3) := by decide +kernel
theorem dX0_advance_56 : decode cX0_advance 56 = .ok (.invokestatic 115, 3) := by decide +kernel
theorem dX0_advance_59 : decode cX0_advance 59 = .ok (.putfield 43, 3) := by decide +kernel
theorem dX0_advance_62 : decode cX0_advance 62 = .ok (.aload_n 0, 1) := by decide +kernel
theorem dX0_advance_63 : decode cX0_advance 63 = .ok (.aload_n 0, 1) := by decide +kernel
theorem dX0_advance_64 : decode cX0_advance 64 = .ok (.getfield 50, 3) := by decide +kernel
theorem dX0_advance_67 : decode cX0_advance 67 = .ok (.aload_n 0, 1) := by decide +kernel
theorem dX0_advance_68 : decode cX0_advance 68 = .ok (.getfield 34, 3) := by decide +kernel
theorem dX0_advance_71 : decode cX0_advance 71 = .ok (.if_icmp .ge 12, 3) := by decide +kernel
theorem dX0_advance_74 : decode cX0_advance 74 = .ok (.aload_n 0, 1) := by decide +kernel
theorem dX0_advance_75 : decode cX0_advance 75 = .ok (.getfield 50, 3) := by decide +kernel
theorem dX0_advance_78 : decode cX0_advance 78 = .ok (.iconst 1, 1) := by decide +kernel
theorem dX0_advance_79 : decode cX0_advance 79 = .ok (.iadd, 1) := by decide +kernel
theorem dX0_advance_80 : decode cX0_advance 80 = .ok (.goto 7, 3) := by decide +kernel
theorem dX0_advance_83 : decode cX0_advance 83 = .ok (.aload_n 0, 1) := by decide +kernel
theorem dX0_advance_84 : decode cX0_advance 84 = .ok (.getfield 50, 3) := by decide +kernel
theorem dX0_advance_87 : decode cX0_advance 87 = .ok (.putfield 37, 3) := by decide +kernel
theorem dX0_advance_90 : decode cX0_advance 90 = .ok (.aload_n 0, 1) := by decide +kernel
theorem dX0_advance_91 : decode cX0_advance 91 = .ok (.getfield 43, 3) := by decide +kernel
theorem dX0_advance_94 : decode cX0_advance 94 = .ok (.iconst 1, 1) := by decide +kernel
theorem dX0_advance_95 : decode cX0_advance 95 = .ok (.if_icmp .eq 11, 3) := by decide +kernel
theorem dX0_advance_98 : decode cX0_advance 98 = .ok (.aload_n 0, 1) := by decide +kernel
theorem dX0_advance_99 : decode cX0_advance 99 = .ok (.getfield 43, 3) := by decide +kernel
theorem dX0_advance_102 : decode cX0_advance 102 = .ok (.iconst 2, 1) := by decide +kernel
theorem dX0_advance_103 : decode cX0_advance 103 = .ok (.if_icmp .ne 7, 3) := by decide +kernel
theorem dX0_advance_106 : decode cX0_advance 106 = .ok (.iconst 1, 1) := by decide +kernel
theorem dX0_advance_107 : decode cX0_advance 107 = .ok (.goto 4, 3) := by decide +kernel
theorem dX0_advance_110 : decode cX0_advance 110 = .ok (.iconst 0, 1) := by decide +kernel
theorem dX0_advance_111 : decode cX0_advance 111 = .ok (.istore_n 1, 1) := by decide +kernel
theorem dX0_advance_112 : decode cX0_advance 112 = .ok (.iload_n 1, 1) := by decide +kernel
theorem dX0_advance_113 : decode cX0_advance 113 = .ok (.ifCond .eq 45, 3) := by decide +kernel
theorem dX0_advance_116 : decode cX0_advance 116 = .ok (.aload_n 0, 1) := by decide +kernel
theorem dX0_advance_117 : decode cX0_advance 117 = .ok (.getfield 37, 3) := by decide +kernel
theorem dX0_advance_120 : decode cX0_advance 120 = .ok (.aload_n 0, 1) := by decide +kernel
theorem dX0_advance_121 : decode cX0_advance 121 = .ok (.getfield 34, 3) := by decide +kernel
theorem dX0_advance_124 : decode cX0_advance 124 = .ok (.if_icmp .ge 34, 3) := by decide +kernel
theorem dX0_advance_127 : decode cX0_advance 127 = .ok (.aload_n 0, 1) := by decide +kernel
theorem dX0_advance_128 : decode cX0_advance 128 = .ok (.aload_n 0, 1) := by decide +kernel
theorem dX0_advance_129 : decode cX0_advance 129 = .ok (.getfield 37, 3) := by decide +kernel
theorem dX0_advance_132 : decode cX0_advance 132 = .ok (.invokevirtual 104, 3) := by decide +kernel
theorem dX0_advance_135 : decode cX0_advance 135 = .ok (.invokestatic 115, 3) := by decide +kernel
theorem dX0_advance_138 : decode cX0_advance 138 = .ok (.aload_n 0, 1) := by decide +kernel
theorem dX0_advance_139 : decode cX0_advance 139 = .ok (.getfield 43, 3) := by decide +kernel
theorem dX0_advance_142 : decode cX0_advance 142 = .ok (.if_icmp .ne 16, 3) := by decide +kernel
theorem dX0_advance_145 : decode cX0_advance 145 = .ok (.aload_n 0, 1) := by decide +kernel
theorem dX0_advance_146 : decode cX0_advance 146 = .ok (.dup, 1) := by decide +kernel
theorem dX0_advance_147 : decode cX0_advance 147 = .ok (.getfield 37, 3) := by decide +kernel
theorem dX0_advance_150 : decode cX0_advance 150 = .ok (.iconst 1, 1) := by decide +kernel
theorem dX0_advance_151 : decode cX0_advance 151 = .ok (.iadd, 1) := by decide +kernel
theorem dX0_advance_152 : decode cX0_advance 152 = .ok (.putfield 37, 3) := by decide +kernel
theorem dX0_advance_155 : decode cX0_advance 155 = .ok (.goto (-43), 3) := by decide +kernel
theorem dX0_advance_158 : decode cX0_advance 158 = .ok (.return_, 1) := by decide +kernel
theorem dX0_kindOf_0 : decode cX0_kindOf 0 = .ok (.iload_n 0, 1) := by decide +kernel
theorem dX0_kindOf_1 : decode cX0_kindOf 1 = .ok (.bipush 97, 2) := by decide +kernel
theorem dX0_kindOf_3 : decode cX0_kindOf 3 = .ok (.if_icmp .lt 11, 3) := by decide +kernel
theorem dX0_kindOf_6 : decode cX0_kindOf 6 = .ok (.iload_n 0, 1) := by decide +kernel
theorem dX0_kindOf_7 : decode cX0_kindOf 7 = .ok (.bipush 122, 2) := by decide +kernel
theorem dX0_kindOf_9 : decode cX0_kindOf 9 = .ok (.if_icmp .gt 5, 3) := by decide +kernel
theorem dX0_kindOf_12 : decode cX0_kindOf 12 = .ok (.iconst 1, 1) := by decide +kernel
theorem dX0_kindOf_13 : decode cX0_kindOf 13 = .ok (.ireturn, 1) := by decide +kernel
theorem dX0_kindOf_14 : decode cX0_kindOf 14 = .ok (.iload_n 0, 1) := by decide +kernel
theorem dX0_kindOf_15 : decode cX0_kindOf 15 = .ok (.bipush 48, 2) := by decide +kernel
theorem dX0_kindOf_17 : decode cX0_kindOf 17 = .ok (.if_icmp .lt 11, 3) := by decide +kernel
theorem dX0_kindOf_20 : decode cX0_kindOf 20 = .ok (.iload_n 0, 1) := by decide +kernel
theorem dX0_kindOf_21 : decode cX0_kindOf 21 = .ok (.bipush 57, 2) := by decide +kernel
theorem dX0_kindOf_23 : decode cX0_kindOf 23 = .ok (.if_icmp .gt 5, 3) := by decide +kernel
theorem dX0_kindOf_26 : decode cX0_kindOf 26 = .ok (.iconst 2, 1) := by decide +kernel
theorem dX0_kindOf_27 : decode cX0_kindOf 27 = .ok (.ireturn, 1) := by decide +kernel
theorem dX0_kindOf_28 : decode cX0_kindOf 28 = .ok (.iload_n 0, 1) := by decide +kernel
theorem dX0_kindOf_29 : decode cX0_kindOf 29 = .ok (.lookupswitch 73 #[(-1, 67), (10, 71), (32, 71), (59, 69), (60, 69), (61, 69), (62, 69)], 67) := by decide +kernel
theorem dX0_kindOf_96 : decode cX0_kindOf 96 = .ok (.iconst 0, 1) := by decide +kernel
theorem dX0_kindOf_97 : decode cX0_kindOf 97 = .ok (.ireturn, 1) := by decide +kernel
theorem dX0_kindOf_98 : decode cX0_kindOf 98 = .ok (.iconst 3, 1) := by decide +kernel
theorem dX0_kindOf_99 : decode cX0_kindOf 99 = .ok (.ireturn, 1) := by decide +kernel
theorem dX0_kindOf_100 : decode cX0_kindOf 100 = .ok (.iconst 4, 1) := by decide +kernel
theorem dX0_kindOf_101 : decode cX0_kindOf 101 = .ok (.ireturn, 1) := by decide +kernel
theorem dX0_kindOf_102 : decode cX0_kindOf 102 = .ok (.iconst 5, 1) := by decide +kernel
theorem dX0_kindOf_103 : decode cX0_kindOf 103 = .ok (.ireturn, 1) := by decide +kernel
theorem dX0_byteAt_0 : decode cX0_byteAt 0 = .ok (.iload_n 1, 1) := by decide +kernel
theorem dX0_byteAt_1 : decode cX0_byteAt 1 = .ok (.ifCond .lt 27, 3) := by decide +kernel
theorem dX0_byteAt_4 : decode cX0_byteAt 4 = .ok (.iload_n 1, 1) := by decide +kernel
theorem dX0_byteAt_5 : decode cX0_byteAt 5 = .ok (.aload_n 0, 1) := by decide +kernel
theorem dX0_byteAt_6 : decode cX0_byteAt 6 = .ok (.getfield 34, 3) := by decide +kernel
theorem dX0_byteAt_9 : decode cX0_byteAt 9 = .ok (.if_icmp .ge 19, 3) := by decide +kernel
theorem dX0_byteAt_12 : decode cX0_byteAt 12 = .ok (.iload_n 1, 1) := by decide +kernel
theorem dX0_byteAt_13 : decode cX0_byteAt 13 = .ok (.sipush 600, 3) := by decide +kernel
theorem dX0_byteAt_16 : decode cX0_byteAt 16 = .ok (.if_icmp .ge 12, 3) := by decide +kernel
theorem dX0_byteAt_19 : decode cX0_byteAt 19 = .ok (.aload_n 0, 1) := by decide +kernel
theorem dX0_byteAt_20 : decode cX0_byteAt 20 = .ok (.getfield 9, 3) := by decide +kernel
theorem dX0_byteAt_23 : decode cX0_byteAt 23 = .ok (.iload_n 1, 1) := by decide +kernel
theorem dX0_byteAt_24 : decode cX0_byteAt 24 = .ok (.iaload, 1) := by decide +kernel
theorem dX0_byteAt_25 : decode cX0_byteAt 25 = .ok (.goto 4, 3) := by decide +kernel
theorem dX0_byteAt_28 : decode cX0_byteAt 28 = .ok (.iconst (-1), 1) := by decide +kernel
theorem dX0_byteAt_29 : decode cX0_byteAt 29 = .ok (.ireturn, 1) := by decide +kernel
theorem dX1_init_0 : decode cX1_init 0 = .ok (.aload_n 0, 1) := by decide +kernel
theorem dX1_init_1 : decode cX1_init 1 = .ok (.invokespecial 3, 3) := by decide +kernel
theorem dX1_init_4 : decode cX1_init 4 = .ok (.aload_n 0, 1) := by decide +kernel
theorem dX1_init_5 : decode cX1_init 5 = .ok (.bipush 12, 2) := by decide +kernel
theorem dX1_init_7 : decode cX1_init 7 = .ok (.newarray .int, 2) := by decide +kernel
theorem dX1_init_9 : decode cX1_init 9 = .ok (.putfield 9, 3) := by decide +kernel
theorem dX1_init_12 : decode cX1_init 12 = .ok (.aload_n 0, 1) := by decide +kernel
theorem dX1_init_13 : decode cX1_init 13 = .ok (.bipush 12, 2) := by decide +kernel
theorem dX1_init_15 : decode cX1_init 15 = .ok (.newarray .int, 2) := by decide +kernel
theorem dX1_init_17 : decode cX1_init 17 = .ok (.putfield 15, 3) := by decide +kernel
theorem dX1_init_20 : decode cX1_init 20 = .ok (.aload_n 0, 1) := by decide +kernel
theorem dX1_init_21 : decode cX1_init 21 = .ok (.bipush 36, 2) := by decide +kernel
theorem dX1_init_23 : decode cX1_init 23 = .ok (.newarray .int, 2) := by decide +kernel
theorem dX1_init_25 : decode cX1_init 25 = .ok (.putfield 18, 3) := by decide +kernel
theorem dX1_init_28 : decode cX1_init 28 = .ok (.aload_n 0, 1) := by decide +kernel
theorem dX1_init_29 : decode cX1_init 29 = .ok (.bipush 36, 2) := by decide +kernel
theorem dX1_init_31 : decode cX1_init 31 = .ok (.newarray .int, 2) := by decide +kernel
theorem dX1_init_33 : decode cX1_init 33 = .ok (.putfield 21, 3) := by decide +kernel
theorem dX1_init_36 : decode cX1_init 36 = .ok (.aload_n 0, 1) := by decide +kernel
theorem dX1_init_37 : decode cX1_init 37 = .ok (.bipush 36, 2) := by decide +kernel
theorem dX1_init_39 : decode cX1_init 39 = .ok (.newarray .int, 2) := by decide +kernel
theorem dX1_init_41 : decode cX1_init 41 = .ok (.putfield 24, 3) := by decide +kernel
theorem dX1_init_44 : decode cX1_init 44 = .ok (.aload_n 0, 1) := by decide +kernel
theorem dX1_init_45 : decode cX1_init 45 = .ok (.iconst 1, 1) := by decide +kernel
theorem dX1_init_46 : decode cX1_init 46 = .ok (.putfield 27, 3) := by decide +kernel
theorem dX1_init_49 : decode cX1_init 49 = .ok (.return_, 1) := by decide +kernel
theorem dX1_clearContract_0 : decode cX1_clearContract 0 = .ok (.aload_n 0, 1) := by decide +kernel
theorem dX1_clearContract_1 : decode cX1_clearContract 1 = .ok (.iconst 0, 1) := by decide +kernel
theorem dX1_clearContract_2 : decode cX1_clearContract 2 = .ok (.putfield 31, 3) := by decide +kernel
theorem dX1_clearContract_5 : decode cX1_clearContract 5 = .ok (.aload_n 0, 1) := by decide +kernel
theorem dX1_clearContract_6 : decode cX1_clearContract 6 = .ok (.iconst 1, 1) := by decide +kernel
theorem dX1_clearContract_7 : decode cX1_clearContract 7 = .ok (.putfield 27, 3) := by decide +kernel
theorem dX1_clearContract_10 : decode cX1_clearContract 10 = .ok (.aload_n 0, 1) := by decide +kernel
theorem dX1_clearContract_11 : decode cX1_clearContract 11 = .ok (.iconst 0, 1) := by decide +kernel
theorem dX1_clearContract_12 : decode cX1_clearContract 12 = .ok (.putfield 34, 3) := by decide +kernel
theorem dX1_clearContract_15 : decode cX1_clearContract 15 = .ok (.return_, 1) := by decide +kernel
theorem dX1_setWeeks_0 : decode cX1_setWeeks 0 = .ok (.aload_n 0, 1) := by decide +kernel
theorem dX1_setWeeks_1 : decode cX1_setWeeks 1 = .ok (.iload_n 1, 1) := by decide +kernel
theorem dX1_setWeeks_2 : decode cX1_setWeeks 2 = .ok (.putfield 27, 3) := by decide +kernel
theorem dX1_setWeeks_5 : decode cX1_setWeeks 5 = .ok (.return_, 1) := by decide +kernel
theorem dX1_setRent_0 : decode cX1_setRent 0 = .ok (.aload_n 0, 1) := by decide +kernel
theorem dX1_setRent_1 : decode cX1_setRent 1 = .ok (.iload_n 1, 1) := by decide +kernel
theorem dX1_setRent_2 : decode cX1_setRent 2 = .ok (.putfield 34, 3) := by decide +kernel
theorem dX1_setRent_5 : decode cX1_setRent 5 = .ok (.return_, 1) := by decide +kernel
theorem dX1_addPart_0 : decode cX1_addPart 0 = .ok (.aload_n 0, 1) := by decide +kernel
theorem dX1_addPart_1 : decode cX1_addPart 1 = .ok (.getfield 31, 3) := by decide +kernel
theorem dX1_addPart_4 : decode cX1_addPart 4 = .ok (.ifCond .lt 42, 3) := by decide +kernel
theorem dX1_addPart_7 : decode cX1_addPart 7 = .ok (.aload_n 0, 1) := by decide +kernel
theorem dX1_addPart_8 : decode cX1_addPart 8 = .ok (.getfield 31, 3) := by decide +kernel
theorem dX1_addPart_11 : decode cX1_addPart 11 = .ok (.bipush 12, 2) := by decide +kernel
theorem dX1_addPart_13 : decode cX1_addPart 13 = .ok (.if_icmp .ge 33, 3) := by decide +kernel
theorem dX1_addPart_16 : decode cX1_addPart 16 = .ok (.aload_n 0, 1) := by decide +kernel
theorem dX1_addPart_17 : decode cX1_addPart 17 = .ok (.getfield 9, 3) := by decide +kernel
theorem dX1_addPart_20 : decode cX1_addPart 20 = .ok (.aload_n 0, 1) := by decide +kernel
theorem dX1_addPart_21 : decode cX1_addPart 21 = .ok (.getfield 31, 3) := by decide +kernel
theorem dX1_addPart_24 : decode cX1_addPart 24 = .ok (.iload_n 1, 1) := by decide +kernel
theorem dX1_addPart_25 : decode cX1_addPart 25 = .ok (.iastore, 1) := by decide +kernel
theorem dX1_addPart_26 : decode cX1_addPart 26 = .ok (.aload_n 0, 1) := by decide +kernel
theorem dX1_addPart_27 : decode cX1_addPart 27 = .ok (.getfield 15, 3) := by decide +kernel
theorem dX1_addPart_30 : decode cX1_addPart 30 = .ok (.aload_n 0, 1) := by decide +kernel
theorem dX1_addPart_31 : decode cX1_addPart 31 = .ok (.getfield 31, 3) := by decide +kernel
theorem dX1_addPart_34 : decode cX1_addPart 34 = .ok (.iconst 0, 1) := by decide +kernel
theorem dX1_addPart_35 : decode cX1_addPart 35 = .ok (.iastore, 1) := by decide +kernel
theorem dX1_addPart_36 : decode cX1_addPart 36 = .ok (.aload_n 0, 1) := by decide +kernel
theorem dX1_addPart_37 : decode cX1_addPart 37 = .ok (.dup, 1) := by decide +kernel
theorem dX1_addPart_38 : decode cX1_addPart 38 = .ok (.getfield 31, 3) := by decide +kernel
theorem dX1_addPart_41 : decode cX1_addPart 41 = .ok (.iconst 1, 1) := by decide +kernel
theorem dX1_addPart_42 : decode cX1_addPart 42 = .ok (.iadd, 1) := by decide +kernel
theorem dX1_addPart_43 : decode cX1_addPart 43 = .ok (.putfield 31, 3) := by decide +kernel
theorem dX1_addPart_46 : decode cX1_addPart 46 = .ok (.return_, 1) := by decide +kernel
theorem dX1_addTest_0 : decode cX1_addTest 0 = .ok (.aload_n 0, 1) := by decide +kernel
theorem dX1_addTest_1 : decode cX1_addTest 1 = .ok (.getfield 31, 3) := by decide +kernel
theorem dX1_addTest_4 : decode cX1_addTest 4 = .ok (.iconst 1, 1) := by decide +kernel
theorem dX1_addTest_5 : decode cX1_addTest 5 = .ok (.isub, 1) := by decide +kernel
theorem dX1_addTest_6 : decode cX1_addTest 6 = .ok (.istore 4, 2) := by decide +kernel
theorem dX1_addTest_8 : decode cX1_addTest 8 = .ok (.iload 4, 2) := by decide +kernel
theorem dX1_addTest_10 : decode cX1_addTest 10 = .ok (.ifCond .lt 10, 3) := by decide +kernel
theorem dX1_addTest_13 : decode cX1_addTest 13 = .ok (.iload 4, 2) := by decide +kernel
theorem dX1_addTest_15 : decode cX1_addTest 15 = .ok (.bipush 12, 2) := by decide +kernel
theorem dX1_addTest_17 : decode cX1_addTest 17 = .ok (.if_icmp .lt 4, 3) := by decide +kernel
theorem dX1_addTest_20 : decode cX1_addTest 20 = .ok (.return_, 1) := by decide +kernel
theorem dX1_addTest_21 : decode cX1_addTest 21 = .ok (.aload_n 0, 1) := by decide +kernel
theorem dX1_addTest_22 : decode cX1_addTest 22 = .ok (.getfield 15, 3) := by decide +kernel
theorem dX1_addTest_25 : decode cX1_addTest 25 = .ok (.iload 4, 2) := by decide +kernel
theorem dX1_addTest_27 : decode cX1_addTest 27 = .ok (.iaload, 1) := by decide +kernel
theorem dX1_addTest_28 : decode cX1_addTest 28 = .ok (.istore 5, 2) := by decide +kernel
theorem dX1_addTest_30 : decode cX1_addTest 30 = .ok (.iload 5, 2) := by decide +kernel
theorem dX1_addTest_32 : decode cX1_addTest 32 = .ok (.ifCond .lt 9, 3) := by decide +kernel
theorem dX1_addTest_35 : decode cX1_addTest 35 = .ok (.iload 5, 2) := by decide +kernel
theorem dX1_addTest_37 : decode cX1_addTest 37 = .ok (.iconst 3, 1) := by decide +kernel
theorem dX1_addTest_38 : decode cX1_addTest 38 = .ok (.if_icmp .lt 4, 3) := by decide +kernel
theorem dX1_addTest_41 : decode cX1_addTest 41 = .ok (.return_, 1) := by decide +kernel
theorem dX1_addTest_42 : decode cX1_addTest 42 = .ok (.aload_n 0, 1) := by decide +kernel
theorem dX1_addTest_43 : decode cX1_addTest 43 = .ok (.getfield 18, 3) := by decide +kernel
theorem dX1_addTest_46 : decode cX1_addTest 46 = .ok (.iload 4, 2) := by decide +kernel
theorem dX1_addTest_48 : decode cX1_addTest 48 = .ok (.iconst 3, 1) := by decide +kernel
theorem dX1_addTest_49 : decode cX1_addTest 49 = .ok (.imul, 1) := by decide +kernel
theorem dX1_addTest_50 : decode cX1_addTest 50 = .ok (.iload 5, 2) := by decide +kernel
theorem dX1_addTest_52 : decode cX1_addTest 52 = .ok (.iadd, 1) := by decide +kernel
theorem dX1_addTest_53 : decode cX1_addTest 53 = .ok (.iload_n 1, 1) := by decide +kernel
theorem dX1_addTest_54 : decode cX1_addTest 54 = .ok (.iastore, 1) := by decide +kernel
theorem dX1_addTest_55 : decode cX1_addTest 55 = .ok (.aload_n 0, 1) := by decide +kernel
theorem dX1_addTest_56 : decode cX1_addTest 56 = .ok (.getfield 21, 3) := by decide +kernel
theorem dX1_addTest_59 : decode cX1_addTest 59 = .ok (.iload 4, 2) := by decide +kernel
theorem dX1_addTest_61 : decode cX1_addTest 61 = .ok (.iconst 3, 1) := by decide +kernel
theorem dX1_addTest_62 : decode cX1_addTest 62 = .ok (.imul, 1) := by decide +kernel
theorem dX1_addTest_63 : decode cX1_addTest 63 = .ok (.iload 5, 2) := by decide +kernel
theorem dX1_addTest_65 : decode cX1_addTest 65 = .ok (.iadd, 1) := by decide +kernel
theorem dX1_addTest_66 : decode cX1_addTest 66 = .ok (.iload_n 2, 1) := by decide +kernel
theorem dX1_addTest_67 : decode cX1_addTest 67 = .ok (.iastore, 1) := by decide +kernel
theorem dX1_addTest_68 : decode cX1_addTest 68 = .ok (.aload_n 0, 1) := by decide +kernel
theorem dX1_addTest_69 : decode cX1_addTest 69 = .ok (.getfield 24, 3) := by decide +kernel
theorem dX1_addTest_72 : decode cX1_addTest 72 = .ok (.iload 4, 2) := by decide +kernel
theorem dX1_addTest_74 : decode cX1_addTest 74 = .ok (.iconst 3, 1) := by decide +kernel
theorem dX1_addTest_75 : decode cX1_addTest 75 = .ok (.imul, 1) := by decide +kernel
theorem dX1_addTest_76 : decode cX1_addTest 76 = .ok (.iload 5, 2) := by decide +kernel
theorem dX1_addTest_78 : decode cX1_addTest 78 = .ok (.iadd, 1) := by decide +kernel
theorem dX1_addTest_79 : decode cX1_addTest 79 = .ok (.iload_n 3, 1) := by decide +kernel
theorem dX1_addTest_80 : decode cX1_addTest 80 = .ok (.iastore, 1) := by decide +kernel
theorem dX1_addTest_81 : decode cX1_addTest 81 = .ok (.aload_n 0, 1) := by decide +kernel
theorem dX1_addTest_82 : decode cX1_addTest 82 = .ok (.getfield 15, 3) := by decide +kernel
theorem dX1_addTest_85 : decode cX1_addTest 85 = .ok (.iload 4, 2) := by decide +kernel
theorem dX1_addTest_87 : decode cX1_addTest 87 = .ok (.dup2, 1) := by decide +kernel
theorem dX1_addTest_88 : decode cX1_addTest 88 = .ok (.iaload, 1) := by decide +kernel
theorem dX1_addTest_89 : decode cX1_addTest 89 = .ok (.iconst 1, 1) := by decide +kernel
theorem dX1_addTest_90 : decode cX1_addTest 90 = .ok (.iadd, 1) := by decide +kernel
theorem dX1_addTest_91 : decode cX1_addTest 91 = .ok (.iastore, 1) := by decide +kernel
theorem dX1_addTest_92 : decode cX1_addTest 92 = .ok (.return_, 1) := by decide +kernel
set_option maxRecDepth 20000 in
theorem ggX1_passWeek_X1_shareFor : GoodIn wsX1_passWeek wsX1_shareFor := goodIn_r _ [15, 16, 17, 18, 19, 20, 14, 21, 22, 23, 24, 25, 26, 27, 28, 29, 30, 31, 32, 33, 1, 34, 35, 36, 37, 38, 39, 40, 41, 42, 43, 44, 45] (by decide +kernel) (by decide +kernel)
set_option maxRecDepth 20000 in
theorem gX1_passWeek_X1_shareFor : GoodIn wsX1_passWeek (wsV RX1 46 RX1 yX1_shareFor wsX1_shareFor) := goodIn_app (goodIn_of _ (by decide +kernel)) ggX1_passWeek_X1_shareFor
theorem dX1_passWeek_0 : decode cX1_passWeek 0 = .ok (.aload_n 0, 1) := by decide +kernel
theorem dX1_passWeek_1 : decode cX1_passWeek 1 = .ok (.getfield 37, 3) := by decide +kernel
theorem dX1_passWeek_4 : decode cX1_passWeek 4 = .ok (.aload_n 0, 1) := by decide +kernel
theorem dX1_passWeek_5 : decode cX1_passWeek 5 = .ok (.getfield 27, 3) := by decide +kernel
theorem dX1_passWeek_8 : decode cX1_passWeek 8 = .ok (.if_icmp .lt 5, 3) := by decide +kernel
theorem dX1_passWeek_11 : decode cX1_passWeek 11 = .ok (.iconst (-1), 1) := by decide +kernel
theorem dX1_passWeek_12 : decode cX1_passWeek 12 = .ok (.ireturn, 1) := by decide +kernel
theorem dX1_passWeek_13 : decode cX1_passWeek 13 = .ok (.aload_n 0, 1) := by decide +kernel
theorem dX1_passWeek_14 : decode cX1_passWeek 14 = .ok (.dup, 1) := by decide +kernel
theorem dX1_passWeek_15 : decode cX1_passWeek 15 = .ok (.getfield 37, 3) := by decide +kernel
theorem dX1_passWeek_18 : decode cX1_passWeek 18 = .ok (.iconst 1, 1) := by decide +kernel
theorem dX1_passWeek_19 : decode cX1_passWeek 19 = .ok (.iadd, 1) := by decide +kernel
theorem dX1_passWeek_20 : decode cX1_passWeek 20 = .ok (.putfield 37, 3) := by decide +kernel
theorem dX1_passWeek_23 : decode cX1_passWeek 23 = .ok (.iload_n 2, 1) := by decide +kernel
theorem dX1_passWeek_24 : decode cX1_passWeek 24 = .ok (.aload_n 0, 1) := by decide +kernel
theorem dX1_passWeek_25 : decode cX1_passWeek 25 = .ok (.getfield 34, 3) := by decide +kernel
theorem dX1_passWeek_28 : decode cX1_passWeek 28 = .ok (.iload_n 2, 1) := by decide +kernel
theorem dX1_passWeek_29 : decode cX1_passWeek 29 = .ok (.invokestatic 40, 3) := by decide +kernel
theorem dX1_passWeek_32 : decode cX1_passWeek 32 = .ok (.isub, 1) := by decide +kernel
theorem dX1_passWeek_33 : decode cX1_passWeek 33 = .ok (.istore_n 3, 1) := by decide +kernel
theorem dX1_passWeek_34 : decode cX1_passWeek 34 = .ok (.iload_n 3, 1) := by decide +kernel
theorem dX1_passWeek_35 : decode cX1_passWeek 35 = .ok (.aload_n 0, 1) := by decide +kernel
theorem dX1_passWeek_36 : decode cX1_passWeek 36 = .ok (.iload_n 1, 1) := by decide +kernel
theorem dX1_passWeek_37 : decode cX1_passWeek 37 = .ok (.iload_n 2, 1) := by decide +kernel
theorem dX1_passWeek_38 : decode cX1_passWeek 38 = .ok (.invokevirtual 46, 3) := by decide +kernel
theorem dX1_passWeek_41 : decode cX1_passWeek 41 = .ok (.imul, 1) := by decide +kernel
theorem dX1_passWeek_42 : decode cX1_passWeek 42 = .ok (.bipush 100, 2) := by decide +kernel
theorem dX1_passWeek_44 : decode cX1_passWeek 44 = .ok (.idiv, 1) := by decide +kernel
theorem dX1_passWeek_45 : decode cX1_passWeek 45 = .ok (.istore 4, 2) := by decide +kernel
theorem dX1_passWeek_47 : decode cX1_passWeek 47 = .ok (.aload_n 0, 1) := by decide +kernel
theorem dX1_passWeek_48 : decode cX1_passWeek 48 = .ok (.dup, 1) := by decide +kernel
theorem dX1_passWeek_49 : decode cX1_passWeek 49 = .ok (.getfield 49, 3) := by decide +kernel
theorem dX1_passWeek_52 : decode cX1_passWeek 52 = .ok (.iload 4, 2) := by decide +kernel
theorem dX1_passWeek_54 : decode cX1_passWeek 54 = .ok (.iadd, 1) := by decide +kernel
theorem dX1_passWeek_55 : decode cX1_passWeek 55 = .ok (.putfield 49, 3) := by decide +kernel
theorem dX1_passWeek_58 : decode cX1_passWeek 58 = .ok (.aload_n 0, 1) := by decide +kernel
theorem dX1_passWeek_59 : decode cX1_passWeek 59 = .ok (.dup, 1) := by decide +kernel
theorem dX1_passWeek_60 : decode cX1_passWeek 60 = .ok (.getfield 52, 3) := by decide +kernel
theorem dX1_passWeek_63 : decode cX1_passWeek 63 = .ok (.iload_n 2, 1) := by decide +kernel
theorem dX1_passWeek_64 : decode cX1_passWeek 64 = .ok (.iload 4, 2) := by decide +kernel
theorem dX1_passWeek_66 : decode cX1_passWeek 66 = .ok (.isub, 1) := by decide +kernel
theorem dX1_passWeek_67 : decode cX1_passWeek 67 = .ok (.iadd, 1) := by decide +kernel
theorem dX1_passWeek_68 : decode cX1_passWeek 68 = .ok (.putfield 52, 3) := by decide +kernel
theorem dX1_passWeek_71 : decode cX1_passWeek 71 = .ok (.aload_n 0, 1) := by decide +kernel
theorem dX1_passWeek_72 : decode cX1_passWeek 72 = .ok (.dup, 1) := by decide +kernel
theorem dX1_passWeek_73 : decode cX1_passWeek 73 = .ok (.getfield 55, 3) := by decide +kernel
theorem dX1_passWeek_76 : decode cX1_passWeek 76 = .ok (.iload_n 1, 1) := by decide +kernel
theorem dX1_passWeek_77 : decode cX1_passWeek 77 = .ok (.iadd, 1) := by decide +kernel
theorem dX1_passWeek_78 : decode cX1_passWeek 78 = .ok (.putfield 55, 3) := by decide +kernel
theorem dX1_passWeek_81 : decode cX1_passWeek 81 = .ok (.iload 4, 2) := by decide +kernel
theorem dX1_passWeek_83 : decode cX1_passWeek 83 = .ok (.ireturn, 1) := by decide +kernel
set_option maxRecDepth 20000 in
theorem ggX1_shareFor_X1_allHold : GoodIn wsX1_shareFor wsX1_allHold := goodIn_r _ [7, 8, 9, 10, 11, 6, 12, 13, 14, 15, 16, 17, 18, 19, 20, 21, 22, 23, 24, 25, 26, 27, 28, 29, 30, 31, 32] (by decide +kernel) (by decide +kernel)
set_option maxRecDepth 20000 in
theorem gX1_shareFor_X1_allHold : GoodIn wsX1_shareFor (wsV RX1 58 RX1 yX1_allHold wsX1_allHold) := goodIn_app (goodIn_of _ (by decide +kernel)) ggX1_shareFor_X1_allHold
theorem dX1_shareFor_0 : decode cX1_shareFor 0 = .ok (.iconst 0, 1) := by decide +kernel
theorem dX1_shareFor_1 : decode cX1_shareFor 1 = .ok (.istore_n 3, 1) := by decide +kernel
theorem dX1_shareFor_2 : decode cX1_shareFor 2 = .ok (.iload_n 3, 1) := by decide +kernel
theorem dX1_shareFor_3 : decode cX1_shareFor 3 = .ok (.aload_n 0, 1) := by decide +kernel
theorem dX1_shareFor_4 : decode cX1_shareFor 4 = .ok (.getfield 31, 3) := by decide +kernel
theorem dX1_shareFor_7 : decode cX1_shareFor 7 = .ok (.if_icmp .ge 32, 3) := by decide +kernel
theorem dX1_shareFor_10 : decode cX1_shareFor 10 = .ok (.iload_n 3, 1) := by decide +kernel
theorem dX1_shareFor_11 : decode cX1_shareFor 11 = .ok (.bipush 12, 2) := by decide +kernel
theorem dX1_shareFor_13 : decode cX1_shareFor 13 = .ok (.if_icmp .ge 26, 3) := by decide +kernel
theorem dX1_shareFor_16 : decode cX1_shareFor 16 = .ok (.aload_n 0, 1) := by decide +kernel
theorem dX1_shareFor_17 : decode cX1_shareFor 17 = .ok (.iload_n 3, 1) := by decide +kernel
theorem dX1_shareFor_18 : decode cX1_shareFor 18 = .ok (.iload_n 1, 1) := by decide +kernel
theorem dX1_shareFor_19 : decode cX1_shareFor 19 = .ok (.iload_n 2, 1) := by decide +kernel
theorem dX1_shareFor_20 : decode cX1_shareFor 20 = .ok (.invokevirtual 58, 3) := by decide +kernel
theorem dX1_shareFor_23 : decode cX1_shareFor 23 = .ok (.ifCond .eq 10, 3) := by decide +kernel
theorem dX1_shareFor_26 : decode cX1_shareFor 26 = .ok (.aload_n 0, 1) := by decide +kernel
theorem dX1_shareFor_27 : decode cX1_shareFor 27 = .ok (.getfield 9, 3) := by decide +kernel
theorem dX1_shareFor_30 : decode cX1_shareFor 30 = .ok (.iload_n 3, 1) := by decide +kernel
theorem dX1_shareFor_31 : decode cX1_shareFor 31 = .ok (.iaload, 1) := by decide +kernel
theorem dX1_shareFor_32 : decode cX1_shareFor 32 = .ok (.ireturn, 1) := by decide +kernel
theorem dX1_shareFor_33 : decode cX1_shareFor 33 = .ok (.iinc 3 1, 3) := by decide +kernel
theorem dX1_shareFor_36 : decode cX1_shareFor 36 = .ok (.goto (-34), 3) := by decide +kernel
theorem dX1_shareFor_39 : decode cX1_shareFor 39 = .ok (.bipush 50, 2) := by decide +kernel
theorem dX1_shareFor_41 : decode cX1_shareFor 41 = .ok (.ireturn, 1) := by decide +kernel
set_option maxRecDepth 20000 in
theorem ggX1_allHold_X1_holds : GoodIn wsX1_allHold wsX1_holds := goodIn_r _ [6, 7, 8, 9, 10, 11, 12, 5, 13, 14, 15, 16, 17, 18, 19, 20, 21, 22, 23, 24, 25, 26] (by decide +kernel) (by decide +kernel)
set_option maxRecDepth 20000 in
theorem gX1_allHold_X1_holds : GoodIn wsX1_allHold (wsV RX1 62 RX1 yX1_holds wsX1_holds) := goodIn_app (goodIn_of _ (by decide +kernel)) ggX1_allHold_X1_holds
theorem dX1_allHold_0 : decode cX1_allHold 0 = .ok (.iload_n 1, 1) := by decide +kernel
theorem dX1_allHold_1 : decode cX1_allHold 1 = .ok (.ifCond .lt 9, 3) := by decide +kernel
theorem dX1_allHold_4 : decode cX1_allHold 4 = .ok (.iload_n 1, 1) := by decide +kernel
theorem dX1_allHold_5 : decode cX1_allHold 5 = .ok (.bipush 12, 2) := by decide +kernel
theorem dX1_allHold_7 : decode cX1_allHold 7 = .ok (.if_icmp .lt 5, 3) := by decide +kernel
theorem dX1_allHold_10 : decode cX1_allHold 10 = .ok (.iconst 0, 1) := by decide +kernel
theorem dX1_allHold_11 : decode cX1_allHold 11 = .ok (.ireturn, 1) := by decide +kernel
theorem dX1_allHold_12 : decode cX1_allHold 12 = .ok (.iconst 0, 1) := by decide +kernel
theorem dX1_allHold_13 : decode cX1_allHold 13 = .ok (.istore 4, 2) := by decide +kernel
theorem dX1_allHold_15 : decode cX1_allHold 15 = .ok (.iload 4, 2) := by decide +kernel
theorem dX1_allHold_17 : decode cX1_allHold 17 = .ok (.aload_n 0, 1) := by decide +kernel
theorem dX1_allHold_18 : decode cX1_allHold 18 = .ok (.getfield 15, 3) := by decide +kernel
theorem dX1_allHold_21 : decode cX1_allHold 21 = .ok (.iload_n 1, 1) := by decide +kernel
theorem dX1_allHold_22 : decode cX1_allHold 22 = .ok (.iaload, 1) := by decide +kernel
theorem dX1_allHold_23 : decode cX1_allHold 23 = .ok (.if_icmp .ge 32, 3) := by decide +kernel
theorem dX1_allHold_26 : decode cX1_allHold 26 = .ok (.iload 4, 2) := by decide +kernel
theorem dX1_allHold_28 : decode cX1_allHold 28 = .ok (.iconst 3, 1) := by decide +kernel
theorem dX1_allHold_29 : decode cX1_allHold 29 = .ok (.if_icmp .ge 26, 3) := by decide +kernel
theorem dX1_allHold_32 : decode cX1_allHold 32 = .ok (.aload_n 0, 1) := by decide +kernel
theorem dX1_allHold_33 : decode cX1_allHold 33 = .ok (.iload_n 1, 1) := by decide +kernel
theorem dX1_allHold_34 : decode cX1_allHold 34 = .ok (.iconst 3, 1) := by decide +kernel
theorem dX1_allHold_35 : decode cX1_allHold 35 = .ok (.imul, 1) := by decide +kernel
theorem dX1_allHold_36 : decode cX1_allHold 36 = .ok (.iload 4, 2) := by decide +kernel
theorem dX1_allHold_38 : decode cX1_allHold 38 = .ok (.iadd, 1) := by decide +kernel
theorem dX1_allHold_39 : decode cX1_allHold 39 = .ok (.iload_n 2, 1) := by decide +kernel
theorem dX1_allHold_40 : decode cX1_allHold 40 = .ok (.iload_n 3, 1) := by decide +kernel
theorem dX1_allHold_41 : decode cX1_allHold 41 = .ok (.invokevirtual 62, 3) := by decide +kernel
theorem dX1_allHold_44 : decode cX1_allHold 44 = .ok (.ifCond .ne 5, 3) := by decide +kernel
theorem dX1_allHold_47 : decode cX1_allHold 47 = .ok (.iconst 0, 1) := by decide +kernel
theorem dX1_allHold_48 : decode cX1_allHold 48 = .ok (.ireturn, 1) := by decide +kernel
theorem dX1_allHold_49 : decode cX1_allHold 49 = .ok (.iinc 4 1, 3) := by decide +kernel
theorem dX1_allHold_52 : decode cX1_allHold 52 = .ok (.goto (-37), 3) := by decide +kernel
theorem dX1_allHold_55 : decode cX1_allHold 55 = .ok (.iconst 1, 1) := by decide +kernel
theorem dX1_allHold_56 : decode cX1_allHold 56 = .ok (.ireturn, 1) := by decide +kernel
set_option maxRecDepth 20000 in
theorem ggX1_holds_X1_valueOf : GoodIn wsX1_holds wsX1_valueOf := goodIn_r _ [8, 9, 10, 11, 12, 13, 14, 15, 16, 17, 18, 19, 20, 21] (by decide +kernel) (by decide +kernel)
set_option maxRecDepth 20000 in
theorem gX1_holds_X1_valueOf : GoodIn wsX1_holds (wsV RX1 65 RX1 yX1_valueOf wsX1_valueOf) := goodIn_app (goodIn_of _ (by decide +kernel)) ggX1_holds_X1_valueOf
theorem dX1_holds_0 : decode cX1_holds 0 = .ok (.iload_n 1, 1) := by decide +kernel
theorem dX1_holds_1 : decode cX1_holds 1 = .ok (.ifCond .lt 9, 3) := by decide +kernel
theorem dX1_holds_4 : decode cX1_holds 4 = .ok (.iload_n 1, 1) := by decide +kernel
theorem dX1_holds_5 : decode cX1_holds 5 = .ok (.bipush 36, 2) := by decide +kernel
theorem dX1_holds_7 : decode cX1_holds 7 = .ok (.if_icmp .lt 5, 3) := by decide +kernel
theorem dX1_holds_10 : decode cX1_holds 10 = .ok (.iconst 0, 1) := by decide +kernel
theorem dX1_holds_11 : decode cX1_holds 11 = .ok (.ireturn, 1) := by decide +kernel
theorem dX1_holds_12 : decode cX1_holds 12 = .ok (.aload_n 0, 1) := by decide +kernel
theorem dX1_holds_13 : decode cX1_holds 13 = .ok (.aload_n 0, 1) := by decide +kernel
theorem dX1_holds_14 : decode cX1_holds 14 = .ok (.getfield 18, 3) := by decide +kernel
theorem dX1_holds_17 : decode cX1_holds 17 = .ok (.iload_n 1, 1) := by decide +kernel
theorem dX1_holds_18 : decode cX1_holds 18 = .ok (.iaload, 1) := by decide +kernel
theorem dX1_holds_19 : decode cX1_holds 19 = .ok (.iload_n 2, 1) := by decide +kernel
theorem dX1_holds_20 : decode cX1_holds 20 = .ok (.iload_n 3, 1) := by decide +kernel
theorem dX1_holds_21 : decode cX1_holds 21 = .ok (.invokevirtual 65, 3) := by decide +kernel
theorem dX1_holds_24 : decode cX1_holds 24 = .ok (.istore 4, 2) := by decide +kernel
theorem dX1_holds_26 : decode cX1_holds 26 = .ok (.aload_n 0, 1) := by decide +kernel
theorem dX1_holds_27 : decode cX1_holds 27 = .ok (.getfield 21, 3) := by decide +kernel
theorem dX1_holds_30 : decode cX1_holds 30 = .ok (.iload_n 1, 1) := by decide +kernel
theorem dX1_holds_31 : decode cX1_holds 31 = .ok (.iaload, 1) := by decide +kernel
theorem dX1_holds_32 : decode cX1_holds 32 = .ok (.lookupswitch 62 #[(60, 28), (62, 45)], 28) := by decide +kernel
theorem dX1_holds_60 : decode cX1_holds 60 = .ok (.iload 4, 2) := by decide +kernel
theorem dX1_holds_62 : decode cX1_holds 62 = .ok (.aload_n 0, 1) := by decide +kernel
theorem dX1_holds_63 : decode cX1_holds 63 = .ok (.getfield 24, 3) := by decide +kernel
theorem dX1_holds_66 : decode cX1_holds 66 = .ok (.iload_n 1, 1) := by decide +kernel
theorem dX1_holds_67 : decode cX1_holds 67 = .ok (.iaload, 1) := by decide +kernel
theorem dX1_holds_68 : decode cX1_holds 68 = .ok (.if_icmp .ge 7, 3) := by decide +kernel
theorem dX1_holds_71 : decode cX1_holds 71 = .ok (.iconst 1, 1) := by decide +kernel
theorem dX1_holds_72 : decode cX1_holds 72 = .ok (.goto 4, 3) := by decide +kernel
theorem dX1_holds_75 : decode cX1_holds 75 = .ok (.iconst 0, 1) := by decide +kernel
theorem dX1_holds_76 : decode cX1_holds 76 = .ok (.ireturn, 1) := by decide +kernel
theorem dX1_holds_77 : decode cX1_holds 77 = .ok (.iload 4, 2) := by decide +kernel
theorem dX1_holds_79 : decode cX1_holds 79 = .ok (.aload_n 0, 1) := by decide +kernel
theorem dX1_holds_80 : decode cX1_holds 80 = .ok (.getfield 24, 3) := by decide +kernel
theorem dX1_holds_83 : decode cX1_holds 83 = .ok (.iload_n 1, 1) := by decide +kernel
theorem dX1_holds_84 : decode cX1_holds 84 = .ok (.iaload, 1) := by decide +kernel
theorem dX1_holds_85 : decode cX1_holds 85 = .ok (.if_icmp .le 7, 3) := by decide +kernel
theorem dX1_holds_88 : decode cX1_holds 88 = .ok (.iconst 1, 1) := by decide +kernel
theorem dX1_holds_89 : decode cX1_holds 89 = .ok (.goto 4, 3) := by decide +kernel
theorem dX1_holds_92 : decode cX1_holds 92 = .ok (.iconst 0, 1) := by decide +kernel
theorem dX1_holds_93 : decode cX1_holds 93 = .ok (.ireturn, 1) := by decide +kernel
theorem dX1_holds_94 : decode cX1_holds 94 = .ok (.iload 4, 2) := by decide +kernel
theorem dX1_holds_96 : decode cX1_holds 96 = .ok (.aload_n 0, 1) := by decide +kernel
theorem dX1_holds_97 : decode cX1_holds 97 = .ok (.getfield 24, 3) := by decide +kernel
theorem dX1_holds_100 : decode cX1_holds 100 = .ok (.iload_n 1, 1) := by decide +kernel
theorem dX1_holds_101 : decode cX1_holds 101 = .ok (.iaload, 1) := by decide +kernel
theorem dX1_holds_102 : decode cX1_holds 102 = .ok (.if_icmp .ne 7, 3) := by decide +kernel
theorem dX1_holds_105 : decode cX1_holds 105 = .ok (.iconst 1, 1) := by decide +kernel
theorem dX1_holds_106 : decode cX1_holds 106 = .ok (.goto 4, 3) := by decide +kernel
theorem dX1_holds_109 : decode cX1_holds 109 = .ok (.iconst 0, 1) := by decide +kernel
theorem dX1_holds_110 : decode cX1_holds 110 = .ok (.ireturn, 1) := by decide +kernel
theorem dX1_valueOf_0 : decode cX1_valueOf 0 = .ok (.iload_n 1, 1) := by decide +kernel
theorem dX1_valueOf_1 : decode cX1_valueOf 1 = .ok (.lookupswitch 34 #[(0, 27), (1, 32)], 27) := by decide +kernel
theorem dX1_valueOf_28 : decode cX1_valueOf 28 = .ok (.aload_n 0, 1) := by decide +kernel
theorem dX1_valueOf_29 : decode cX1_valueOf 29 = .ok (.getfield 37, 3) := by decide +kernel
theorem dX1_valueOf_32 : decode cX1_valueOf 32 = .ok (.ireturn, 1) := by decide +kernel
theorem dX1_valueOf_33 : decode cX1_valueOf 33 = .ok (.iload_n 2, 1) := by decide +kernel
theorem dX1_valueOf_34 : decode cX1_valueOf 34 = .ok (.ireturn, 1) := by decide +kernel
theorem dX1_valueOf_35 : decode cX1_valueOf 35 = .ok (.iload_n 3, 1) := by decide +kernel
